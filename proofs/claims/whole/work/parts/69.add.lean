set_option maxHeartbeats 4000000 in
set_option maxRecDepth 100000 in
theorem c_addR2 (l : Launch) (dC : Nat → ClassId) (dI : Nat → Nat → Nat) (h0 t0 mi ed v cap n nv : Nat) (mc : Int32) (cO : ClassId) (g : Nat → Option Nat) (fs : List Value) (pl : va_W) (G : LSt → Prop) (hn : n < cap) (hc : cap ≤ 600) (hev : pl[nv]? = some (v, .inr (1, fs))) (hG : G (mc, n + 1, some (ed, cO, cap, va_up g n (some v)))) : la_v l y_T_add2 w_T_add2 { frames := 5, cells := 0, slots := 0, locals := 119 } (dC, dI) ([(h0, .inr (3, [.int mc, .ref ed, .int (nI n)])), (ed, .inl (cO, cap, .inr (.inr (.inr (.inr g)))))] ++ pl) [(cO, (.object "java/lang/Object"))] [.ref h0, .ref v, .ref ed, .int (nI n)] mi t0 0 0 G h0 pl := by
  intro sz
  refine Met.ofW (cc := b_T_add2) (maxL := 4) (ret := none) (by decide) rfl ?_
  intro p e s m args below meth c s₁ B hml hv
  obtain ⟨hargs, hsz, hP, hK, hD0, hxk, hxz⟩ := hv
  have hx := B.exec
  have hb := B.bytes
  have hr := B.returns
  have hts : ∀ w ∈ lw_w, w.before args s = true := fun w h => atoms_spec (ws := w_T_add2) B.pre w (List.mem_cons_of_mem _ h)
  have hown : s.vm.findClass R_T = some m.cls := findClass_of_methodNamed B.named
  have hlocks := B.notSynchronized
  subst hsz
  have hD := hD0.self (sz := s.heap.size)
  generalize hR : (headSpec w_T_add2 { frames := 5, cells := 0, slots := 0, locals := 119 }).room = R
  generalize hAe : va_A ([(h0, .inr (3, [.int mc, .ref ed, .int (nI n)])), (ed, .inl (cO, cap, .inr (.inr (.inr (.inr g)))))] ++ pl) s.heap.size = A at hD hxz ⊢
  have hA : ∀ q : Nat, s.heap.size ≤ q → A q := fun q h => by rw [← hAe]; exact Or.inr h
  have hS : va_S A s.heap s.heap [] := va_S.rf
  have hl := lv_entry [.ref h0, .ref v, .ref ed, .int (nI n)] (n := 4) (Nat.le_of_ble_eq_true rfl)
  have hent : entryFrame m args 4 = F0 m 0 (lg_sl [.ref h0, .ref v, .ref ed, .int (nI n)] ++ List.replicate (4 - (lg_sl [.ref h0, .ref v, .ref ed, .int (nI n)]).length) Slot.unset).toArray [] := by rw [hargs]; exact lg_entry_eq m [.ref h0, .ref v, .ref ed, .int (nI n)] 4
  rw [hent]
  clear hent
  generalize (lg_sl [.ref h0, .ref v, .ref ed, .int (nI n)] ++ List.replicate (4 - (lg_sl [.ref h0, .ref v, .ref ed, .int (nI n)]).length) Slot.unset).toArray = ls at hl ⊢
  have hl : lv_has ls 4 [(0, .ref h0), (1, .ref v), (2, .ref ed), (3, .int (nI n))] := hl
  have hP : va_P (dC, dI) cls9 ([(h0, .inr (3, [.int mc, .ref ed, .int (nI n)])), (ed, .inl (cO, cap, .inr (.inr (.inr (.inr g)))))] ++ pl) s.heap := hP
  have hD : va_D A ([(h0, .inr (3, [.int mc, .ref ed, .int (nI n)])), (ed, .inl (cO, cap, .inr (.inr (.inr (.inr g)))))] ++ pl) := hD
  generalize hQ : MQ below (va_Qv (fun L : LSt => G L) (fun L t => va_P (dC, dI) cls9 (lwd t0 h0 L ++ pl) t.heap ∧ va_K (dC, dI) cls9 (lty L) t ∧ va_D A (lwd t0 h0 L ++ pl)) A) args s 0 0 A = Q
  replace hQ := hQ.symm
  refine lv_iload_n hx hb d_T_add2_0 rfl (lv_at hl 3 rfl) ?_
  refine lv_aload_n hx hb d_T_add2_1 rfl (lv_at hl 2 rfl) ?_
  refine va_alen (v := Int32.ofNat cap) hx hb hK hP 1 0 rfl rfl rfl d_T_add2_2 ?_
  refine lv_icmp_ne (tgt := 11) hx hb d_T_add2_3 rfl (fun h3 => ?_) (fun h3 => ?_)
  · refine lv_aload_n hx hb d_T_add2_11 rfl (lv_at hl 2 rfl) ?_
    refine lv_iload_n hx hb d_T_add2_12 rfl (lv_at hl 3 rfl) ?_
    refine lv_aload_n hx hb d_T_add2_13 rfl (lv_at hl 1 rfl) ?_
    refine va_astqO (r := (R_A, F_A, 6)) hx hb hK hP hD hS 1 0 _ 1 rfl rfl hxk.2.2.2 (pl_at (X := [(h0, .inr (3, [.int mc, .ref ed, .int (nI n)])), (ed, .inl (cO, cap, .inr (.inr (.inr (.inr g)))))]) hev) rfl (by exact vp_in_nI hn (by omega)) d_T_add2_14 (fun H locs hP hD hS => ?_)
    rw [nI_clamp (show n < 2 ^ 31 by omega)] at hP hD
    have hP : va_P (dC, dI) cls9 ([(h0, .inr (3, [.int mc, .ref ed, .int (nI n)])), (ed, .inl (cO, cap, .inr (.inr (.inr (.inr (va_up g n (some v)))))))] ++ pl) H := hP
    have hD : va_D A ([(h0, .inr (3, [.int mc, .ref ed, .int (nI n)])), (ed, .inl (cO, cap, .inr (.inr (.inr (.inr (va_up g n (some v)))))))] ++ pl) := hD
    refine lv_aload_n hx hb d_T_add2_15 rfl (lv_at hl 0 rfl) ?_
    refine lv_iload_n hx hb d_T_add2_16 rfl (lv_at hl 3 rfl) ?_
    refine lv_iconst (v := 1) hx hb d_T_add2_17 (by decide) ?_
    refine lv_iadd hx hb d_T_add2_18 ?_
    rw [nI_1]
    refine va_put (D := (dC, dI)) (ci := 3) (v := .int (nI (n + 1))) (ty := .int) (C := R_T) (T := F_T) (N := 3) hx hb hts in_T tf_T tok_T n_T hown hK hP hD hS 0 rfl rfl 2 (by decide) (hts _ tw_44) (fun _ h9 => h9) rfl (by decide +kernel) (by rfl) (by rfl) (Nat.le_of_ble_eq_true rfl) d_T_add2_19 (fun H locs hP hD hS => ?_)
    have hP : va_P (dC, dI) cls9 ([(h0, .inr (3, [.int mc, .ref ed, .int (nI (n + 1))])), (ed, .inl (cO, cap, .inr (.inr (.inr (.inr (va_up g n (some v)))))))] ++ pl) H := hP
    have hD : va_D A ([(h0, .inr (3, [.int mc, .ref ed, .int (nI (n + 1))])), (ed, .inl (cO, cap, .inr (.inr (.inr (.inr (va_up g n (some v)))))))] ++ pl) := hD
    refine W.widen (k := 0) (n := 0) (by first | exact Nat.le_refl _ | omega | (show 0 ≤ 0; omega)) (by first | exact Nat.le_refl _ | omega | (show 0 ≤ 0; omega)) ?_
    rw [hQ]
    exact W.vret hx hb hr (fun t ht hW => ⟨⟨(mc, n + 1, some (ed, cO, cap, va_up g n (some v))), rfl, hG, by rw [ht]; exact hP.part [0, 1] rfl, va_K.moved hW.alike (hK.sub [0] rfl), hD.part [0, 1] (by decide) rfl⟩, hS.F ht⟩) hS.2.2 d_T_add2_22
  · exact absurd h3 (by exact fun z => absurd ((nI_eq (show n < 2 ^ 31 by omega) (show cap < 2 ^ 31 by omega)).mp z) (by omega))
set_option maxHeartbeats 4000000 in
set_option maxRecDepth 100000 in
theorem c_addG2 (l : Launch) (dC : Nat → ClassId) (dI : Nat → Nat → Nat) (h0 t0 mi ed v cap nv : Nat) (mc : Int32) (cO : ClassId) (g : Nat → Option Nat) (fs : List Value) (pl : va_W) (G : LSt → Prop) (h2 : 2 ≤ cap) (hc : cap ≤ 600) (hall : ∀ i : Nat, i < cap → ∀ y : Nat, g i = some y → ∃ (n : Nat) (fs : List Value), pl[n]? = some (y, .inr (1, fs))) (hev : pl[nv]? = some (v, .inr (1, fs))) (hG : ∀ (u : ClassId) (a : Nat), G (mc, cap + 1, some (a, u, (cap + cap / 2), va_up (va_cpy g (fun _ => none) 0 0 cap) cap (some v)))) : la_v l y_T_add2 w_T_add2 { frames := 5, cells := 1, slots := (cap + cap / 2), locals := 119 } (dC, dI) ([(h0, .inr (3, [.int mc, .ref ed, .int (nI cap)])), (ed, .inl (cO, cap, .inr (.inr (.inr (.inr g)))))] ++ pl) [(cO, (.object "java/lang/Object"))] [.ref h0, .ref v, .ref ed, .int (nI cap)] mi t0 1 (cap + cap / 2) G h0 pl := by
  intro sz
  refine Met.ofW (cc := b_T_add2) (maxL := 4) (ret := none) (by decide) rfl ?_
  intro p e s m args below meth c s₁ B hml hv
  obtain ⟨hargs, hsz, hP, hK, hD0, hxk, hxz⟩ := hv
  have hx := B.exec
  have hb := B.bytes
  have hr := B.returns
  have hts : ∀ w ∈ lw_w, w.before args s = true := fun w h => atoms_spec (ws := w_T_add2) B.pre w (List.mem_cons_of_mem _ h)
  have hown : s.vm.findClass R_T = some m.cls := findClass_of_methodNamed B.named
  have hlocks := B.notSynchronized
  subst hsz
  have hD := hD0.self (sz := s.heap.size)
  generalize hR : (headSpec w_T_add2 { frames := 5, cells := 1, slots := (cap + cap / 2), locals := 119 }).room = R
  generalize hAe : va_A ([(h0, .inr (3, [.int mc, .ref ed, .int (nI cap)])), (ed, .inl (cO, cap, .inr (.inr (.inr (.inr g)))))] ++ pl) s.heap.size = A at hD hxz ⊢
  have hA : ∀ q : Nat, s.heap.size ≤ q → A q := fun q h => by rw [← hAe]; exact Or.inr h
  have hS : va_S A s.heap s.heap [] := va_S.rf
  have hl := lv_entry [.ref h0, .ref v, .ref ed, .int (nI cap)] (n := 4) (Nat.le_of_ble_eq_true rfl)
  have hent : entryFrame m args 4 = F0 m 0 (lg_sl [.ref h0, .ref v, .ref ed, .int (nI cap)] ++ List.replicate (4 - (lg_sl [.ref h0, .ref v, .ref ed, .int (nI cap)]).length) Slot.unset).toArray [] := by rw [hargs]; exact lg_entry_eq m [.ref h0, .ref v, .ref ed, .int (nI cap)] 4
  rw [hent]
  clear hent
  generalize (lg_sl [.ref h0, .ref v, .ref ed, .int (nI cap)] ++ List.replicate (4 - (lg_sl [.ref h0, .ref v, .ref ed, .int (nI cap)]).length) Slot.unset).toArray = ls at hl ⊢
  have hl : lv_has ls 4 [(0, .ref h0), (1, .ref v), (2, .ref ed), (3, .int (nI cap))] := hl
  have hP : va_P (dC, dI) cls9 ([(h0, .inr (3, [.int mc, .ref ed, .int (nI cap)])), (ed, .inl (cO, cap, .inr (.inr (.inr (.inr g)))))] ++ pl) s.heap := hP
  have hD : va_D A ([(h0, .inr (3, [.int mc, .ref ed, .int (nI cap)])), (ed, .inl (cO, cap, .inr (.inr (.inr (.inr g)))))] ++ pl) := hD
  generalize hQ : MQ below (va_Qv (fun L : LSt => G L) (fun L t => va_P (dC, dI) cls9 (lwd t0 h0 L ++ pl) t.heap ∧ va_K (dC, dI) cls9 (lty L) t ∧ va_D A (lwd t0 h0 L ++ pl)) A) args s 1 (cap + cap / 2) A = Q
  replace hQ := hQ.symm
  refine lv_iload_n hx hb d_T_add2_0 rfl (lv_at hl 3 rfl) ?_
  refine lv_aload_n hx hb d_T_add2_1 rfl (lv_at hl 2 rfl) ?_
  refine va_alen (v := Int32.ofNat cap) hx hb hK hP 1 0 rfl rfl rfl d_T_add2_2 ?_
  refine lv_icmp_ne (tgt := 11) hx hb d_T_add2_3 rfl (fun h3 => ?_) (fun h3 => ?_)
  · exact absurd h3 (by exact fun z => z rfl)
  · refine lv_aload_n hx hb d_T_add2_6 rfl (lv_at hl 0 rfl) ?_
    refine cal_r (cx := [(h0, .inr (3, [.int mc, .ref ed, .int (nI cap)])), (ed, .inl (cO, cap, .inr (.inr (.inr (.inr g)))))]) (wr := []) (pl := pl) (rx := fun u a => [(h0, .inr (3, [.int mc, .ref a, .int (nI cap)])), (a, .inl (u, (cap + cap / 2), .inr (.inr (.inr (.inr (va_cpy g (fun _ => none) 0 0 cap))))))]) (va_runV (g := F0 m 7 ls [.ref h0]) (As := []) (rest := []) ⟨hx, hb, hml, hown, hts⟩ (c_growB0 l dC dI h0 ed mi cap mc cO g pl h2 hc hall _) (cwV 0 hts (gi_V tw_137 tw_139 ts_3 tw_5 tw_140) rfl rfl rfl (by decide +kernel) ⟨(by rw [← hR]; exact Nat.le_of_ble_eq_true rfl), (by rw [← hR]; exact Nat.le_of_ble_eq_true rfl)⟩) ⟨al_blind, va_recv (ci := 3) (q := (R_T, F_T, 3)) hK hP rfl (q0 := 0) rfl, al_pre (hP.part [0, 1] rfl) hK (hD.part [0, 1] (by decide) rfl) hxk⟩ rfl rfl hl.1 rfl (lv_room (Nat.le_of_ble_eq_true rfl)) d_T_add2_7 ⟨by rw [← hR]; show 0 + 1 ≤ 1; omega, by rw [← hR]; show 0 + (cap + cap / 2) ≤ (cap + cap / 2); omega⟩) hP hD hS hA [0, 1] [] rfl rfl (by decide) (by decide) (fun u7 a7 H locs hK hP hD hS => ?_)
    have hP : va_P (dC, dI) cls9 ([(h0, .inr (3, [.int mc, .ref a7, .int (nI cap)])), (a7, .inl (u7, (cap + cap / 2), .inr (.inr (.inr (.inr (va_cpy g (fun _ => none) 0 0 cap))))))] ++ pl) H := hP
    have hD : va_D A ([(h0, .inr (3, [.int mc, .ref a7, .int (nI cap)])), (a7, .inl (u7, (cap + cap / 2), .inr (.inr (.inr (.inr (va_cpy g (fun _ => none) 0 0 cap))))))] ++ pl) := hD
    have hK : va_K (dC, dI) cls9 [(cO, (.object "java/lang/Object")), (u7, (.object "java/lang/Object"))] s := hK
    refine lv_astore_n (lv' := [(2, .ref a7), (0, .ref h0), (1, .ref v), (3, .int (nI cap))]) hx hb d_T_add2_10 rfl hl (by decide) rfl (fun ls hl => ?_)
    refine lv_aload_n hx hb d_T_add2_11 rfl (lv_at hl 0 rfl) ?_
    refine lv_iload_n hx hb d_T_add2_12 rfl (lv_at hl 3 rfl) ?_
    refine lv_aload_n hx hb d_T_add2_13 rfl (lv_at hl 2 rfl) ?_
    refine va_astqO (r := (R_A, F_A, 6)) hx hb hK hP hD hS 1 1 _ 1 rfl rfl hxk.2.2.2 (pl_at (X := [(h0, .inr (3, [.int mc, .ref a7, .int (nI cap)])), (a7, .inl (u7, (cap + cap / 2), .inr (.inr (.inr (.inr (va_cpy g (fun _ => none) 0 0 cap))))))]) hev) rfl (by exact vp_in_nI (show cap < (cap + cap / 2) by omega) (by omega)) d_T_add2_14 (fun H locs hP hD hS => ?_)
    rw [nI_clamp (show cap < 2 ^ 31 by omega)] at hP hD
    have hP : va_P (dC, dI) cls9 ([(h0, .inr (3, [.int mc, .ref a7, .int (nI cap)])), (a7, .inl (u7, (cap + cap / 2), .inr (.inr (.inr (.inr (va_up (va_cpy g (fun _ => none) 0 0 cap) cap (some v)))))))] ++ pl) H := hP
    have hD : va_D A ([(h0, .inr (3, [.int mc, .ref a7, .int (nI cap)])), (a7, .inl (u7, (cap + cap / 2), .inr (.inr (.inr (.inr (va_up (va_cpy g (fun _ => none) 0 0 cap) cap (some v)))))))] ++ pl) := hD
    refine lv_aload_n hx hb d_T_add2_15 rfl (lv_at hl 1 rfl) ?_
    refine lv_iload_n hx hb d_T_add2_16 rfl (lv_at hl 3 rfl) ?_
    refine lv_iconst (v := 1) hx hb d_T_add2_17 (by decide) ?_
    refine lv_iadd hx hb d_T_add2_18 ?_
    rw [nI_1]
    refine va_put (D := (dC, dI)) (ci := 3) (v := .int (nI (cap + 1))) (ty := .int) (C := R_T) (T := F_T) (N := 3) hx hb hts in_T tf_T tok_T n_T hown hK hP hD hS 0 rfl rfl 2 (by decide) (hts _ tw_44) (fun _ h9 => h9) rfl (by decide +kernel) (by rfl) (by rfl) (Nat.le_of_ble_eq_true rfl) d_T_add2_19 (fun H locs hP hD hS => ?_)
    have hP : va_P (dC, dI) cls9 ([(h0, .inr (3, [.int mc, .ref a7, .int (nI (cap + 1))])), (a7, .inl (u7, (cap + cap / 2), .inr (.inr (.inr (.inr (va_up (va_cpy g (fun _ => none) 0 0 cap) cap (some v)))))))] ++ pl) H := hP
    have hD : va_D A ([(h0, .inr (3, [.int mc, .ref a7, .int (nI (cap + 1))])), (a7, .inl (u7, (cap + cap / 2), .inr (.inr (.inr (.inr (va_up (va_cpy g (fun _ => none) 0 0 cap) cap (some v)))))))] ++ pl) := hD
    refine W.widen (k := 1) (n := (cap + cap / 2)) (by first | exact Nat.le_refl _ | omega | (show (0 + 1) ≤ 1; omega)) (by first | exact Nat.le_refl _ | omega | (show (0 + (cap + cap / 2)) ≤ (cap + cap / 2); omega)) ?_
    rw [hQ]
    exact W.vret hx hb hr (fun t ht hW => ⟨⟨(mc, cap + 1, some (a7, u7, (cap + cap / 2), va_up (va_cpy g (fun _ => none) 0 0 cap) cap (some v))), rfl, hG u7 a7, by rw [ht]; exact hP.part [0, 1] rfl, va_K.moved hW.alike (hK.sub [1] rfl), hD.part [0, 1] (by decide) rfl⟩, hS.F ht⟩) hS.2.2 d_T_add2_22
set_option maxHeartbeats 4000000 in
set_option maxRecDepth 100000 in
theorem c_addF2 (l : Launch) (dC : Nat → ClassId) (dI : Nat → Nat → Nat) (h0 t0 mi v nv : Nat) (mc : Int32) (fs : List Value) (pl : va_W) (G : LSt → Prop) (hev : pl[nv]? = some (v, .inr (1, fs))) (hG : ∀ (u : ClassId) (a : Nat), G (mc, 1, some (a, u, 10, va_up (fun _ => none) 0 (some v)))) : la_v l y_T_add2 w_T_add2 { frames := 5, cells := 1, slots := 10, locals := 119 } (dC, dI) ([(h0, .inr (3, [.int mc, .ref t0, .int 0]))] ++ pl) [] [.ref h0, .ref v, .ref t0, .int 0] mi t0 1 10 G h0 pl := by
  intro sz
  refine Met.ofW (cc := b_T_add2) (maxL := 4) (ret := none) (by decide) rfl ?_
  intro p e s m args below meth c s₁ B hml hv
  obtain ⟨hargs, hsz, hP, hK, hD0, hxk, hxz⟩ := hv
  have hx := B.exec
  have hb := B.bytes
  have hr := B.returns
  have hts : ∀ w ∈ lw_w, w.before args s = true := fun w h => atoms_spec (ws := w_T_add2) B.pre w (List.mem_cons_of_mem _ h)
  have hown : s.vm.findClass R_T = some m.cls := findClass_of_methodNamed B.named
  have hlocks := B.notSynchronized
  subst hsz
  have hD := hD0.self (sz := s.heap.size)
  generalize hR : (headSpec w_T_add2 { frames := 5, cells := 1, slots := 10, locals := 119 }).room = R
  generalize hAe : va_A ([(h0, .inr (3, [.int mc, .ref t0, .int 0]))] ++ pl) s.heap.size = A at hD hxz ⊢
  have hA : ∀ q : Nat, s.heap.size ≤ q → A q := fun q h => by rw [← hAe]; exact Or.inr h
  have hS : va_S A s.heap s.heap [] := va_S.rf
  have hl := lv_entry [.ref h0, .ref v, .ref t0, .int 0] (n := 4) (Nat.le_of_ble_eq_true rfl)
  have hent : entryFrame m args 4 = F0 m 0 (lg_sl [.ref h0, .ref v, .ref t0, .int 0] ++ List.replicate (4 - (lg_sl [.ref h0, .ref v, .ref t0, .int 0]).length) Slot.unset).toArray [] := by rw [hargs]; exact lg_entry_eq m [.ref h0, .ref v, .ref t0, .int 0] 4
  rw [hent]
  clear hent
  generalize (lg_sl [.ref h0, .ref v, .ref t0, .int 0] ++ List.replicate (4 - (lg_sl [.ref h0, .ref v, .ref t0, .int 0]).length) Slot.unset).toArray = ls at hl ⊢
  have hl : lv_has ls 4 [(0, .ref h0), (1, .ref v), (2, .ref t0), (3, .int 0)] := hl
  have hP : va_P (dC, dI) cls9 ([(h0, .inr (3, [.int mc, .ref t0, .int 0]))] ++ pl) s.heap := hP
  have hD : va_D A ([(h0, .inr (3, [.int mc, .ref t0, .int 0]))] ++ pl) := hD
  generalize hQ : MQ below (va_Qv (fun L : LSt => G L) (fun L t => va_P (dC, dI) cls9 (lwd t0 h0 L ++ pl) t.heap ∧ va_K (dC, dI) cls9 (lty L) t ∧ va_D A (lwd t0 h0 L ++ pl)) A) args s 1 10 A = Q
  replace hQ := hQ.symm
  refine lv_iload_n hx hb d_T_add2_0 rfl (lv_at hl 3 rfl) ?_
  refine lv_aload_n hx hb d_T_add2_1 rfl (lv_at hl 2 rfl) ?_
  refine va_tlen (v := 0) hx hb hxz.2 hS rfl d_T_add2_2 ?_
  refine lv_icmp_ne (tgt := 11) hx hb d_T_add2_3 rfl (fun h3 => ?_) (fun h3 => ?_)
  · exact absurd h3 (by exact fun z => z rfl)
  · refine lv_aload_n hx hb d_T_add2_6 rfl (lv_at hl 0 rfl) ?_
    refine cal_r (cx := [(h0, .inr (3, [.int mc, .ref t0, .int 0]))]) (wr := []) (pl := pl) (rx := fun u a => [(h0, .inr (3, [.int mc, .ref a, .int 0])), (a, .inl (u, 10, .inr (.inr (.inr (.inr (fun _ => none))))))]) (va_runV (g := F0 m 7 ls [.ref h0]) (As := []) (rest := []) ⟨hx, hb, hml, hown, hts⟩ (c_growA0 l dC dI h0 t0 mi mc pl _) (cwV 0 hts (gi_V tw_137 tw_139 ts_3 tw_5 tw_140) rfl rfl rfl (by decide +kernel) ⟨(by rw [← hR]; exact Nat.le_of_ble_eq_true rfl), (by rw [← hR]; exact Nat.le_of_ble_eq_true rfl)⟩) ⟨az_blind, va_recv (ci := 3) (q := (R_T, F_T, 3)) hK hP rfl (q0 := 0) rfl, az_pre (hP.part [0] rfl) hK (hD.part [0] (by decide) rfl) hxk hxz hS (va_freeP hD hS hA [0] rfl)⟩ rfl rfl hl.1 rfl (lv_room (Nat.le_of_ble_eq_true rfl)) d_T_add2_7 ⟨by rw [← hR]; show 0 + 1 ≤ 1; omega, by rw [← hR]; show 0 + 10 ≤ 10; omega⟩) hP hD hS hA [0] [] rfl rfl (by decide) (by decide) (fun u7 a7 H locs hK hP hD hS => ?_)
    have hP : va_P (dC, dI) cls9 ([(h0, .inr (3, [.int mc, .ref a7, .int 0])), (a7, .inl (u7, 10, .inr (.inr (.inr (.inr (fun _ => none))))))] ++ pl) H := hP
    have hD : va_D A ([(h0, .inr (3, [.int mc, .ref a7, .int 0])), (a7, .inl (u7, 10, .inr (.inr (.inr (.inr (fun _ => none))))))] ++ pl) := hD
    have hK : va_K (dC, dI) cls9 [(u7, (.object "java/lang/Object"))] s := hK
    refine lv_astore_n (lv' := [(2, .ref a7), (0, .ref h0), (1, .ref v), (3, .int 0)]) hx hb d_T_add2_10 rfl hl (by decide) rfl (fun ls hl => ?_)
    refine lv_aload_n hx hb d_T_add2_11 rfl (lv_at hl 0 rfl) ?_
    refine lv_iload_n hx hb d_T_add2_12 rfl (lv_at hl 3 rfl) ?_
    refine lv_aload_n hx hb d_T_add2_13 rfl (lv_at hl 2 rfl) ?_
    refine va_astqO (r := (R_A, F_A, 6)) hx hb hK hP hD hS 1 0 _ 1 rfl rfl hxk.2.2.2 (pl_at (X := [(h0, .inr (3, [.int mc, .ref a7, .int 0])), (a7, .inl (u7, 10, .inr (.inr (.inr (.inr (fun _ => none))))))]) hev) rfl (by exact vp_in_nI (show 0 < 10 by decide) (by decide)) d_T_add2_14 (fun H locs hP hD hS => ?_)
    rw [sb_cl0] at hP hD
    have hP : va_P (dC, dI) cls9 ([(h0, .inr (3, [.int mc, .ref a7, .int 0])), (a7, .inl (u7, 10, .inr (.inr (.inr (.inr (va_up (fun _ => none) 0 (some v)))))))] ++ pl) H := hP
    have hD : va_D A ([(h0, .inr (3, [.int mc, .ref a7, .int 0])), (a7, .inl (u7, 10, .inr (.inr (.inr (.inr (va_up (fun _ => none) 0 (some v)))))))] ++ pl) := hD
    refine lv_aload_n hx hb d_T_add2_15 rfl (lv_at hl 1 rfl) ?_
    refine lv_iload_n hx hb d_T_add2_16 rfl (lv_at hl 3 rfl) ?_
    refine lv_iconst (v := 1) hx hb d_T_add2_17 (by decide) ?_
    refine lv_iadd hx hb d_T_add2_18 ?_
    rw [show (0 : Int32) + 1 = nI 1 by decide]
    refine va_put (D := (dC, dI)) (ci := 3) (v := .int (nI 1)) (ty := .int) (C := R_T) (T := F_T) (N := 3) hx hb hts in_T tf_T tok_T n_T hown hK hP hD hS 0 rfl rfl 2 (by decide) (hts _ tw_44) (fun _ h9 => h9) rfl (by decide +kernel) (by rfl) (by rfl) (Nat.le_of_ble_eq_true rfl) d_T_add2_19 (fun H locs hP hD hS => ?_)
    have hP : va_P (dC, dI) cls9 ([(h0, .inr (3, [.int mc, .ref a7, .int (nI 1)])), (a7, .inl (u7, 10, .inr (.inr (.inr (.inr (va_up (fun _ => none) 0 (some v)))))))] ++ pl) H := hP
    have hD : va_D A ([(h0, .inr (3, [.int mc, .ref a7, .int (nI 1)])), (a7, .inl (u7, 10, .inr (.inr (.inr (.inr (va_up (fun _ => none) 0 (some v)))))))] ++ pl) := hD
    refine W.widen (k := 1) (n := 10) (by first | exact Nat.le_refl _ | omega | (show (0 + 1) ≤ 1; omega)) (by first | exact Nat.le_refl _ | omega | (show (0 + 10) ≤ 10; omega)) ?_
    rw [hQ]
    exact W.vret hx hb hr (fun t ht hW => ⟨⟨(mc, 1, some (a7, u7, 10, va_up (fun _ => none) 0 (some v))), rfl, hG u7 a7, by rw [ht]; exact hP.part [0, 1] rfl, va_K.moved hW.alike (hK.sub [0] rfl), hD.part [0, 1] (by decide) rfl⟩, hS.F ht⟩) hS.2.2 d_T_add2_22
set_option maxHeartbeats 4000000 in
set_option maxRecDepth 100000 in
theorem c_addR1 (l : Launch) (dC : Nat → ClassId) (dI : Nat → Nat → Nat) (h0 t0 mi ed v cap n nv : Nat) (mc : Int32) (cO : ClassId) (g : Nat → Option Nat) (fs : List Value) (pl : va_W) (G : LSt → Prop) (hn : n < cap) (hc : cap ≤ 600) (hev : pl[nv]? = some (v, .inr (1, fs))) (hG : G (mc + 1, n + 1, some (ed, cO, cap, va_up g n (some v)))) : la_i l y_T_add1 w_T_add1 { frames := 6, cells := 0, slots := 0, locals := 142 } (dC, dI) ([(h0, .inr (3, [.int mc, .ref ed, .int (nI n)])), (ed, .inl (cO, cap, .inr (.inr (.inr (.inr g)))))] ++ pl) [(cO, (.object "java/lang/Object"))] [.ref h0, .ref v] mi t0 0 0 G h0 pl := by
  intro sz
  refine Met.ofW (cc := b_T_add1) (maxL := 2) (ret := (some .boolean)) (by decide) rfl ?_
  intro p e s m args below meth c s₁ B hml hv
  obtain ⟨hargs, hsz, hP, hK, hD0, hxk, hxz⟩ := hv
  have hx := B.exec
  have hb := B.bytes
  have hr := B.returns
  have hts : ∀ w ∈ lw_w, w.before args s = true := fun w h => atoms_spec (ws := w_T_add1) B.pre w (List.mem_cons_of_mem _ h)
  have hown : s.vm.findClass R_T = some m.cls := findClass_of_methodNamed B.named
  have hlocks := B.notSynchronized
  subst hsz
  have hD := hD0.self (sz := s.heap.size)
  generalize hR : (headSpec w_T_add1 { frames := 6, cells := 0, slots := 0, locals := 142 }).room = R
  generalize hAe : va_A ([(h0, .inr (3, [.int mc, .ref ed, .int (nI n)])), (ed, .inl (cO, cap, .inr (.inr (.inr (.inr g)))))] ++ pl) s.heap.size = A at hD hxz ⊢
  have hA : ∀ q : Nat, s.heap.size ≤ q → A q := fun q h => by rw [← hAe]; exact Or.inr h
  have hS : va_S A s.heap s.heap [] := va_S.rf
  have hl := lv_entry [.ref h0, .ref v] (n := 2) (Nat.le_of_ble_eq_true rfl)
  have hent : entryFrame m args 2 = F0 m 0 (lg_sl [.ref h0, .ref v] ++ List.replicate (2 - (lg_sl [.ref h0, .ref v]).length) Slot.unset).toArray [] := by rw [hargs]; exact lg_entry_eq m [.ref h0, .ref v] 2
  rw [hent]
  clear hent
  generalize (lg_sl [.ref h0, .ref v] ++ List.replicate (2 - (lg_sl [.ref h0, .ref v]).length) Slot.unset).toArray = ls at hl ⊢
  have hl : lv_has ls 2 [(0, .ref h0), (1, .ref v)] := hl
  have hP : va_P (dC, dI) cls9 ([(h0, .inr (3, [.int mc, .ref ed, .int (nI n)])), (ed, .inl (cO, cap, .inr (.inr (.inr (.inr g)))))] ++ pl) s.heap := hP
  have hD : va_D A ([(h0, .inr (3, [.int mc, .ref ed, .int (nI n)])), (ed, .inl (cO, cap, .inr (.inr (.inr (.inr g)))))] ++ pl) := hD
  generalize hQ : MQ below (va_Qi (fun (_ : Int32) (L : LSt) => G L) (fun L t => va_P (dC, dI) cls9 (lwd t0 h0 L ++ pl) t.heap ∧ va_K (dC, dI) cls9 (lty L) t ∧ va_D A (lwd t0 h0 L ++ pl)) A) args s 0 0 A = Q
  replace hQ := hQ.symm
  refine lv_aload_n hx hb d_T_add1_0 rfl (lv_at hl 0 rfl) ?_
  refine lv_dup hx hb d_T_add1_1 rfl ?_
  refine va_get (D := (dC, dI)) (ci := 3) (v := .int mc) (C := R_T) (T := F_T) (N := 3) hx hb hts in_T hown hK hP 0 rfl rfl 0 (by decide) (hts _ tw_46) (fun x9 h9 => u_same (hts _ tw_47) x9 h9) rfl d_T_add1_2 ?_
  refine lv_iconst (v := 1) hx hb d_T_add1_5 (by decide) ?_
  refine lv_iadd hx hb d_T_add1_6 ?_
  refine va_put (D := (dC, dI)) (ci := 3) (v := .int (mc + 1)) (ty := .int) (C := R_T) (T := F_T) (N := 3) hx hb hts in_T tf_T tok_T n_T hown hK hP hD hS 0 rfl rfl 0 (by decide) (hts _ tw_46) (fun x9 h9 => u_same (hts _ tw_47) x9 h9) rfl (by decide +kernel) (by rfl) (by rfl) (Nat.le_of_ble_eq_true rfl) d_T_add1_7 (fun H locs hP hD hS => ?_)
  have hP : va_P (dC, dI) cls9 ([(h0, .inr (3, [.int (mc + 1), .ref ed, .int (nI n)])), (ed, .inl (cO, cap, .inr (.inr (.inr (.inr g)))))] ++ pl) H := hP
  have hD : va_D A ([(h0, .inr (3, [.int (mc + 1), .ref ed, .int (nI n)])), (ed, .inl (cO, cap, .inr (.inr (.inr (.inr g)))))] ++ pl) := hD
  refine lv_aload_n hx hb d_T_add1_10 rfl (lv_at hl 0 rfl) ?_
  refine lv_aload_n hx hb d_T_add1_11 rfl (lv_at hl 1 rfl) ?_
  refine lv_aload_n hx hb d_T_add1_12 rfl (lv_at hl 0 rfl) ?_
  refine va_get (D := (dC, dI)) (ci := 3) (v := .ref ed) (C := R_T) (T := F_T) (N := 3) hx hb hts in_T hown hK hP 0 rfl rfl 1 (by decide) (hts _ tw_43) (fun _ h9 => h9) rfl d_T_add1_13 ?_
  refine lv_aload_n hx hb d_T_add1_16 rfl (lv_at hl 0 rfl) ?_
  refine va_get (D := (dC, dI)) (ci := 3) (v := .int (nI n)) (C := R_T) (T := F_T) (N := 3) hx hb hts in_T hown hK hP 0 rfl rfl 2 (by decide) (hts _ tw_44) (fun _ h9 => h9) rfl d_T_add1_17 ?_
  refine cla_v (W0 := ([(h0, .inr (3, [.int (mc + 1), .ref ed, .int (nI n)])), (ed, .inl (cO, cap, .inr (.inr (.inr (.inr g)))))] ++ pl)) (pl := pl) (t0 := t0) (h0 := h0) (G := G) (va_runV (g := F0 m 20 ls [.int (nI n), .ref ed, .ref v, .ref h0]) (As := [.ref v, .ref ed, .int (nI n)]) (rest := []) ⟨hx, hb, hml, hown, hts⟩ (c_addR2 l dC dI h0 t0 mi ed v cap n nv (mc + 1) cO g fs pl G hn hc hev hG _) (cwV 3 hts (gi_V tw_133 tw_135 ts_2 tw_5 tw_136) rfl rfl rfl (by decide +kernel) ⟨(by rw [← hR]; exact Nat.le_of_ble_eq_true rfl), (by rw [← hR]; exact Nat.le_of_ble_eq_true rfl)⟩) ⟨az_blind, va_recv (ci := 3) (q := (R_T, F_T, 3)) hK hP rfl (q0 := 0) rfl, az_pre hP hK hD hxk hxz hS (la_free hD hS hA)⟩ rfl rfl hl.1 rfl (lv_room (Nat.le_of_ble_eq_true rfl)) d_T_add1_20 ⟨by rw [← hR]; show 0 + 0 ≤ 0; omega, by rw [← hR]; show 0 + 0 ≤ 0; omega⟩) hD hS hA (fun L9 H locs hG9 hK hP hD hS => ?_)
  refine lv_iconst (v := 1) hx hb d_T_add1_23 (by decide) ?_
  refine W.widen (k := 0) (n := 0) (by first | exact Nat.le_refl _ | omega | (show (0 + 0) ≤ 0; omega)) (by first | exact Nat.le_refl _ | omega | (show (0 + 0) ≤ 0; omega)) ?_
  rw [hQ]
  exact W.zret (v := 1) hx hb hr (by first | rfl | decide) (fun t ht hW => ⟨⟨1, L9, rfl, hG9, by rw [ht]; exact hP, va_K.moved hW.alike hK, hD⟩, hS.F ht⟩) hS.2.2 d_T_add1_24
set_option maxHeartbeats 4000000 in
set_option maxRecDepth 100000 in
theorem c_addG1 (l : Launch) (dC : Nat → ClassId) (dI : Nat → Nat → Nat) (h0 t0 mi ed v cap nv : Nat) (mc : Int32) (cO : ClassId) (g : Nat → Option Nat) (fs : List Value) (pl : va_W) (G : LSt → Prop) (h2 : 2 ≤ cap) (hc : cap ≤ 600) (hall : ∀ i : Nat, i < cap → ∀ y : Nat, g i = some y → ∃ (n : Nat) (fs : List Value), pl[n]? = some (y, .inr (1, fs))) (hev : pl[nv]? = some (v, .inr (1, fs))) (hG : ∀ (u : ClassId) (a : Nat), G (mc + 1, cap + 1, some (a, u, (cap + cap / 2), va_up (va_cpy g (fun _ => none) 0 0 cap) cap (some v)))) : la_i l y_T_add1 w_T_add1 { frames := 6, cells := 1, slots := (cap + cap / 2), locals := 142 } (dC, dI) ([(h0, .inr (3, [.int mc, .ref ed, .int (nI cap)])), (ed, .inl (cO, cap, .inr (.inr (.inr (.inr g)))))] ++ pl) [(cO, (.object "java/lang/Object"))] [.ref h0, .ref v] mi t0 1 (cap + cap / 2) G h0 pl := by
  intro sz
  refine Met.ofW (cc := b_T_add1) (maxL := 2) (ret := (some .boolean)) (by decide) rfl ?_
  intro p e s m args below meth c s₁ B hml hv
  obtain ⟨hargs, hsz, hP, hK, hD0, hxk, hxz⟩ := hv
  have hx := B.exec
  have hb := B.bytes
  have hr := B.returns
  have hts : ∀ w ∈ lw_w, w.before args s = true := fun w h => atoms_spec (ws := w_T_add1) B.pre w (List.mem_cons_of_mem _ h)
  have hown : s.vm.findClass R_T = some m.cls := findClass_of_methodNamed B.named
  have hlocks := B.notSynchronized
  subst hsz
  have hD := hD0.self (sz := s.heap.size)
  generalize hR : (headSpec w_T_add1 { frames := 6, cells := 1, slots := (cap + cap / 2), locals := 142 }).room = R
  generalize hAe : va_A ([(h0, .inr (3, [.int mc, .ref ed, .int (nI cap)])), (ed, .inl (cO, cap, .inr (.inr (.inr (.inr g)))))] ++ pl) s.heap.size = A at hD hxz ⊢
  have hA : ∀ q : Nat, s.heap.size ≤ q → A q := fun q h => by rw [← hAe]; exact Or.inr h
  have hS : va_S A s.heap s.heap [] := va_S.rf
  have hl := lv_entry [.ref h0, .ref v] (n := 2) (Nat.le_of_ble_eq_true rfl)
  have hent : entryFrame m args 2 = F0 m 0 (lg_sl [.ref h0, .ref v] ++ List.replicate (2 - (lg_sl [.ref h0, .ref v]).length) Slot.unset).toArray [] := by rw [hargs]; exact lg_entry_eq m [.ref h0, .ref v] 2
  rw [hent]
  clear hent
  generalize (lg_sl [.ref h0, .ref v] ++ List.replicate (2 - (lg_sl [.ref h0, .ref v]).length) Slot.unset).toArray = ls at hl ⊢
  have hl : lv_has ls 2 [(0, .ref h0), (1, .ref v)] := hl
  have hP : va_P (dC, dI) cls9 ([(h0, .inr (3, [.int mc, .ref ed, .int (nI cap)])), (ed, .inl (cO, cap, .inr (.inr (.inr (.inr g)))))] ++ pl) s.heap := hP
  have hD : va_D A ([(h0, .inr (3, [.int mc, .ref ed, .int (nI cap)])), (ed, .inl (cO, cap, .inr (.inr (.inr (.inr g)))))] ++ pl) := hD
  generalize hQ : MQ below (va_Qi (fun (_ : Int32) (L : LSt) => G L) (fun L t => va_P (dC, dI) cls9 (lwd t0 h0 L ++ pl) t.heap ∧ va_K (dC, dI) cls9 (lty L) t ∧ va_D A (lwd t0 h0 L ++ pl)) A) args s 1 (cap + cap / 2) A = Q
  replace hQ := hQ.symm
  refine lv_aload_n hx hb d_T_add1_0 rfl (lv_at hl 0 rfl) ?_
  refine lv_dup hx hb d_T_add1_1 rfl ?_
  refine va_get (D := (dC, dI)) (ci := 3) (v := .int mc) (C := R_T) (T := F_T) (N := 3) hx hb hts in_T hown hK hP 0 rfl rfl 0 (by decide) (hts _ tw_46) (fun x9 h9 => u_same (hts _ tw_47) x9 h9) rfl d_T_add1_2 ?_
  refine lv_iconst (v := 1) hx hb d_T_add1_5 (by decide) ?_
  refine lv_iadd hx hb d_T_add1_6 ?_
  refine va_put (D := (dC, dI)) (ci := 3) (v := .int (mc + 1)) (ty := .int) (C := R_T) (T := F_T) (N := 3) hx hb hts in_T tf_T tok_T n_T hown hK hP hD hS 0 rfl rfl 0 (by decide) (hts _ tw_46) (fun x9 h9 => u_same (hts _ tw_47) x9 h9) rfl (by decide +kernel) (by rfl) (by rfl) (Nat.le_of_ble_eq_true rfl) d_T_add1_7 (fun H locs hP hD hS => ?_)
  have hP : va_P (dC, dI) cls9 ([(h0, .inr (3, [.int (mc + 1), .ref ed, .int (nI cap)])), (ed, .inl (cO, cap, .inr (.inr (.inr (.inr g)))))] ++ pl) H := hP
  have hD : va_D A ([(h0, .inr (3, [.int (mc + 1), .ref ed, .int (nI cap)])), (ed, .inl (cO, cap, .inr (.inr (.inr (.inr g)))))] ++ pl) := hD
  refine lv_aload_n hx hb d_T_add1_10 rfl (lv_at hl 0 rfl) ?_
  refine lv_aload_n hx hb d_T_add1_11 rfl (lv_at hl 1 rfl) ?_
  refine lv_aload_n hx hb d_T_add1_12 rfl (lv_at hl 0 rfl) ?_
  refine va_get (D := (dC, dI)) (ci := 3) (v := .ref ed) (C := R_T) (T := F_T) (N := 3) hx hb hts in_T hown hK hP 0 rfl rfl 1 (by decide) (hts _ tw_43) (fun _ h9 => h9) rfl d_T_add1_13 ?_
  refine lv_aload_n hx hb d_T_add1_16 rfl (lv_at hl 0 rfl) ?_
  refine va_get (D := (dC, dI)) (ci := 3) (v := .int (nI cap)) (C := R_T) (T := F_T) (N := 3) hx hb hts in_T hown hK hP 0 rfl rfl 2 (by decide) (hts _ tw_44) (fun _ h9 => h9) rfl d_T_add1_17 ?_
  refine cla_v (W0 := ([(h0, .inr (3, [.int (mc + 1), .ref ed, .int (nI cap)])), (ed, .inl (cO, cap, .inr (.inr (.inr (.inr g)))))] ++ pl)) (pl := pl) (t0 := t0) (h0 := h0) (G := G) (va_runV (g := F0 m 20 ls [.int (nI cap), .ref ed, .ref v, .ref h0]) (As := [.ref v, .ref ed, .int (nI cap)]) (rest := []) ⟨hx, hb, hml, hown, hts⟩ (c_addG2 l dC dI h0 t0 mi ed v cap nv (mc + 1) cO g fs pl G h2 hc hall hev hG _) (cwV 3 hts (gi_V tw_133 tw_135 ts_2 tw_5 tw_136) rfl rfl rfl (by decide +kernel) ⟨(by rw [← hR]; exact Nat.le_of_ble_eq_true rfl), (by rw [← hR]; exact Nat.le_of_ble_eq_true rfl)⟩) ⟨az_blind, va_recv (ci := 3) (q := (R_T, F_T, 3)) hK hP rfl (q0 := 0) rfl, az_pre hP hK hD hxk hxz hS (la_free hD hS hA)⟩ rfl rfl hl.1 rfl (lv_room (Nat.le_of_ble_eq_true rfl)) d_T_add1_20 ⟨by rw [← hR]; show 0 + 1 ≤ 1; omega, by rw [← hR]; show 0 + (cap + cap / 2) ≤ (cap + cap / 2); omega⟩) hD hS hA (fun L9 H locs hG9 hK hP hD hS => ?_)
  refine lv_iconst (v := 1) hx hb d_T_add1_23 (by decide) ?_
  refine W.widen (k := 1) (n := (cap + cap / 2)) (by first | exact Nat.le_refl _ | omega | (show (0 + 1) ≤ 1; omega)) (by first | exact Nat.le_refl _ | omega | (show (0 + (cap + cap / 2)) ≤ (cap + cap / 2); omega)) ?_
  rw [hQ]
  exact W.zret (v := 1) hx hb hr (by first | rfl | decide) (fun t ht hW => ⟨⟨1, L9, rfl, hG9, by rw [ht]; exact hP, va_K.moved hW.alike hK, hD⟩, hS.F ht⟩) hS.2.2 d_T_add1_24
set_option maxHeartbeats 4000000 in
set_option maxRecDepth 100000 in
theorem c_addF1 (l : Launch) (dC : Nat → ClassId) (dI : Nat → Nat → Nat) (h0 t0 mi v nv : Nat) (mc : Int32) (fs : List Value) (pl : va_W) (G : LSt → Prop) (hev : pl[nv]? = some (v, .inr (1, fs))) (hG : ∀ (u : ClassId) (a : Nat), G (mc + 1, 1, some (a, u, 10, va_up (fun _ => none) 0 (some v)))) : la_i l y_T_add1 w_T_add1 { frames := 6, cells := 1, slots := 10, locals := 142 } (dC, dI) ([(h0, .inr (3, [.int mc, .ref t0, .int 0]))] ++ pl) [] [.ref h0, .ref v] mi t0 1 10 G h0 pl := by
  intro sz
  refine Met.ofW (cc := b_T_add1) (maxL := 2) (ret := (some .boolean)) (by decide) rfl ?_
  intro p e s m args below meth c s₁ B hml hv
  obtain ⟨hargs, hsz, hP, hK, hD0, hxk, hxz⟩ := hv
  have hx := B.exec
  have hb := B.bytes
  have hr := B.returns
  have hts : ∀ w ∈ lw_w, w.before args s = true := fun w h => atoms_spec (ws := w_T_add1) B.pre w (List.mem_cons_of_mem _ h)
  have hown : s.vm.findClass R_T = some m.cls := findClass_of_methodNamed B.named
  have hlocks := B.notSynchronized
  subst hsz
  have hD := hD0.self (sz := s.heap.size)
  generalize hR : (headSpec w_T_add1 { frames := 6, cells := 1, slots := 10, locals := 142 }).room = R
  generalize hAe : va_A ([(h0, .inr (3, [.int mc, .ref t0, .int 0]))] ++ pl) s.heap.size = A at hD hxz ⊢
  have hA : ∀ q : Nat, s.heap.size ≤ q → A q := fun q h => by rw [← hAe]; exact Or.inr h
  have hS : va_S A s.heap s.heap [] := va_S.rf
  have hl := lv_entry [.ref h0, .ref v] (n := 2) (Nat.le_of_ble_eq_true rfl)
  have hent : entryFrame m args 2 = F0 m 0 (lg_sl [.ref h0, .ref v] ++ List.replicate (2 - (lg_sl [.ref h0, .ref v]).length) Slot.unset).toArray [] := by rw [hargs]; exact lg_entry_eq m [.ref h0, .ref v] 2
  rw [hent]
  clear hent
  generalize (lg_sl [.ref h0, .ref v] ++ List.replicate (2 - (lg_sl [.ref h0, .ref v]).length) Slot.unset).toArray = ls at hl ⊢
  have hl : lv_has ls 2 [(0, .ref h0), (1, .ref v)] := hl
  have hP : va_P (dC, dI) cls9 ([(h0, .inr (3, [.int mc, .ref t0, .int 0]))] ++ pl) s.heap := hP
  have hD : va_D A ([(h0, .inr (3, [.int mc, .ref t0, .int 0]))] ++ pl) := hD
  generalize hQ : MQ below (va_Qi (fun (_ : Int32) (L : LSt) => G L) (fun L t => va_P (dC, dI) cls9 (lwd t0 h0 L ++ pl) t.heap ∧ va_K (dC, dI) cls9 (lty L) t ∧ va_D A (lwd t0 h0 L ++ pl)) A) args s 1 10 A = Q
  replace hQ := hQ.symm
  refine lv_aload_n hx hb d_T_add1_0 rfl (lv_at hl 0 rfl) ?_
  refine lv_dup hx hb d_T_add1_1 rfl ?_
  refine va_get (D := (dC, dI)) (ci := 3) (v := .int mc) (C := R_T) (T := F_T) (N := 3) hx hb hts in_T hown hK hP 0 rfl rfl 0 (by decide) (hts _ tw_46) (fun x9 h9 => u_same (hts _ tw_47) x9 h9) rfl d_T_add1_2 ?_
  refine lv_iconst (v := 1) hx hb d_T_add1_5 (by decide) ?_
  refine lv_iadd hx hb d_T_add1_6 ?_
  refine va_put (D := (dC, dI)) (ci := 3) (v := .int (mc + 1)) (ty := .int) (C := R_T) (T := F_T) (N := 3) hx hb hts in_T tf_T tok_T n_T hown hK hP hD hS 0 rfl rfl 0 (by decide) (hts _ tw_46) (fun x9 h9 => u_same (hts _ tw_47) x9 h9) rfl (by decide +kernel) (by rfl) (by rfl) (Nat.le_of_ble_eq_true rfl) d_T_add1_7 (fun H locs hP hD hS => ?_)
  have hP : va_P (dC, dI) cls9 ([(h0, .inr (3, [.int (mc + 1), .ref t0, .int 0]))] ++ pl) H := hP
  have hD : va_D A ([(h0, .inr (3, [.int (mc + 1), .ref t0, .int 0]))] ++ pl) := hD
  refine lv_aload_n hx hb d_T_add1_10 rfl (lv_at hl 0 rfl) ?_
  refine lv_aload_n hx hb d_T_add1_11 rfl (lv_at hl 1 rfl) ?_
  refine lv_aload_n hx hb d_T_add1_12 rfl (lv_at hl 0 rfl) ?_
  refine va_get (D := (dC, dI)) (ci := 3) (v := .ref t0) (C := R_T) (T := F_T) (N := 3) hx hb hts in_T hown hK hP 0 rfl rfl 1 (by decide) (hts _ tw_43) (fun _ h9 => h9) rfl d_T_add1_13 ?_
  refine lv_aload_n hx hb d_T_add1_16 rfl (lv_at hl 0 rfl) ?_
  refine va_get (D := (dC, dI)) (ci := 3) (v := .int 0) (C := R_T) (T := F_T) (N := 3) hx hb hts in_T hown hK hP 0 rfl rfl 2 (by decide) (hts _ tw_44) (fun _ h9 => h9) rfl d_T_add1_17 ?_
  refine cla_v (W0 := ([(h0, .inr (3, [.int (mc + 1), .ref t0, .int 0]))] ++ pl)) (pl := pl) (t0 := t0) (h0 := h0) (G := G) (va_runV (g := F0 m 20 ls [.int 0, .ref t0, .ref v, .ref h0]) (As := [.ref v, .ref t0, .int 0]) (rest := []) ⟨hx, hb, hml, hown, hts⟩ (c_addF2 l dC dI h0 t0 mi v nv (mc + 1) fs pl G hev hG _) (cwV 3 hts (gi_V tw_133 tw_135 ts_2 tw_5 tw_136) rfl rfl rfl (by decide +kernel) ⟨(by rw [← hR]; exact Nat.le_of_ble_eq_true rfl), (by rw [← hR]; exact Nat.le_of_ble_eq_true rfl)⟩) ⟨az_blind, va_recv (ci := 3) (q := (R_T, F_T, 3)) hK hP rfl (q0 := 0) rfl, az_pre hP hK hD hxk hxz hS (la_free hD hS hA)⟩ rfl rfl hl.1 rfl (lv_room (Nat.le_of_ble_eq_true rfl)) d_T_add1_20 ⟨by rw [← hR]; show 0 + 1 ≤ 1; omega, by rw [← hR]; show 0 + 10 ≤ 10; omega⟩) hD hS hA (fun L9 H locs hG9 hK hP hD hS => ?_)
  refine lv_iconst (v := 1) hx hb d_T_add1_23 (by decide) ?_
  refine W.widen (k := 1) (n := 10) (by first | exact Nat.le_refl _ | omega | (show (0 + 1) ≤ 1; omega)) (by first | exact Nat.le_refl _ | omega | (show (0 + 10) ≤ 10; omega)) ?_
  rw [hQ]
  exact W.zret (v := 1) hx hb hr (by first | rfl | decide) (fun t ht hW => ⟨⟨1, L9, rfl, hG9, by rw [ht]; exact hP, va_K.moved hW.alike hK, hD⟩, hS.F ht⟩) hS.2.2 d_T_add1_24
def caps : List Nat := [10, 15, 22, 33, 49, 73, 109, 163, 244, 366]
def gsum (cap : Nat) : Nat := if cap = 10 then 10 else if cap = 15 then 25 else if cap = 22 then 47 else if cap = 33 then 80 else if cap = 49 then 129 else if cap = 73 then 202 else if cap = 109 then 311 else if cap = 163 then 474 else if cap = 244 then 718 else 1084
def gcnt (cap : Nat) : Nat := if cap = 10 then 1 else if cap = 15 then 2 else if cap = 22 then 3 else if cap = 33 then 4 else if cap = 49 then 5 else if cap = 73 then 6 else if cap = 109 then 7 else if cap = 163 then 8 else if cap = 244 then 9 else 10
/-- a list that holds the objects as 0, as 1, .. -/
def lg (as : Nat → Nat) : LSt → Prop
  | (_, n, none) => n = 0
  | (_, n, some (_, _, cap, g)) => n ≤ cap ∧ cap ∈ caps ∧ (∀ j, j < n → g j = some (as j)) ∧ (∀ j, n ≤ j → g j = none)
def lgs : LSt → Nat
  | (_, _, none) => 10
  | (_, n, some (_, _, cap, _)) => if n = cap then cap + cap / 2 else 0
def lgc : LSt → Nat
  | (_, _, none) => 1
  | (_, n, some (_, _, cap, _)) => if n = cap then 1 else 0
def pots : LSt → Nat
  | (_, _, none) => 0
  | (_, _, some (_, _, cap, _)) => gsum cap
def potc : LSt → Nat
  | (_, _, none) => 0
  | (_, _, some (_, _, cap, _)) => gcnt cap
theorem caps_next : ∀ cap, cap ∈ caps → cap < 256 → 2 ≤ cap ∧ cap + cap / 2 ∈ caps ∧ gsum (cap + cap / 2) = gsum cap + (cap + cap / 2) ∧ gcnt (cap + cap / 2) = gcnt cap + 1 := by
  intro cap h
  simp only [caps, List.mem_cons, List.not_mem_nil, or_false] at h
  rcases h with h | h | h | h | h | h | h | h | h | h <;> subst h <;> decide
theorem caps_le : ∀ cap, cap ∈ caps → 10 ≤ cap ∧ cap ≤ 366 := by
  intro cap h
  simp only [caps, List.mem_cons, List.not_mem_nil, or_false] at h
  omega
theorem pot_le {as : Nat → Nat} {L : LSt} (h : lg as L) : pots L ≤ 1084 ∧ potc L ≤ 10 := by
  obtain ⟨mc, n, o⟩ := L
  cases o with
  | none => exact ⟨Nat.zero_le _, Nat.zero_le _⟩
  | some x =>
    obtain ⟨ed, cO, cap, g⟩ := x
    have hc := h.2.1
    show gsum cap ≤ 1084 ∧ gcnt cap ≤ 10
    simp only [caps, List.mem_cons, List.not_mem_nil, or_false] at hc
    rcases hc with h | h | h | h | h | h | h | h | h | h <;> subst h <;> decide
def lnext (as : Nat → Nat) (v : Nat) (L L' : LSt) : Prop := lg (va_up as L.2.1 v) L' ∧ L'.2.1 = L.2.1 + 1 ∧ pots L' = pots L + lgs L ∧ potc L' = potc L + lgc L
set_option maxHeartbeats 4000000 in
theorem c_add (l : Launch) (dC : Nat → ClassId) (dI : Nat → Nat → Nat) (h0 t0 mi v nv : Nat) (L : LSt) (as : Nat → Nat) (fs : List Value) (pl : va_W) (hL : lg as L) (hn : L.2.1 < 256) (hev : pl[nv]? = some (v, .inr (1, fs))) (hall : ∀ j, j < L.2.1 → ∃ (k : Nat) (fs : List Value), pl[k]? = some (as j, .inr (1, fs))) :
    la_i l y_T_add1 w_T_add1 { frames := 6, cells := lgc L, slots := lgs L, locals := 142 } (dC, dI) (lwd t0 h0 L ++ pl) (lty L) [.ref h0, .ref v] mi t0 (lgc L) (lgs L) (lnext as v L) h0 pl := by
  obtain ⟨mc, n, o⟩ := L
  cases o with
  | none =>
    have hn0 : n = 0 := hL
    subst hn0
    refine c_addF1 l dC dI h0 t0 mi v nv mc fs pl _ hev (fun u a => ⟨⟨by decide, by decide, fun j hj => ?_, fun j hj => ?_⟩, rfl, rfl, rfl⟩)
    · have hj : j = 0 := by omega
      subst hj
      show va_up (fun _ => none) 0 (some v) 0 = some (va_up as 0 v 0)
      rw [va_up_self, va_up_self]
    · exact va_up_ne _ _ (by omega)
  | some x =>
    obtain ⟨ed, cO, cap, g⟩ := x
    obtain ⟨q1, q2, q3, q4⟩ := hL
    have hcl := caps_le cap q2
    by_cases hc : n = cap
    · subst hc
      have hlt : n < 256 := hn
      obtain ⟨w1, w2, w3, w4⟩ := caps_next n q2 hlt
      have e1 : lgc (mc, n, some (ed, cO, n, g)) = 1 := if_pos rfl
      have e2 : lgs (mc, n, some (ed, cO, n, g)) = n + n / 2 := if_pos rfl
      rw [e1, e2]
      refine c_addG1 l dC dI h0 t0 mi ed v n nv mc cO g fs pl _ w1 (by omega) (fun i hi y hy => ?_) hev (fun u a => ⟨⟨?_, w2, fun j hj => ?_, fun j hj => ?_⟩, rfl, ?_, ?_⟩)
      · rw [q3 i hi] at hy
        cases hy
        exact hall i hi
      · show n + 1 ≤ n + n / 2
        omega
      · show va_up (va_cpy g (fun _ => none) 0 0 n) n (some v) j = some (va_up as n v j)
        have hj : j < n + 1 := hj
        by_cases c : j = n
        · subst c; rw [va_up_self, va_up_self]
        · rw [va_up_ne _ _ c, va_up_ne _ _ c, pk_cpy_in (Nat.zero_le _) (by omega), Nat.zero_add, Nat.sub_zero, q3 j (by omega)]
      · show va_up (va_cpy g (fun _ => none) 0 0 n) n (some v) j = none
        have hj : n + 1 ≤ j := hj
        rw [va_up_ne _ _ (by omega), pk_cpy_out (Or.inr (by omega))]
      · show gsum (n + n / 2) = gsum n + lgs (mc, n, some (ed, cO, n, g))
        rw [e2]; exact w3
      · show gcnt (n + n / 2) = gcnt n + lgc (mc, n, some (ed, cO, n, g))
        rw [e1]; exact w4
    · have q1 : n ≤ cap := q1
      have e1 : lgc (mc, n, some (ed, cO, cap, g)) = 0 := if_neg hc
      have e2 : lgs (mc, n, some (ed, cO, cap, g)) = 0 := if_neg hc
      rw [e1, e2]
      refine c_addR1 l dC dI h0 t0 mi ed v cap n nv mc cO g fs pl _ (by omega) (by omega) hev ⟨⟨?_, q2, fun j hj => ?_, fun j hj => ?_⟩, rfl, ?_, ?_⟩
      · show n + 1 ≤ cap
        omega
      · show va_up g n (some v) j = some (va_up as n v j)
        have hj : j < n + 1 := hj
        by_cases c : j = n
        · subst c; rw [va_up_self, va_up_self]
        · rw [va_up_ne _ _ c, va_up_ne _ _ c, q3 j (by omega)]
      · show va_up g n (some v) j = none
        have hj : n + 1 ≤ j := hj
        rw [va_up_ne _ _ (by omega)]
        exact q4 j (by omega)
      · show gsum cap = gsum cap + lgs (mc, n, some (ed, cO, cap, g))
        rw [e2]; rfl
      · show gcnt cap = gcnt cap + lgc (mc, n, some (ed, cO, cap, g))
        rw [e1]; rfl
