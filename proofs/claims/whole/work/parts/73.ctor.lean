set_option maxHeartbeats 4000000 in
set_option maxRecDepth 100000 in
theorem c_colInit (l : Launch) (dC : Nat → ClassId) (dI : Nat → Nat → Nat) (h0 : Nat)  : mc_v l y_V_init w_V_init { frames := 1, cells := 0, slots := 0, locals := 32 } (dC, dI) cls9 [(h0, .inr (3, [.int 0, .null, .int 0]))] [(h0, .inr (3, [.int 0, .null, .int 0]))] [] [.ref h0] := by
  intro sz
  refine Met.ofW (cc := b_V_init) (maxL := 1) (ret := none) (by decide) rfl ?_
  intro p e s m args below meth c s₁ B hml hv
  obtain ⟨hargs, hsz, hP, hK, hD0⟩ := hv
  have hx := B.exec
  have hb := B.bytes
  have hr := B.returns
  have hts : ∀ w ∈ lw_w, w.before args s = true := fun w h => atoms_spec (ws := w_V_init) B.pre w (List.mem_cons_of_mem _ h)
  have hown : s.vm.findClass R_V = some m.cls := findClass_of_methodNamed B.named
  have hlocks := B.notSynchronized
  have hin : meth.name = "<init>" := (name_of_methodNamed B.named B.method).1
  subst hsz
  have hD := hD0.self (sz := s.heap.size)
  generalize hR : (headSpec w_V_init { frames := 1, cells := 0, slots := 0, locals := 32 }).room = R
  generalize hAe : va_A [(h0, .inr (3, [.int 0, .null, .int 0]))] s.heap.size = A at hD ⊢
  have hA : ∀ q : Nat, s.heap.size ≤ q → A q := fun q h => by rw [← hAe]; exact Or.inr h
  have hS : va_S A s.heap s.heap [] := va_S.rf
  have hl := lv_entry [.ref h0] (n := 1) (Nat.le_of_ble_eq_true rfl)
  have hent : entryFrame m args 1 = F0 m 0 (lg_sl [.ref h0] ++ List.replicate (1 - (lg_sl [.ref h0]).length) Slot.unset).toArray [] := by rw [hargs]; exact lg_entry_eq m [.ref h0] 1
  rw [hent]
  clear hent
  generalize (lg_sl [.ref h0] ++ List.replicate (1 - (lg_sl [.ref h0]).length) Slot.unset).toArray = ls at hl ⊢
  have hl : lv_has ls 1 [(0, .ref h0)] := hl
  have hP : va_P (dC, dI) cls9 [(h0, .inr (3, [.int 0, .null, .int 0]))] s.heap := hP
  have hD : va_D A [(h0, .inr (3, [.int 0, .null, .int 0]))] := hD
  generalize hQ : MQ below (va_Qv (fun (_ : Unit) => True) (fun _ t => va_P (dC, dI) cls9 [(h0, .inr (3, [.int 0, .null, .int 0]))] t.heap ∧ va_K (dC, dI) cls9 [] t ∧ va_D A [(h0, .inr (3, [.int 0, .null, .int 0]))]) A) args s 0 0 A = Q
  replace hQ := hQ.symm
  refine lv_aload_n hx hb d_V_init_0 rfl (lv_at hl 0 rfl) ?_
  refine W.objInit hx hb hown (hts _ tw_40) (hts _ tw_21) (hts _ tw_22) rfl (by rw [hml]; exact hl.1) rfl d_V_init_1 (by rw [← hR]; exact Nat.le_of_ble_eq_true rfl) (by rw [← hR]; exact Nat.le_of_ble_eq_true rfl) ?_
  refine W.eq (g2 := F0 m 4 ls []) rfl ?_
  refine W.widen (k := 0) (n := 0) (by first | exact Nat.le_refl _ | omega | (show 0 ≤ 0; omega)) (by first | exact Nat.le_refl _ | omega | (show 0 ≤ 0; omega)) ?_
  rw [hQ]
  exact W.vret hx hb hr (fun t ht hW => ⟨⟨(), rfl, trivial, by rw [ht]; exact hP, va_K.moved hW.alike hK, hD⟩, hS.F ht⟩) hS.2.2 d_V_init_4
set_option maxHeartbeats 4000000 in
set_option maxRecDepth 100000 in
theorem c_absInit (l : Launch) (dC : Nat → ClassId) (dI : Nat → Nat → Nat) (h0 : Nat)  : mc_v l y_U_init w_U_init { frames := 2, cells := 0, slots := 0, locals := 52 } (dC, dI) cls9 [(h0, .inr (3, [.int 0, .null, .int 0]))] [(h0, .inr (3, [.int 0, .null, .int 0]))] [] [.ref h0] := by
  intro sz
  refine Met.ofW (cc := b_U_init) (maxL := 1) (ret := none) (by decide) rfl ?_
  intro p e s m args below meth c s₁ B hml hv
  obtain ⟨hargs, hsz, hP, hK, hD0⟩ := hv
  have hx := B.exec
  have hb := B.bytes
  have hr := B.returns
  have hts : ∀ w ∈ lw_w, w.before args s = true := fun w h => atoms_spec (ws := w_U_init) B.pre w (List.mem_cons_of_mem _ h)
  have hown : s.vm.findClass R_U = some m.cls := findClass_of_methodNamed B.named
  have hlocks := B.notSynchronized
  have hin : meth.name = "<init>" := (name_of_methodNamed B.named B.method).1
  subst hsz
  have hD := hD0.self (sz := s.heap.size)
  generalize hR : (headSpec w_U_init { frames := 2, cells := 0, slots := 0, locals := 52 }).room = R
  generalize hAe : va_A [(h0, .inr (3, [.int 0, .null, .int 0]))] s.heap.size = A at hD ⊢
  have hA : ∀ q : Nat, s.heap.size ≤ q → A q := fun q h => by rw [← hAe]; exact Or.inr h
  have hS : va_S A s.heap s.heap [] := va_S.rf
  have hl := lv_entry [.ref h0] (n := 1) (Nat.le_of_ble_eq_true rfl)
  have hent : entryFrame m args 1 = F0 m 0 (lg_sl [.ref h0] ++ List.replicate (1 - (lg_sl [.ref h0]).length) Slot.unset).toArray [] := by rw [hargs]; exact lg_entry_eq m [.ref h0] 1
  rw [hent]
  clear hent
  generalize (lg_sl [.ref h0] ++ List.replicate (1 - (lg_sl [.ref h0]).length) Slot.unset).toArray = ls at hl ⊢
  have hl : lv_has ls 1 [(0, .ref h0)] := hl
  have hP : va_P (dC, dI) cls9 [(h0, .inr (3, [.int 0, .null, .int 0]))] s.heap := hP
  have hD : va_D A [(h0, .inr (3, [.int 0, .null, .int 0]))] := hD
  generalize hQ : MQ below (va_Qv (fun (_ : Unit) => True) (fun _ t => va_P (dC, dI) cls9 [(h0, .inr (3, [.int 0, .null, .int 0]))] t.heap ∧ va_K (dC, dI) cls9 [] t ∧ va_D A [(h0, .inr (3, [.int 0, .null, .int 0]))]) A) args s 0 0 A = Q
  replace hQ := hQ.symm
  refine lv_aload_n hx hb d_U_init_0 rfl (lv_at hl 0 rfl) ?_
  refine cm_v (wc := [(h0, .inr (3, [.int 0, .null, .int 0]))]) (wr := []) (W1 := [(h0, .inr (3, [.int 0, .null, .int 0]))]) (w2 := [(h0, .inr (3, [.int 0, .null, .int 0]))]) (va_runI (g := F0 m 1 ls [.ref h0]) (As := []) (rest := []) ⟨hx, hb, hml, hown, hts⟩ (c_colInit l dC dI h0 _) (cwI 0 hts (gi_c tw_39) rfl rfl rfl (hts _ tw_3) (hts _ tw_37) (hts _ tw_38) rfl (by decide +kernel) ⟨(by rw [← hR]; exact Nat.le_of_ble_eq_true rfl), (by rw [← hR]; exact Nat.le_of_ble_eq_true rfl)⟩) ⟨mc_blind, mc_pre hP hK hD⟩ rfl rfl hl.1 rfl (lv_room (Nat.le_of_ble_eq_true rfl)) d_U_init_1 ⟨Nat.zero_le _, Nat.zero_le _⟩) hP hD hS hA [0] [] [0] rfl rfl (by decide) (by decide) rfl rfl (by decide) (fun H locs hP hD hS => ?_)
  refine lv_aload_n hx hb d_U_init_4 rfl (lv_at hl 0 rfl) ?_
  refine lv_iconst (v := 0) hx hb d_U_init_5 (by decide) ?_
  refine va_put (D := (dC, dI)) (ci := 3) (v := .int 0) (ty := .int) (C := R_T) (T := F_T) (N := 3) hx hb hts in_T tf_T tok_T n_T hown hK hP hD hS 0 rfl rfl 0 (by decide) (hts _ tw_45) (fun _ h9 => h9) rfl (by decide +kernel) (by rfl) (by rfl) (Nat.le_of_ble_eq_true rfl) d_U_init_6 (fun H locs hP hD hS => ?_)
  have hP : va_P (dC, dI) cls9 [(h0, .inr (3, [.int 0, .null, .int 0]))] H := hP
  have hD : va_D A [(h0, .inr (3, [.int 0, .null, .int 0]))] := hD
  refine W.widen (k := 0) (n := 0) (by first | exact Nat.le_refl _ | omega | (show 0 ≤ 0; omega)) (by first | exact Nat.le_refl _ | omega | (show 0 ≤ 0; omega)) ?_
  rw [hQ]
  exact W.vret hx hb hr (fun t ht hW => ⟨⟨(), rfl, trivial, by rw [ht]; exact hP, va_K.moved hW.alike hK, hD⟩, hS.F ht⟩) hS.2.2 d_U_init_9
abbrev lz_v (l : Launch) (y : MethodName) (ws : List Cond) (rm : Room) (D : va_G) (W0 W1 : va_W) (tys : List (ClassId × FieldType)) (As : List Value) (mi t0 : Nat) : Prop := ∀ sz : Nat, Met l y ws rm (la_pre D W0 tys As mi t0 sz) (va_Qv (fun (_ : Unit) => True) (fun _ t => va_P D cls9 W1 t.heap ∧ va_K D cls9 tys t ∧ va_D (va_A W0 sz) W1) (va_A W0 sz)) 0 0 (va_A W0 sz)
theorem vk_sameI {D : va_G} {cl : List vw_C} {tys : List (ClassId × FieldType)} {U : State} (hK : va_K D cl tys U) (i j : Nat) {a b : ClassId} (hi : tys[i]? = some (a, .int)) (hj : tys[j]? = some (b, .int)) : b = a := by
  have h1 : U.vm.findClass ("[" ++ FieldType.int.toString) = some a := (hK.2 i _ hi).2
  have h2 : U.vm.findClass ("[" ++ FieldType.int.toString) = some b := (hK.2 j _ hj).2
  exact Option.some.inj (h2.symm.trans h1)
theorem vk_sameJ {D : va_G} {cl : List vw_C} {tys : List (ClassId × FieldType)} {U : State} (hK : va_K D cl tys U) (i j : Nat) {a b : ClassId} (hi : tys[i]? = some (a, .long)) (hj : tys[j]? = some (b, .long)) : b = a := by
  have h1 : U.vm.findClass ("[" ++ FieldType.long.toString) = some a := (hK.2 i _ hi).2
  have h2 : U.vm.findClass ("[" ++ FieldType.long.toString) = some b := (hK.2 j _ hj).2
  exact Option.some.inj (h2.symm.trans h1)
theorem vk_sameZ {D : va_G} {cl : List vw_C} {tys : List (ClassId × FieldType)} {U : State} (hK : va_K D cl tys U) (i j : Nat) {a b : ClassId} (hi : tys[i]? = some (a, .boolean)) (hj : tys[j]? = some (b, .boolean)) : b = a := by
  have h1 : U.vm.findClass ("[" ++ FieldType.boolean.toString) = some a := (hK.2 i _ hi).2
  have h2 : U.vm.findClass ("[" ++ FieldType.boolean.toString) = some b := (hK.2 j _ hj).2
  exact Option.some.inj (h2.symm.trans h1)
set_option maxHeartbeats 4000000 in
set_option maxRecDepth 100000 in
theorem c_listInit (l : Launch) (dC : Nat → ClassId) (dI : Nat → Nat → Nat) (h0 t0 mi : Nat)  : lz_v l y_T_init w_T_init { frames := 3, cells := 0, slots := 0, locals := 72 } (dC, dI) [(h0, .inr (3, [.int 0, .null, .int 0]))] [(h0, .inr (3, [.int 0, .ref t0, .int 0]))] [] [.ref h0] mi t0 := by
  intro sz
  refine Met.ofW (cc := b_T_init) (maxL := 1) (ret := none) (by decide) rfl ?_
  intro p e s m args below meth c s₁ B hml hv
  obtain ⟨hargs, hsz, hP, hK, hD0, hxk, hxz⟩ := hv
  have hx := B.exec
  have hb := B.bytes
  have hr := B.returns
  have hts : ∀ w ∈ lw_w, w.before args s = true := fun w h => atoms_spec (ws := w_T_init) B.pre w (List.mem_cons_of_mem _ h)
  have hown : s.vm.findClass R_T = some m.cls := findClass_of_methodNamed B.named
  have hlocks := B.notSynchronized
  have hin : meth.name = "<init>" := (name_of_methodNamed B.named B.method).1
  subst hsz
  have hD := hD0.self (sz := s.heap.size)
  generalize hR : (headSpec w_T_init { frames := 3, cells := 0, slots := 0, locals := 72 }).room = R
  generalize hAe : va_A [(h0, .inr (3, [.int 0, .null, .int 0]))] s.heap.size = A at hD hxz ⊢
  have hA : ∀ q : Nat, s.heap.size ≤ q → A q := fun q h => by rw [← hAe]; exact Or.inr h
  have hS : va_S A s.heap s.heap [] := va_S.rf
  have hl := lv_entry [.ref h0] (n := 1) (Nat.le_of_ble_eq_true rfl)
  have hent : entryFrame m args 1 = F0 m 0 (lg_sl [.ref h0] ++ List.replicate (1 - (lg_sl [.ref h0]).length) Slot.unset).toArray [] := by rw [hargs]; exact lg_entry_eq m [.ref h0] 1
  rw [hent]
  clear hent
  generalize (lg_sl [.ref h0] ++ List.replicate (1 - (lg_sl [.ref h0]).length) Slot.unset).toArray = ls at hl ⊢
  have hl : lv_has ls 1 [(0, .ref h0)] := hl
  have hP : va_P (dC, dI) cls9 [(h0, .inr (3, [.int 0, .null, .int 0]))] s.heap := hP
  have hD : va_D A [(h0, .inr (3, [.int 0, .null, .int 0]))] := hD
  generalize hQ : MQ below (va_Qv (fun (_ : Unit) => True) (fun _ t => va_P (dC, dI) cls9 [(h0, .inr (3, [.int 0, .ref t0, .int 0]))] t.heap ∧ va_K (dC, dI) cls9 [] t ∧ va_D A [(h0, .inr (3, [.int 0, .ref t0, .int 0]))]) A) args s 0 0 A = Q
  replace hQ := hQ.symm
  refine lv_aload_n hx hb d_T_init_0 rfl (lv_at hl 0 rfl) ?_
  refine cm_v (wc := [(h0, .inr (3, [.int 0, .null, .int 0]))]) (wr := []) (W1 := [(h0, .inr (3, [.int 0, .null, .int 0]))]) (w2 := [(h0, .inr (3, [.int 0, .null, .int 0]))]) (va_runI (g := F0 m 1 ls [.ref h0]) (As := []) (rest := []) ⟨hx, hb, hml, hown, hts⟩ (c_absInit l dC dI h0 _) (cwI 0 hts (gi_c tw_36) rfl rfl rfl (hts _ tw_4) (hts _ tw_34) (hts _ tw_35) rfl (by decide +kernel) ⟨(by rw [← hR]; exact Nat.le_of_ble_eq_true rfl), (by rw [← hR]; exact Nat.le_of_ble_eq_true rfl)⟩) ⟨mc_blind, mc_pre hP hK hD⟩ rfl rfl hl.1 rfl (lv_room (Nat.le_of_ble_eq_true rfl)) d_T_init_1 ⟨Nat.zero_le _, Nat.zero_le _⟩) hP hD hS hA [0] [] [0] rfl rfl (by decide) (by decide) rfl rfl (by decide) (fun H locs hP hD hS => ?_)
  refine lv_aload_n hx hb d_T_init_4 rfl (lv_at hl 0 rfl) ?_
  refine va_gets hx hb hxz.1 hS hown (hts _ tw_41) (fun _ h9 => h9) d_T_init_5 ?_
  refine va_put (D := (dC, dI)) (ci := 3) (v := .ref t0) (ty := (.array (.object "java/lang/Object"))) (C := R_T) (T := F_T) (N := 3) hx hb hts in_T tf_T tok_T n_T hown hK hP hD hS 0 rfl rfl 1 (by decide) (hts _ tw_43) (fun _ h9 => h9) rfl (by decide +kernel) (by rfl) (by rfl) (Nat.le_of_ble_eq_true rfl) d_T_init_8 (fun H locs hP hD hS => ?_)
  have hP : va_P (dC, dI) cls9 [(h0, .inr (3, [.int 0, .ref t0, .int 0]))] H := hP
  have hD : va_D A [(h0, .inr (3, [.int 0, .ref t0, .int 0]))] := hD
  refine W.widen (k := 0) (n := 0) (by first | exact Nat.le_refl _ | omega | (show 0 ≤ 0; omega)) (by first | exact Nat.le_refl _ | omega | (show 0 ≤ 0; omega)) ?_
  rw [hQ]
  exact W.vret hx hb hr (fun t ht hW => ⟨⟨(), rfl, trivial, by rw [ht]; exact hP, va_K.moved hW.alike hK, hD⟩, hS.F ht⟩) hS.2.2 d_T_init_11
def kw (w : Int32) : Int32 := (if 1 < (if w < 64 then w else 64) then (if w < 64 then w else 64) else 1)
set_option maxHeartbeats 4000000 in
set_option maxRecDepth 100000 in
theorem c_curveInit (l : Launch) (dC : Nat → ClassId) (dI : Nat → Nat → Nat) (h0 t0 mi : Nat) (w : Int32)  : ∀ sz : Nat, Met l y_S_init w_S_init { frames := 4, cells := 5, slots := 835, locals := 92 } (la_pre (dC, dI) [(h0, .inr (0, [.int 0, .null, .null, .null, .null, .null, .int 0, .int 0, .int 0]))] [] [.ref h0, .int w] mi t0 sz) (va_Qv (fun (_ : Nat × Nat × Nat × Nat × Nat × ClassId × ClassId) => True) (fun u t => va_P (dC, dI) cls9 [(h0, .inr (0, [.int (kw w), .ref u.1, .ref u.2.1, .ref u.2.2.1, .ref u.2.2.2.1, .ref u.2.2.2.2.1, .int 0, .int 0, .int 0])), (u.1, .inl (u.2.2.2.2.2.1, 256, .inl (fun _ => 0))), (u.2.1, .inl (u.2.2.2.2.2.1, 256, .inl (fun _ => 0))), (u.2.2.1, .inl (u.2.2.2.2.2.2, 256, .inl (fun _ => 0))), (u.2.2.2.1, .inl (u.2.2.2.2.2.1, 64, .inl (fun _ => 0))), (u.2.2.2.2.1, .inr (3, [.int 0, .ref t0, .int 0]))] t.heap ∧ va_K (dC, dI) cls9 [(u.2.2.2.2.2.1, .int), (u.2.2.2.2.2.2, .boolean)] t ∧ va_D (va_A [(h0, .inr (0, [.int 0, .null, .null, .null, .null, .null, .int 0, .int 0, .int 0]))] sz) [(h0, .inr (0, [.int (kw w), .ref u.1, .ref u.2.1, .ref u.2.2.1, .ref u.2.2.2.1, .ref u.2.2.2.2.1, .int 0, .int 0, .int 0])), (u.1, .inl (u.2.2.2.2.2.1, 256, .inl (fun _ => 0))), (u.2.1, .inl (u.2.2.2.2.2.1, 256, .inl (fun _ => 0))), (u.2.2.1, .inl (u.2.2.2.2.2.2, 256, .inl (fun _ => 0))), (u.2.2.2.1, .inl (u.2.2.2.2.2.1, 64, .inl (fun _ => 0))), (u.2.2.2.2.1, .inr (3, [.int 0, .ref t0, .int 0]))]) (va_A [(h0, .inr (0, [.int 0, .null, .null, .null, .null, .null, .int 0, .int 0, .int 0]))] sz)) 5 835 (va_A [(h0, .inr (0, [.int 0, .null, .null, .null, .null, .null, .int 0, .int 0, .int 0]))] sz) := by
  intro sz
  refine Met.ofW (cc := b_S_init) (maxL := 2) (ret := none) (by decide) rfl ?_
  intro p e s m args below meth c s₁ B hml hv
  obtain ⟨hargs, hsz, hP, hK, hD0, hxk, hxz⟩ := hv
  have hx := B.exec
  have hb := B.bytes
  have hr := B.returns
  have hts : ∀ w ∈ lw_w, w.before args s = true := fun w h => atoms_spec (ws := w_S_init) B.pre w (List.mem_cons_of_mem _ h)
  have hown : s.vm.findClass R_S = some m.cls := findClass_of_methodNamed B.named
  have hlocks := B.notSynchronized
  have hin : meth.name = "<init>" := (name_of_methodNamed B.named B.method).1
  subst hsz
  have hD := hD0.self (sz := s.heap.size)
  generalize hR : (headSpec w_S_init { frames := 4, cells := 5, slots := 835, locals := 92 }).room = R
  generalize hAe : va_A [(h0, .inr (0, [.int 0, .null, .null, .null, .null, .null, .int 0, .int 0, .int 0]))] s.heap.size = A at hD hxz ⊢
  have hA : ∀ q : Nat, s.heap.size ≤ q → A q := fun q h => by rw [← hAe]; exact Or.inr h
  have hS : va_S A s.heap s.heap [] := va_S.rf
  have hl := lv_entry [.ref h0, .int w] (n := 2) (Nat.le_of_ble_eq_true rfl)
  have hent : entryFrame m args 2 = F0 m 0 (lg_sl [.ref h0, .int w] ++ List.replicate (2 - (lg_sl [.ref h0, .int w]).length) Slot.unset).toArray [] := by rw [hargs]; exact lg_entry_eq m [.ref h0, .int w] 2
  rw [hent]
  clear hent
  generalize (lg_sl [.ref h0, .int w] ++ List.replicate (2 - (lg_sl [.ref h0, .int w]).length) Slot.unset).toArray = ls at hl ⊢
  have hl : lv_has ls 2 [(0, .ref h0), (1, .int w)] := hl
  have hP : va_P (dC, dI) cls9 [(h0, .inr (0, [.int 0, .null, .null, .null, .null, .null, .int 0, .int 0, .int 0]))] s.heap := hP
  have hD : va_D A [(h0, .inr (0, [.int 0, .null, .null, .null, .null, .null, .int 0, .int 0, .int 0]))] := hD
  generalize hQ : MQ below (va_Qv (fun (_ : Nat × Nat × Nat × Nat × Nat × ClassId × ClassId) => True) (fun u t => va_P (dC, dI) cls9 [(h0, .inr (0, [.int (kw w), .ref u.1, .ref u.2.1, .ref u.2.2.1, .ref u.2.2.2.1, .ref u.2.2.2.2.1, .int 0, .int 0, .int 0])), (u.1, .inl (u.2.2.2.2.2.1, 256, .inl (fun _ => 0))), (u.2.1, .inl (u.2.2.2.2.2.1, 256, .inl (fun _ => 0))), (u.2.2.1, .inl (u.2.2.2.2.2.2, 256, .inl (fun _ => 0))), (u.2.2.2.1, .inl (u.2.2.2.2.2.1, 64, .inl (fun _ => 0))), (u.2.2.2.2.1, .inr (3, [.int 0, .ref t0, .int 0]))] t.heap ∧ va_K (dC, dI) cls9 [(u.2.2.2.2.2.1, .int), (u.2.2.2.2.2.2, .boolean)] t ∧ va_D A [(h0, .inr (0, [.int (kw w), .ref u.1, .ref u.2.1, .ref u.2.2.1, .ref u.2.2.2.1, .ref u.2.2.2.2.1, .int 0, .int 0, .int 0])), (u.1, .inl (u.2.2.2.2.2.1, 256, .inl (fun _ => 0))), (u.2.1, .inl (u.2.2.2.2.2.1, 256, .inl (fun _ => 0))), (u.2.2.1, .inl (u.2.2.2.2.2.2, 256, .inl (fun _ => 0))), (u.2.2.2.1, .inl (u.2.2.2.2.2.1, 64, .inl (fun _ => 0))), (u.2.2.2.2.1, .inr (3, [.int 0, .ref t0, .int 0]))]) A) args s 5 835 A = Q
  replace hQ := hQ.symm
  refine lv_aload_n hx hb d_S_init_0 rfl (lv_at hl 0 rfl) ?_
  refine W.objInit hx hb hown (hts _ tw_20) (hts _ tw_21) (hts _ tw_22) rfl (by rw [hml]; exact hl.1) rfl d_S_init_1 (by rw [← hR]; exact Nat.le_of_ble_eq_true rfl) (by rw [← hR]; exact Nat.le_of_ble_eq_true rfl) ?_
  refine W.eq (g2 := F0 m 4 ls []) rfl ?_
  refine lv_aload_n hx hb d_S_init_4 rfl (lv_at hl 0 rfl) ?_
  refine lv_iconst (v := 1) hx hb d_S_init_5 (by decide) ?_
  refine lv_bipush (v := 64) hx hb d_S_init_6 (by decide) ?_
  refine lv_iload_n hx hb d_S_init_8 rfl (lv_at hl 1 rfl) ?_
  refine va_mmin hx hb (hml.trans hl.1.symm) hown (hts _ tw_23) (hts _ tw_24) (hts _ tw_2) (hts _ tw_25) (by rw [← hR]; exact Nat.le_of_ble_eq_true rfl) (by rw [← hR]; exact Nat.le_of_ble_eq_true rfl) (Nat.zero_le _) (Nat.zero_le _) d_S_init_9 ?_
  refine va_mmax hx hb (hml.trans hl.1.symm) hown (hts _ tw_26) (hts _ tw_27) (hts _ tw_2) (hts _ tw_28) (by rw [← hR]; exact Nat.le_of_ble_eq_true rfl) (by rw [← hR]; exact Nat.le_of_ble_eq_true rfl) (Nat.zero_le _) (Nat.zero_le _) d_S_init_12 ?_
  show W p l e R s m args below meth c _ _ 0 0 Q (F0 m 15 ls [.int (kw w), .ref h0])
  refine va_putF (D := (dC, dI)) (ci := 0) (v := .int (kw w)) (ty := .int) (C := R_S) (T := F_S) (N := 9) hx hb hts in_S tf_S tok_S n_S hown hK hP hD hS 0 rfl rfl 0 (by decide) (hts _ tw_57) (fun _ h9 => h9) rfl hin rfl (by decide +kernel) (by rfl) (by rfl) (Nat.le_of_ble_eq_true rfl) d_S_init_15 (fun H locs hP hD hS => ?_)
  have hP : va_P (dC, dI) cls9 [(h0, .inr (0, [.int (kw w), .null, .null, .null, .null, .null, .int 0, .int 0, .int 0]))] H := hP
  have hD : va_D A [(h0, .inr (0, [.int (kw w), .null, .null, .null, .null, .null, .int 0, .int 0, .int 0]))] := hD
  refine lv_aload_n hx hb d_S_init_18 rfl (lv_at hl 0 rfl) ?_
  refine lv_sipush (v := 256) hx hb d_S_init_19 (by decide) ?_
  refine va_newa (atype := .int) (ty := .int) (N' := 256) (a0 := (256, .inl (fun _ => 0))) hx hb (hts _ tw_55) rfl hK hP hD hS hA (fun _ => rfl) (by decide) (by decide) (by decide) (by rw [← hR]; show 0 + 1 ≤ 5; decide) (by rw [← hR]; show 0 + 256 ≤ 835; decide) d_S_init_22 (fun q22 c22 H hK hP hD hS => ?_)
  have hP : va_P (dC, dI) cls9 [(h0, .inr (0, [.int (kw w), .null, .null, .null, .null, .null, .int 0, .int 0, .int 0])), (q22, .inl (c22, 256, .inl (fun _ => 0)))] H := hP
  have hD : va_D A [(h0, .inr (0, [.int (kw w), .null, .null, .null, .null, .null, .int 0, .int 0, .int 0])), (q22, .inl (c22, 256, .inl (fun _ => 0)))] := hD
  have hK : va_K (dC, dI) cls9 [(c22, .int)] s := hK
  refine va_putF (D := (dC, dI)) (ci := 0) (v := .ref q22) (ty := (.array .int)) (C := R_S) (T := F_S) (N := 9) hx hb hts in_S tf_S tok_S n_S hown hK hP hD hS 0 rfl rfl 1 (by decide) (hts _ tw_58) (fun _ h9 => h9) rfl hin rfl (by decide +kernel) (by rfl) (by rfl) (Nat.le_of_ble_eq_true rfl) d_S_init_24 (fun H locs hP hD hS => ?_)
  have hP : va_P (dC, dI) cls9 [(h0, .inr (0, [.int (kw w), .ref q22, .null, .null, .null, .null, .int 0, .int 0, .int 0])), (q22, .inl (c22, 256, .inl (fun _ => 0)))] H := hP
  have hD : va_D A [(h0, .inr (0, [.int (kw w), .ref q22, .null, .null, .null, .null, .int 0, .int 0, .int 0])), (q22, .inl (c22, 256, .inl (fun _ => 0)))] := hD
  refine lv_aload_n hx hb d_S_init_27 rfl (lv_at hl 0 rfl) ?_
  refine lv_sipush (v := 256) hx hb d_S_init_28 (by decide) ?_
  refine va_newa (atype := .int) (ty := .int) (N' := 256) (a0 := (256, .inl (fun _ => 0))) hx hb (hts _ tw_55) rfl hK hP hD hS hA (fun _ => rfl) (by decide) (by decide) (by decide) (by rw [← hR]; show (0 + 1) + 1 ≤ 5; decide) (by rw [← hR]; show (0 + 256) + 256 ≤ 835; decide) d_S_init_31 (fun q31 c31 H hK hP hD hS => ?_)
  have hP : va_P (dC, dI) cls9 [(h0, .inr (0, [.int (kw w), .ref q22, .null, .null, .null, .null, .int 0, .int 0, .int 0])), (q22, .inl (c22, 256, .inl (fun _ => 0))), (q31, .inl (c31, 256, .inl (fun _ => 0)))] H := hP
  have hD : va_D A [(h0, .inr (0, [.int (kw w), .ref q22, .null, .null, .null, .null, .int 0, .int 0, .int 0])), (q22, .inl (c22, 256, .inl (fun _ => 0))), (q31, .inl (c31, 256, .inl (fun _ => 0)))] := hD
  have hK : va_K (dC, dI) cls9 [(c22, .int), (c31, .int)] s := hK
  refine va_putF (D := (dC, dI)) (ci := 0) (v := .ref q31) (ty := (.array .int)) (C := R_S) (T := F_S) (N := 9) hx hb hts in_S tf_S tok_S n_S hown hK hP hD hS 0 rfl rfl 2 (by decide) (hts _ tw_59) (fun _ h9 => h9) rfl hin rfl (by decide +kernel) (by rfl) (by rfl) (Nat.le_of_ble_eq_true rfl) d_S_init_33 (fun H locs hP hD hS => ?_)
  have hP : va_P (dC, dI) cls9 [(h0, .inr (0, [.int (kw w), .ref q22, .ref q31, .null, .null, .null, .int 0, .int 0, .int 0])), (q22, .inl (c22, 256, .inl (fun _ => 0))), (q31, .inl (c31, 256, .inl (fun _ => 0)))] H := hP
  have hD : va_D A [(h0, .inr (0, [.int (kw w), .ref q22, .ref q31, .null, .null, .null, .int 0, .int 0, .int 0])), (q22, .inl (c22, 256, .inl (fun _ => 0))), (q31, .inl (c31, 256, .inl (fun _ => 0)))] := hD
  refine lv_aload_n hx hb d_S_init_36 rfl (lv_at hl 0 rfl) ?_
  refine lv_sipush (v := 256) hx hb d_S_init_37 (by decide) ?_
  refine va_newa (atype := .boolean) (ty := .boolean) (N' := 256) (a0 := (256, .inl (fun _ => 0))) hx hb (hts _ tw_56) rfl hK hP hD hS hA (fun _ => rfl) (by decide) (by decide) (by decide) (by rw [← hR]; show ((0 + 1) + 1) + 1 ≤ 5; decide) (by rw [← hR]; show ((0 + 256) + 256) + 256 ≤ 835; decide) d_S_init_40 (fun q40 c40 H hK hP hD hS => ?_)
  have hP : va_P (dC, dI) cls9 [(h0, .inr (0, [.int (kw w), .ref q22, .ref q31, .null, .null, .null, .int 0, .int 0, .int 0])), (q22, .inl (c22, 256, .inl (fun _ => 0))), (q31, .inl (c31, 256, .inl (fun _ => 0))), (q40, .inl (c40, 256, .inl (fun _ => 0)))] H := hP
  have hD : va_D A [(h0, .inr (0, [.int (kw w), .ref q22, .ref q31, .null, .null, .null, .int 0, .int 0, .int 0])), (q22, .inl (c22, 256, .inl (fun _ => 0))), (q31, .inl (c31, 256, .inl (fun _ => 0))), (q40, .inl (c40, 256, .inl (fun _ => 0)))] := hD
  have hK : va_K (dC, dI) cls9 [(c22, .int), (c31, .int), (c40, .boolean)] s := hK
  refine va_putF (D := (dC, dI)) (ci := 0) (v := .ref q40) (ty := (.array .boolean)) (C := R_S) (T := F_S) (N := 9) hx hb hts in_S tf_S tok_S n_S hown hK hP hD hS 0 rfl rfl 3 (by decide) (hts _ tw_60) (fun _ h9 => h9) rfl hin rfl (by decide +kernel) (by rfl) (by rfl) (Nat.le_of_ble_eq_true rfl) d_S_init_42 (fun H locs hP hD hS => ?_)
  have hP : va_P (dC, dI) cls9 [(h0, .inr (0, [.int (kw w), .ref q22, .ref q31, .ref q40, .null, .null, .int 0, .int 0, .int 0])), (q22, .inl (c22, 256, .inl (fun _ => 0))), (q31, .inl (c31, 256, .inl (fun _ => 0))), (q40, .inl (c40, 256, .inl (fun _ => 0)))] H := hP
  have hD : va_D A [(h0, .inr (0, [.int (kw w), .ref q22, .ref q31, .ref q40, .null, .null, .int 0, .int 0, .int 0])), (q22, .inl (c22, 256, .inl (fun _ => 0))), (q31, .inl (c31, 256, .inl (fun _ => 0))), (q40, .inl (c40, 256, .inl (fun _ => 0)))] := hD
  refine lv_aload_n hx hb d_S_init_45 rfl (lv_at hl 0 rfl) ?_
  refine lv_bipush (v := 64) hx hb d_S_init_46 (by decide) ?_
  refine va_newa (atype := .int) (ty := .int) (N' := 64) (a0 := (64, .inl (fun _ => 0))) hx hb (hts _ tw_55) rfl hK hP hD hS hA (fun _ => rfl) (by decide) (by decide) (by decide) (by rw [← hR]; show (((0 + 1) + 1) + 1) + 1 ≤ 5; decide) (by rw [← hR]; show (((0 + 256) + 256) + 256) + 64 ≤ 835; decide) d_S_init_48 (fun q48 c48 H hK hP hD hS => ?_)
  have hP : va_P (dC, dI) cls9 [(h0, .inr (0, [.int (kw w), .ref q22, .ref q31, .ref q40, .null, .null, .int 0, .int 0, .int 0])), (q22, .inl (c22, 256, .inl (fun _ => 0))), (q31, .inl (c31, 256, .inl (fun _ => 0))), (q40, .inl (c40, 256, .inl (fun _ => 0))), (q48, .inl (c48, 64, .inl (fun _ => 0)))] H := hP
  have hD : va_D A [(h0, .inr (0, [.int (kw w), .ref q22, .ref q31, .ref q40, .null, .null, .int 0, .int 0, .int 0])), (q22, .inl (c22, 256, .inl (fun _ => 0))), (q31, .inl (c31, 256, .inl (fun _ => 0))), (q40, .inl (c40, 256, .inl (fun _ => 0))), (q48, .inl (c48, 64, .inl (fun _ => 0)))] := hD
  have hK : va_K (dC, dI) cls9 [(c22, .int), (c31, .int), (c40, .boolean), (c48, .int)] s := hK
  refine va_putF (D := (dC, dI)) (ci := 0) (v := .ref q48) (ty := (.array .int)) (C := R_S) (T := F_S) (N := 9) hx hb hts in_S tf_S tok_S n_S hown hK hP hD hS 0 rfl rfl 4 (by decide) (hts _ tw_61) (fun _ h9 => h9) rfl hin rfl (by decide +kernel) (by rfl) (by rfl) (Nat.le_of_ble_eq_true rfl) d_S_init_50 (fun H locs hP hD hS => ?_)
  have hP : va_P (dC, dI) cls9 [(h0, .inr (0, [.int (kw w), .ref q22, .ref q31, .ref q40, .ref q48, .null, .int 0, .int 0, .int 0])), (q22, .inl (c22, 256, .inl (fun _ => 0))), (q31, .inl (c31, 256, .inl (fun _ => 0))), (q40, .inl (c40, 256, .inl (fun _ => 0))), (q48, .inl (c48, 64, .inl (fun _ => 0)))] H := hP
  have hD : va_D A [(h0, .inr (0, [.int (kw w), .ref q22, .ref q31, .ref q40, .ref q48, .null, .int 0, .int 0, .int 0])), (q22, .inl (c22, 256, .inl (fun _ => 0))), (q31, .inl (c31, 256, .inl (fun _ => 0))), (q40, .inl (c40, 256, .inl (fun _ => 0))), (q48, .inl (c48, 64, .inl (fun _ => 0)))] := hD
  refine lv_aload_n hx hb d_S_init_53 rfl (lv_at hl 0 rfl) ?_
  refine va_new (ci := 3) (fs := [.int 0, .null, .int 0]) (C := R_T) (T := F_T) (N := 3) hx hb hts in_T tf_T tok_T hown (hts _ tw_29) (hts _ tw_30) (hts _ tw_5) hK hP hD hS hA rfl (fun j hj => by rcases (show j = 0 ∨ j = 1 ∨ j = 2 by omega) with rfl | rfl | rfl <;> rfl) (by rw [← hR]; show ((((0 + 1) + 1) + 1) + 1) + 1 ≤ 5; decide) (by rw [← hR]; show ((((0 + 256) + 256) + 256) + 64) + 3 ≤ 835; decide) d_S_init_54 (fun ql H hP hD hS => ?_)
  have hP : va_P (dC, dI) cls9 [(h0, .inr (0, [.int (kw w), .ref q22, .ref q31, .ref q40, .ref q48, .null, .int 0, .int 0, .int 0])), (q22, .inl (c22, 256, .inl (fun _ => 0))), (q31, .inl (c31, 256, .inl (fun _ => 0))), (q40, .inl (c40, 256, .inl (fun _ => 0))), (q48, .inl (c48, 64, .inl (fun _ => 0))), (ql, .inr (3, [.int 0, .null, .int 0]))] H := hP
  have hD : va_D A [(h0, .inr (0, [.int (kw w), .ref q22, .ref q31, .ref q40, .ref q48, .null, .int 0, .int 0, .int 0])), (q22, .inl (c22, 256, .inl (fun _ => 0))), (q31, .inl (c31, 256, .inl (fun _ => 0))), (q40, .inl (c40, 256, .inl (fun _ => 0))), (q48, .inl (c48, 64, .inl (fun _ => 0))), (ql, .inr (3, [.int 0, .null, .int 0]))] := hD
  refine lv_dup hx hb d_S_init_57 rfl ?_
  refine jw_v (S := Unit) (X := [(h0, .inr (0, [.int (kw w), .ref q22, .ref q31, .ref q40, .ref q48, .null, .int 0, .int 0, .int 0])), (q22, .inl (c22, 256, .inl (fun _ => 0))), (q31, .inl (c31, 256, .inl (fun _ => 0))), (q40, .inl (c40, 256, .inl (fun _ => 0))), (q48, .inl (c48, 64, .inl (fun _ => 0)))]) (W0 := [(ql, .inr (3, [.int 0, .null, .int 0]))]) (pw := fun _ => [(ql, .inr (3, [.int 0, .ref t0, .int 0]))]) (pt := fun _ => []) (va_runI (g := F0 m 58 ls [.ref ql, .ref ql, .ref h0]) (As := []) (rest := [.ref ql, .ref h0]) ⟨hx, hb, hml, hown, hts⟩ (c_listInit l dC dI ql t0 mi _) (cwI 0 hts (gi_c tw_33) rfl rfl rfl (hts _ tw_5) (hts _ tw_31) (hts _ tw_32) rfl (by decide +kernel) ⟨(by rw [← hR]; exact Nat.le_of_ble_eq_true rfl), (by rw [← hR]; exact Nat.le_of_ble_eq_true rfl)⟩) ⟨az_blind, az_pre (hP.sub [5] rfl) (hK.sub [] rfl) (hD.sub [5] (by decide) rfl) hxk hxz hS (jw_free (X := [(h0, .inr (0, [.int (kw w), .ref q22, .ref q31, .ref q40, .ref q48, .null, .int 0, .int 0, .int 0])), (q22, .inl (c22, 256, .inl (fun _ => 0))), (q31, .inl (c31, 256, .inl (fun _ => 0))), (q40, .inl (c40, 256, .inl (fun _ => 0))), (q48, .inl (c48, 64, .inl (fun _ => 0)))]) hD hS hA)⟩ rfl rfl hl.1 rfl (lv_room (Nat.le_of_ble_eq_true rfl)) d_S_init_58 (by rw [← hR]; exact ⟨by decide, by decide⟩)) hP hD hS hA (fun _ H locs _ _ hP hD hS => ?_)
  have hP : va_P (dC, dI) cls9 [(h0, .inr (0, [.int (kw w), .ref q22, .ref q31, .ref q40, .ref q48, .null, .int 0, .int 0, .int 0])), (q22, .inl (c22, 256, .inl (fun _ => 0))), (q31, .inl (c31, 256, .inl (fun _ => 0))), (q40, .inl (c40, 256, .inl (fun _ => 0))), (q48, .inl (c48, 64, .inl (fun _ => 0))), (ql, .inr (3, [.int 0, .ref t0, .int 0]))] H := hP
  have hD : va_D A [(h0, .inr (0, [.int (kw w), .ref q22, .ref q31, .ref q40, .ref q48, .null, .int 0, .int 0, .int 0])), (q22, .inl (c22, 256, .inl (fun _ => 0))), (q31, .inl (c31, 256, .inl (fun _ => 0))), (q40, .inl (c40, 256, .inl (fun _ => 0))), (q48, .inl (c48, 64, .inl (fun _ => 0))), (ql, .inr (3, [.int 0, .ref t0, .int 0]))] := hD
  refine va_putF (D := (dC, dI)) (ci := 0) (v := .ref ql) (ty := (.object "java/util/ArrayList")) (C := R_S) (T := F_S) (N := 9) hx hb hts in_S tf_S tok_S n_S hown hK hP hD hS 0 rfl rfl 5 (by decide) (hts _ tw_62) (fun _ h9 => h9) rfl hin rfl (by decide +kernel) (by rfl) (by rfl) (Nat.le_of_ble_eq_true rfl) d_S_init_61 (fun H locs hP hD hS => ?_)
  have hP : va_P (dC, dI) cls9 [(h0, .inr (0, [.int (kw w), .ref q22, .ref q31, .ref q40, .ref q48, .ref ql, .int 0, .int 0, .int 0])), (q22, .inl (c22, 256, .inl (fun _ => 0))), (q31, .inl (c31, 256, .inl (fun _ => 0))), (q40, .inl (c40, 256, .inl (fun _ => 0))), (q48, .inl (c48, 64, .inl (fun _ => 0))), (ql, .inr (3, [.int 0, .ref t0, .int 0]))] H := hP
  have hD : va_D A [(h0, .inr (0, [.int (kw w), .ref q22, .ref q31, .ref q40, .ref q48, .ref ql, .int 0, .int 0, .int 0])), (q22, .inl (c22, 256, .inl (fun _ => 0))), (q31, .inl (c31, 256, .inl (fun _ => 0))), (q40, .inl (c40, 256, .inl (fun _ => 0))), (q48, .inl (c48, 64, .inl (fun _ => 0))), (ql, .inr (3, [.int 0, .ref t0, .int 0]))] := hD
  refine W.widen (k := 5) (n := 835) (by first | exact Nat.le_refl _ | omega | (show ((((((0 + 1) + 1) + 1) + 1) + 1) + 0) ≤ 5; omega)) (by first | exact Nat.le_refl _ | omega | (show ((((((0 + 256) + 256) + 256) + 64) + 3) + 0) ≤ 835; omega)) ?_
  rw [hQ]
  have e31 := (vk_sameI hK 0 1 rfl rfl).symm
  have e48 := (vk_sameI hK 0 3 rfl rfl).symm
  subst e31
  subst e48
  exact W.vret hx hb hr (fun t ht hW => ⟨⟨(q22, q31, q40, q48, ql, c22, c40), rfl, trivial, by rw [ht]; exact hP, va_K.moved hW.alike (hK.sub [0, 2] rfl), hD⟩, hS.F ht⟩) hS.2.2 d_S_init_64
def mw (w : Int32) : Int32 := if 1 ≤ w then (if w ≤ 64 then w else 64) else 1
set_option maxHeartbeats 4000000 in
set_option maxRecDepth 100000 in
theorem c_modInit (l : Launch) (dC : Nat → ClassId) (dI : Nat → Nat → Nat) (h0 : Nat) (w : Int32)  : ∀ sz : Nat, Met l y_M_init w_M_init { frames := 1, cells := 6, slots := 1036, locals := 32 } (va_Pc [.ref h0, .int w] (fun U => U.heap.size = sz ∧ va_P (dC, dI) cls9 [(h0, .inr (2, [.int 0, .null, .null, .null, .null, .int 0, .int 0, .int 0, .int 0, .null, .null]))] U.heap ∧ va_K (dC, dI) cls9 [] U ∧ va_D (fun _ => True) [(h0, .inr (2, [.int 0, .null, .null, .null, .null, .int 0, .int 0, .int 0, .int 0, .null, .null]))])) (va_Qv (fun (_ : Nat × Nat × Nat × Nat × Nat × Nat × ClassId × ClassId × ClassId) => True) (fun u t => va_P (dC, dI) cls9 [(h0, .inr (2, [.int (mw w), .ref u.1, .ref u.2.1, .ref u.2.2.1, .ref u.2.2.2.1, .int 0, .int 0, .int 0, .int 0, .ref u.2.2.2.2.1, .ref u.2.2.2.2.2.1])), (u.1, .inl (u.2.2.2.2.2.2.1, 256, .inr (.inl (fun _ => 0)))), (u.2.1, .inl (u.2.2.2.2.2.2.1, 256, .inr (.inl (fun _ => 0)))), (u.2.2.1, .inl (u.2.2.2.2.2.2.2.1, 256, .inl (fun _ => 0))), (u.2.2.2.1, .inl (u.2.2.2.2.2.2.2.2, 256, .inl (fun _ => 0))), (u.2.2.2.2.1, .inl (u.2.2.2.2.2.2.1, 6, .inr (.inl (fun _ => 0)))), (u.2.2.2.2.2.1, .inl (u.2.2.2.2.2.2.1, 6, .inr (.inl (fun _ => 0))))] t.heap ∧ va_K (dC, dI) cls9 [(u.2.2.2.2.2.2.1, .long), (u.2.2.2.2.2.2.2.1, .boolean), (u.2.2.2.2.2.2.2.2, .int)] t ∧ va_D (va_A [(h0, .inr (2, [.int 0, .null, .null, .null, .null, .int 0, .int 0, .int 0, .int 0, .null, .null]))] sz) [(h0, .inr (2, [.int (mw w), .ref u.1, .ref u.2.1, .ref u.2.2.1, .ref u.2.2.2.1, .int 0, .int 0, .int 0, .int 0, .ref u.2.2.2.2.1, .ref u.2.2.2.2.2.1])), (u.1, .inl (u.2.2.2.2.2.2.1, 256, .inr (.inl (fun _ => 0)))), (u.2.1, .inl (u.2.2.2.2.2.2.1, 256, .inr (.inl (fun _ => 0)))), (u.2.2.1, .inl (u.2.2.2.2.2.2.2.1, 256, .inl (fun _ => 0))), (u.2.2.2.1, .inl (u.2.2.2.2.2.2.2.2, 256, .inl (fun _ => 0))), (u.2.2.2.2.1, .inl (u.2.2.2.2.2.2.1, 6, .inr (.inl (fun _ => 0)))), (u.2.2.2.2.2.1, .inl (u.2.2.2.2.2.2.1, 6, .inr (.inl (fun _ => 0))))]) (va_A [(h0, .inr (2, [.int 0, .null, .null, .null, .null, .int 0, .int 0, .int 0, .int 0, .null, .null]))] sz)) 6 1036 (va_A [(h0, .inr (2, [.int 0, .null, .null, .null, .null, .int 0, .int 0, .int 0, .int 0, .null, .null]))] sz) := by
  intro sz
  refine Met.ofW (cc := b_M_init) (maxL := 2) (ret := none) (by decide) rfl ?_
  intro p e s m args below meth c s₁ B hml hv
  obtain ⟨hargs, hsz, hP, hK, hD0⟩ := hv
  have hx := B.exec
  have hb := B.bytes
  have hr := B.returns
  have hts : ∀ w ∈ lw_w, w.before args s = true := fun w h => atoms_spec (ws := w_M_init) B.pre w (List.mem_cons_of_mem _ h)
  have hown : s.vm.findClass R_M = some m.cls := findClass_of_methodNamed B.named
  have hlocks := B.notSynchronized
  have hin : meth.name = "<init>" := (name_of_methodNamed B.named B.method).1
  subst hsz
  have hD := hD0.self (sz := s.heap.size)
  generalize hR : (headSpec w_M_init { frames := 1, cells := 6, slots := 1036, locals := 32 }).room = R
  generalize hAe : va_A [(h0, .inr (2, [.int 0, .null, .null, .null, .null, .int 0, .int 0, .int 0, .int 0, .null, .null]))] s.heap.size = A at hD ⊢
  have hA : ∀ q : Nat, s.heap.size ≤ q → A q := fun q h => by rw [← hAe]; exact Or.inr h
  have hS : va_S A s.heap s.heap [] := va_S.rf
  have hl := lv_entry [.ref h0, .int w] (n := 2) (Nat.le_of_ble_eq_true rfl)
  have hent : entryFrame m args 2 = F0 m 0 (lg_sl [.ref h0, .int w] ++ List.replicate (2 - (lg_sl [.ref h0, .int w]).length) Slot.unset).toArray [] := by rw [hargs]; exact lg_entry_eq m [.ref h0, .int w] 2
  rw [hent]
  clear hent
  generalize (lg_sl [.ref h0, .int w] ++ List.replicate (2 - (lg_sl [.ref h0, .int w]).length) Slot.unset).toArray = ls at hl ⊢
  have hl : lv_has ls 2 [(0, .ref h0), (1, .int w)] := hl
  have hP : va_P (dC, dI) cls9 [(h0, .inr (2, [.int 0, .null, .null, .null, .null, .int 0, .int 0, .int 0, .int 0, .null, .null]))] s.heap := hP
  have hD : va_D A [(h0, .inr (2, [.int 0, .null, .null, .null, .null, .int 0, .int 0, .int 0, .int 0, .null, .null]))] := hD
  generalize hQ : MQ below (va_Qv (fun (_ : Nat × Nat × Nat × Nat × Nat × Nat × ClassId × ClassId × ClassId) => True) (fun u t => va_P (dC, dI) cls9 [(h0, .inr (2, [.int (mw w), .ref u.1, .ref u.2.1, .ref u.2.2.1, .ref u.2.2.2.1, .int 0, .int 0, .int 0, .int 0, .ref u.2.2.2.2.1, .ref u.2.2.2.2.2.1])), (u.1, .inl (u.2.2.2.2.2.2.1, 256, .inr (.inl (fun _ => 0)))), (u.2.1, .inl (u.2.2.2.2.2.2.1, 256, .inr (.inl (fun _ => 0)))), (u.2.2.1, .inl (u.2.2.2.2.2.2.2.1, 256, .inl (fun _ => 0))), (u.2.2.2.1, .inl (u.2.2.2.2.2.2.2.2, 256, .inl (fun _ => 0))), (u.2.2.2.2.1, .inl (u.2.2.2.2.2.2.1, 6, .inr (.inl (fun _ => 0)))), (u.2.2.2.2.2.1, .inl (u.2.2.2.2.2.2.1, 6, .inr (.inl (fun _ => 0))))] t.heap ∧ va_K (dC, dI) cls9 [(u.2.2.2.2.2.2.1, .long), (u.2.2.2.2.2.2.2.1, .boolean), (u.2.2.2.2.2.2.2.2, .int)] t ∧ va_D A [(h0, .inr (2, [.int (mw w), .ref u.1, .ref u.2.1, .ref u.2.2.1, .ref u.2.2.2.1, .int 0, .int 0, .int 0, .int 0, .ref u.2.2.2.2.1, .ref u.2.2.2.2.2.1])), (u.1, .inl (u.2.2.2.2.2.2.1, 256, .inr (.inl (fun _ => 0)))), (u.2.1, .inl (u.2.2.2.2.2.2.1, 256, .inr (.inl (fun _ => 0)))), (u.2.2.1, .inl (u.2.2.2.2.2.2.2.1, 256, .inl (fun _ => 0))), (u.2.2.2.1, .inl (u.2.2.2.2.2.2.2.2, 256, .inl (fun _ => 0))), (u.2.2.2.2.1, .inl (u.2.2.2.2.2.2.1, 6, .inr (.inl (fun _ => 0)))), (u.2.2.2.2.2.1, .inl (u.2.2.2.2.2.2.1, 6, .inr (.inl (fun _ => 0))))]) A) args s 6 1036 A = Q
  replace hQ := hQ.symm
  refine lv_aload_n hx hb d_M_init_0 rfl (lv_at hl 0 rfl) ?_
  refine W.objInit hx hb hown (hts _ tw_278) (hts _ tw_21) (hts _ tw_22) rfl (by rw [hml]; exact hl.1) rfl d_M_init_1 (by rw [← hR]; exact Nat.le_of_ble_eq_true rfl) (by rw [← hR]; exact Nat.le_of_ble_eq_true rfl) ?_
  refine W.eq (g2 := F0 m 4 ls []) rfl ?_
  refine lv_aload_n hx hb d_M_init_4 rfl (lv_at hl 0 rfl) ?_
  refine lv_sipush (v := 256) hx hb d_M_init_5 (by decide) ?_
  refine va_newa (atype := .long) (ty := .long) (N' := 256) (a0 := (256, .inr (.inl (fun _ => 0)))) hx hb (hts _ tw_313) rfl hK hP hD hS hA (fun _ => rfl) (by decide) (by decide) (by decide) (by rw [← hR]; show 0 + 1 ≤ 6; decide) (by rw [← hR]; show 0 + 256 ≤ 1036; decide) d_M_init_8 (fun q8 c8 H hK hP hD hS => ?_)
  have hP : va_P (dC, dI) cls9 [(h0, .inr (2, [.int 0, .null, .null, .null, .null, .int 0, .int 0, .int 0, .int 0, .null, .null])), (q8, .inl (c8, 256, .inr (.inl (fun _ => 0))))] H := hP
  have hD : va_D A [(h0, .inr (2, [.int 0, .null, .null, .null, .null, .int 0, .int 0, .int 0, .int 0, .null, .null])), (q8, .inl (c8, 256, .inr (.inl (fun _ => 0))))] := hD
  have hK : va_K (dC, dI) cls9 [(c8, .long)] s := hK
  refine va_putF (D := (dC, dI)) (ci := 2) (v := .ref q8) (ty := (.array .long)) (C := R_M) (T := F_M) (N := 11) hx hb hts in_M tf_M tok_M n_M hown hK hP hD hS 0 rfl rfl 1 (by decide) (hts _ tw_280) (fun _ h9 => h9) rfl hin rfl (by decide +kernel) (by rfl) (by rfl) (Nat.le_of_ble_eq_true rfl) d_M_init_10 (fun H locs hP hD hS => ?_)
  have hP : va_P (dC, dI) cls9 [(h0, .inr (2, [.int 0, .ref q8, .null, .null, .null, .int 0, .int 0, .int 0, .int 0, .null, .null])), (q8, .inl (c8, 256, .inr (.inl (fun _ => 0))))] H := hP
  have hD : va_D A [(h0, .inr (2, [.int 0, .ref q8, .null, .null, .null, .int 0, .int 0, .int 0, .int 0, .null, .null])), (q8, .inl (c8, 256, .inr (.inl (fun _ => 0))))] := hD
  refine lv_aload_n hx hb d_M_init_13 rfl (lv_at hl 0 rfl) ?_
  refine lv_sipush (v := 256) hx hb d_M_init_14 (by decide) ?_
  refine va_newa (atype := .long) (ty := .long) (N' := 256) (a0 := (256, .inr (.inl (fun _ => 0)))) hx hb (hts _ tw_313) rfl hK hP hD hS hA (fun _ => rfl) (by decide) (by decide) (by decide) (by rw [← hR]; show (0 + 1) + 1 ≤ 6; decide) (by rw [← hR]; show (0 + 256) + 256 ≤ 1036; decide) d_M_init_17 (fun q17 c17 H hK hP hD hS => ?_)
  have hP : va_P (dC, dI) cls9 [(h0, .inr (2, [.int 0, .ref q8, .null, .null, .null, .int 0, .int 0, .int 0, .int 0, .null, .null])), (q8, .inl (c8, 256, .inr (.inl (fun _ => 0)))), (q17, .inl (c17, 256, .inr (.inl (fun _ => 0))))] H := hP
  have hD : va_D A [(h0, .inr (2, [.int 0, .ref q8, .null, .null, .null, .int 0, .int 0, .int 0, .int 0, .null, .null])), (q8, .inl (c8, 256, .inr (.inl (fun _ => 0)))), (q17, .inl (c17, 256, .inr (.inl (fun _ => 0))))] := hD
  have hK : va_K (dC, dI) cls9 [(c8, .long), (c17, .long)] s := hK
  refine va_putF (D := (dC, dI)) (ci := 2) (v := .ref q17) (ty := (.array .long)) (C := R_M) (T := F_M) (N := 11) hx hb hts in_M tf_M tok_M n_M hown hK hP hD hS 0 rfl rfl 2 (by decide) (hts _ tw_281) (fun _ h9 => h9) rfl hin rfl (by decide +kernel) (by rfl) (by rfl) (Nat.le_of_ble_eq_true rfl) d_M_init_19 (fun H locs hP hD hS => ?_)
  have hP : va_P (dC, dI) cls9 [(h0, .inr (2, [.int 0, .ref q8, .ref q17, .null, .null, .int 0, .int 0, .int 0, .int 0, .null, .null])), (q8, .inl (c8, 256, .inr (.inl (fun _ => 0)))), (q17, .inl (c17, 256, .inr (.inl (fun _ => 0))))] H := hP
  have hD : va_D A [(h0, .inr (2, [.int 0, .ref q8, .ref q17, .null, .null, .int 0, .int 0, .int 0, .int 0, .null, .null])), (q8, .inl (c8, 256, .inr (.inl (fun _ => 0)))), (q17, .inl (c17, 256, .inr (.inl (fun _ => 0))))] := hD
  refine lv_aload_n hx hb d_M_init_22 rfl (lv_at hl 0 rfl) ?_
  refine lv_sipush (v := 256) hx hb d_M_init_23 (by decide) ?_
  refine va_newa (atype := .boolean) (ty := .boolean) (N' := 256) (a0 := (256, .inl (fun _ => 0))) hx hb (hts _ tw_56) rfl hK hP hD hS hA (fun _ => rfl) (by decide) (by decide) (by decide) (by rw [← hR]; show ((0 + 1) + 1) + 1 ≤ 6; decide) (by rw [← hR]; show ((0 + 256) + 256) + 256 ≤ 1036; decide) d_M_init_26 (fun q26 c26 H hK hP hD hS => ?_)
  have hP : va_P (dC, dI) cls9 [(h0, .inr (2, [.int 0, .ref q8, .ref q17, .null, .null, .int 0, .int 0, .int 0, .int 0, .null, .null])), (q8, .inl (c8, 256, .inr (.inl (fun _ => 0)))), (q17, .inl (c17, 256, .inr (.inl (fun _ => 0)))), (q26, .inl (c26, 256, .inl (fun _ => 0)))] H := hP
  have hD : va_D A [(h0, .inr (2, [.int 0, .ref q8, .ref q17, .null, .null, .int 0, .int 0, .int 0, .int 0, .null, .null])), (q8, .inl (c8, 256, .inr (.inl (fun _ => 0)))), (q17, .inl (c17, 256, .inr (.inl (fun _ => 0)))), (q26, .inl (c26, 256, .inl (fun _ => 0)))] := hD
  have hK : va_K (dC, dI) cls9 [(c8, .long), (c17, .long), (c26, .boolean)] s := hK
  refine va_putF (D := (dC, dI)) (ci := 2) (v := .ref q26) (ty := (.array .boolean)) (C := R_M) (T := F_M) (N := 11) hx hb hts in_M tf_M tok_M n_M hown hK hP hD hS 0 rfl rfl 3 (by decide) (hts _ tw_282) (fun _ h9 => h9) rfl hin rfl (by decide +kernel) (by rfl) (by rfl) (Nat.le_of_ble_eq_true rfl) d_M_init_28 (fun H locs hP hD hS => ?_)
  have hP : va_P (dC, dI) cls9 [(h0, .inr (2, [.int 0, .ref q8, .ref q17, .ref q26, .null, .int 0, .int 0, .int 0, .int 0, .null, .null])), (q8, .inl (c8, 256, .inr (.inl (fun _ => 0)))), (q17, .inl (c17, 256, .inr (.inl (fun _ => 0)))), (q26, .inl (c26, 256, .inl (fun _ => 0)))] H := hP
  have hD : va_D A [(h0, .inr (2, [.int 0, .ref q8, .ref q17, .ref q26, .null, .int 0, .int 0, .int 0, .int 0, .null, .null])), (q8, .inl (c8, 256, .inr (.inl (fun _ => 0)))), (q17, .inl (c17, 256, .inr (.inl (fun _ => 0)))), (q26, .inl (c26, 256, .inl (fun _ => 0)))] := hD
  refine lv_aload_n hx hb d_M_init_31 rfl (lv_at hl 0 rfl) ?_
  refine lv_sipush (v := 256) hx hb d_M_init_32 (by decide) ?_
  refine va_newa (atype := .int) (ty := .int) (N' := 256) (a0 := (256, .inl (fun _ => 0))) hx hb (hts _ tw_55) rfl hK hP hD hS hA (fun _ => rfl) (by decide) (by decide) (by decide) (by rw [← hR]; show (((0 + 1) + 1) + 1) + 1 ≤ 6; decide) (by rw [← hR]; show (((0 + 256) + 256) + 256) + 256 ≤ 1036; decide) d_M_init_35 (fun q35 c35 H hK hP hD hS => ?_)
  have hP : va_P (dC, dI) cls9 [(h0, .inr (2, [.int 0, .ref q8, .ref q17, .ref q26, .null, .int 0, .int 0, .int 0, .int 0, .null, .null])), (q8, .inl (c8, 256, .inr (.inl (fun _ => 0)))), (q17, .inl (c17, 256, .inr (.inl (fun _ => 0)))), (q26, .inl (c26, 256, .inl (fun _ => 0))), (q35, .inl (c35, 256, .inl (fun _ => 0)))] H := hP
  have hD : va_D A [(h0, .inr (2, [.int 0, .ref q8, .ref q17, .ref q26, .null, .int 0, .int 0, .int 0, .int 0, .null, .null])), (q8, .inl (c8, 256, .inr (.inl (fun _ => 0)))), (q17, .inl (c17, 256, .inr (.inl (fun _ => 0)))), (q26, .inl (c26, 256, .inl (fun _ => 0))), (q35, .inl (c35, 256, .inl (fun _ => 0)))] := hD
  have hK : va_K (dC, dI) cls9 [(c8, .long), (c17, .long), (c26, .boolean), (c35, .int)] s := hK
  refine va_putF (D := (dC, dI)) (ci := 2) (v := .ref q35) (ty := (.array .int)) (C := R_M) (T := F_M) (N := 11) hx hb hts in_M tf_M tok_M n_M hown hK hP hD hS 0 rfl rfl 4 (by decide) (hts _ tw_283) (fun _ h9 => h9) rfl hin rfl (by decide +kernel) (by rfl) (by rfl) (Nat.le_of_ble_eq_true rfl) d_M_init_37 (fun H locs hP hD hS => ?_)
  have hP : va_P (dC, dI) cls9 [(h0, .inr (2, [.int 0, .ref q8, .ref q17, .ref q26, .ref q35, .int 0, .int 0, .int 0, .int 0, .null, .null])), (q8, .inl (c8, 256, .inr (.inl (fun _ => 0)))), (q17, .inl (c17, 256, .inr (.inl (fun _ => 0)))), (q26, .inl (c26, 256, .inl (fun _ => 0))), (q35, .inl (c35, 256, .inl (fun _ => 0)))] H := hP
  have hD : va_D A [(h0, .inr (2, [.int 0, .ref q8, .ref q17, .ref q26, .ref q35, .int 0, .int 0, .int 0, .int 0, .null, .null])), (q8, .inl (c8, 256, .inr (.inl (fun _ => 0)))), (q17, .inl (c17, 256, .inr (.inl (fun _ => 0)))), (q26, .inl (c26, 256, .inl (fun _ => 0))), (q35, .inl (c35, 256, .inl (fun _ => 0)))] := hD
  refine lv_aload_n hx hb d_M_init_40 rfl (lv_at hl 0 rfl) ?_
  refine lv_bipush (v := 6) hx hb d_M_init_41 (by decide) ?_
  refine va_newa (atype := .long) (ty := .long) (N' := 6) (a0 := (6, .inr (.inl (fun _ => 0)))) hx hb (hts _ tw_313) rfl hK hP hD hS hA (fun _ => rfl) (by decide) (by decide) (by decide) (by rw [← hR]; show ((((0 + 1) + 1) + 1) + 1) + 1 ≤ 6; decide) (by rw [← hR]; show ((((0 + 256) + 256) + 256) + 256) + 6 ≤ 1036; decide) d_M_init_43 (fun q43 c43 H hK hP hD hS => ?_)
  have hP : va_P (dC, dI) cls9 [(h0, .inr (2, [.int 0, .ref q8, .ref q17, .ref q26, .ref q35, .int 0, .int 0, .int 0, .int 0, .null, .null])), (q8, .inl (c8, 256, .inr (.inl (fun _ => 0)))), (q17, .inl (c17, 256, .inr (.inl (fun _ => 0)))), (q26, .inl (c26, 256, .inl (fun _ => 0))), (q35, .inl (c35, 256, .inl (fun _ => 0))), (q43, .inl (c43, 6, .inr (.inl (fun _ => 0))))] H := hP
  have hD : va_D A [(h0, .inr (2, [.int 0, .ref q8, .ref q17, .ref q26, .ref q35, .int 0, .int 0, .int 0, .int 0, .null, .null])), (q8, .inl (c8, 256, .inr (.inl (fun _ => 0)))), (q17, .inl (c17, 256, .inr (.inl (fun _ => 0)))), (q26, .inl (c26, 256, .inl (fun _ => 0))), (q35, .inl (c35, 256, .inl (fun _ => 0))), (q43, .inl (c43, 6, .inr (.inl (fun _ => 0))))] := hD
  have hK : va_K (dC, dI) cls9 [(c8, .long), (c17, .long), (c26, .boolean), (c35, .int), (c43, .long)] s := hK
  refine va_putF (D := (dC, dI)) (ci := 2) (v := .ref q43) (ty := (.array .long)) (C := R_M) (T := F_M) (N := 11) hx hb hts in_M tf_M tok_M n_M hown hK hP hD hS 0 rfl rfl 9 (by decide) (hts _ tw_288) (fun _ h9 => h9) rfl hin rfl (by decide +kernel) (by rfl) (by rfl) (Nat.le_of_ble_eq_true rfl) d_M_init_45 (fun H locs hP hD hS => ?_)
  have hP : va_P (dC, dI) cls9 [(h0, .inr (2, [.int 0, .ref q8, .ref q17, .ref q26, .ref q35, .int 0, .int 0, .int 0, .int 0, .ref q43, .null])), (q8, .inl (c8, 256, .inr (.inl (fun _ => 0)))), (q17, .inl (c17, 256, .inr (.inl (fun _ => 0)))), (q26, .inl (c26, 256, .inl (fun _ => 0))), (q35, .inl (c35, 256, .inl (fun _ => 0))), (q43, .inl (c43, 6, .inr (.inl (fun _ => 0))))] H := hP
  have hD : va_D A [(h0, .inr (2, [.int 0, .ref q8, .ref q17, .ref q26, .ref q35, .int 0, .int 0, .int 0, .int 0, .ref q43, .null])), (q8, .inl (c8, 256, .inr (.inl (fun _ => 0)))), (q17, .inl (c17, 256, .inr (.inl (fun _ => 0)))), (q26, .inl (c26, 256, .inl (fun _ => 0))), (q35, .inl (c35, 256, .inl (fun _ => 0))), (q43, .inl (c43, 6, .inr (.inl (fun _ => 0))))] := hD
  refine lv_aload_n hx hb d_M_init_48 rfl (lv_at hl 0 rfl) ?_
  refine lv_bipush (v := 6) hx hb d_M_init_49 (by decide) ?_
  refine va_newa (atype := .long) (ty := .long) (N' := 6) (a0 := (6, .inr (.inl (fun _ => 0)))) hx hb (hts _ tw_313) rfl hK hP hD hS hA (fun _ => rfl) (by decide) (by decide) (by decide) (by rw [← hR]; show (((((0 + 1) + 1) + 1) + 1) + 1) + 1 ≤ 6; decide) (by rw [← hR]; show (((((0 + 256) + 256) + 256) + 256) + 6) + 6 ≤ 1036; decide) d_M_init_51 (fun q51 c51 H hK hP hD hS => ?_)
  have hP : va_P (dC, dI) cls9 [(h0, .inr (2, [.int 0, .ref q8, .ref q17, .ref q26, .ref q35, .int 0, .int 0, .int 0, .int 0, .ref q43, .null])), (q8, .inl (c8, 256, .inr (.inl (fun _ => 0)))), (q17, .inl (c17, 256, .inr (.inl (fun _ => 0)))), (q26, .inl (c26, 256, .inl (fun _ => 0))), (q35, .inl (c35, 256, .inl (fun _ => 0))), (q43, .inl (c43, 6, .inr (.inl (fun _ => 0)))), (q51, .inl (c51, 6, .inr (.inl (fun _ => 0))))] H := hP
  have hD : va_D A [(h0, .inr (2, [.int 0, .ref q8, .ref q17, .ref q26, .ref q35, .int 0, .int 0, .int 0, .int 0, .ref q43, .null])), (q8, .inl (c8, 256, .inr (.inl (fun _ => 0)))), (q17, .inl (c17, 256, .inr (.inl (fun _ => 0)))), (q26, .inl (c26, 256, .inl (fun _ => 0))), (q35, .inl (c35, 256, .inl (fun _ => 0))), (q43, .inl (c43, 6, .inr (.inl (fun _ => 0)))), (q51, .inl (c51, 6, .inr (.inl (fun _ => 0))))] := hD
  have hK : va_K (dC, dI) cls9 [(c8, .long), (c17, .long), (c26, .boolean), (c35, .int), (c43, .long), (c51, .long)] s := hK
  refine va_putF (D := (dC, dI)) (ci := 2) (v := .ref q51) (ty := (.array .long)) (C := R_M) (T := F_M) (N := 11) hx hb hts in_M tf_M tok_M n_M hown hK hP hD hS 0 rfl rfl 10 (by decide) (hts _ tw_289) (fun _ h9 => h9) rfl hin rfl (by decide +kernel) (by rfl) (by rfl) (Nat.le_of_ble_eq_true rfl) d_M_init_53 (fun H locs hP hD hS => ?_)
  have hP : va_P (dC, dI) cls9 [(h0, .inr (2, [.int 0, .ref q8, .ref q17, .ref q26, .ref q35, .int 0, .int 0, .int 0, .int 0, .ref q43, .ref q51])), (q8, .inl (c8, 256, .inr (.inl (fun _ => 0)))), (q17, .inl (c17, 256, .inr (.inl (fun _ => 0)))), (q26, .inl (c26, 256, .inl (fun _ => 0))), (q35, .inl (c35, 256, .inl (fun _ => 0))), (q43, .inl (c43, 6, .inr (.inl (fun _ => 0)))), (q51, .inl (c51, 6, .inr (.inl (fun _ => 0))))] H := hP
  have hD : va_D A [(h0, .inr (2, [.int 0, .ref q8, .ref q17, .ref q26, .ref q35, .int 0, .int 0, .int 0, .int 0, .ref q43, .ref q51])), (q8, .inl (c8, 256, .inr (.inl (fun _ => 0)))), (q17, .inl (c17, 256, .inr (.inl (fun _ => 0)))), (q26, .inl (c26, 256, .inl (fun _ => 0))), (q35, .inl (c35, 256, .inl (fun _ => 0))), (q43, .inl (c43, 6, .inr (.inl (fun _ => 0)))), (q51, .inl (c51, 6, .inr (.inl (fun _ => 0))))] := hD
  refine lv_aload_n hx hb d_M_init_56 rfl (lv_at hl 0 rfl) ?_
  have J78 : ∀ (ls : Array Slot) (H : Heap) (locs : List Loc), lv_has ls 2 [(0, .ref h0), (1, .int w)] → va_P (dC, dI) cls9 [(h0, .inr (2, [.int 0, .ref q8, .ref q17, .ref q26, .ref q35, .int 0, .int 0, .int 0, .int 0, .ref q43, .ref q51])), (q8, .inl (c8, 256, .inr (.inl (fun _ => 0)))), (q17, .inl (c17, 256, .inr (.inl (fun _ => 0)))), (q26, .inl (c26, 256, .inl (fun _ => 0))), (q35, .inl (c35, 256, .inl (fun _ => 0))), (q43, .inl (c43, 6, .inr (.inl (fun _ => 0)))), (q51, .inl (c51, 6, .inr (.inl (fun _ => 0))))] H → va_D A [(h0, .inr (2, [.int 0, .ref q8, .ref q17, .ref q26, .ref q35, .int 0, .int 0, .int 0, .int 0, .ref q43, .ref q51])), (q8, .inl (c8, 256, .inr (.inl (fun _ => 0)))), (q17, .inl (c17, 256, .inr (.inl (fun _ => 0)))), (q26, .inl (c26, 256, .inl (fun _ => 0))), (q35, .inl (c35, 256, .inl (fun _ => 0))), (q43, .inl (c43, 6, .inr (.inl (fun _ => 0)))), (q51, .inl (c51, 6, .inr (.inl (fun _ => 0))))] → va_S A s.heap H locs → W p l e R s m args below meth c H locs ((((((0 + 1) + 1) + 1) + 1) + 1) + 1) ((((((0 + 256) + 256) + 256) + 256) + 6) + 6) Q (F0 m 78 ls [.int (mw w), .ref h0]) := by
    intro ls H locs hl hP hD hS
    refine va_putF (D := (dC, dI)) (ci := 2) (v := .int (mw w)) (ty := .int) (C := R_M) (T := F_M) (N := 11) hx hb hts in_M tf_M tok_M n_M hown hK hP hD hS 0 rfl rfl 0 (by decide) (hts _ tw_279) (fun _ h9 => h9) rfl hin rfl (by decide +kernel) (by rfl) (by rfl) (Nat.le_of_ble_eq_true rfl) d_M_init_78 (fun H locs hP hD hS => ?_)
    have hP : va_P (dC, dI) cls9 [(h0, .inr (2, [.int (mw w), .ref q8, .ref q17, .ref q26, .ref q35, .int 0, .int 0, .int 0, .int 0, .ref q43, .ref q51])), (q8, .inl (c8, 256, .inr (.inl (fun _ => 0)))), (q17, .inl (c17, 256, .inr (.inl (fun _ => 0)))), (q26, .inl (c26, 256, .inl (fun _ => 0))), (q35, .inl (c35, 256, .inl (fun _ => 0))), (q43, .inl (c43, 6, .inr (.inl (fun _ => 0)))), (q51, .inl (c51, 6, .inr (.inl (fun _ => 0))))] H := hP
    have hD : va_D A [(h0, .inr (2, [.int (mw w), .ref q8, .ref q17, .ref q26, .ref q35, .int 0, .int 0, .int 0, .int 0, .ref q43, .ref q51])), (q8, .inl (c8, 256, .inr (.inl (fun _ => 0)))), (q17, .inl (c17, 256, .inr (.inl (fun _ => 0)))), (q26, .inl (c26, 256, .inl (fun _ => 0))), (q35, .inl (c35, 256, .inl (fun _ => 0))), (q43, .inl (c43, 6, .inr (.inl (fun _ => 0)))), (q51, .inl (c51, 6, .inr (.inl (fun _ => 0))))] := hD
    refine W.widen (k := 6) (n := 1036) (by first | exact Nat.le_refl _ | omega | (show ((((((0 + 1) + 1) + 1) + 1) + 1) + 1) ≤ 6; omega)) (by first | exact Nat.le_refl _ | omega | (show ((((((0 + 256) + 256) + 256) + 256) + 6) + 6) ≤ 1036; omega)) ?_
    rw [hQ]
    have e17 := (vk_sameJ hK 0 1 rfl rfl).symm
    have e43 := (vk_sameJ hK 0 4 rfl rfl).symm
    have e51 := (vk_sameJ hK 0 5 rfl rfl).symm
    subst e17
    subst e43
    subst e51
    exact W.vret hx hb hr (fun t ht hW => ⟨⟨(q8, q17, q26, q35, q43, q51, c8, c26, c35), rfl, trivial, by rw [ht]; exact hP, va_K.moved hW.alike (hK.sub [0, 2, 3] rfl), hD⟩, hS.F ht⟩) hS.2.2 d_M_init_81
  refine lv_iload_n hx hb d_M_init_57 rfl (lv_at hl 1 rfl) ?_
  refine lv_iconst (v := 1) hx hb d_M_init_58 (by decide) ?_
  refine lv_icmp_ge (tgt := 66) hx hb d_M_init_59 rfl (fun h => ?_) (fun h => ?_)
  · refine lv_iload_n hx hb d_M_init_66 rfl (lv_at hl 1 rfl) ?_
    refine lv_bipush (v := 64) hx hb d_M_init_67 (by decide) ?_
    refine lv_icmp_le (tgt := 77) hx hb d_M_init_69 rfl (fun h2 => ?_) (fun h2 => ?_)
    · refine lv_iload_n hx hb d_M_init_77 rfl (lv_at hl 1 rfl) ?_
      rw [show (F0 m 78 ls (.int w :: [.ref h0])) = F0 m 78 ls (.int (mw w) :: [.ref h0]) by unfold mw; rw [if_pos h, if_pos h2]]
      exact J78 ls _ _ hl hP hD hS
    · refine lv_bipush (v := 64) hx hb d_M_init_72 (by decide) ?_
      refine lv_goto (tgt := 78) hx hb d_M_init_74 rfl ?_
      rw [show (64 : Int32) = mw w by unfold mw; rw [if_pos h, if_neg h2]]
      exact J78 ls _ _ hl hP hD hS
  · refine lv_iconst (v := 1) hx hb d_M_init_62 (by decide) ?_
    refine lv_goto (tgt := 78) hx hb d_M_init_63 rfl ?_
    rw [show (1 : Int32) = mw w by unfold mw; rw [if_neg h]]
    exact J78 ls _ _ hl hP hD hS
