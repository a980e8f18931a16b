set_option maxRecDepth 20000 in
theorem in_S : ∀ w ∈ u_ws R_S F_S 9, w ∈ lw_w := by decide +kernel
set_option maxRecDepth 20000 in
theorem in_A : ∀ w ∈ u_ws R_A F_A 6, w ∈ lw_w := by decide +kernel
set_option maxRecDepth 20000 in
theorem in_M : ∀ w ∈ u_ws R_M F_M 11, w ∈ lw_w := by decide +kernel
set_option maxRecDepth 20000 in
theorem in_T : ∀ w ∈ u_ws R_T F_T 3, w ∈ lw_w := by decide +kernel
def jl_cmp (a : Int64) (b : Int64) : Int32 := (if 0 ≤ (lg_cmp a b) then (if (lg_cmp a b) = 0 then 0 else 1) else (-1))
set_option maxHeartbeats 4000000 in
set_option maxRecDepth 100000 in
theorem c_jl_cmp (l : Launch) (dC : Nat → ClassId) (dI : Nat → Nat → Nat) (a : Int64) (b : Int64) : pq_i l y_J_compare w_J_compare { frames := 0, cells := 0, slots := 0, locals := 0 } [.long a, .long b] (jl_cmp a b) := by
  intro sz
  refine Met.ofW (cc := b_J_compare) (maxL := 4) (ret := (some .int)) (by decide) rfl ?_
  intro p e s m args below meth c s₁ B hml hv
  obtain ⟨hargs, hsz⟩ := hv
  have hx := B.exec
  have hb := B.bytes
  have hr := B.returns
  have hts : ∀ w ∈ lw_w, w.before args s = true := fun w h => atoms_spec (ws := w_J_compare) B.pre w (List.mem_cons_of_mem _ h)
  have hown : s.vm.findClass R_J = some m.cls := findClass_of_methodNamed B.named
  have hlocks := B.notSynchronized
  subst hsz
  generalize hR : (headSpec w_J_compare { frames := 0, cells := 0, slots := 0, locals := 0 }).room = R
  generalize hAe : (fun q : Nat => s.heap.size ≤ q) = A
  have hA : ∀ q : Nat, s.heap.size ≤ q → A q := fun q h => by rw [← hAe]; exact h
  have hS : va_S A s.heap s.heap [] := va_S.rf
  have hP : va_P (dC, dI) cls9 [] s.heap := fun k q h => by cases h
  generalize hRES : jl_cmp a b = RES
  have hres := hRES
  replace hRES := hRES.symm
  have hl := lv_entry [.long a, .long b] (n := 4) (Nat.le_of_ble_eq_true rfl)
  have hent : entryFrame m args 4 = F0 m 0 (lg_sl [.long a, .long b] ++ List.replicate (4 - (lg_sl [.long a, .long b]).length) Slot.unset).toArray [] := by rw [hargs]; exact lg_entry_eq m [.long a, .long b] 4
  rw [hent]
  clear hent
  generalize (lg_sl [.long a, .long b] ++ List.replicate (4 - (lg_sl [.long a, .long b]).length) Slot.unset).toArray = ls at hl ⊢
  have hl : lv_has ls 4 [(0, .long a), (2, .long b)] := hl
  unfold jl_cmp at hres
  generalize hQ : MQ below (va_Qi (fun x (_ : Unit) => x = RES) (fun _ _ => True) A) args s 0 0 A = Q
  replace hQ := hQ.symm
  refine lv_lload_n hx hb d_J_compare_0 rfl (lv_at hl 0 rfl) ?_
  refine lv_lload_n hx hb d_J_compare_1 rfl (lv_at hl 1 rfl) ?_
  refine W.lcmp hx hb d_J_compare_2 ?_
  refine lv_if_ge (tgt := 10) hx hb d_J_compare_3 rfl (fun h3 => ?_) (fun h3 => ?_)
  · rw [if_pos h3] at hres
    refine lv_lload_n hx hb d_J_compare_10 rfl (lv_at hl 0 rfl) ?_
    refine lv_lload_n hx hb d_J_compare_11 rfl (lv_at hl 1 rfl) ?_
    refine W.lcmp hx hb d_J_compare_12 ?_
    refine lv_if_ne (tgt := 20) hx hb d_J_compare_13 rfl (fun h13 => ?_) (fun h13 => ?_)
    · rw [if_neg h13] at hres
      refine lv_iconst (v := 1) hx hb d_J_compare_20 (by decide) ?_
      rw [hQ]
      exact W.iret (v := 1) hx hb hr (fun t ht hW => ⟨⟨_, (), rfl, hres, trivial⟩, hS.F ht⟩) hS.2.2 d_J_compare_21
    · rw [if_pos h13] at hres
      refine lv_iconst (v := 0) hx hb d_J_compare_16 (by decide) ?_
      refine lv_goto (tgt := 21) hx hb d_J_compare_17 rfl ?_
      rw [hQ]
      exact W.iret (v := 0) hx hb hr (fun t ht hW => ⟨⟨_, (), rfl, hres, trivial⟩, hS.F ht⟩) hS.2.2 d_J_compare_21
  · rw [if_neg h3] at hres
    refine lv_iconst (v := (-1)) hx hb d_J_compare_6 (by decide) ?_
    refine lv_goto (tgt := 21) hx hb d_J_compare_7 rfl ?_
    rw [hQ]
    exact W.iret (v := (-1)) hx hb hr (fun t ht hW => ⟨⟨_, (), rfl, hres, trivial⟩, hS.F ht⟩) hS.2.2 d_J_compare_21
def ji_cmp (a : Int32) (b : Int32) : Int32 := (if b ≤ a then (if a = b then 0 else 1) else (-1))
set_option maxHeartbeats 4000000 in
set_option maxRecDepth 100000 in
theorem c_ji_cmp (l : Launch) (dC : Nat → ClassId) (dI : Nat → Nat → Nat) (a : Int32) (b : Int32) : pq_i l y_I_compare w_I_compare { frames := 0, cells := 0, slots := 0, locals := 0 } [.int a, .int b] (ji_cmp a b) := by
  intro sz
  refine Met.ofW (cc := b_I_compare) (maxL := 2) (ret := (some .int)) (by decide) rfl ?_
  intro p e s m args below meth c s₁ B hml hv
  obtain ⟨hargs, hsz⟩ := hv
  have hx := B.exec
  have hb := B.bytes
  have hr := B.returns
  have hts : ∀ w ∈ lw_w, w.before args s = true := fun w h => atoms_spec (ws := w_I_compare) B.pre w (List.mem_cons_of_mem _ h)
  have hown : s.vm.findClass R_I = some m.cls := findClass_of_methodNamed B.named
  have hlocks := B.notSynchronized
  subst hsz
  generalize hR : (headSpec w_I_compare { frames := 0, cells := 0, slots := 0, locals := 0 }).room = R
  generalize hAe : (fun q : Nat => s.heap.size ≤ q) = A
  have hA : ∀ q : Nat, s.heap.size ≤ q → A q := fun q h => by rw [← hAe]; exact h
  have hS : va_S A s.heap s.heap [] := va_S.rf
  have hP : va_P (dC, dI) cls9 [] s.heap := fun k q h => by cases h
  generalize hRES : ji_cmp a b = RES
  have hres := hRES
  replace hRES := hRES.symm
  have hl := lv_entry [.int a, .int b] (n := 2) (Nat.le_of_ble_eq_true rfl)
  have hent : entryFrame m args 2 = F0 m 0 (lg_sl [.int a, .int b] ++ List.replicate (2 - (lg_sl [.int a, .int b]).length) Slot.unset).toArray [] := by rw [hargs]; exact lg_entry_eq m [.int a, .int b] 2
  rw [hent]
  clear hent
  generalize (lg_sl [.int a, .int b] ++ List.replicate (2 - (lg_sl [.int a, .int b]).length) Slot.unset).toArray = ls at hl ⊢
  have hl : lv_has ls 2 [(0, .int a), (1, .int b)] := hl
  unfold ji_cmp at hres
  generalize hQ : MQ below (va_Qi (fun x (_ : Unit) => x = RES) (fun _ _ => True) A) args s 0 0 A = Q
  replace hQ := hQ.symm
  refine lv_iload_n hx hb d_I_compare_0 rfl (lv_at hl 0 rfl) ?_
  refine lv_iload_n hx hb d_I_compare_1 rfl (lv_at hl 1 rfl) ?_
  refine lv_icmp_ge (tgt := 9) hx hb d_I_compare_2 rfl (fun h2 => ?_) (fun h2 => ?_)
  · rw [if_pos h2] at hres
    refine lv_iload_n hx hb d_I_compare_9 rfl (lv_at hl 0 rfl) ?_
    refine lv_iload_n hx hb d_I_compare_10 rfl (lv_at hl 1 rfl) ?_
    refine lv_icmp_ne (tgt := 18) hx hb d_I_compare_11 rfl (fun h11 => ?_) (fun h11 => ?_)
    · rw [if_neg h11] at hres
      refine lv_iconst (v := 1) hx hb d_I_compare_18 (by decide) ?_
      rw [hQ]
      exact W.iret (v := 1) hx hb hr (fun t ht hW => ⟨⟨_, (), rfl, hres, trivial⟩, hS.F ht⟩) hS.2.2 d_I_compare_19
    · rw [if_pos h11] at hres
      refine lv_iconst (v := 0) hx hb d_I_compare_14 (by decide) ?_
      refine lv_goto (tgt := 19) hx hb d_I_compare_15 rfl ?_
      rw [hQ]
      exact W.iret (v := 0) hx hb hr (fun t ht hW => ⟨⟨_, (), rfl, hres, trivial⟩, hS.F ht⟩) hS.2.2 d_I_compare_19
  · rw [if_neg h2] at hres
    refine lv_iconst (v := (-1)) hx hb d_I_compare_5 (by decide) ?_
    refine lv_goto (tgt := 19) hx hb d_I_compare_6 rfl ?_
    rw [hQ]
    exact W.iret (v := (-1)) hx hb hr (fun t ht hW => ⟨⟨_, (), rfl, hres, trivial⟩, hS.F ht⟩) hS.2.2 d_I_compare_19
def ka_turn (a : Int64) (b : Int64) (c0 : Int64) (d : Int64) : Int64 := ((a * d) - (b * c0))
set_option maxHeartbeats 4000000 in
set_option maxRecDepth 100000 in
theorem c_ka_turn (l : Launch) (dC : Nat → ClassId) (dI : Nat → Nat → Nat) (a : Int64) (b : Int64) (c0 : Int64) (d : Int64) : pq_l l y_A_turn w_A_turn { frames := 0, cells := 0, slots := 0, locals := 0 } [.long a, .long b, .long c0, .long d] (ka_turn a b c0 d) := by
  intro sz
  refine Met.ofW (cc := b_A_turn) (maxL := 8) (ret := (some .long)) (by decide) rfl ?_
  intro p e s m args below meth c s₁ B hml hv
  obtain ⟨hargs, hsz⟩ := hv
  have hx := B.exec
  have hb := B.bytes
  have hr := B.returns
  have hts : ∀ w ∈ lw_w, w.before args s = true := fun w h => atoms_spec (ws := w_A_turn) B.pre w (List.mem_cons_of_mem _ h)
  have hown : s.vm.findClass R_A = some m.cls := findClass_of_methodNamed B.named
  have hlocks := B.notSynchronized
  subst hsz
  generalize hR : (headSpec w_A_turn { frames := 0, cells := 0, slots := 0, locals := 0 }).room = R
  generalize hAe : (fun q : Nat => s.heap.size ≤ q) = A
  have hA : ∀ q : Nat, s.heap.size ≤ q → A q := fun q h => by rw [← hAe]; exact h
  have hS : va_S A s.heap s.heap [] := va_S.rf
  have hP : va_P (dC, dI) cls9 [] s.heap := fun k q h => by cases h
  generalize hRES : ka_turn a b c0 d = RES
  have hres := hRES
  replace hRES := hRES.symm
  have hl := lv_entry [.long a, .long b, .long c0, .long d] (n := 8) (Nat.le_of_ble_eq_true rfl)
  have hent : entryFrame m args 8 = F0 m 0 (lg_sl [.long a, .long b, .long c0, .long d] ++ List.replicate (8 - (lg_sl [.long a, .long b, .long c0, .long d]).length) Slot.unset).toArray [] := by rw [hargs]; exact lg_entry_eq m [.long a, .long b, .long c0, .long d] 8
  rw [hent]
  clear hent
  generalize (lg_sl [.long a, .long b, .long c0, .long d] ++ List.replicate (8 - (lg_sl [.long a, .long b, .long c0, .long d]).length) Slot.unset).toArray = ls at hl ⊢
  have hl : lv_has ls 8 [(0, .long a), (2, .long b), (4, .long c0), (6, .long d)] := hl
  unfold ka_turn at hres
  generalize hQ : MQ below (va_Ql (fun x (_ : Unit) => x = RES) (fun _ _ => True) A) args s 0 0 A = Q
  replace hQ := hQ.symm
  refine lv_lload_n hx hb d_A_turn_0 rfl (lv_at hl 0 rfl) ?_
  refine lv_lload hx hb d_A_turn_1 (lv_at hl 3 rfl) ?_
  refine lv_lmul hx hb d_A_turn_3 ?_
  refine lv_lload_n hx hb d_A_turn_4 rfl (lv_at hl 1 rfl) ?_
  refine lv_lload hx hb d_A_turn_5 (lv_at hl 2 rfl) ?_
  refine lv_lmul hx hb d_A_turn_7 ?_
  refine lv_lsub hx hb d_A_turn_8 ?_
  rw [hQ]
  exact W.lret (v := (a * d) - (b * c0)) hx hb hr (fun t ht hW => ⟨⟨_, (), rfl, hres, trivial⟩, hS.F ht⟩) hS.2.2 d_A_turn_9
def ka_high (a : Int64) (b : Int64) : Int64 := (((jv_lshr a 20) * b) + (jv_lshr ((a &&& 1048575) * b) 20))
set_option maxHeartbeats 4000000 in
set_option maxRecDepth 100000 in
theorem c_ka_high (l : Launch) (dC : Nat → ClassId) (dI : Nat → Nat → Nat) (a : Int64) (b : Int64) : pq_l l y_A_highPart w_A_highPart { frames := 0, cells := 0, slots := 0, locals := 0 } [.long a, .long b] (ka_high a b) := by
  intro sz
  refine Met.ofW (cc := b_A_highPart) (maxL := 4) (ret := (some .long)) (by decide) rfl ?_
  intro p e s m args below meth c s₁ B hml hv
  obtain ⟨hargs, hsz⟩ := hv
  have hx := B.exec
  have hb := B.bytes
  have hr := B.returns
  have hts : ∀ w ∈ lw_w, w.before args s = true := fun w h => atoms_spec (ws := w_A_highPart) B.pre w (List.mem_cons_of_mem _ h)
  have hown : s.vm.findClass R_A = some m.cls := findClass_of_methodNamed B.named
  have hlocks := B.notSynchronized
  subst hsz
  generalize hR : (headSpec w_A_highPart { frames := 0, cells := 0, slots := 0, locals := 0 }).room = R
  generalize hAe : (fun q : Nat => s.heap.size ≤ q) = A
  have hA : ∀ q : Nat, s.heap.size ≤ q → A q := fun q h => by rw [← hAe]; exact h
  have hS : va_S A s.heap s.heap [] := va_S.rf
  have hP : va_P (dC, dI) cls9 [] s.heap := fun k q h => by cases h
  generalize hRES : ka_high a b = RES
  have hres := hRES
  replace hRES := hRES.symm
  have hl := lv_entry [.long a, .long b] (n := 4) (Nat.le_of_ble_eq_true rfl)
  have hent : entryFrame m args 4 = F0 m 0 (lg_sl [.long a, .long b] ++ List.replicate (4 - (lg_sl [.long a, .long b]).length) Slot.unset).toArray [] := by rw [hargs]; exact lg_entry_eq m [.long a, .long b] 4
  rw [hent]
  clear hent
  generalize (lg_sl [.long a, .long b] ++ List.replicate (4 - (lg_sl [.long a, .long b]).length) Slot.unset).toArray = ls at hl ⊢
  have hl : lv_has ls 4 [(0, .long a), (2, .long b)] := hl
  unfold ka_high at hres
  generalize hQ : MQ below (va_Ql (fun x (_ : Unit) => x = RES) (fun _ _ => True) A) args s 0 0 A = Q
  replace hQ := hQ.symm
  refine lv_lload_n hx hb d_A_highPart_0 rfl (lv_at hl 0 rfl) ?_
  refine lv_bipush (v := 20) hx hb d_A_highPart_1 (by decide) ?_
  refine lv_lshr (v := jv_lshr a 20) hx hb d_A_highPart_3 rfl ?_
  refine lv_lload_n hx hb d_A_highPart_4 rfl (lv_at hl 1 rfl) ?_
  refine lv_lmul hx hb d_A_highPart_5 ?_
  refine lv_lload_n hx hb d_A_highPart_6 rfl (lv_at hl 0 rfl) ?_
  refine lv_ldc2 (v := 1048575) hx hb hown (hts _ tw_250) d_A_highPart_7 ?_
  refine lv_land hx hb d_A_highPart_10 ?_
  refine lv_lload_n hx hb d_A_highPart_11 rfl (lv_at hl 1 rfl) ?_
  refine lv_lmul hx hb d_A_highPart_12 ?_
  refine lv_bipush (v := 20) hx hb d_A_highPart_13 (by decide) ?_
  refine lv_lshr (v := jv_lshr ((a &&& 1048575) * b) 20) hx hb d_A_highPart_15 rfl ?_
  refine lv_ladd hx hb d_A_highPart_16 ?_
  rw [hQ]
  exact W.lret (v := ((jv_lshr a 20) * b) + (jv_lshr ((a &&& 1048575) * b) 20)) hx hb hr (fun t ht hW => ⟨⟨_, (), rfl, hres, trivial⟩, hS.F ht⟩) hS.2.2 d_A_highPart_17
def ka_low (a : Int64) (b : Int64) : Int64 := (((a &&& 1048575) * b) &&& 1048575)
set_option maxHeartbeats 4000000 in
set_option maxRecDepth 100000 in
theorem c_ka_low (l : Launch) (dC : Nat → ClassId) (dI : Nat → Nat → Nat) (a : Int64) (b : Int64) : pq_l l y_A_lowPart w_A_lowPart { frames := 0, cells := 0, slots := 0, locals := 0 } [.long a, .long b] (ka_low a b) := by
  intro sz
  refine Met.ofW (cc := b_A_lowPart) (maxL := 4) (ret := (some .long)) (by decide) rfl ?_
  intro p e s m args below meth c s₁ B hml hv
  obtain ⟨hargs, hsz⟩ := hv
  have hx := B.exec
  have hb := B.bytes
  have hr := B.returns
  have hts : ∀ w ∈ lw_w, w.before args s = true := fun w h => atoms_spec (ws := w_A_lowPart) B.pre w (List.mem_cons_of_mem _ h)
  have hown : s.vm.findClass R_A = some m.cls := findClass_of_methodNamed B.named
  have hlocks := B.notSynchronized
  subst hsz
  generalize hR : (headSpec w_A_lowPart { frames := 0, cells := 0, slots := 0, locals := 0 }).room = R
  generalize hAe : (fun q : Nat => s.heap.size ≤ q) = A
  have hA : ∀ q : Nat, s.heap.size ≤ q → A q := fun q h => by rw [← hAe]; exact h
  have hS : va_S A s.heap s.heap [] := va_S.rf
  have hP : va_P (dC, dI) cls9 [] s.heap := fun k q h => by cases h
  generalize hRES : ka_low a b = RES
  have hres := hRES
  replace hRES := hRES.symm
  have hl := lv_entry [.long a, .long b] (n := 4) (Nat.le_of_ble_eq_true rfl)
  have hent : entryFrame m args 4 = F0 m 0 (lg_sl [.long a, .long b] ++ List.replicate (4 - (lg_sl [.long a, .long b]).length) Slot.unset).toArray [] := by rw [hargs]; exact lg_entry_eq m [.long a, .long b] 4
  rw [hent]
  clear hent
  generalize (lg_sl [.long a, .long b] ++ List.replicate (4 - (lg_sl [.long a, .long b]).length) Slot.unset).toArray = ls at hl ⊢
  have hl : lv_has ls 4 [(0, .long a), (2, .long b)] := hl
  unfold ka_low at hres
  generalize hQ : MQ below (va_Ql (fun x (_ : Unit) => x = RES) (fun _ _ => True) A) args s 0 0 A = Q
  replace hQ := hQ.symm
  refine lv_lload_n hx hb d_A_lowPart_0 rfl (lv_at hl 0 rfl) ?_
  refine lv_ldc2 (v := 1048575) hx hb hown (hts _ tw_250) d_A_lowPart_1 ?_
  refine lv_land hx hb d_A_lowPart_4 ?_
  refine lv_lload_n hx hb d_A_lowPart_5 rfl (lv_at hl 1 rfl) ?_
  refine lv_lmul hx hb d_A_lowPart_6 ?_
  refine lv_ldc2 (v := 1048575) hx hb hown (hts _ tw_250) d_A_lowPart_7 ?_
  refine lv_land hx hb d_A_lowPart_10 ?_
  rw [hQ]
  exact W.lret (v := ((a &&& 1048575) * b) &&& 1048575) hx hb hr (fun t ht hW => ⟨⟨_, (), rfl, hres, trivial⟩, hS.F ht⟩) hS.2.2 d_A_lowPart_11
def ka_cmp (a : Int64) (b : Int64) (c0 : Int64) (d : Int64) : Int32 := (if (jl_cmp (ka_high a b) (ka_high c0 d)) = 0 then (jl_cmp (ka_low a b) (ka_low c0 d)) else (jl_cmp (ka_high a b) (ka_high c0 d)))
set_option maxHeartbeats 4000000 in
set_option maxRecDepth 100000 in
theorem c_ka_cmp (l : Launch) (dC : Nat → ClassId) (dI : Nat → Nat → Nat) (a : Int64) (b : Int64) (c0 : Int64) (d : Int64) : pq_i l y_A_compareProducts w_A_compareProducts { frames := 1, cells := 0, slots := 0, locals := 23 } [.long a, .long b, .long c0, .long d] (ka_cmp a b c0 d) := by
  intro sz
  refine Met.ofW (cc := b_A_compareProducts) (maxL := 9) (ret := (some .int)) (by decide) rfl ?_
  intro p e s m args below meth c s₁ B hml hv
  obtain ⟨hargs, hsz⟩ := hv
  have hx := B.exec
  have hb := B.bytes
  have hr := B.returns
  have hts : ∀ w ∈ lw_w, w.before args s = true := fun w h => atoms_spec (ws := w_A_compareProducts) B.pre w (List.mem_cons_of_mem _ h)
  have hown : s.vm.findClass R_A = some m.cls := findClass_of_methodNamed B.named
  have hlocks := B.notSynchronized
  subst hsz
  generalize hR : (headSpec w_A_compareProducts { frames := 1, cells := 0, slots := 0, locals := 23 }).room = R
  generalize hAe : (fun q : Nat => s.heap.size ≤ q) = A
  have hA : ∀ q : Nat, s.heap.size ≤ q → A q := fun q h => by rw [← hAe]; exact h
  have hS : va_S A s.heap s.heap [] := va_S.rf
  have hP : va_P (dC, dI) cls9 [] s.heap := fun k q h => by cases h
  generalize hRES : ka_cmp a b c0 d = RES
  have hres := hRES
  replace hRES := hRES.symm
  have hl := lv_entry [.long a, .long b, .long c0, .long d] (n := 9) (Nat.le_of_ble_eq_true rfl)
  have hent : entryFrame m args 9 = F0 m 0 (lg_sl [.long a, .long b, .long c0, .long d] ++ List.replicate (9 - (lg_sl [.long a, .long b, .long c0, .long d]).length) Slot.unset).toArray [] := by rw [hargs]; exact lg_entry_eq m [.long a, .long b, .long c0, .long d] 9
  rw [hent]
  clear hent
  generalize (lg_sl [.long a, .long b, .long c0, .long d] ++ List.replicate (9 - (lg_sl [.long a, .long b, .long c0, .long d]).length) Slot.unset).toArray = ls at hl ⊢
  have hl : lv_has ls 9 [(0, .long a), (2, .long b), (4, .long c0), (6, .long d)] := hl
  unfold ka_cmp at hres
  generalize hQ : MQ below (va_Qi (fun x (_ : Unit) => x = RES) (fun _ _ => True) A) args s 0 0 A = Q
  replace hQ := hQ.symm
  refine lv_lload_n hx hb d_A_compareProducts_0 rfl (lv_at hl 0 rfl) ?_
  refine lv_lload_n hx hb d_A_compareProducts_1 rfl (lv_at hl 1 rfl) ?_
  refine cq_Sl (As := [.long a, .long b]) (rest := []) ⟨hx, hb, hml, hown, hts⟩ (c_ka_high l dC dI a b) (va_cwS 2 hts (gi_S tw_247 tw_248 tw_7 tw_249) rfl rfl rfl (by decide +kernel) ⟨(by rw [← hR]; exact Nat.le_of_ble_eq_true rfl), (by rw [← hR]; exact Nat.le_of_ble_eq_true rfl)⟩) rfl rfl hl.1 (Nat.le_of_ble_eq_true rfl) d_A_compareProducts_2 ⟨Nat.zero_le _, Nat.zero_le _⟩ hP hS hA (fun H locs hP hS => ?_)
  refine lv_lload hx hb d_A_compareProducts_5 (lv_at hl 2 rfl) ?_
  refine lv_lload hx hb d_A_compareProducts_7 (lv_at hl 3 rfl) ?_
  refine cq_Sl (As := [.long c0, .long d]) (rest := [.long (ka_high a b)]) ⟨hx, hb, hml, hown, hts⟩ (c_ka_high l dC dI c0 d) (va_cwS 2 hts (gi_S tw_247 tw_248 tw_7 tw_249) rfl rfl rfl (by decide +kernel) ⟨(by rw [← hR]; exact Nat.le_of_ble_eq_true rfl), (by rw [← hR]; exact Nat.le_of_ble_eq_true rfl)⟩) rfl rfl hl.1 (Nat.le_of_ble_eq_true rfl) d_A_compareProducts_9 ⟨Nat.zero_le _, Nat.zero_le _⟩ hP hS hA (fun H locs hP hS => ?_)
  refine cq_Si (As := [.long (ka_high a b), .long (ka_high c0 d)]) (rest := []) ⟨hx, hb, hml, hown, hts⟩ (c_jl_cmp l dC dI (ka_high a b) (ka_high c0 d)) (va_cwS 2 hts (gi_S tw_219 tw_220 tw_13 tw_221) rfl rfl rfl (by decide +kernel) ⟨(by rw [← hR]; exact Nat.le_of_ble_eq_true rfl), (by rw [← hR]; exact Nat.le_of_ble_eq_true rfl)⟩) rfl rfl hl.1 (Nat.le_of_ble_eq_true rfl) d_A_compareProducts_12 ⟨Nat.zero_le _, Nat.zero_le _⟩ hP hS hA (fun H locs hP hS => ?_)
  refine lv_istore (lv' := [(8, .int (jl_cmp (ka_high a b) (ka_high c0 d))), (0, .long a), (2, .long b), (4, .long c0), (6, .long d)]) hx hb d_A_compareProducts_15 hl (by decide) rfl (fun ls hl => ?_)
  refine lv_iload hx hb d_A_compareProducts_17 (lv_at hl 0 rfl) ?_
  refine lv_if_eq (tgt := 27) hx hb d_A_compareProducts_19 rfl (fun h19 => ?_) (fun h19 => ?_)
  · rw [if_pos h19] at hres
    refine lv_lload_n hx hb d_A_compareProducts_27 rfl (lv_at hl 1 rfl) ?_
    refine lv_lload_n hx hb d_A_compareProducts_28 rfl (lv_at hl 2 rfl) ?_
    refine cq_Sl (As := [.long a, .long b]) (rest := []) ⟨hx, hb, hml, hown, hts⟩ (c_ka_low l dC dI a b) (va_cwS 2 hts (gi_S tw_251 tw_252 tw_7 tw_253) rfl rfl rfl (by decide +kernel) ⟨(by rw [← hR]; exact Nat.le_of_ble_eq_true rfl), (by rw [← hR]; exact Nat.le_of_ble_eq_true rfl)⟩) rfl rfl hl.1 (Nat.le_of_ble_eq_true rfl) d_A_compareProducts_29 ⟨Nat.zero_le _, Nat.zero_le _⟩ hP hS hA (fun H locs hP hS => ?_)
    refine lv_lload hx hb d_A_compareProducts_32 (lv_at hl 3 rfl) ?_
    refine lv_lload hx hb d_A_compareProducts_34 (lv_at hl 4 rfl) ?_
    refine cq_Sl (As := [.long c0, .long d]) (rest := [.long (ka_low a b)]) ⟨hx, hb, hml, hown, hts⟩ (c_ka_low l dC dI c0 d) (va_cwS 2 hts (gi_S tw_251 tw_252 tw_7 tw_253) rfl rfl rfl (by decide +kernel) ⟨(by rw [← hR]; exact Nat.le_of_ble_eq_true rfl), (by rw [← hR]; exact Nat.le_of_ble_eq_true rfl)⟩) rfl rfl hl.1 (Nat.le_of_ble_eq_true rfl) d_A_compareProducts_36 ⟨Nat.zero_le _, Nat.zero_le _⟩ hP hS hA (fun H locs hP hS => ?_)
    refine cq_Si (As := [.long (ka_low a b), .long (ka_low c0 d)]) (rest := []) ⟨hx, hb, hml, hown, hts⟩ (c_jl_cmp l dC dI (ka_low a b) (ka_low c0 d)) (va_cwS 2 hts (gi_S tw_219 tw_220 tw_13 tw_221) rfl rfl rfl (by decide +kernel) ⟨(by rw [← hR]; exact Nat.le_of_ble_eq_true rfl), (by rw [← hR]; exact Nat.le_of_ble_eq_true rfl)⟩) rfl rfl hl.1 (Nat.le_of_ble_eq_true rfl) d_A_compareProducts_39 ⟨Nat.zero_le _, Nat.zero_le _⟩ hP hS hA (fun H locs hP hS => ?_)
    rw [hQ]
    exact W.iret (v := jl_cmp (ka_low a b) (ka_low c0 d)) hx hb hr (fun t ht hW => ⟨⟨_, (), rfl, hres, trivial⟩, hS.F ht⟩) hS.2.2 d_A_compareProducts_42
  · rw [if_neg h19] at hres
    refine lv_iload hx hb d_A_compareProducts_22 (lv_at hl 0 rfl) ?_
    refine lv_goto (tgt := 42) hx hb d_A_compareProducts_24 rfl ?_
    rw [hQ]
    exact W.iret (v := jl_cmp (ka_high a b) (ka_high c0 d)) hx hb hr (fun t ht hW => ⟨⟨_, (), rfl, hres, trivial⟩, hS.F ht⟩) hS.2.2 d_A_compareProducts_42
def ka_rz (a : Int64) (b : Int64) (c0 : Int64) : Int32 := (if (jl_cmp a 0) = 0 then 1 else (if (jl_cmp c0 0) = (jl_cmp a 0) then (if (jl_cmp b 0) = (-(jl_cmp a 0)) then (if (lg_cmp (b * b) (a * c0)) < 0 then 0 else 1) else 0) else 1))
set_option maxHeartbeats 4000000 in
set_option maxRecDepth 100000 in
theorem c_ka_rz (l : Launch) (dC : Nat → ClassId) (dI : Nat → Nat → Nat) (a : Int64) (b : Int64) (c0 : Int64) : pq_i l y_A_reachesZero w_A_reachesZero { frames := 1, cells := 0, slots := 0, locals := 23 } [.long a, .long b, .long c0] (ka_rz a b c0) := by
  intro sz
  refine Met.ofW (cc := b_A_reachesZero) (maxL := 7) (ret := (some .boolean)) (by decide) rfl ?_
  intro p e s m args below meth c s₁ B hml hv
  obtain ⟨hargs, hsz⟩ := hv
  have hx := B.exec
  have hb := B.bytes
  have hr := B.returns
  have hts : ∀ w ∈ lw_w, w.before args s = true := fun w h => atoms_spec (ws := w_A_reachesZero) B.pre w (List.mem_cons_of_mem _ h)
  have hown : s.vm.findClass R_A = some m.cls := findClass_of_methodNamed B.named
  have hlocks := B.notSynchronized
  subst hsz
  generalize hR : (headSpec w_A_reachesZero { frames := 1, cells := 0, slots := 0, locals := 23 }).room = R
  generalize hAe : (fun q : Nat => s.heap.size ≤ q) = A
  have hA : ∀ q : Nat, s.heap.size ≤ q → A q := fun q h => by rw [← hAe]; exact h
  have hS : va_S A s.heap s.heap [] := va_S.rf
  have hP : va_P (dC, dI) cls9 [] s.heap := fun k q h => by cases h
  generalize hRES : ka_rz a b c0 = RES
  have hres := hRES
  replace hRES := hRES.symm
  have hl := lv_entry [.long a, .long b, .long c0] (n := 7) (Nat.le_of_ble_eq_true rfl)
  have hent : entryFrame m args 7 = F0 m 0 (lg_sl [.long a, .long b, .long c0] ++ List.replicate (7 - (lg_sl [.long a, .long b, .long c0]).length) Slot.unset).toArray [] := by rw [hargs]; exact lg_entry_eq m [.long a, .long b, .long c0] 7
  rw [hent]
  clear hent
  generalize (lg_sl [.long a, .long b, .long c0] ++ List.replicate (7 - (lg_sl [.long a, .long b, .long c0]).length) Slot.unset).toArray = ls at hl ⊢
  have hl : lv_has ls 7 [(0, .long a), (2, .long b), (4, .long c0)] := hl
  unfold ka_rz at hres
  generalize hQ : MQ below (va_Qi (fun x (_ : Unit) => x = RES) (fun _ _ => True) A) args s 0 0 A = Q
  replace hQ := hQ.symm
  refine lv_lload_n hx hb d_A_reachesZero_0 rfl (lv_at hl 0 rfl) ?_
  refine lv_lconst (v := 0) hx hb d_A_reachesZero_1 (by decide) ?_
  refine cq_Si (As := [.long a, .long 0]) (rest := []) ⟨hx, hb, hml, hown, hts⟩ (c_jl_cmp l dC dI a 0) (va_cwS 2 hts (gi_S tw_219 tw_220 tw_13 tw_221) rfl rfl rfl (by decide +kernel) ⟨(by rw [← hR]; exact Nat.le_of_ble_eq_true rfl), (by rw [← hR]; exact Nat.le_of_ble_eq_true rfl)⟩) rfl rfl hl.1 (Nat.le_of_ble_eq_true rfl) d_A_reachesZero_2 ⟨Nat.zero_le _, Nat.zero_le _⟩ hP hS hA (fun H locs hP hS => ?_)
  refine lv_istore (lv' := [(6, .int (jl_cmp a 0)), (0, .long a), (2, .long b), (4, .long c0)]) hx hb d_A_reachesZero_5 hl (by decide) rfl (fun ls hl => ?_)
  refine lv_iload hx hb d_A_reachesZero_7 (lv_at hl 0 rfl) ?_
  refine lv_if_eq (tgt := 23) hx hb d_A_reachesZero_9 rfl (fun h9 => ?_) (fun h9 => ?_)
  · rw [if_pos h9] at hres
    refine lv_iconst (v := 1) hx hb d_A_reachesZero_23 (by decide) ?_
    rw [hQ]
    exact W.zret (v := 1) hx hb hr (by first | rfl | decide) (fun t ht hW => ⟨⟨_, (), rfl, hres, trivial⟩, hS.F ht⟩) hS.2.2 d_A_reachesZero_24
  · rw [if_neg h9] at hres
    refine lv_lload hx hb d_A_reachesZero_12 (lv_at hl 3 rfl) ?_
    refine lv_lconst (v := 0) hx hb d_A_reachesZero_14 (by decide) ?_
    refine cq_Si (As := [.long c0, .long 0]) (rest := []) ⟨hx, hb, hml, hown, hts⟩ (c_jl_cmp l dC dI c0 0) (va_cwS 2 hts (gi_S tw_219 tw_220 tw_13 tw_221) rfl rfl rfl (by decide +kernel) ⟨(by rw [← hR]; exact Nat.le_of_ble_eq_true rfl), (by rw [← hR]; exact Nat.le_of_ble_eq_true rfl)⟩) rfl rfl hl.1 (Nat.le_of_ble_eq_true rfl) d_A_reachesZero_15 ⟨Nat.zero_le _, Nat.zero_le _⟩ hP hS hA (fun H locs hP hS => ?_)
    refine lv_iload hx hb d_A_reachesZero_18 (lv_at hl 0 rfl) ?_
    refine lv_icmp_eq (tgt := 25) hx hb d_A_reachesZero_20 rfl (fun h20 => ?_) (fun h20 => ?_)
    · rw [if_pos h20] at hres
      refine lv_lload_n hx hb d_A_reachesZero_25 rfl (lv_at hl 2 rfl) ?_
      refine lv_lconst (v := 0) hx hb d_A_reachesZero_26 (by decide) ?_
      refine cq_Si (As := [.long b, .long 0]) (rest := []) ⟨hx, hb, hml, hown, hts⟩ (c_jl_cmp l dC dI b 0) (va_cwS 2 hts (gi_S tw_219 tw_220 tw_13 tw_221) rfl rfl rfl (by decide +kernel) ⟨(by rw [← hR]; exact Nat.le_of_ble_eq_true rfl), (by rw [← hR]; exact Nat.le_of_ble_eq_true rfl)⟩) rfl rfl hl.1 (Nat.le_of_ble_eq_true rfl) d_A_reachesZero_27 ⟨Nat.zero_le _, Nat.zero_le _⟩ hP hS hA (fun H locs hP hS => ?_)
      refine lv_iload hx hb d_A_reachesZero_30 (lv_at hl 0 rfl) ?_
      refine lv_ineg hx hb d_A_reachesZero_32 ?_
      refine lv_icmp_ne (tgt := 51) hx hb d_A_reachesZero_33 rfl (fun h33 => ?_) (fun h33 => ?_)
      · rw [if_neg h33] at hres
        refine lv_iconst (v := 0) hx hb d_A_reachesZero_51 (by decide) ?_
        rw [hQ]
        exact W.zret (v := 0) hx hb hr (by first | rfl | decide) (fun t ht hW => ⟨⟨_, (), rfl, hres, trivial⟩, hS.F ht⟩) hS.2.2 d_A_reachesZero_52
      · rw [if_pos h33] at hres
        refine lv_lload_n hx hb d_A_reachesZero_36 rfl (lv_at hl 2 rfl) ?_
        refine lv_lload_n hx hb d_A_reachesZero_37 rfl (lv_at hl 2 rfl) ?_
        refine lv_lmul hx hb d_A_reachesZero_38 ?_
        refine lv_lload_n hx hb d_A_reachesZero_39 rfl (lv_at hl 1 rfl) ?_
        refine lv_lload hx hb d_A_reachesZero_40 (lv_at hl 3 rfl) ?_
        refine lv_lmul hx hb d_A_reachesZero_42 ?_
        refine W.lcmp hx hb d_A_reachesZero_43 ?_
        refine lv_if_lt (tgt := 51) hx hb d_A_reachesZero_44 rfl (fun h44 => ?_) (fun h44 => ?_)
        · rw [if_pos h44] at hres
          refine lv_iconst (v := 0) hx hb d_A_reachesZero_51 (by decide) ?_
          rw [hQ]
          exact W.zret (v := 0) hx hb hr (by first | rfl | decide) (fun t ht hW => ⟨⟨_, (), rfl, hres, trivial⟩, hS.F ht⟩) hS.2.2 d_A_reachesZero_52
        · rw [if_neg h44] at hres
          refine lv_iconst (v := 1) hx hb d_A_reachesZero_47 (by decide) ?_
          refine lv_goto (tgt := 52) hx hb d_A_reachesZero_48 rfl ?_
          rw [hQ]
          exact W.zret (v := 1) hx hb hr (by first | rfl | decide) (fun t ht hW => ⟨⟨_, (), rfl, hres, trivial⟩, hS.F ht⟩) hS.2.2 d_A_reachesZero_52
    · rw [if_neg h20] at hres
      refine lv_iconst (v := 1) hx hb d_A_reachesZero_23 (by decide) ?_
      rw [hQ]
      exact W.zret (v := 1) hx hb hr (by first | rfl | decide) (fun t ht hW => ⟨⟨_, (), rfl, hres, trivial⟩, hS.F ht⟩) hS.2.2 d_A_reachesZero_24
def ka_may (sx : Int32) (sy : Int32) (bx : Int32) (b2 : Int32) (ex : Int32) (ey : Int32) (a : Int32) : Int32 := (if a < (if (if ey < b2 then ey else b2) < sy then (if ey < b2 then ey else b2) else sy) then 0 else (if (if sy < (if b2 < ey then ey else b2) then (if b2 < ey then ey else b2) else sy) < a then 0 else 1))
set_option maxHeartbeats 4000000 in
set_option maxRecDepth 100000 in
theorem c_ka_may (l : Launch) (dC : Nat → ClassId) (dI : Nat → Nat → Nat) (h0 : Nat) (sx : Int32) (sy : Int32) (bx : Int32) (b2 : Int32) (ex : Int32) (ey : Int32) (a : Int32) : pr_i l y_A_mayMeetHeight w_A_mayMeetHeight { frames := 1, cells := 0, slots := 0, locals := 32 } (dC, dI) cls9 [(h0, .inr (1, [.int sx, .int sy, .int bx, .int b2, .int ex, .int ey]))] [] [.ref h0, .int a] (ka_may sx sy bx b2 ex ey a) := by
  intro sz
  refine Met.ofW (cc := b_A_mayMeetHeight) (maxL := 2) (ret := (some .boolean)) (by decide) rfl ?_
  intro p e s m args below meth c s₁ B hml hv
  obtain ⟨hargs, hsz, hP, hK⟩ := hv
  have hx := B.exec
  have hb := B.bytes
  have hr := B.returns
  have hts : ∀ w ∈ lw_w, w.before args s = true := fun w h => atoms_spec (ws := w_A_mayMeetHeight) B.pre w (List.mem_cons_of_mem _ h)
  have hown : s.vm.findClass R_A = some m.cls := findClass_of_methodNamed B.named
  have hlocks := B.notSynchronized
  subst hsz
  generalize hR : (headSpec w_A_mayMeetHeight { frames := 1, cells := 0, slots := 0, locals := 32 }).room = R
  generalize hAe : (fun q : Nat => s.heap.size ≤ q) = A
  have hA : ∀ q : Nat, s.heap.size ≤ q → A q := fun q h => by rw [← hAe]; exact h
  have hS : va_S A s.heap s.heap [] := va_S.rf
  generalize hRES : ka_may sx sy bx b2 ex ey a = RES
  have hres := hRES
  replace hRES := hRES.symm
  have hl := lv_entry [.ref h0, .int a] (n := 2) (Nat.le_of_ble_eq_true rfl)
  have hent : entryFrame m args 2 = F0 m 0 (lg_sl [.ref h0, .int a] ++ List.replicate (2 - (lg_sl [.ref h0, .int a]).length) Slot.unset).toArray [] := by rw [hargs]; exact lg_entry_eq m [.ref h0, .int a] 2
  rw [hent]
  clear hent
  generalize (lg_sl [.ref h0, .int a] ++ List.replicate (2 - (lg_sl [.ref h0, .int a]).length) Slot.unset).toArray = ls at hl ⊢
  have hl : lv_has ls 2 [(0, .ref h0), (1, .int a)] := hl
  have hP : va_P (dC, dI) cls9 [(h0, .inr (1, [.int sx, .int sy, .int bx, .int b2, .int ex, .int ey]))] s.heap := hP
  unfold ka_may at hres
  generalize hQ : MQ below (va_Qi (fun x (_ : Unit) => x = RES) (fun _ _ => True) A) args s 0 0 A = Q
  replace hQ := hQ.symm
  refine lv_iload_n hx hb d_A_mayMeetHeight_0 rfl (lv_at hl 1 rfl) ?_
  refine lv_aload_n hx hb d_A_mayMeetHeight_1 rfl (lv_at hl 0 rfl) ?_
  refine va_get (D := (dC, dI)) (ci := 1) (v := .int sy) (C := R_A) (T := F_A) (N := 6) hx hb hts in_A hown hK hP 0 rfl rfl 1 (by decide) (hts _ tw_111) (fun _ h9 => h9) rfl d_A_mayMeetHeight_2 ?_
  refine lv_aload_n hx hb d_A_mayMeetHeight_5 rfl (lv_at hl 0 rfl) ?_
  refine va_get (D := (dC, dI)) (ci := 1) (v := .int b2) (C := R_A) (T := F_A) (N := 6) hx hb hts in_A hown hK hP 0 rfl rfl 3 (by decide) (hts _ tw_113) (fun _ h9 => h9) rfl d_A_mayMeetHeight_6 ?_
  refine lv_aload_n hx hb d_A_mayMeetHeight_9 rfl (lv_at hl 0 rfl) ?_
  refine va_get (D := (dC, dI)) (ci := 1) (v := .int ey) (C := R_A) (T := F_A) (N := 6) hx hb hts in_A hown hK hP 0 rfl rfl 5 (by decide) (hts _ tw_115) (fun _ h9 => h9) rfl d_A_mayMeetHeight_10 ?_
  refine va_mmin hx hb (hml.trans hl.1.symm) hown (hts _ tw_214) (hts _ tw_24) (hts _ tw_2) (hts _ tw_25) (by rw [← hR]; exact Nat.le_of_ble_eq_true rfl) (by rw [← hR]; exact Nat.le_of_ble_eq_true rfl) (Nat.zero_le _) (Nat.zero_le _) d_A_mayMeetHeight_13 ?_
  refine va_mmin hx hb (hml.trans hl.1.symm) hown (hts _ tw_214) (hts _ tw_24) (hts _ tw_2) (hts _ tw_25) (by rw [← hR]; exact Nat.le_of_ble_eq_true rfl) (by rw [← hR]; exact Nat.le_of_ble_eq_true rfl) (Nat.zero_le _) (Nat.zero_le _) d_A_mayMeetHeight_16 ?_
  refine lv_icmp_lt (tgt := 48) hx hb d_A_mayMeetHeight_19 rfl (fun h19 => ?_) (fun h19 => ?_)
  · rw [if_pos h19] at hres
    refine lv_iconst (v := 0) hx hb d_A_mayMeetHeight_48 (by decide) ?_
    rw [hQ]
    exact W.zret (v := 0) hx hb hr (by first | rfl | decide) (fun t ht hW => ⟨⟨_, (), rfl, hres, trivial⟩, hS.F ht⟩) hS.2.2 d_A_mayMeetHeight_49
  · rw [if_neg h19] at hres
    refine lv_iload_n hx hb d_A_mayMeetHeight_22 rfl (lv_at hl 1 rfl) ?_
    refine lv_aload_n hx hb d_A_mayMeetHeight_23 rfl (lv_at hl 0 rfl) ?_
    refine va_get (D := (dC, dI)) (ci := 1) (v := .int sy) (C := R_A) (T := F_A) (N := 6) hx hb hts in_A hown hK hP 0 rfl rfl 1 (by decide) (hts _ tw_111) (fun _ h9 => h9) rfl d_A_mayMeetHeight_24 ?_
    refine lv_aload_n hx hb d_A_mayMeetHeight_27 rfl (lv_at hl 0 rfl) ?_
    refine va_get (D := (dC, dI)) (ci := 1) (v := .int b2) (C := R_A) (T := F_A) (N := 6) hx hb hts in_A hown hK hP 0 rfl rfl 3 (by decide) (hts _ tw_113) (fun _ h9 => h9) rfl d_A_mayMeetHeight_28 ?_
    refine lv_aload_n hx hb d_A_mayMeetHeight_31 rfl (lv_at hl 0 rfl) ?_
    refine va_get (D := (dC, dI)) (ci := 1) (v := .int ey) (C := R_A) (T := F_A) (N := 6) hx hb hts in_A hown hK hP 0 rfl rfl 5 (by decide) (hts _ tw_115) (fun _ h9 => h9) rfl d_A_mayMeetHeight_32 ?_
    refine va_mmax hx hb (hml.trans hl.1.symm) hown (hts _ tw_215) (hts _ tw_27) (hts _ tw_2) (hts _ tw_28) (by rw [← hR]; exact Nat.le_of_ble_eq_true rfl) (by rw [← hR]; exact Nat.le_of_ble_eq_true rfl) (Nat.zero_le _) (Nat.zero_le _) d_A_mayMeetHeight_35 ?_
    refine va_mmax hx hb (hml.trans hl.1.symm) hown (hts _ tw_215) (hts _ tw_27) (hts _ tw_2) (hts _ tw_28) (by rw [← hR]; exact Nat.le_of_ble_eq_true rfl) (by rw [← hR]; exact Nat.le_of_ble_eq_true rfl) (Nat.zero_le _) (Nat.zero_le _) d_A_mayMeetHeight_38 ?_
    refine lv_icmp_gt (tgt := 48) hx hb d_A_mayMeetHeight_41 rfl (fun h41 => ?_) (fun h41 => ?_)
    · rw [if_pos h41] at hres
      refine lv_iconst (v := 0) hx hb d_A_mayMeetHeight_48 (by decide) ?_
      rw [hQ]
      exact W.zret (v := 0) hx hb hr (by first | rfl | decide) (fun t ht hW => ⟨⟨_, (), rfl, hres, trivial⟩, hS.F ht⟩) hS.2.2 d_A_mayMeetHeight_49
    · rw [if_neg h41] at hres
      refine lv_iconst (v := 1) hx hb d_A_mayMeetHeight_44 (by decide) ?_
      refine lv_goto (tgt := 49) hx hb d_A_mayMeetHeight_45 rfl ?_
      rw [hQ]
      exact W.zret (v := 1) hx hb hr (by first | rfl | decide) (fun t ht hW => ⟨⟨_, (), rfl, hres, trivial⟩, hS.F ht⟩) hS.2.2 d_A_mayMeetHeight_49
def ka_side (sx : Int32) (sy : Int32) (bx : Int32) (b2 : Int32) (ex : Int32) (ey : Int32) (a : Int64) : Int32 := (if (lg_cmp a 0) = 0 then (if ey = sy then (ji_cmp ex sx) else (ji_cmp ey sy)) else (if 0 ≤ (lg_cmp a 0) then 1 else (-1)))
set_option maxHeartbeats 4000000 in
set_option maxRecDepth 100000 in
theorem c_ka_side (l : Launch) (dC : Nat → ClassId) (dI : Nat → Nat → Nat) (h0 : Nat) (sx : Int32) (sy : Int32) (bx : Int32) (b2 : Int32) (ex : Int32) (ey : Int32) (a : Int64) : pr_i l y_A_sideOfChord w_A_sideOfChord { frames := 1, cells := 0, slots := 0, locals := 21 } (dC, dI) cls9 [(h0, .inr (1, [.int sx, .int sy, .int bx, .int b2, .int ex, .int ey]))] [] [.ref h0, .long a] (ka_side sx sy bx b2 ex ey a) := by
  intro sz
  refine Met.ofW (cc := b_A_sideOfChord) (maxL := 3) (ret := (some .int)) (by decide) rfl ?_
  intro p e s m args below meth c s₁ B hml hv
  obtain ⟨hargs, hsz, hP, hK⟩ := hv
  have hx := B.exec
  have hb := B.bytes
  have hr := B.returns
  have hts : ∀ w ∈ lw_w, w.before args s = true := fun w h => atoms_spec (ws := w_A_sideOfChord) B.pre w (List.mem_cons_of_mem _ h)
  have hown : s.vm.findClass R_A = some m.cls := findClass_of_methodNamed B.named
  have hlocks := B.notSynchronized
  subst hsz
  generalize hR : (headSpec w_A_sideOfChord { frames := 1, cells := 0, slots := 0, locals := 21 }).room = R
  generalize hAe : (fun q : Nat => s.heap.size ≤ q) = A
  have hA : ∀ q : Nat, s.heap.size ≤ q → A q := fun q h => by rw [← hAe]; exact h
  have hS : va_S A s.heap s.heap [] := va_S.rf
  generalize hRES : ka_side sx sy bx b2 ex ey a = RES
  have hres := hRES
  replace hRES := hRES.symm
  have hl := lv_entry [.ref h0, .long a] (n := 3) (Nat.le_of_ble_eq_true rfl)
  have hent : entryFrame m args 3 = F0 m 0 (lg_sl [.ref h0, .long a] ++ List.replicate (3 - (lg_sl [.ref h0, .long a]).length) Slot.unset).toArray [] := by rw [hargs]; exact lg_entry_eq m [.ref h0, .long a] 3
  rw [hent]
  clear hent
  generalize (lg_sl [.ref h0, .long a] ++ List.replicate (3 - (lg_sl [.ref h0, .long a]).length) Slot.unset).toArray = ls at hl ⊢
  have hl : lv_has ls 3 [(0, .ref h0), (1, .long a)] := hl
  have hP : va_P (dC, dI) cls9 [(h0, .inr (1, [.int sx, .int sy, .int bx, .int b2, .int ex, .int ey]))] s.heap := hP
  unfold ka_side at hres
  generalize hQ : MQ below (va_Qi (fun x (_ : Unit) => x = RES) (fun _ _ => True) A) args s 0 0 A = Q
  replace hQ := hQ.symm
  refine lv_lload_n hx hb d_A_sideOfChord_0 rfl (lv_at hl 1 rfl) ?_
  refine lv_lconst (v := 0) hx hb d_A_sideOfChord_1 (by decide) ?_
  refine W.lcmp hx hb d_A_sideOfChord_2 ?_
  refine lv_if_eq (tgt := 18) hx hb d_A_sideOfChord_3 rfl (fun h3 => ?_) (fun h3 => ?_)
  · rw [if_pos h3] at hres
    refine lv_aload_n hx hb d_A_sideOfChord_18 rfl (lv_at hl 0 rfl) ?_
    refine va_get (D := (dC, dI)) (ci := 1) (v := .int ey) (C := R_A) (T := F_A) (N := 6) hx hb hts in_A hown hK hP 0 rfl rfl 5 (by decide) (hts _ tw_115) (fun _ h9 => h9) rfl d_A_sideOfChord_19 ?_
    refine lv_aload_n hx hb d_A_sideOfChord_22 rfl (lv_at hl 0 rfl) ?_
    refine va_get (D := (dC, dI)) (ci := 1) (v := .int sy) (C := R_A) (T := F_A) (N := 6) hx hb hts in_A hown hK hP 0 rfl rfl 1 (by decide) (hts _ tw_111) (fun _ h9 => h9) rfl d_A_sideOfChord_23 ?_
    refine lv_icmp_eq (tgt := 43) hx hb d_A_sideOfChord_26 rfl (fun h26 => ?_) (fun h26 => ?_)
    · rw [if_pos h26] at hres
      refine lv_aload_n hx hb d_A_sideOfChord_43 rfl (lv_at hl 0 rfl) ?_
      refine va_get (D := (dC, dI)) (ci := 1) (v := .int ex) (C := R_A) (T := F_A) (N := 6) hx hb hts in_A hown hK hP 0 rfl rfl 4 (by decide) (hts _ tw_114) (fun _ h9 => h9) rfl d_A_sideOfChord_44 ?_
      refine lv_aload_n hx hb d_A_sideOfChord_47 rfl (lv_at hl 0 rfl) ?_
      refine va_get (D := (dC, dI)) (ci := 1) (v := .int sx) (C := R_A) (T := F_A) (N := 6) hx hb hts in_A hown hK hP 0 rfl rfl 0 (by decide) (hts _ tw_110) (fun _ h9 => h9) rfl d_A_sideOfChord_48 ?_
      refine cq_Si (As := [.int ex, .int sx]) (rest := []) ⟨hx, hb, hml, hown, hts⟩ (c_ji_cmp l dC dI ex sx) (va_cwS 2 hts (gi_S tw_226 tw_227 tw_14 tw_228) rfl rfl rfl (by decide +kernel) ⟨(by rw [← hR]; exact Nat.le_of_ble_eq_true rfl), (by rw [← hR]; exact Nat.le_of_ble_eq_true rfl)⟩) rfl rfl hl.1 (Nat.le_of_ble_eq_true rfl) d_A_sideOfChord_51 ⟨Nat.zero_le _, Nat.zero_le _⟩ hP hS hA (fun H locs hP hS => ?_)
      rw [hQ]
      exact W.iret (v := ji_cmp ex sx) hx hb hr (fun t ht hW => ⟨⟨_, (), rfl, hres, trivial⟩, hS.F ht⟩) hS.2.2 d_A_sideOfChord_54
    · rw [if_neg h26] at hres
      refine lv_aload_n hx hb d_A_sideOfChord_29 rfl (lv_at hl 0 rfl) ?_
      refine va_get (D := (dC, dI)) (ci := 1) (v := .int ey) (C := R_A) (T := F_A) (N := 6) hx hb hts in_A hown hK hP 0 rfl rfl 5 (by decide) (hts _ tw_115) (fun _ h9 => h9) rfl d_A_sideOfChord_30 ?_
      refine lv_aload_n hx hb d_A_sideOfChord_33 rfl (lv_at hl 0 rfl) ?_
      refine va_get (D := (dC, dI)) (ci := 1) (v := .int sy) (C := R_A) (T := F_A) (N := 6) hx hb hts in_A hown hK hP 0 rfl rfl 1 (by decide) (hts _ tw_111) (fun _ h9 => h9) rfl d_A_sideOfChord_34 ?_
      refine cq_Si (As := [.int ey, .int sy]) (rest := []) ⟨hx, hb, hml, hown, hts⟩ (c_ji_cmp l dC dI ey sy) (va_cwS 2 hts (gi_S tw_226 tw_227 tw_14 tw_228) rfl rfl rfl (by decide +kernel) ⟨(by rw [← hR]; exact Nat.le_of_ble_eq_true rfl), (by rw [← hR]; exact Nat.le_of_ble_eq_true rfl)⟩) rfl rfl hl.1 (Nat.le_of_ble_eq_true rfl) d_A_sideOfChord_37 ⟨Nat.zero_le _, Nat.zero_le _⟩ hP hS hA (fun H locs hP hS => ?_)
      refine lv_goto (tgt := 54) hx hb d_A_sideOfChord_40 rfl ?_
      rw [hQ]
      exact W.iret (v := ji_cmp ey sy) hx hb hr (fun t ht hW => ⟨⟨_, (), rfl, hres, trivial⟩, hS.F ht⟩) hS.2.2 d_A_sideOfChord_54
  · rw [if_neg h3] at hres
    refine lv_lload_n hx hb d_A_sideOfChord_6 rfl (lv_at hl 1 rfl) ?_
    refine lv_lconst (v := 0) hx hb d_A_sideOfChord_7 (by decide) ?_
    refine W.lcmp hx hb d_A_sideOfChord_8 ?_
    refine lv_if_ge (tgt := 16) hx hb d_A_sideOfChord_9 rfl (fun h9 => ?_) (fun h9 => ?_)
    · rw [if_pos h9] at hres
      refine lv_iconst (v := 1) hx hb d_A_sideOfChord_16 (by decide) ?_
      rw [hQ]
      exact W.iret (v := 1) hx hb hr (fun t ht hW => ⟨⟨_, (), rfl, hres, trivial⟩, hS.F ht⟩) hS.2.2 d_A_sideOfChord_17
    · rw [if_neg h9] at hres
      refine lv_iconst (v := (-1)) hx hb d_A_sideOfChord_12 (by decide) ?_
      refine lv_goto (tgt := 17) hx hb d_A_sideOfChord_13 rfl ?_
      rw [hQ]
      exact W.iret (v := (-1)) hx hb hr (fun t ht hW => ⟨⟨_, (), rfl, hres, trivial⟩, hS.F ht⟩) hS.2.2 d_A_sideOfChord_17
def ka_share_j27 (a : Int32) (t13_0 : Int32) (t27_0 : Int32) : Int32 := (if t13_0 = t27_0 then 0 else (if t27_0 = 0 then (if a ≤ 0 then 0 else (-1)) else (if 0 ≤ a then 0 else 1)))
def ka_share_j13 (ey : Int32) (a : Int32) (b : Int32) (t13_0 : Int32) : Int32 := (if ey < b then (ka_share_j27 a t13_0 0) else (ka_share_j27 a t13_0 1))
def ka_share (sx : Int32) (sy : Int32) (bx : Int32) (b2 : Int32) (ex : Int32) (ey : Int32) (a : Int32) (b : Int32) : Int32 := (if sy < b then (ka_share_j13 ey a b 0) else (ka_share_j13 ey a b 1))
set_option maxHeartbeats 4000000 in
set_option maxRecDepth 100000 in
theorem c_ka_share (l : Launch) (dC : Nat → ClassId) (dI : Nat → Nat → Nat) (h0 : Nat) (sx : Int32) (sy : Int32) (bx : Int32) (b2 : Int32) (ex : Int32) (ey : Int32) (a : Int32) (b : Int32) : pr_i l y_A_chordShare w_A_chordShare { frames := 0, cells := 0, slots := 0, locals := 0 } (dC, dI) cls9 [(h0, .inr (1, [.int sx, .int sy, .int bx, .int b2, .int ex, .int ey]))] [] [.ref h0, .int a, .int b] (ka_share sx sy bx b2 ex ey a b) := by
  intro sz
  refine Met.ofW (cc := b_A_chordShare) (maxL := 5) (ret := (some .int)) (by decide) rfl ?_
  intro p e s m args below meth c s₁ B hml hv
  obtain ⟨hargs, hsz, hP, hK⟩ := hv
  have hx := B.exec
  have hb := B.bytes
  have hr := B.returns
  have hts : ∀ w ∈ lw_w, w.before args s = true := fun w h => atoms_spec (ws := w_A_chordShare) B.pre w (List.mem_cons_of_mem _ h)
  have hown : s.vm.findClass R_A = some m.cls := findClass_of_methodNamed B.named
  have hlocks := B.notSynchronized
  subst hsz
  generalize hR : (headSpec w_A_chordShare { frames := 0, cells := 0, slots := 0, locals := 0 }).room = R
  generalize hAe : (fun q : Nat => s.heap.size ≤ q) = A
  have hA : ∀ q : Nat, s.heap.size ≤ q → A q := fun q h => by rw [← hAe]; exact h
  have hS : va_S A s.heap s.heap [] := va_S.rf
  generalize hRES : ka_share sx sy bx b2 ex ey a b = RES
  have hres := hRES
  replace hRES := hRES.symm
  have hl := lv_entry [.ref h0, .int a, .int b] (n := 5) (Nat.le_of_ble_eq_true rfl)
  have hent : entryFrame m args 5 = F0 m 0 (lg_sl [.ref h0, .int a, .int b] ++ List.replicate (5 - (lg_sl [.ref h0, .int a, .int b]).length) Slot.unset).toArray [] := by rw [hargs]; exact lg_entry_eq m [.ref h0, .int a, .int b] 5
  rw [hent]
  clear hent
  generalize (lg_sl [.ref h0, .int a, .int b] ++ List.replicate (5 - (lg_sl [.ref h0, .int a, .int b]).length) Slot.unset).toArray = ls at hl ⊢
  have hl : lv_has ls 5 [(0, .ref h0), (1, .int a), (2, .int b)] := hl
  have hP : va_P (dC, dI) cls9 [(h0, .inr (1, [.int sx, .int sy, .int bx, .int b2, .int ex, .int ey]))] s.heap := hP
  unfold ka_share at hres
  generalize hQ : MQ below (va_Qi (fun x (_ : Unit) => x = RES) (fun _ _ => True) A) args s 0 0 A = Q
  replace hQ := hQ.symm
  refine lv_aload_n hx hb d_A_chordShare_0 rfl (lv_at hl 0 rfl) ?_
  refine va_get (D := (dC, dI)) (ci := 1) (v := .int sy) (C := R_A) (T := F_A) (N := 6) hx hb hts in_A hown hK hP 0 rfl rfl 1 (by decide) (hts _ tw_111) (fun _ h9 => h9) rfl d_A_chordShare_1 ?_
  refine lv_iload_n hx hb d_A_chordShare_4 rfl (lv_at hl 2 rfl) ?_
  have J13 : ∀ (t13_0 : Int32), ka_share_j13 ey a b t13_0 = RES → ∀ (ls : Array Slot) (H : Heap) (locs : List Loc), lv_has ls 5 [(0, .ref h0), (1, .int a), (2, .int b)] → va_P (dC, dI) cls9 [(h0, .inr (1, [.int sx, .int sy, .int bx, .int b2, .int ex, .int ey]))] H → va_S A s.heap H locs → W p l e R s m args below meth c H locs 0 0 Q (F0 m 13 ls [.int t13_0]) := by
    intro t13_0 hres ls H locs hl hP hS
    unfold ka_share_j13 at hres
    refine lv_istore_n (lv' := [(3, .int t13_0), (0, .ref h0), (1, .int a), (2, .int b)]) hx hb d_A_chordShare_13 rfl hl (by decide) rfl (fun ls hl => ?_)
    refine lv_aload_n hx hb d_A_chordShare_14 rfl (lv_at hl 1 rfl) ?_
    refine va_get (D := (dC, dI)) (ci := 1) (v := .int ey) (C := R_A) (T := F_A) (N := 6) hx hb hts in_A hown hK hP 0 rfl rfl 5 (by decide) (hts _ tw_115) (fun _ h9 => h9) rfl d_A_chordShare_15 ?_
    refine lv_iload_n hx hb d_A_chordShare_18 rfl (lv_at hl 3 rfl) ?_
    have J27 : ∀ (t27_0 : Int32), ka_share_j27 a t13_0 t27_0 = RES → ∀ (ls : Array Slot) (H : Heap) (locs : List Loc), lv_has ls 5 [(3, .int t13_0), (1, .int a)] → va_P (dC, dI) cls9 [(h0, .inr (1, [.int sx, .int sy, .int bx, .int b2, .int ex, .int ey]))] H → va_S A s.heap H locs → W p l e R s m args below meth c H locs 0 0 Q (F0 m 27 ls [.int t27_0]) := by
      intro t27_0 hres ls H locs hl hP hS
      unfold ka_share_j27 at hres
      refine lv_istore (lv' := [(4, .int t27_0), (3, .int t13_0), (1, .int a)]) hx hb d_A_chordShare_27 hl (by decide) rfl (fun ls hl => ?_)
      refine lv_iload_n hx hb d_A_chordShare_29 rfl (lv_at hl 1 rfl) ?_
      refine lv_iload hx hb d_A_chordShare_30 (lv_at hl 0 rfl) ?_
      refine lv_icmp_ne (tgt := 37) hx hb d_A_chordShare_32 rfl (fun h32 => ?_) (fun h32 => ?_)
      · rw [if_neg h32] at hres
        refine lv_iload hx hb d_A_chordShare_37 (lv_at hl 0 rfl) ?_
        refine lv_if_eq (tgt := 52) hx hb d_A_chordShare_39 rfl (fun h39 => ?_) (fun h39 => ?_)
        · rw [if_pos h39] at hres
          refine lv_iload_n hx hb d_A_chordShare_52 rfl (lv_at hl 2 rfl) ?_
          refine lv_if_le (tgt := 60) hx hb d_A_chordShare_53 rfl (fun h53 => ?_) (fun h53 => ?_)
          · rw [if_pos h53] at hres
            refine lv_iconst (v := 0) hx hb d_A_chordShare_60 (by decide) ?_
            rw [hQ]
            exact W.iret (v := 0) hx hb hr (fun t ht hW => ⟨⟨_, (), rfl, hres, trivial⟩, hS.F ht⟩) hS.2.2 d_A_chordShare_61
          · rw [if_neg h53] at hres
            refine lv_iconst (v := (-1)) hx hb d_A_chordShare_56 (by decide) ?_
            refine lv_goto (tgt := 61) hx hb d_A_chordShare_57 rfl ?_
            rw [hQ]
            exact W.iret (v := (-1)) hx hb hr (fun t ht hW => ⟨⟨_, (), rfl, hres, trivial⟩, hS.F ht⟩) hS.2.2 d_A_chordShare_61
        · rw [if_neg h39] at hres
          refine lv_iload_n hx hb d_A_chordShare_42 rfl (lv_at hl 2 rfl) ?_
          refine lv_if_ge (tgt := 50) hx hb d_A_chordShare_43 rfl (fun h43 => ?_) (fun h43 => ?_)
          · rw [if_pos h43] at hres
            refine lv_iconst (v := 0) hx hb d_A_chordShare_50 (by decide) ?_
            rw [hQ]
            exact W.iret (v := 0) hx hb hr (fun t ht hW => ⟨⟨_, (), rfl, hres, trivial⟩, hS.F ht⟩) hS.2.2 d_A_chordShare_51
          · rw [if_neg h43] at hres
            refine lv_iconst (v := 1) hx hb d_A_chordShare_46 (by decide) ?_
            refine lv_goto (tgt := 51) hx hb d_A_chordShare_47 rfl ?_
            rw [hQ]
            exact W.iret (v := 1) hx hb hr (fun t ht hW => ⟨⟨_, (), rfl, hres, trivial⟩, hS.F ht⟩) hS.2.2 d_A_chordShare_51
      · rw [if_pos h32] at hres
        refine lv_iconst (v := 0) hx hb d_A_chordShare_35 (by decide) ?_
        rw [hQ]
        exact W.iret (v := 0) hx hb hr (fun t ht hW => ⟨⟨_, (), rfl, hres, trivial⟩, hS.F ht⟩) hS.2.2 d_A_chordShare_36
    refine lv_icmp_lt (tgt := 26) hx hb d_A_chordShare_19 rfl (fun h19 => ?_) (fun h19 => ?_)
    · rw [if_pos h19] at hres
      refine lv_iconst (v := 0) hx hb d_A_chordShare_26 (by decide) ?_
      exact J27 0 hres ls _ _ (lv_sub hl [0, 2] rfl) hP hS
    · rw [if_neg h19] at hres
      refine lv_iconst (v := 1) hx hb d_A_chordShare_22 (by decide) ?_
      refine lv_goto (tgt := 27) hx hb d_A_chordShare_23 rfl ?_
      exact J27 1 hres ls _ _ (lv_sub hl [0, 2] rfl) hP hS
  refine lv_icmp_lt (tgt := 12) hx hb d_A_chordShare_5 rfl (fun h5 => ?_) (fun h5 => ?_)
  · rw [if_pos h5] at hres
    refine lv_iconst (v := 0) hx hb d_A_chordShare_12 (by decide) ?_
    exact J13 0 hres ls _ _ (lv_sub hl [0, 1, 2] rfl) hP hS
  · rw [if_neg h5] at hres
    refine lv_iconst (v := 1) hx hb d_A_chordShare_8 (by decide) ?_
    refine lv_goto (tgt := 13) hx hb d_A_chordShare_9 rfl ?_
    exact J13 1 hres ls _ _ (lv_sub hl [0, 1, 2] rfl) hP hS
def ka_on (sx : Int32) (sy : Int32) (bx : Int32) (b2 : Int32) (ex : Int32) (ey : Int32) (a : Int32) (b : Int32) : Int32 := (if (ka_rz (Int32.toInt64 (sx - a)) (Int32.toInt64 (bx - a)) (Int32.toInt64 (ex - a))) = 0 then 0 else (if (ka_rz (Int32.toInt64 (sy - b)) (Int32.toInt64 (b2 - b)) (Int32.toInt64 (ey - b))) = 0 then 0 else 1))
set_option maxHeartbeats 4000000 in
set_option maxRecDepth 100000 in
theorem c_ka_on (l : Launch) (dC : Nat → ClassId) (dI : Nat → Nat → Nat) (h0 : Nat) (sx : Int32) (sy : Int32) (bx : Int32) (b2 : Int32) (ex : Int32) (ey : Int32) (a : Int32) (b : Int32) : pr_i l y_A_onStraightArc w_A_onStraightArc { frames := 2, cells := 0, slots := 0, locals := 49 } (dC, dI) cls9 [(h0, .inr (1, [.int sx, .int sy, .int bx, .int b2, .int ex, .int ey]))] [] [.ref h0, .int a, .int b] (ka_on sx sy bx b2 ex ey a b) := by
  intro sz
  refine Met.ofW (cc := b_A_onStraightArc) (maxL := 3) (ret := (some .boolean)) (by decide) rfl ?_
  intro p e s m args below meth c s₁ B hml hv
  obtain ⟨hargs, hsz, hP, hK⟩ := hv
  have hx := B.exec
  have hb := B.bytes
  have hr := B.returns
  have hts : ∀ w ∈ lw_w, w.before args s = true := fun w h => atoms_spec (ws := w_A_onStraightArc) B.pre w (List.mem_cons_of_mem _ h)
  have hown : s.vm.findClass R_A = some m.cls := findClass_of_methodNamed B.named
  have hlocks := B.notSynchronized
  subst hsz
  generalize hR : (headSpec w_A_onStraightArc { frames := 2, cells := 0, slots := 0, locals := 49 }).room = R
  generalize hAe : (fun q : Nat => s.heap.size ≤ q) = A
  have hA : ∀ q : Nat, s.heap.size ≤ q → A q := fun q h => by rw [← hAe]; exact h
  have hS : va_S A s.heap s.heap [] := va_S.rf
  generalize hRES : ka_on sx sy bx b2 ex ey a b = RES
  have hres := hRES
  replace hRES := hRES.symm
  have hl := lv_entry [.ref h0, .int a, .int b] (n := 3) (Nat.le_of_ble_eq_true rfl)
  have hent : entryFrame m args 3 = F0 m 0 (lg_sl [.ref h0, .int a, .int b] ++ List.replicate (3 - (lg_sl [.ref h0, .int a, .int b]).length) Slot.unset).toArray [] := by rw [hargs]; exact lg_entry_eq m [.ref h0, .int a, .int b] 3
  rw [hent]
  clear hent
  generalize (lg_sl [.ref h0, .int a, .int b] ++ List.replicate (3 - (lg_sl [.ref h0, .int a, .int b]).length) Slot.unset).toArray = ls at hl ⊢
  have hl : lv_has ls 3 [(0, .ref h0), (1, .int a), (2, .int b)] := hl
  have hP : va_P (dC, dI) cls9 [(h0, .inr (1, [.int sx, .int sy, .int bx, .int b2, .int ex, .int ey]))] s.heap := hP
  unfold ka_on at hres
  generalize hQ : MQ below (va_Qi (fun x (_ : Unit) => x = RES) (fun _ _ => True) A) args s 0 0 A = Q
  replace hQ := hQ.symm
  refine lv_aload_n hx hb d_A_onStraightArc_0 rfl (lv_at hl 0 rfl) ?_
  refine va_get (D := (dC, dI)) (ci := 1) (v := .int sx) (C := R_A) (T := F_A) (N := 6) hx hb hts in_A hown hK hP 0 rfl rfl 0 (by decide) (hts _ tw_110) (fun _ h9 => h9) rfl d_A_onStraightArc_1 ?_
  refine lv_iload_n hx hb d_A_onStraightArc_4 rfl (lv_at hl 1 rfl) ?_
  refine lv_isub hx hb d_A_onStraightArc_5 ?_
  refine lv_i2l (v := Int32.toInt64 (sx - a)) hx hb d_A_onStraightArc_6 rfl ?_
  refine lv_aload_n hx hb d_A_onStraightArc_7 rfl (lv_at hl 0 rfl) ?_
  refine va_get (D := (dC, dI)) (ci := 1) (v := .int bx) (C := R_A) (T := F_A) (N := 6) hx hb hts in_A hown hK hP 0 rfl rfl 2 (by decide) (hts _ tw_112) (fun _ h9 => h9) rfl d_A_onStraightArc_8 ?_
  refine lv_iload_n hx hb d_A_onStraightArc_11 rfl (lv_at hl 1 rfl) ?_
  refine lv_isub hx hb d_A_onStraightArc_12 ?_
  refine lv_i2l (v := Int32.toInt64 (bx - a)) hx hb d_A_onStraightArc_13 rfl ?_
  refine lv_aload_n hx hb d_A_onStraightArc_14 rfl (lv_at hl 0 rfl) ?_
  refine va_get (D := (dC, dI)) (ci := 1) (v := .int ex) (C := R_A) (T := F_A) (N := 6) hx hb hts in_A hown hK hP 0 rfl rfl 4 (by decide) (hts _ tw_114) (fun _ h9 => h9) rfl d_A_onStraightArc_15 ?_
  refine lv_iload_n hx hb d_A_onStraightArc_18 rfl (lv_at hl 1 rfl) ?_
  refine lv_isub hx hb d_A_onStraightArc_19 ?_
  refine lv_i2l (v := Int32.toInt64 (ex - a)) hx hb d_A_onStraightArc_20 rfl ?_
  refine cq_Si (As := [.long (Int32.toInt64 (sx - a)), .long (Int32.toInt64 (bx - a)), .long (Int32.toInt64 (ex - a))]) (rest := []) ⟨hx, hb, hml, hown, hts⟩ (c_ka_rz l dC dI (Int32.toInt64 (sx - a)) (Int32.toInt64 (bx - a)) (Int32.toInt64 (ex - a))) (va_cwS 3 hts (gi_S tw_237 tw_238 tw_7 tw_239) rfl rfl rfl (by decide +kernel) ⟨(by rw [← hR]; exact Nat.le_of_ble_eq_true rfl), (by rw [← hR]; exact Nat.le_of_ble_eq_true rfl)⟩) rfl rfl hl.1 (Nat.le_of_ble_eq_true rfl) d_A_onStraightArc_21 ⟨Nat.zero_le _, Nat.zero_le _⟩ hP hS hA (fun H locs hP hS => ?_)
  refine lv_if_eq (tgt := 58) hx hb d_A_onStraightArc_24 rfl (fun h24 => ?_) (fun h24 => ?_)
  · rw [if_pos h24] at hres
    refine lv_iconst (v := 0) hx hb d_A_onStraightArc_58 (by decide) ?_
    rw [hQ]
    exact W.zret (v := 0) hx hb hr (by first | rfl | decide) (fun t ht hW => ⟨⟨_, (), rfl, hres, trivial⟩, hS.F ht⟩) hS.2.2 d_A_onStraightArc_59
  · rw [if_neg h24] at hres
    refine lv_aload_n hx hb d_A_onStraightArc_27 rfl (lv_at hl 0 rfl) ?_
    refine va_get (D := (dC, dI)) (ci := 1) (v := .int sy) (C := R_A) (T := F_A) (N := 6) hx hb hts in_A hown hK hP 0 rfl rfl 1 (by decide) (hts _ tw_111) (fun _ h9 => h9) rfl d_A_onStraightArc_28 ?_
    refine lv_iload_n hx hb d_A_onStraightArc_31 rfl (lv_at hl 2 rfl) ?_
    refine lv_isub hx hb d_A_onStraightArc_32 ?_
    refine lv_i2l (v := Int32.toInt64 (sy - b)) hx hb d_A_onStraightArc_33 rfl ?_
    refine lv_aload_n hx hb d_A_onStraightArc_34 rfl (lv_at hl 0 rfl) ?_
    refine va_get (D := (dC, dI)) (ci := 1) (v := .int b2) (C := R_A) (T := F_A) (N := 6) hx hb hts in_A hown hK hP 0 rfl rfl 3 (by decide) (hts _ tw_113) (fun _ h9 => h9) rfl d_A_onStraightArc_35 ?_
    refine lv_iload_n hx hb d_A_onStraightArc_38 rfl (lv_at hl 2 rfl) ?_
    refine lv_isub hx hb d_A_onStraightArc_39 ?_
    refine lv_i2l (v := Int32.toInt64 (b2 - b)) hx hb d_A_onStraightArc_40 rfl ?_
    refine lv_aload_n hx hb d_A_onStraightArc_41 rfl (lv_at hl 0 rfl) ?_
    refine va_get (D := (dC, dI)) (ci := 1) (v := .int ey) (C := R_A) (T := F_A) (N := 6) hx hb hts in_A hown hK hP 0 rfl rfl 5 (by decide) (hts _ tw_115) (fun _ h9 => h9) rfl d_A_onStraightArc_42 ?_
    refine lv_iload_n hx hb d_A_onStraightArc_45 rfl (lv_at hl 2 rfl) ?_
    refine lv_isub hx hb d_A_onStraightArc_46 ?_
    refine lv_i2l (v := Int32.toInt64 (ey - b)) hx hb d_A_onStraightArc_47 rfl ?_
    refine cq_Si (As := [.long (Int32.toInt64 (sy - b)), .long (Int32.toInt64 (b2 - b)), .long (Int32.toInt64 (ey - b))]) (rest := []) ⟨hx, hb, hml, hown, hts⟩ (c_ka_rz l dC dI (Int32.toInt64 (sy - b)) (Int32.toInt64 (b2 - b)) (Int32.toInt64 (ey - b))) (va_cwS 3 hts (gi_S tw_237 tw_238 tw_7 tw_239) rfl rfl rfl (by decide +kernel) ⟨(by rw [← hR]; exact Nat.le_of_ble_eq_true rfl), (by rw [← hR]; exact Nat.le_of_ble_eq_true rfl)⟩) rfl rfl hl.1 (Nat.le_of_ble_eq_true rfl) d_A_onStraightArc_48 ⟨Nat.zero_le _, Nat.zero_le _⟩ hP hS hA (fun H locs hP hS => ?_)
    refine lv_if_eq (tgt := 58) hx hb d_A_onStraightArc_51 rfl (fun h51 => ?_) (fun h51 => ?_)
    · rw [if_pos h51] at hres
      refine lv_iconst (v := 0) hx hb d_A_onStraightArc_58 (by decide) ?_
      rw [hQ]
      exact W.zret (v := 0) hx hb hr (by first | rfl | decide) (fun t ht hW => ⟨⟨_, (), rfl, hres, trivial⟩, hS.F ht⟩) hS.2.2 d_A_onStraightArc_59
    · rw [if_neg h51] at hres
      refine lv_iconst (v := 1) hx hb d_A_onStraightArc_54 (by decide) ?_
      refine lv_goto (tgt := 59) hx hb d_A_onStraightArc_55 rfl ?_
      rw [hQ]
      exact W.zret (v := 1) hx hb hr (by first | rfl | decide) (fun t ht hW => ⟨⟨_, (), rfl, hres, trivial⟩, hS.F ht⟩) hS.2.2 d_A_onStraightArc_59
def ka_turns_j190 (sx : Int32) (sy : Int32) (bx : Int32) (b2 : Int32) (ex : Int32) (ey : Int32) (a : Int32) (b : Int32) (v160_l11 : Int32) (t190_0 : Int32) : Int32 := (if t190_0 = 0 then v160_l11 else (if (ka_on sx sy bx b2 ex ey a b) = 0 then v160_l11 else 1000))
def ka_turns_k160 (sx : Int32) (sy : Int32) (bx : Int32) (b2 : Int32) (ex : Int32) (ey : Int32) (a : Int32) (b : Int32) (v160_l10 : Int32) (v160_l11 : Int32) (v160_l3 : Int64) (v160_l5 : Int64) (v160_l7 : Int64) (v160_l9 : Int32) : Int32 := (if v160_l9 = 0 then (if (lg_cmp v160_l3 0) = 0 then (if (lg_cmp v160_l5 0) = 0 then (if (lg_cmp v160_l7 0) = 0 then (ka_turns_j190 sx sy bx b2 ex ey a b v160_l11 1) else (ka_turns_j190 sx sy bx b2 ex ey a b v160_l11 0)) else (ka_turns_j190 sx sy bx b2 ex ey a b v160_l11 0)) else (ka_turns_j190 sx sy bx b2 ex ey a b v160_l11 0)) else (if (lg_cmp ((Int32.toInt64 v160_l9) * v160_l3) 0) < 0 then v160_l11 else (if (lg_cmp ((Int32.toInt64 v160_l9) * v160_l5) 0) < 0 then v160_l11 else (if 0 ≤ (lg_cmp ((Int32.toInt64 v160_l9) * v160_l7) 0) then (if (ka_cmp (if 0 < v160_l5 then v160_l5 else -v160_l5) (if 0 < v160_l5 then v160_l5 else -v160_l5) (4 * (if 0 < v160_l3 then v160_l3 else -v160_l3)) (if 0 < v160_l7 then v160_l7 else -v160_l7)) = 0 then 1000 else (if 0 ≤ (ka_cmp (if 0 < v160_l5 then v160_l5 else -v160_l5) (if 0 < v160_l5 then v160_l5 else -v160_l5) (4 * (if 0 < v160_l3 then v160_l3 else -v160_l3)) (if 0 < v160_l7 then v160_l7 else -v160_l7)) then v160_l11 else (if v160_l10 = v160_l9 then (v160_l11 + v160_l9) else v160_l11))) else v160_l11))))
def ka_turns (sx : Int32) (sy : Int32) (bx : Int32) (b2 : Int32) (ex : Int32) (ey : Int32) (a : Int32) (b : Int32) : Int32 := (if (ka_may sx sy bx b2 ex ey b) = 0 then 0 else (if a ≤ (if sx < (if bx < ex then ex else bx) then (if bx < ex then ex else bx) else sx) then (ka_turns_k160 sx sy bx b2 ex ey a b (ka_side sx sy bx b2 ex ey (ka_turn (Int32.toInt64 (ex - a)) (Int32.toInt64 (ey - b)) (Int32.toInt64 (sx - a)) (Int32.toInt64 (sy - b)))) (ka_share sx sy bx b2 ex ey (ka_side sx sy bx b2 ex ey (ka_turn (Int32.toInt64 (ex - a)) (Int32.toInt64 (ey - b)) (Int32.toInt64 (sx - a)) (Int32.toInt64 (sy - b)))) b) (ka_turn (Int32.toInt64 (bx - a)) (Int32.toInt64 (b2 - b)) (Int32.toInt64 (ex - a)) (Int32.toInt64 (ey - b))) (ka_turn (Int32.toInt64 (ex - a)) (Int32.toInt64 (ey - b)) (Int32.toInt64 (sx - a)) (Int32.toInt64 (sy - b))) (ka_turn (Int32.toInt64 (sx - a)) (Int32.toInt64 (sy - b)) (Int32.toInt64 (bx - a)) (Int32.toInt64 (b2 - b))) (jl_cmp (((ka_turn (Int32.toInt64 (bx - a)) (Int32.toInt64 (b2 - b)) (Int32.toInt64 (ex - a)) (Int32.toInt64 (ey - b))) + (ka_turn (Int32.toInt64 (ex - a)) (Int32.toInt64 (ey - b)) (Int32.toInt64 (sx - a)) (Int32.toInt64 (sy - b)))) + (ka_turn (Int32.toInt64 (sx - a)) (Int32.toInt64 (sy - b)) (Int32.toInt64 (bx - a)) (Int32.toInt64 (b2 - b)))) 0)) else 0))
set_option maxHeartbeats 4000000 in
set_option maxRecDepth 100000 in
theorem c_ka_turns (l : Launch) (dC : Nat → ClassId) (dI : Nat → Nat → Nat) (h0 : Nat) (sx : Int32) (sy : Int32) (bx : Int32) (b2 : Int32) (ex : Int32) (ey : Int32) (a : Int32) (b : Int32) : pr_i l y_A_turnsAround w_A_turnsAround { frames := 3, cells := 0, slots := 0, locals := 71 } (dC, dI) cls9 [(h0, .inr (1, [.int sx, .int sy, .int bx, .int b2, .int ex, .int ey]))] [] [.ref h0, .int a, .int b] (ka_turns sx sy bx b2 ex ey a b) := by
  intro sz
  refine Met.ofW (cc := b_A_turnsAround) (maxL := 13) (ret := (some .int)) (by decide) rfl ?_
  intro p e s m args below meth c s₁ B hml hv
  obtain ⟨hargs, hsz, hP, hK⟩ := hv
  have hx := B.exec
  have hb := B.bytes
  have hr := B.returns
  have hts : ∀ w ∈ lw_w, w.before args s = true := fun w h => atoms_spec (ws := w_A_turnsAround) B.pre w (List.mem_cons_of_mem _ h)
  have hown : s.vm.findClass R_A = some m.cls := findClass_of_methodNamed B.named
  have hlocks := B.notSynchronized
  subst hsz
  generalize hR : (headSpec w_A_turnsAround { frames := 3, cells := 0, slots := 0, locals := 71 }).room = R
  generalize hAe : (fun q : Nat => s.heap.size ≤ q) = A
  have hA : ∀ q : Nat, s.heap.size ≤ q → A q := fun q h => by rw [← hAe]; exact h
  have hS : va_S A s.heap s.heap [] := va_S.rf
  generalize hRES : ka_turns sx sy bx b2 ex ey a b = RES
  have hres := hRES
  replace hRES := hRES.symm
  have hl := lv_entry [.ref h0, .int a, .int b] (n := 13) (Nat.le_of_ble_eq_true rfl)
  have hent : entryFrame m args 13 = F0 m 0 (lg_sl [.ref h0, .int a, .int b] ++ List.replicate (13 - (lg_sl [.ref h0, .int a, .int b]).length) Slot.unset).toArray [] := by rw [hargs]; exact lg_entry_eq m [.ref h0, .int a, .int b] 13
  rw [hent]
  clear hent
  generalize (lg_sl [.ref h0, .int a, .int b] ++ List.replicate (13 - (lg_sl [.ref h0, .int a, .int b]).length) Slot.unset).toArray = ls at hl ⊢
  have hl : lv_has ls 13 [(0, .ref h0), (1, .int a), (2, .int b)] := hl
  have hP : va_P (dC, dI) cls9 [(h0, .inr (1, [.int sx, .int sy, .int bx, .int b2, .int ex, .int ey]))] s.heap := hP
  unfold ka_turns at hres
  generalize hQ : MQ below (va_Qi (fun x (_ : Unit) => x = RES) (fun _ _ => True) A) args s 0 0 A = Q
  replace hQ := hQ.symm
  refine lv_aload_n hx hb d_A_turnsAround_0 rfl (lv_at hl 0 rfl) ?_
  refine lv_iload_n hx hb d_A_turnsAround_1 rfl (lv_at hl 2 rfl) ?_
  refine cq_Vi (C := R_A) (T := F_A) (N := 6) (ci := 1) (As := [.int b]) (rest := []) (w1 := [(h0, .inr (1, [.int sx, .int sy, .int bx, .int b2, .int ex, .int ey]))]) (tys := []) ⟨hx, hb, hml, hown, hts⟩ (c_ka_may l dC dI h0 sx sy bx b2 ex ey b) (cwV 1 hts (gi_V tw_210 tw_211 tw_212 tw_7 tw_213) rfl rfl rfl (by decide +kernel) ⟨(by rw [← hR]; exact Nat.le_of_ble_eq_true rfl), (by rw [← hR]; exact Nat.le_of_ble_eq_true rfl)⟩) hK (hP.sub [0] rfl) (hK.sub [] rfl) 0 rfl rfl rfl rfl hl.1 (Nat.le_of_ble_eq_true rfl) d_A_turnsAround_2 ⟨Nat.zero_le _, Nat.zero_le _⟩ hP hS hA (fun H locs hP hS => ?_)
  refine lv_if_eq (tgt := 30) hx hb d_A_turnsAround_5 rfl (fun h5 => ?_) (fun h5 => ?_)
  · rw [if_pos h5] at hres
    refine lv_iconst (v := 0) hx hb d_A_turnsAround_30 (by decide) ?_
    rw [hQ]
    exact W.iret (v := 0) hx hb hr (fun t ht hW => ⟨⟨_, (), rfl, hres, trivial⟩, hS.F ht⟩) hS.2.2 d_A_turnsAround_31
  · rw [if_neg h5] at hres
    refine lv_iload_n hx hb d_A_turnsAround_8 rfl (lv_at hl 1 rfl) ?_
    refine lv_aload_n hx hb d_A_turnsAround_9 rfl (lv_at hl 0 rfl) ?_
    refine va_get (D := (dC, dI)) (ci := 1) (v := .int sx) (C := R_A) (T := F_A) (N := 6) hx hb hts in_A hown hK hP 0 rfl rfl 0 (by decide) (hts _ tw_110) (fun _ h9 => h9) rfl d_A_turnsAround_10 ?_
    refine lv_aload_n hx hb d_A_turnsAround_13 rfl (lv_at hl 0 rfl) ?_
    refine va_get (D := (dC, dI)) (ci := 1) (v := .int bx) (C := R_A) (T := F_A) (N := 6) hx hb hts in_A hown hK hP 0 rfl rfl 2 (by decide) (hts _ tw_112) (fun _ h9 => h9) rfl d_A_turnsAround_14 ?_
    refine lv_aload_n hx hb d_A_turnsAround_17 rfl (lv_at hl 0 rfl) ?_
    refine va_get (D := (dC, dI)) (ci := 1) (v := .int ex) (C := R_A) (T := F_A) (N := 6) hx hb hts in_A hown hK hP 0 rfl rfl 4 (by decide) (hts _ tw_114) (fun _ h9 => h9) rfl d_A_turnsAround_18 ?_
    refine va_mmax hx hb (hml.trans hl.1.symm) hown (hts _ tw_215) (hts _ tw_27) (hts _ tw_2) (hts _ tw_28) (by rw [← hR]; exact Nat.le_of_ble_eq_true rfl) (by rw [← hR]; exact Nat.le_of_ble_eq_true rfl) (Nat.zero_le _) (Nat.zero_le _) d_A_turnsAround_21 ?_
    refine va_mmax hx hb (hml.trans hl.1.symm) hown (hts _ tw_215) (hts _ tw_27) (hts _ tw_2) (hts _ tw_28) (by rw [← hR]; exact Nat.le_of_ble_eq_true rfl) (by rw [← hR]; exact Nat.le_of_ble_eq_true rfl) (Nat.zero_le _) (Nat.zero_le _) d_A_turnsAround_24 ?_
    refine lv_icmp_le (tgt := 32) hx hb d_A_turnsAround_27 rfl (fun h27 => ?_) (fun h27 => ?_)
    · rw [if_pos h27] at hres
      refine lv_aload_n hx hb d_A_turnsAround_32 rfl (lv_at hl 0 rfl) ?_
      refine va_get (D := (dC, dI)) (ci := 1) (v := .int bx) (C := R_A) (T := F_A) (N := 6) hx hb hts in_A hown hK hP 0 rfl rfl 2 (by decide) (hts _ tw_112) (fun _ h9 => h9) rfl d_A_turnsAround_33 ?_
      refine lv_iload_n hx hb d_A_turnsAround_36 rfl (lv_at hl 1 rfl) ?_
      refine lv_isub hx hb d_A_turnsAround_37 ?_
      refine lv_i2l (v := Int32.toInt64 (bx - a)) hx hb d_A_turnsAround_38 rfl ?_
      refine lv_aload_n hx hb d_A_turnsAround_39 rfl (lv_at hl 0 rfl) ?_
      refine va_get (D := (dC, dI)) (ci := 1) (v := .int b2) (C := R_A) (T := F_A) (N := 6) hx hb hts in_A hown hK hP 0 rfl rfl 3 (by decide) (hts _ tw_113) (fun _ h9 => h9) rfl d_A_turnsAround_40 ?_
      refine lv_iload_n hx hb d_A_turnsAround_43 rfl (lv_at hl 2 rfl) ?_
      refine lv_isub hx hb d_A_turnsAround_44 ?_
      refine lv_i2l (v := Int32.toInt64 (b2 - b)) hx hb d_A_turnsAround_45 rfl ?_
      refine lv_aload_n hx hb d_A_turnsAround_46 rfl (lv_at hl 0 rfl) ?_
      refine va_get (D := (dC, dI)) (ci := 1) (v := .int ex) (C := R_A) (T := F_A) (N := 6) hx hb hts in_A hown hK hP 0 rfl rfl 4 (by decide) (hts _ tw_114) (fun _ h9 => h9) rfl d_A_turnsAround_47 ?_
      refine lv_iload_n hx hb d_A_turnsAround_50 rfl (lv_at hl 1 rfl) ?_
      refine lv_isub hx hb d_A_turnsAround_51 ?_
      refine lv_i2l (v := Int32.toInt64 (ex - a)) hx hb d_A_turnsAround_52 rfl ?_
      refine lv_aload_n hx hb d_A_turnsAround_53 rfl (lv_at hl 0 rfl) ?_
      refine va_get (D := (dC, dI)) (ci := 1) (v := .int ey) (C := R_A) (T := F_A) (N := 6) hx hb hts in_A hown hK hP 0 rfl rfl 5 (by decide) (hts _ tw_115) (fun _ h9 => h9) rfl d_A_turnsAround_54 ?_
      refine lv_iload_n hx hb d_A_turnsAround_57 rfl (lv_at hl 2 rfl) ?_
      refine lv_isub hx hb d_A_turnsAround_58 ?_
      refine lv_i2l (v := Int32.toInt64 (ey - b)) hx hb d_A_turnsAround_59 rfl ?_
      refine cq_Sl (As := [.long (Int32.toInt64 (bx - a)), .long (Int32.toInt64 (b2 - b)), .long (Int32.toInt64 (ex - a)), .long (Int32.toInt64 (ey - b))]) (rest := []) ⟨hx, hb, hml, hown, hts⟩ (c_ka_turn l dC dI (Int32.toInt64 (bx - a)) (Int32.toInt64 (b2 - b)) (Int32.toInt64 (ex - a)) (Int32.toInt64 (ey - b))) (va_cwS 4 hts (gi_S tw_216 tw_217 tw_7 tw_218) rfl rfl rfl (by decide +kernel) ⟨(by rw [← hR]; exact Nat.le_of_ble_eq_true rfl), (by rw [← hR]; exact Nat.le_of_ble_eq_true rfl)⟩) rfl rfl hl.1 (Nat.le_of_ble_eq_true rfl) d_A_turnsAround_60 ⟨Nat.zero_le _, Nat.zero_le _⟩ hP hS hA (fun H locs hP hS => ?_)
      refine lv_lstore_n (lv' := [(3, .long (ka_turn (Int32.toInt64 (bx - a)) (Int32.toInt64 (b2 - b)) (Int32.toInt64 (ex - a)) (Int32.toInt64 (ey - b)))), (0, .ref h0), (1, .int a), (2, .int b)]) hx hb d_A_turnsAround_63 rfl hl (by decide) rfl (fun ls hl => ?_)
      refine lv_aload_n hx hb d_A_turnsAround_64 rfl (lv_at hl 1 rfl) ?_
      refine va_get (D := (dC, dI)) (ci := 1) (v := .int ex) (C := R_A) (T := F_A) (N := 6) hx hb hts in_A hown hK hP 0 rfl rfl 4 (by decide) (hts _ tw_114) (fun _ h9 => h9) rfl d_A_turnsAround_65 ?_
      refine lv_iload_n hx hb d_A_turnsAround_68 rfl (lv_at hl 2 rfl) ?_
      refine lv_isub hx hb d_A_turnsAround_69 ?_
      refine lv_i2l (v := Int32.toInt64 (ex - a)) hx hb d_A_turnsAround_70 rfl ?_
      refine lv_aload_n hx hb d_A_turnsAround_71 rfl (lv_at hl 1 rfl) ?_
      refine va_get (D := (dC, dI)) (ci := 1) (v := .int ey) (C := R_A) (T := F_A) (N := 6) hx hb hts in_A hown hK hP 0 rfl rfl 5 (by decide) (hts _ tw_115) (fun _ h9 => h9) rfl d_A_turnsAround_72 ?_
      refine lv_iload_n hx hb d_A_turnsAround_75 rfl (lv_at hl 3 rfl) ?_
      refine lv_isub hx hb d_A_turnsAround_76 ?_
      refine lv_i2l (v := Int32.toInt64 (ey - b)) hx hb d_A_turnsAround_77 rfl ?_
      refine lv_aload_n hx hb d_A_turnsAround_78 rfl (lv_at hl 1 rfl) ?_
      refine va_get (D := (dC, dI)) (ci := 1) (v := .int sx) (C := R_A) (T := F_A) (N := 6) hx hb hts in_A hown hK hP 0 rfl rfl 0 (by decide) (hts _ tw_110) (fun _ h9 => h9) rfl d_A_turnsAround_79 ?_
      refine lv_iload_n hx hb d_A_turnsAround_82 rfl (lv_at hl 2 rfl) ?_
      refine lv_isub hx hb d_A_turnsAround_83 ?_
      refine lv_i2l (v := Int32.toInt64 (sx - a)) hx hb d_A_turnsAround_84 rfl ?_
      refine lv_aload_n hx hb d_A_turnsAround_85 rfl (lv_at hl 1 rfl) ?_
      refine va_get (D := (dC, dI)) (ci := 1) (v := .int sy) (C := R_A) (T := F_A) (N := 6) hx hb hts in_A hown hK hP 0 rfl rfl 1 (by decide) (hts _ tw_111) (fun _ h9 => h9) rfl d_A_turnsAround_86 ?_
      refine lv_iload_n hx hb d_A_turnsAround_89 rfl (lv_at hl 3 rfl) ?_
      refine lv_isub hx hb d_A_turnsAround_90 ?_
      refine lv_i2l (v := Int32.toInt64 (sy - b)) hx hb d_A_turnsAround_91 rfl ?_
      refine cq_Sl (As := [.long (Int32.toInt64 (ex - a)), .long (Int32.toInt64 (ey - b)), .long (Int32.toInt64 (sx - a)), .long (Int32.toInt64 (sy - b))]) (rest := []) ⟨hx, hb, hml, hown, hts⟩ (c_ka_turn l dC dI (Int32.toInt64 (ex - a)) (Int32.toInt64 (ey - b)) (Int32.toInt64 (sx - a)) (Int32.toInt64 (sy - b))) (va_cwS 4 hts (gi_S tw_216 tw_217 tw_7 tw_218) rfl rfl rfl (by decide +kernel) ⟨(by rw [← hR]; exact Nat.le_of_ble_eq_true rfl), (by rw [← hR]; exact Nat.le_of_ble_eq_true rfl)⟩) rfl rfl hl.1 (Nat.le_of_ble_eq_true rfl) d_A_turnsAround_92 ⟨Nat.zero_le _, Nat.zero_le _⟩ hP hS hA (fun H locs hP hS => ?_)
      refine lv_lstore (lv' := [(5, .long (ka_turn (Int32.toInt64 (ex - a)) (Int32.toInt64 (ey - b)) (Int32.toInt64 (sx - a)) (Int32.toInt64 (sy - b)))), (3, .long (ka_turn (Int32.toInt64 (bx - a)) (Int32.toInt64 (b2 - b)) (Int32.toInt64 (ex - a)) (Int32.toInt64 (ey - b)))), (0, .ref h0), (1, .int a), (2, .int b)]) hx hb d_A_turnsAround_95 hl (by decide) rfl (fun ls hl => ?_)
      refine lv_aload_n hx hb d_A_turnsAround_97 rfl (lv_at hl 2 rfl) ?_
      refine va_get (D := (dC, dI)) (ci := 1) (v := .int sx) (C := R_A) (T := F_A) (N := 6) hx hb hts in_A hown hK hP 0 rfl rfl 0 (by decide) (hts _ tw_110) (fun _ h9 => h9) rfl d_A_turnsAround_98 ?_
      refine lv_iload_n hx hb d_A_turnsAround_101 rfl (lv_at hl 3 rfl) ?_
      refine lv_isub hx hb d_A_turnsAround_102 ?_
      refine lv_i2l (v := Int32.toInt64 (sx - a)) hx hb d_A_turnsAround_103 rfl ?_
      refine lv_aload_n hx hb d_A_turnsAround_104 rfl (lv_at hl 2 rfl) ?_
      refine va_get (D := (dC, dI)) (ci := 1) (v := .int sy) (C := R_A) (T := F_A) (N := 6) hx hb hts in_A hown hK hP 0 rfl rfl 1 (by decide) (hts _ tw_111) (fun _ h9 => h9) rfl d_A_turnsAround_105 ?_
      refine lv_iload_n hx hb d_A_turnsAround_108 rfl (lv_at hl 4 rfl) ?_
      refine lv_isub hx hb d_A_turnsAround_109 ?_
      refine lv_i2l (v := Int32.toInt64 (sy - b)) hx hb d_A_turnsAround_110 rfl ?_
      refine lv_aload_n hx hb d_A_turnsAround_111 rfl (lv_at hl 2 rfl) ?_
      refine va_get (D := (dC, dI)) (ci := 1) (v := .int bx) (C := R_A) (T := F_A) (N := 6) hx hb hts in_A hown hK hP 0 rfl rfl 2 (by decide) (hts _ tw_112) (fun _ h9 => h9) rfl d_A_turnsAround_112 ?_
      refine lv_iload_n hx hb d_A_turnsAround_115 rfl (lv_at hl 3 rfl) ?_
      refine lv_isub hx hb d_A_turnsAround_116 ?_
      refine lv_i2l (v := Int32.toInt64 (bx - a)) hx hb d_A_turnsAround_117 rfl ?_
      refine lv_aload_n hx hb d_A_turnsAround_118 rfl (lv_at hl 2 rfl) ?_
      refine va_get (D := (dC, dI)) (ci := 1) (v := .int b2) (C := R_A) (T := F_A) (N := 6) hx hb hts in_A hown hK hP 0 rfl rfl 3 (by decide) (hts _ tw_113) (fun _ h9 => h9) rfl d_A_turnsAround_119 ?_
      refine lv_iload_n hx hb d_A_turnsAround_122 rfl (lv_at hl 4 rfl) ?_
      refine lv_isub hx hb d_A_turnsAround_123 ?_
      refine lv_i2l (v := Int32.toInt64 (b2 - b)) hx hb d_A_turnsAround_124 rfl ?_
      refine cq_Sl (As := [.long (Int32.toInt64 (sx - a)), .long (Int32.toInt64 (sy - b)), .long (Int32.toInt64 (bx - a)), .long (Int32.toInt64 (b2 - b))]) (rest := []) ⟨hx, hb, hml, hown, hts⟩ (c_ka_turn l dC dI (Int32.toInt64 (sx - a)) (Int32.toInt64 (sy - b)) (Int32.toInt64 (bx - a)) (Int32.toInt64 (b2 - b))) (va_cwS 4 hts (gi_S tw_216 tw_217 tw_7 tw_218) rfl rfl rfl (by decide +kernel) ⟨(by rw [← hR]; exact Nat.le_of_ble_eq_true rfl), (by rw [← hR]; exact Nat.le_of_ble_eq_true rfl)⟩) rfl rfl hl.1 (Nat.le_of_ble_eq_true rfl) d_A_turnsAround_125 ⟨Nat.zero_le _, Nat.zero_le _⟩ hP hS hA (fun H locs hP hS => ?_)
      refine lv_lstore (lv' := [(7, .long (ka_turn (Int32.toInt64 (sx - a)) (Int32.toInt64 (sy - b)) (Int32.toInt64 (bx - a)) (Int32.toInt64 (b2 - b)))), (5, .long (ka_turn (Int32.toInt64 (ex - a)) (Int32.toInt64 (ey - b)) (Int32.toInt64 (sx - a)) (Int32.toInt64 (sy - b)))), (3, .long (ka_turn (Int32.toInt64 (bx - a)) (Int32.toInt64 (b2 - b)) (Int32.toInt64 (ex - a)) (Int32.toInt64 (ey - b)))), (0, .ref h0), (1, .int a), (2, .int b)]) hx hb d_A_turnsAround_128 hl (by decide) rfl (fun ls hl => ?_)
      refine lv_lload_n hx hb d_A_turnsAround_130 rfl (lv_at hl 2 rfl) ?_
      refine lv_lload hx hb d_A_turnsAround_131 (lv_at hl 1 rfl) ?_
      refine lv_ladd hx hb d_A_turnsAround_133 ?_
      refine lv_lload hx hb d_A_turnsAround_134 (lv_at hl 0 rfl) ?_
      refine lv_ladd hx hb d_A_turnsAround_136 ?_
      refine lv_lconst (v := 0) hx hb d_A_turnsAround_137 (by decide) ?_
      refine cq_Si (As := [.long (((ka_turn (Int32.toInt64 (bx - a)) (Int32.toInt64 (b2 - b)) (Int32.toInt64 (ex - a)) (Int32.toInt64 (ey - b))) + (ka_turn (Int32.toInt64 (ex - a)) (Int32.toInt64 (ey - b)) (Int32.toInt64 (sx - a)) (Int32.toInt64 (sy - b)))) + (ka_turn (Int32.toInt64 (sx - a)) (Int32.toInt64 (sy - b)) (Int32.toInt64 (bx - a)) (Int32.toInt64 (b2 - b)))), .long 0]) (rest := []) ⟨hx, hb, hml, hown, hts⟩ (c_jl_cmp l dC dI (((ka_turn (Int32.toInt64 (bx - a)) (Int32.toInt64 (b2 - b)) (Int32.toInt64 (ex - a)) (Int32.toInt64 (ey - b))) + (ka_turn (Int32.toInt64 (ex - a)) (Int32.toInt64 (ey - b)) (Int32.toInt64 (sx - a)) (Int32.toInt64 (sy - b)))) + (ka_turn (Int32.toInt64 (sx - a)) (Int32.toInt64 (sy - b)) (Int32.toInt64 (bx - a)) (Int32.toInt64 (b2 - b)))) 0) (va_cwS 2 hts (gi_S tw_219 tw_220 tw_13 tw_221) rfl rfl rfl (by decide +kernel) ⟨(by rw [← hR]; exact Nat.le_of_ble_eq_true rfl), (by rw [← hR]; exact Nat.le_of_ble_eq_true rfl)⟩) rfl rfl hl.1 (Nat.le_of_ble_eq_true rfl) d_A_turnsAround_138 ⟨Nat.zero_le _, Nat.zero_le _⟩ hP hS hA (fun H locs hP hS => ?_)
      refine lv_istore (lv' := [(9, .int (jl_cmp (((ka_turn (Int32.toInt64 (bx - a)) (Int32.toInt64 (b2 - b)) (Int32.toInt64 (ex - a)) (Int32.toInt64 (ey - b))) + (ka_turn (Int32.toInt64 (ex - a)) (Int32.toInt64 (ey - b)) (Int32.toInt64 (sx - a)) (Int32.toInt64 (sy - b)))) + (ka_turn (Int32.toInt64 (sx - a)) (Int32.toInt64 (sy - b)) (Int32.toInt64 (bx - a)) (Int32.toInt64 (b2 - b)))) 0)), (7, .long (ka_turn (Int32.toInt64 (sx - a)) (Int32.toInt64 (sy - b)) (Int32.toInt64 (bx - a)) (Int32.toInt64 (b2 - b)))), (5, .long (ka_turn (Int32.toInt64 (ex - a)) (Int32.toInt64 (ey - b)) (Int32.toInt64 (sx - a)) (Int32.toInt64 (sy - b)))), (3, .long (ka_turn (Int32.toInt64 (bx - a)) (Int32.toInt64 (b2 - b)) (Int32.toInt64 (ex - a)) (Int32.toInt64 (ey - b)))), (0, .ref h0), (1, .int a), (2, .int b)]) hx hb d_A_turnsAround_141 hl (by decide) rfl (fun ls hl => ?_)
      refine lv_aload_n hx hb d_A_turnsAround_143 rfl (lv_at hl 4 rfl) ?_
      refine lv_lload hx hb d_A_turnsAround_144 (lv_at hl 2 rfl) ?_
      refine cq_Vi (C := R_A) (T := F_A) (N := 6) (ci := 1) (As := [.long (ka_turn (Int32.toInt64 (ex - a)) (Int32.toInt64 (ey - b)) (Int32.toInt64 (sx - a)) (Int32.toInt64 (sy - b)))]) (rest := []) (w1 := [(h0, .inr (1, [.int sx, .int sy, .int bx, .int b2, .int ex, .int ey]))]) (tys := []) ⟨hx, hb, hml, hown, hts⟩ (c_ka_side l dC dI h0 sx sy bx b2 ex ey (ka_turn (Int32.toInt64 (ex - a)) (Int32.toInt64 (ey - b)) (Int32.toInt64 (sx - a)) (Int32.toInt64 (sy - b)))) (cwV 1 hts (gi_V tw_222 tw_224 ts_5 tw_7 tw_225) rfl rfl rfl (by decide +kernel) ⟨(by rw [← hR]; exact Nat.le_of_ble_eq_true rfl), (by rw [← hR]; exact Nat.le_of_ble_eq_true rfl)⟩) hK (hP.sub [0] rfl) (hK.sub [] rfl) 0 rfl rfl rfl rfl hl.1 (Nat.le_of_ble_eq_true rfl) d_A_turnsAround_146 ⟨Nat.zero_le _, Nat.zero_le _⟩ hP hS hA (fun H locs hP hS => ?_)
      refine lv_istore (lv' := [(10, .int (ka_side sx sy bx b2 ex ey (ka_turn (Int32.toInt64 (ex - a)) (Int32.toInt64 (ey - b)) (Int32.toInt64 (sx - a)) (Int32.toInt64 (sy - b))))), (9, .int (jl_cmp (((ka_turn (Int32.toInt64 (bx - a)) (Int32.toInt64 (b2 - b)) (Int32.toInt64 (ex - a)) (Int32.toInt64 (ey - b))) + (ka_turn (Int32.toInt64 (ex - a)) (Int32.toInt64 (ey - b)) (Int32.toInt64 (sx - a)) (Int32.toInt64 (sy - b)))) + (ka_turn (Int32.toInt64 (sx - a)) (Int32.toInt64 (sy - b)) (Int32.toInt64 (bx - a)) (Int32.toInt64 (b2 - b)))) 0)), (7, .long (ka_turn (Int32.toInt64 (sx - a)) (Int32.toInt64 (sy - b)) (Int32.toInt64 (bx - a)) (Int32.toInt64 (b2 - b)))), (5, .long (ka_turn (Int32.toInt64 (ex - a)) (Int32.toInt64 (ey - b)) (Int32.toInt64 (sx - a)) (Int32.toInt64 (sy - b)))), (3, .long (ka_turn (Int32.toInt64 (bx - a)) (Int32.toInt64 (b2 - b)) (Int32.toInt64 (ex - a)) (Int32.toInt64 (ey - b)))), (0, .ref h0), (1, .int a), (2, .int b)]) hx hb d_A_turnsAround_149 hl (by decide) rfl (fun ls hl => ?_)
      refine lv_aload_n hx hb d_A_turnsAround_151 rfl (lv_at hl 5 rfl) ?_
      refine lv_iload hx hb d_A_turnsAround_152 (lv_at hl 0 rfl) ?_
      refine lv_iload_n hx hb d_A_turnsAround_154 rfl (lv_at hl 7 rfl) ?_
      refine cq_Vi (C := R_A) (T := F_A) (N := 6) (ci := 1) (As := [.int (ka_side sx sy bx b2 ex ey (ka_turn (Int32.toInt64 (ex - a)) (Int32.toInt64 (ey - b)) (Int32.toInt64 (sx - a)) (Int32.toInt64 (sy - b)))), .int b]) (rest := []) (w1 := [(h0, .inr (1, [.int sx, .int sy, .int bx, .int b2, .int ex, .int ey]))]) (tys := []) ⟨hx, hb, hml, hown, hts⟩ (c_ka_share l dC dI h0 sx sy bx b2 ex ey (ka_side sx sy bx b2 ex ey (ka_turn (Int32.toInt64 (ex - a)) (Int32.toInt64 (ey - b)) (Int32.toInt64 (sx - a)) (Int32.toInt64 (sy - b)))) b) (cwV 2 hts (gi_V tw_229 tw_231 ts_6 tw_7 tw_232) rfl rfl rfl (by decide +kernel) ⟨(by rw [← hR]; exact Nat.le_of_ble_eq_true rfl), (by rw [← hR]; exact Nat.le_of_ble_eq_true rfl)⟩) hK (hP.sub [0] rfl) (hK.sub [] rfl) 0 rfl rfl rfl rfl hl.1 (Nat.le_of_ble_eq_true rfl) d_A_turnsAround_155 ⟨Nat.zero_le _, Nat.zero_le _⟩ hP hS hA (fun H locs hP hS => ?_)
      refine lv_istore (lv' := [(11, .int (ka_share sx sy bx b2 ex ey (ka_side sx sy bx b2 ex ey (ka_turn (Int32.toInt64 (ex - a)) (Int32.toInt64 (ey - b)) (Int32.toInt64 (sx - a)) (Int32.toInt64 (sy - b)))) b)), (10, .int (ka_side sx sy bx b2 ex ey (ka_turn (Int32.toInt64 (ex - a)) (Int32.toInt64 (ey - b)) (Int32.toInt64 (sx - a)) (Int32.toInt64 (sy - b))))), (9, .int (jl_cmp (((ka_turn (Int32.toInt64 (bx - a)) (Int32.toInt64 (b2 - b)) (Int32.toInt64 (ex - a)) (Int32.toInt64 (ey - b))) + (ka_turn (Int32.toInt64 (ex - a)) (Int32.toInt64 (ey - b)) (Int32.toInt64 (sx - a)) (Int32.toInt64 (sy - b)))) + (ka_turn (Int32.toInt64 (sx - a)) (Int32.toInt64 (sy - b)) (Int32.toInt64 (bx - a)) (Int32.toInt64 (b2 - b)))) 0)), (7, .long (ka_turn (Int32.toInt64 (sx - a)) (Int32.toInt64 (sy - b)) (Int32.toInt64 (bx - a)) (Int32.toInt64 (b2 - b)))), (5, .long (ka_turn (Int32.toInt64 (ex - a)) (Int32.toInt64 (ey - b)) (Int32.toInt64 (sx - a)) (Int32.toInt64 (sy - b)))), (3, .long (ka_turn (Int32.toInt64 (bx - a)) (Int32.toInt64 (b2 - b)) (Int32.toInt64 (ex - a)) (Int32.toInt64 (ey - b)))), (0, .ref h0), (1, .int a), (2, .int b)]) hx hb d_A_turnsAround_158 hl (by decide) rfl (fun ls hl => ?_)
      have K160 : ∀ (v160_l10 : Int32) (v160_l11 : Int32) (v160_l3 : Int64) (v160_l5 : Int64) (v160_l7 : Int64) (v160_l9 : Int32), ka_turns_k160 sx sy bx b2 ex ey a b v160_l10 v160_l11 v160_l3 v160_l5 v160_l7 v160_l9 = RES → ∀ (ls : Array Slot) (H : Heap) (locs : List Loc), lv_has ls 13 [(11, .int v160_l11), (10, .int v160_l10), (9, .int v160_l9), (7, .long v160_l7), (5, .long v160_l5), (3, .long v160_l3), (0, .ref h0), (1, .int a), (2, .int b)] → va_P (dC, dI) cls9 [(h0, .inr (1, [.int sx, .int sy, .int bx, .int b2, .int ex, .int ey]))] H → va_S A s.heap H locs → W p l e R s m args below meth c H locs 0 0 Q (F0 m 160 ls []) := by
        intro v160_l10 v160_l11 v160_l3 v160_l5 v160_l7 v160_l9 hres ls H locs hl hP hS
        unfold ka_turns_k160 at hres
        refine lv_iload hx hb d_A_turnsAround_160 (lv_at hl 2 rfl) ?_
        refine lv_if_ne (tgt := 215) hx hb d_A_turnsAround_162 rfl (fun h162 => ?_) (fun h162 => ?_)
        · rw [if_neg h162] at hres
          refine lv_iload hx hb d_A_turnsAround_215 (lv_at hl 2 rfl) ?_
          refine lv_i2l (v := Int32.toInt64 v160_l9) hx hb d_A_turnsAround_217 rfl ?_
          refine lv_lload_n hx hb d_A_turnsAround_218 rfl (lv_at hl 5 rfl) ?_
          refine lv_lmul hx hb d_A_turnsAround_219 ?_
          refine lv_lconst (v := 0) hx hb d_A_turnsAround_220 (by decide) ?_
          refine W.lcmp hx hb d_A_turnsAround_221 ?_
          refine lv_if_lt (tgt := 247) hx hb d_A_turnsAround_222 rfl (fun h222 => ?_) (fun h222 => ?_)
          · rw [if_pos h222] at hres
            refine lv_iload hx hb d_A_turnsAround_247 (lv_at hl 0 rfl) ?_
            rw [hQ]
            exact W.iret (v := v160_l11) hx hb hr (fun t ht hW => ⟨⟨_, (), rfl, hres, trivial⟩, hS.F ht⟩) hS.2.2 d_A_turnsAround_249
          · rw [if_neg h222] at hres
            refine lv_iload hx hb d_A_turnsAround_225 (lv_at hl 2 rfl) ?_
            refine lv_i2l (v := Int32.toInt64 v160_l9) hx hb d_A_turnsAround_227 rfl ?_
            refine lv_lload hx hb d_A_turnsAround_228 (lv_at hl 4 rfl) ?_
            refine lv_lmul hx hb d_A_turnsAround_230 ?_
            refine lv_lconst (v := 0) hx hb d_A_turnsAround_231 (by decide) ?_
            refine W.lcmp hx hb d_A_turnsAround_232 ?_
            refine lv_if_lt (tgt := 247) hx hb d_A_turnsAround_233 rfl (fun h233 => ?_) (fun h233 => ?_)
            · rw [if_pos h233] at hres
              refine lv_iload hx hb d_A_turnsAround_247 (lv_at hl 0 rfl) ?_
              rw [hQ]
              exact W.iret (v := v160_l11) hx hb hr (fun t ht hW => ⟨⟨_, (), rfl, hres, trivial⟩, hS.F ht⟩) hS.2.2 d_A_turnsAround_249
            · rw [if_neg h233] at hres
              refine lv_iload hx hb d_A_turnsAround_236 (lv_at hl 2 rfl) ?_
              refine lv_i2l (v := Int32.toInt64 v160_l9) hx hb d_A_turnsAround_238 rfl ?_
              refine lv_lload hx hb d_A_turnsAround_239 (lv_at hl 3 rfl) ?_
              refine lv_lmul hx hb d_A_turnsAround_241 ?_
              refine lv_lconst (v := 0) hx hb d_A_turnsAround_242 (by decide) ?_
              refine W.lcmp hx hb d_A_turnsAround_243 ?_
              refine lv_if_ge (tgt := 250) hx hb d_A_turnsAround_244 rfl (fun h244 => ?_) (fun h244 => ?_)
              · rw [if_pos h244] at hres
                refine lv_lload hx hb d_A_turnsAround_250 (lv_at hl 4 rfl) ?_
                refine va_mabs_long hx hb (hml.trans hl.1.symm) hown (hts _ tw_240) (hts _ tw_241) (hts _ tw_2) (hts _ tw_242) (by rw [← hR]; exact Nat.le_of_ble_eq_true rfl) (by rw [← hR]; exact Nat.le_of_ble_eq_true rfl) (Nat.zero_le _) (Nat.zero_le _) d_A_turnsAround_252 ?_
                refine lv_lload hx hb d_A_turnsAround_255 (lv_at hl 4 rfl) ?_
                refine va_mabs_long hx hb (hml.trans hl.1.symm) hown (hts _ tw_240) (hts _ tw_241) (hts _ tw_2) (hts _ tw_242) (by rw [← hR]; exact Nat.le_of_ble_eq_true rfl) (by rw [← hR]; exact Nat.le_of_ble_eq_true rfl) (Nat.zero_le _) (Nat.zero_le _) d_A_turnsAround_257 ?_
                refine lv_ldc2 (v := 4) hx hb hown (hts _ tw_243) d_A_turnsAround_260 ?_
                refine lv_lload_n hx hb d_A_turnsAround_263 rfl (lv_at hl 5 rfl) ?_
                refine va_mabs_long hx hb (hml.trans hl.1.symm) hown (hts _ tw_240) (hts _ tw_241) (hts _ tw_2) (hts _ tw_242) (by rw [← hR]; exact Nat.le_of_ble_eq_true rfl) (by rw [← hR]; exact Nat.le_of_ble_eq_true rfl) (Nat.zero_le _) (Nat.zero_le _) d_A_turnsAround_264 ?_
                refine lv_lmul hx hb d_A_turnsAround_267 ?_
                refine lv_lload hx hb d_A_turnsAround_268 (lv_at hl 3 rfl) ?_
                refine va_mabs_long hx hb (hml.trans hl.1.symm) hown (hts _ tw_240) (hts _ tw_241) (hts _ tw_2) (hts _ tw_242) (by rw [← hR]; exact Nat.le_of_ble_eq_true rfl) (by rw [← hR]; exact Nat.le_of_ble_eq_true rfl) (Nat.zero_le _) (Nat.zero_le _) d_A_turnsAround_270 ?_
                refine cq_Si (As := [.long (if 0 < v160_l5 then v160_l5 else -v160_l5), .long (if 0 < v160_l5 then v160_l5 else -v160_l5), .long (4 * (if 0 < v160_l3 then v160_l3 else -v160_l3)), .long (if 0 < v160_l7 then v160_l7 else -v160_l7)]) (rest := []) ⟨hx, hb, hml, hown, hts⟩ (c_ka_cmp l dC dI (if 0 < v160_l5 then v160_l5 else -v160_l5) (if 0 < v160_l5 then v160_l5 else -v160_l5) (4 * (if 0 < v160_l3 then v160_l3 else -v160_l3)) (if 0 < v160_l7 then v160_l7 else -v160_l7)) (va_cwS 4 hts (gi_S tw_244 tw_245 tw_7 tw_246) rfl rfl rfl (by decide +kernel) ⟨(by rw [← hR]; exact Nat.le_of_ble_eq_true rfl), (by rw [← hR]; exact Nat.le_of_ble_eq_true rfl)⟩) rfl rfl hl.1 (Nat.le_of_ble_eq_true rfl) d_A_turnsAround_273 ⟨Nat.zero_le _, Nat.zero_le _⟩ hP hS hA (fun H locs hP hS => ?_)
                refine lv_istore (lv' := [(12, .int (ka_cmp (if 0 < v160_l5 then v160_l5 else -v160_l5) (if 0 < v160_l5 then v160_l5 else -v160_l5) (4 * (if 0 < v160_l3 then v160_l3 else -v160_l3)) (if 0 < v160_l7 then v160_l7 else -v160_l7))), (11, .int v160_l11), (10, .int v160_l10), (9, .int v160_l9), (7, .long v160_l7), (5, .long v160_l5), (3, .long v160_l3), (0, .ref h0), (1, .int a), (2, .int b)]) hx hb d_A_turnsAround_276 hl (by decide) rfl (fun ls hl => ?_)
                refine lv_iload hx hb d_A_turnsAround_278 (lv_at hl 0 rfl) ?_
                refine lv_if_ne (tgt := 287) hx hb d_A_turnsAround_280 rfl (fun h280 => ?_) (fun h280 => ?_)
                · rw [if_neg h280] at hres
                  refine lv_iload hx hb d_A_turnsAround_287 (lv_at hl 0 rfl) ?_
                  refine lv_if_ge (tgt := 307) hx hb d_A_turnsAround_289 rfl (fun h289 => ?_) (fun h289 => ?_)
                  · rw [if_pos h289] at hres
                    refine lv_iload hx hb d_A_turnsAround_307 (lv_at hl 1 rfl) ?_
                    rw [hQ]
                    exact W.iret (v := v160_l11) hx hb hr (fun t ht hW => ⟨⟨_, (), rfl, hres, trivial⟩, hS.F ht⟩) hS.2.2 d_A_turnsAround_309
                  · rw [if_neg h289] at hres
                    refine lv_iload hx hb d_A_turnsAround_292 (lv_at hl 2 rfl) ?_
                    refine lv_iload hx hb d_A_turnsAround_294 (lv_at hl 3 rfl) ?_
                    refine lv_icmp_ne (tgt := 307) hx hb d_A_turnsAround_296 rfl (fun h296 => ?_) (fun h296 => ?_)
                    · rw [if_neg h296] at hres
                      refine lv_iload hx hb d_A_turnsAround_307 (lv_at hl 1 rfl) ?_
                      rw [hQ]
                      exact W.iret (v := v160_l11) hx hb hr (fun t ht hW => ⟨⟨_, (), rfl, hres, trivial⟩, hS.F ht⟩) hS.2.2 d_A_turnsAround_309
                    · rw [if_pos h296] at hres
                      refine lv_iload hx hb d_A_turnsAround_299 (lv_at hl 1 rfl) ?_
                      refine lv_iload hx hb d_A_turnsAround_301 (lv_at hl 3 rfl) ?_
                      refine lv_iadd hx hb d_A_turnsAround_303 ?_
                      refine lv_goto (tgt := 309) hx hb d_A_turnsAround_304 rfl ?_
                      rw [hQ]
                      exact W.iret (v := v160_l11 + v160_l9) hx hb hr (fun t ht hW => ⟨⟨_, (), rfl, hres, trivial⟩, hS.F ht⟩) hS.2.2 d_A_turnsAround_309
                · rw [if_pos h280] at hres
                  refine lv_sipush (v := 1000) hx hb d_A_turnsAround_283 (by decide) ?_
                  rw [hQ]
                  exact W.iret (v := 1000) hx hb hr (fun t ht hW => ⟨⟨_, (), rfl, hres, trivial⟩, hS.F ht⟩) hS.2.2 d_A_turnsAround_286
              · rw [if_neg h244] at hres
                refine lv_iload hx hb d_A_turnsAround_247 (lv_at hl 0 rfl) ?_
                rw [hQ]
                exact W.iret (v := v160_l11) hx hb hr (fun t ht hW => ⟨⟨_, (), rfl, hres, trivial⟩, hS.F ht⟩) hS.2.2 d_A_turnsAround_249
        · rw [if_pos h162] at hres
          refine lv_lload_n hx hb d_A_turnsAround_165 rfl (lv_at hl 5 rfl) ?_
          refine lv_lconst (v := 0) hx hb d_A_turnsAround_166 (by decide) ?_
          refine W.lcmp hx hb d_A_turnsAround_167 ?_
          have J190 : ∀ (t190_0 : Int32), ka_turns_j190 sx sy bx b2 ex ey a b v160_l11 t190_0 = RES → ∀ (ls : Array Slot) (H : Heap) (locs : List Loc), lv_has ls 13 [(11, .int v160_l11), (0, .ref h0), (1, .int a), (2, .int b)] → va_P (dC, dI) cls9 [(h0, .inr (1, [.int sx, .int sy, .int bx, .int b2, .int ex, .int ey]))] H → va_S A s.heap H locs → W p l e R s m args below meth c H locs 0 0 Q (F0 m 190 ls [.int t190_0]) := by
            intro t190_0 hres ls H locs hl hP hS
            unfold ka_turns_j190 at hres
            refine lv_istore (lv' := [(12, .int t190_0), (11, .int v160_l11), (0, .ref h0), (1, .int a), (2, .int b)]) hx hb d_A_turnsAround_190 hl (by decide) rfl (fun ls hl => ?_)
            refine lv_iload hx hb d_A_turnsAround_192 (lv_at hl 0 rfl) ?_
            refine lv_if_eq (tgt := 212) hx hb d_A_turnsAround_194 rfl (fun h194 => ?_) (fun h194 => ?_)
            · rw [if_pos h194] at hres
              refine lv_iload hx hb d_A_turnsAround_212 (lv_at hl 1 rfl) ?_
              rw [hQ]
              exact W.iret (v := v160_l11) hx hb hr (fun t ht hW => ⟨⟨_, (), rfl, hres, trivial⟩, hS.F ht⟩) hS.2.2 d_A_turnsAround_214
            · rw [if_neg h194] at hres
              refine lv_aload_n hx hb d_A_turnsAround_197 rfl (lv_at hl 2 rfl) ?_
              refine lv_iload_n hx hb d_A_turnsAround_198 rfl (lv_at hl 3 rfl) ?_
              refine lv_iload_n hx hb d_A_turnsAround_199 rfl (lv_at hl 4 rfl) ?_
              refine cq_Vi (C := R_A) (T := F_A) (N := 6) (ci := 1) (As := [.int a, .int b]) (rest := []) (w1 := [(h0, .inr (1, [.int sx, .int sy, .int bx, .int b2, .int ex, .int ey]))]) (tys := []) ⟨hx, hb, hml, hown, hts⟩ (c_ka_on l dC dI h0 sx sy bx b2 ex ey a b) (cwV 2 hts (gi_V tw_233 tw_235 ts_7 tw_7 tw_236) rfl rfl rfl (by decide +kernel) ⟨(by rw [← hR]; exact Nat.le_of_ble_eq_true rfl), (by rw [← hR]; exact Nat.le_of_ble_eq_true rfl)⟩) hK (hP.sub [0] rfl) (hK.sub [] rfl) 0 rfl rfl rfl rfl hl.1 (Nat.le_of_ble_eq_true rfl) d_A_turnsAround_200 ⟨Nat.zero_le _, Nat.zero_le _⟩ hP hS hA (fun H locs hP hS => ?_)
              refine lv_if_eq (tgt := 212) hx hb d_A_turnsAround_203 rfl (fun h203 => ?_) (fun h203 => ?_)
              · rw [if_pos h203] at hres
                refine lv_iload hx hb d_A_turnsAround_212 (lv_at hl 1 rfl) ?_
                rw [hQ]
                exact W.iret (v := v160_l11) hx hb hr (fun t ht hW => ⟨⟨_, (), rfl, hres, trivial⟩, hS.F ht⟩) hS.2.2 d_A_turnsAround_214
              · rw [if_neg h203] at hres
                refine lv_sipush (v := 1000) hx hb d_A_turnsAround_206 (by decide) ?_
                refine lv_goto (tgt := 214) hx hb d_A_turnsAround_209 rfl ?_
                rw [hQ]
                exact W.iret (v := 1000) hx hb hr (fun t ht hW => ⟨⟨_, (), rfl, hres, trivial⟩, hS.F ht⟩) hS.2.2 d_A_turnsAround_214
          refine lv_if_ne (tgt := 189) hx hb d_A_turnsAround_168 rfl (fun h168 => ?_) (fun h168 => ?_)
          · rw [if_neg h168] at hres
            refine lv_iconst (v := 0) hx hb d_A_turnsAround_189 (by decide) ?_
            exact J190 0 hres ls _ _ (lv_sub hl [0, 6, 7, 8] rfl) hP hS
          · rw [if_pos h168] at hres
            refine lv_lload hx hb d_A_turnsAround_171 (lv_at hl 4 rfl) ?_
            refine lv_lconst (v := 0) hx hb d_A_turnsAround_173 (by decide) ?_
            refine W.lcmp hx hb d_A_turnsAround_174 ?_
            refine lv_if_ne (tgt := 189) hx hb d_A_turnsAround_175 rfl (fun h175 => ?_) (fun h175 => ?_)
            · rw [if_neg h175] at hres
              refine lv_iconst (v := 0) hx hb d_A_turnsAround_189 (by decide) ?_
              exact J190 0 hres ls _ _ (lv_sub hl [0, 6, 7, 8] rfl) hP hS
            · rw [if_pos h175] at hres
              refine lv_lload hx hb d_A_turnsAround_178 (lv_at hl 3 rfl) ?_
              refine lv_lconst (v := 0) hx hb d_A_turnsAround_180 (by decide) ?_
              refine W.lcmp hx hb d_A_turnsAround_181 ?_
              refine lv_if_ne (tgt := 189) hx hb d_A_turnsAround_182 rfl (fun h182 => ?_) (fun h182 => ?_)
              · rw [if_neg h182] at hres
                refine lv_iconst (v := 0) hx hb d_A_turnsAround_189 (by decide) ?_
                exact J190 0 hres ls _ _ (lv_sub hl [0, 6, 7, 8] rfl) hP hS
              · rw [if_pos h182] at hres
                refine lv_iconst (v := 1) hx hb d_A_turnsAround_185 (by decide) ?_
                refine lv_goto (tgt := 190) hx hb d_A_turnsAround_186 rfl ?_
                exact J190 1 hres ls _ _ (lv_sub hl [0, 6, 7, 8] rfl) hP hS
      exact K160 (ka_side sx sy bx b2 ex ey (ka_turn (Int32.toInt64 (ex - a)) (Int32.toInt64 (ey - b)) (Int32.toInt64 (sx - a)) (Int32.toInt64 (sy - b)))) (ka_share sx sy bx b2 ex ey (ka_side sx sy bx b2 ex ey (ka_turn (Int32.toInt64 (ex - a)) (Int32.toInt64 (ey - b)) (Int32.toInt64 (sx - a)) (Int32.toInt64 (sy - b)))) b) (ka_turn (Int32.toInt64 (bx - a)) (Int32.toInt64 (b2 - b)) (Int32.toInt64 (ex - a)) (Int32.toInt64 (ey - b))) (ka_turn (Int32.toInt64 (ex - a)) (Int32.toInt64 (ey - b)) (Int32.toInt64 (sx - a)) (Int32.toInt64 (sy - b))) (ka_turn (Int32.toInt64 (sx - a)) (Int32.toInt64 (sy - b)) (Int32.toInt64 (bx - a)) (Int32.toInt64 (b2 - b))) (jl_cmp (((ka_turn (Int32.toInt64 (bx - a)) (Int32.toInt64 (b2 - b)) (Int32.toInt64 (ex - a)) (Int32.toInt64 (ey - b))) + (ka_turn (Int32.toInt64 (ex - a)) (Int32.toInt64 (ey - b)) (Int32.toInt64 (sx - a)) (Int32.toInt64 (sy - b)))) + (ka_turn (Int32.toInt64 (sx - a)) (Int32.toInt64 (sy - b)) (Int32.toInt64 (bx - a)) (Int32.toInt64 (b2 - b)))) 0) hres ls _ _ (lv_sub hl [0, 1, 2, 3, 4, 5, 6, 7, 8] rfl) hP hS
    · rw [if_neg h27] at hres
      refine lv_iconst (v := 0) hx hb d_A_turnsAround_30 (by decide) ?_
      rw [hQ]
      exact W.iret (v := 0) hx hb hr (fun t ht hW => ⟨⟨_, (), rfl, hres, trivial⟩, hS.F ht⟩) hS.2.2 d_A_turnsAround_31
