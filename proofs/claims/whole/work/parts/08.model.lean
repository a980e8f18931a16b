def km_sign (a : Int64) : Int32 := (if 0 ≤ (lg_cmp a 0) then (if (lg_cmp a 0) ≤ 0 then 0 else 1) else (-1))
set_option maxHeartbeats 4000000 in
set_option maxRecDepth 100000 in
theorem c_km_sign (l : Launch) (dC : Nat → ClassId) (dI : Nat → Nat → Nat) (a : Int64) : pq_i l y_M_sign w_M_sign { frames := 0, cells := 0, slots := 0, locals := 0 } [.long a] (km_sign a) := by
  intro sz
  refine Met.ofW (cc := b_M_sign) (maxL := 2) (ret := (some .int)) (by decide) rfl ?_
  intro p e s m args below meth c s₁ B hml hv
  obtain ⟨hargs, hsz⟩ := hv
  have hx := B.exec
  have hb := B.bytes
  have hr := B.returns
  have hts : ∀ w ∈ lw_w, w.before args s = true := fun w h => atoms_spec (ws := w_M_sign) B.pre w (List.mem_cons_of_mem _ h)
  have hown : s.vm.findClass R_M = some m.cls := findClass_of_methodNamed B.named
  have hlocks := B.notSynchronized
  subst hsz
  generalize hR : (headSpec w_M_sign { frames := 0, cells := 0, slots := 0, locals := 0 }).room = R
  generalize hAe : (fun q : Nat => s.heap.size ≤ q) = A
  have hA : ∀ q : Nat, s.heap.size ≤ q → A q := fun q h => by rw [← hAe]; exact h
  have hS : va_S A s.heap s.heap [] := va_S.rf
  have hP : va_P (dC, dI) cls9 [] s.heap := fun k q h => by cases h
  generalize hRES : km_sign a = RES
  have hres := hRES
  replace hRES := hRES.symm
  have hl := lv_entry [.long a] (n := 2) (Nat.le_of_ble_eq_true rfl)
  have hent : entryFrame m args 2 = F0 m 0 (lg_sl [.long a] ++ List.replicate (2 - (lg_sl [.long a]).length) Slot.unset).toArray [] := by rw [hargs]; exact lg_entry_eq m [.long a] 2
  rw [hent]
  clear hent
  generalize (lg_sl [.long a] ++ List.replicate (2 - (lg_sl [.long a]).length) Slot.unset).toArray = ls at hl ⊢
  have hl : lv_has ls 2 [(0, .long a)] := hl
  unfold km_sign at hres
  generalize hQ : MQ below (va_Qi (fun x (_ : Unit) => x = RES) (fun _ _ => True) A) args s 0 0 A = Q
  replace hQ := hQ.symm
  refine lv_lload_n hx hb d_M_sign_0 rfl (lv_at hl 0 rfl) ?_
  refine lv_lconst (v := 0) hx hb d_M_sign_1 (by decide) ?_
  refine W.lcmp hx hb d_M_sign_2 ?_
  refine lv_if_ge (tgt := 10) hx hb d_M_sign_3 rfl (fun h3 => ?_) (fun h3 => ?_)
  · rw [if_pos h3] at hres
    refine lv_lload_n hx hb d_M_sign_10 rfl (lv_at hl 0 rfl) ?_
    refine lv_lconst (v := 0) hx hb d_M_sign_11 (by decide) ?_
    refine W.lcmp hx hb d_M_sign_12 ?_
    refine lv_if_le (tgt := 20) hx hb d_M_sign_13 rfl (fun h13 => ?_) (fun h13 => ?_)
    · rw [if_pos h13] at hres
      refine lv_iconst (v := 0) hx hb d_M_sign_20 (by decide) ?_
      rw [hQ]
      exact W.iret (v := 0) hx hb hr (fun t ht hW => ⟨⟨_, (), rfl, hres, trivial⟩, hS.F ht⟩) hS.2.2 d_M_sign_21
    · rw [if_neg h13] at hres
      refine lv_iconst (v := 1) hx hb d_M_sign_16 (by decide) ?_
      refine lv_goto (tgt := 21) hx hb d_M_sign_17 rfl ?_
      rw [hQ]
      exact W.iret (v := 1) hx hb hr (fun t ht hW => ⟨⟨_, (), rfl, hres, trivial⟩, hS.F ht⟩) hS.2.2 d_M_sign_21
  · rw [if_neg h3] at hres
    refine lv_iconst (v := (-1)) hx hb d_M_sign_6 (by decide) ?_
    refine lv_goto (tgt := 21) hx hb d_M_sign_7 rfl ?_
    rw [hQ]
    exact W.iret (v := (-1)) hx hb hr (fun t ht hW => ⟨⟨_, (), rfl, hres, trivial⟩, hS.F ht⟩) hS.2.2 d_M_sign_21
def km_zero_j36 (a : Int64) (b : Int64) (c0 : Int64) (t24_0 : Int32) (t36_0 : Int32) : Int32 := (if t24_0 = t36_0 then (if (lg_cmp a 0) ≤ 0 then (if (lg_cmp b 0) ≤ 0 then 0 else (if (lg_cmp (b * b) (a * c0)) < 0 then 0 else 1)) else (if 0 ≤ (lg_cmp b 0) then 0 else (if (lg_cmp (b * b) (a * c0)) < 0 then 0 else 1))) else 1)
def km_zero_j24 (a : Int64) (b : Int64) (c0 : Int64) (t24_0 : Int32) : Int32 := (if (lg_cmp c0 0) ≤ 0 then (km_zero_j36 a b c0 t24_0 0) else (km_zero_j36 a b c0 t24_0 1))
def km_zero (a : Int64) (b : Int64) (c0 : Int64) : Int32 := (if (lg_cmp a 0) = 0 then 1 else (if (lg_cmp c0 0) = 0 then 1 else (if (lg_cmp a 0) ≤ 0 then (km_zero_j24 a b c0 0) else (km_zero_j24 a b c0 1))))
set_option maxHeartbeats 4000000 in
set_option maxRecDepth 100000 in
theorem c_km_zero (l : Launch) (dC : Nat → ClassId) (dI : Nat → Nat → Nat) (a : Int64) (b : Int64) (c0 : Int64) : pq_i l y_M_zero w_M_zero { frames := 0, cells := 0, slots := 0, locals := 0 } [.long a, .long b, .long c0] (km_zero a b c0) := by
  intro sz
  refine Met.ofW (cc := b_M_zero) (maxL := 6) (ret := (some .boolean)) (by decide) rfl ?_
  intro p e s m args below meth c s₁ B hml hv
  obtain ⟨hargs, hsz⟩ := hv
  have hx := B.exec
  have hb := B.bytes
  have hr := B.returns
  have hts : ∀ w ∈ lw_w, w.before args s = true := fun w h => atoms_spec (ws := w_M_zero) B.pre w (List.mem_cons_of_mem _ h)
  have hown : s.vm.findClass R_M = some m.cls := findClass_of_methodNamed B.named
  have hlocks := B.notSynchronized
  subst hsz
  generalize hR : (headSpec w_M_zero { frames := 0, cells := 0, slots := 0, locals := 0 }).room = R
  generalize hAe : (fun q : Nat => s.heap.size ≤ q) = A
  have hA : ∀ q : Nat, s.heap.size ≤ q → A q := fun q h => by rw [← hAe]; exact h
  have hS : va_S A s.heap s.heap [] := va_S.rf
  have hP : va_P (dC, dI) cls9 [] s.heap := fun k q h => by cases h
  generalize hRES : km_zero a b c0 = RES
  have hres := hRES
  replace hRES := hRES.symm
  have hl := lv_entry [.long a, .long b, .long c0] (n := 6) (Nat.le_of_ble_eq_true rfl)
  have hent : entryFrame m args 6 = F0 m 0 (lg_sl [.long a, .long b, .long c0] ++ List.replicate (6 - (lg_sl [.long a, .long b, .long c0]).length) Slot.unset).toArray [] := by rw [hargs]; exact lg_entry_eq m [.long a, .long b, .long c0] 6
  rw [hent]
  clear hent
  generalize (lg_sl [.long a, .long b, .long c0] ++ List.replicate (6 - (lg_sl [.long a, .long b, .long c0]).length) Slot.unset).toArray = ls at hl ⊢
  have hl : lv_has ls 6 [(0, .long a), (2, .long b), (4, .long c0)] := hl
  unfold km_zero at hres
  generalize hQ : MQ below (va_Qi (fun x (_ : Unit) => x = RES) (fun _ _ => True) A) args s 0 0 A = Q
  replace hQ := hQ.symm
  refine lv_lload_n hx hb d_M_zero_0 rfl (lv_at hl 0 rfl) ?_
  refine lv_lconst (v := 0) hx hb d_M_zero_1 (by decide) ?_
  refine W.lcmp hx hb d_M_zero_2 ?_
  refine lv_if_eq (tgt := 39) hx hb d_M_zero_3 rfl (fun h3 => ?_) (fun h3 => ?_)
  · rw [if_pos h3] at hres
    refine lv_iconst (v := 1) hx hb d_M_zero_39 (by decide) ?_
    rw [hQ]
    exact W.zret (v := 1) hx hb hr (by first | rfl | decide) (fun t ht hW => ⟨⟨_, (), rfl, hres, trivial⟩, hS.F ht⟩) hS.2.2 d_M_zero_40
  · rw [if_neg h3] at hres
    refine lv_lload hx hb d_M_zero_6 (lv_at hl 2 rfl) ?_
    refine lv_lconst (v := 0) hx hb d_M_zero_8 (by decide) ?_
    refine W.lcmp hx hb d_M_zero_9 ?_
    refine lv_if_eq (tgt := 39) hx hb d_M_zero_10 rfl (fun h10 => ?_) (fun h10 => ?_)
    · rw [if_pos h10] at hres
      refine lv_iconst (v := 1) hx hb d_M_zero_39 (by decide) ?_
      rw [hQ]
      exact W.zret (v := 1) hx hb hr (by first | rfl | decide) (fun t ht hW => ⟨⟨_, (), rfl, hres, trivial⟩, hS.F ht⟩) hS.2.2 d_M_zero_40
    · rw [if_neg h10] at hres
      refine lv_lload_n hx hb d_M_zero_13 rfl (lv_at hl 0 rfl) ?_
      refine lv_lconst (v := 0) hx hb d_M_zero_14 (by decide) ?_
      refine W.lcmp hx hb d_M_zero_15 ?_
      have J24 : ∀ (t24_0 : Int32), km_zero_j24 a b c0 t24_0 = RES → ∀ (ls : Array Slot) (H : Heap) (locs : List Loc), lv_has ls 6 [(0, .long a), (2, .long b), (4, .long c0)] → va_P (dC, dI) cls9 [] H → va_S A s.heap H locs → W p l e R s m args below meth c H locs 0 0 Q (F0 m 24 ls [.int t24_0]) := by
        intro t24_0 hres ls H locs hl hP hS
        unfold km_zero_j24 at hres
        refine lv_lload hx hb d_M_zero_24 (lv_at hl 2 rfl) ?_
        refine lv_lconst (v := 0) hx hb d_M_zero_26 (by decide) ?_
        refine W.lcmp hx hb d_M_zero_27 ?_
        have J36 : ∀ (t36_0 : Int32), km_zero_j36 a b c0 t24_0 t36_0 = RES → ∀ (ls : Array Slot) (H : Heap) (locs : List Loc), lv_has ls 6 [(0, .long a), (2, .long b), (4, .long c0)] → va_P (dC, dI) cls9 [] H → va_S A s.heap H locs → W p l e R s m args below meth c H locs 0 0 Q (F0 m 36 ls [.int t36_0, .int t24_0]) := by
          intro t36_0 hres ls H locs hl hP hS
          unfold km_zero_j36 at hres
          refine lv_icmp_eq (tgt := 41) hx hb d_M_zero_36 rfl (fun h36 => ?_) (fun h36 => ?_)
          · rw [if_pos h36] at hres
            refine lv_lload_n hx hb d_M_zero_41 rfl (lv_at hl 0 rfl) ?_
            refine lv_lconst (v := 0) hx hb d_M_zero_42 (by decide) ?_
            refine W.lcmp hx hb d_M_zero_43 ?_
            refine lv_if_le (tgt := 56) hx hb d_M_zero_44 rfl (fun h44 => ?_) (fun h44 => ?_)
            · rw [if_pos h44] at hres
              refine lv_lload_n hx hb d_M_zero_56 rfl (lv_at hl 1 rfl) ?_
              refine lv_lconst (v := 0) hx hb d_M_zero_57 (by decide) ?_
              refine W.lcmp hx hb d_M_zero_58 ?_
              refine lv_if_le (tgt := 77) hx hb d_M_zero_59 rfl (fun h59 => ?_) (fun h59 => ?_)
              · rw [if_pos h59] at hres
                refine lv_iconst (v := 0) hx hb d_M_zero_77 (by decide) ?_
                rw [hQ]
                exact W.zret (v := 0) hx hb hr (by first | rfl | decide) (fun t ht hW => ⟨⟨_, (), rfl, hres, trivial⟩, hS.F ht⟩) hS.2.2 d_M_zero_78
              · rw [if_neg h59] at hres
                refine lv_lload_n hx hb d_M_zero_62 rfl (lv_at hl 1 rfl) ?_
                refine lv_lload_n hx hb d_M_zero_63 rfl (lv_at hl 1 rfl) ?_
                refine lv_lmul hx hb d_M_zero_64 ?_
                refine lv_lload_n hx hb d_M_zero_65 rfl (lv_at hl 0 rfl) ?_
                refine lv_lload hx hb d_M_zero_66 (lv_at hl 2 rfl) ?_
                refine lv_lmul hx hb d_M_zero_68 ?_
                refine W.lcmp hx hb d_M_zero_69 ?_
                refine lv_if_lt (tgt := 77) hx hb d_M_zero_70 rfl (fun h70 => ?_) (fun h70 => ?_)
                · rw [if_pos h70] at hres
                  refine lv_iconst (v := 0) hx hb d_M_zero_77 (by decide) ?_
                  rw [hQ]
                  exact W.zret (v := 0) hx hb hr (by first | rfl | decide) (fun t ht hW => ⟨⟨_, (), rfl, hres, trivial⟩, hS.F ht⟩) hS.2.2 d_M_zero_78
                · rw [if_neg h70] at hres
                  refine lv_iconst (v := 1) hx hb d_M_zero_73 (by decide) ?_
                  refine lv_goto (tgt := 78) hx hb d_M_zero_74 rfl ?_
                  rw [hQ]
                  exact W.zret (v := 1) hx hb hr (by first | rfl | decide) (fun t ht hW => ⟨⟨_, (), rfl, hres, trivial⟩, hS.F ht⟩) hS.2.2 d_M_zero_78
            · rw [if_neg h44] at hres
              refine lv_lload_n hx hb d_M_zero_47 rfl (lv_at hl 1 rfl) ?_
              refine lv_lconst (v := 0) hx hb d_M_zero_48 (by decide) ?_
              refine W.lcmp hx hb d_M_zero_49 ?_
              refine lv_if_ge (tgt := 77) hx hb d_M_zero_50 rfl (fun h50 => ?_) (fun h50 => ?_)
              · rw [if_pos h50] at hres
                refine lv_iconst (v := 0) hx hb d_M_zero_77 (by decide) ?_
                rw [hQ]
                exact W.zret (v := 0) hx hb hr (by first | rfl | decide) (fun t ht hW => ⟨⟨_, (), rfl, hres, trivial⟩, hS.F ht⟩) hS.2.2 d_M_zero_78
              · rw [if_neg h50] at hres
                refine lv_goto (tgt := 62) hx hb d_M_zero_53 rfl ?_
                refine lv_lload_n hx hb d_M_zero_62 rfl (lv_at hl 1 rfl) ?_
                refine lv_lload_n hx hb d_M_zero_63 rfl (lv_at hl 1 rfl) ?_
                refine lv_lmul hx hb d_M_zero_64 ?_
                refine lv_lload_n hx hb d_M_zero_65 rfl (lv_at hl 0 rfl) ?_
                refine lv_lload hx hb d_M_zero_66 (lv_at hl 2 rfl) ?_
                refine lv_lmul hx hb d_M_zero_68 ?_
                refine W.lcmp hx hb d_M_zero_69 ?_
                refine lv_if_lt (tgt := 77) hx hb d_M_zero_70 rfl (fun h70 => ?_) (fun h70 => ?_)
                · rw [if_pos h70] at hres
                  refine lv_iconst (v := 0) hx hb d_M_zero_77 (by decide) ?_
                  rw [hQ]
                  exact W.zret (v := 0) hx hb hr (by first | rfl | decide) (fun t ht hW => ⟨⟨_, (), rfl, hres, trivial⟩, hS.F ht⟩) hS.2.2 d_M_zero_78
                · rw [if_neg h70] at hres
                  refine lv_iconst (v := 1) hx hb d_M_zero_73 (by decide) ?_
                  refine lv_goto (tgt := 78) hx hb d_M_zero_74 rfl ?_
                  rw [hQ]
                  exact W.zret (v := 1) hx hb hr (by first | rfl | decide) (fun t ht hW => ⟨⟨_, (), rfl, hres, trivial⟩, hS.F ht⟩) hS.2.2 d_M_zero_78
          · rw [if_neg h36] at hres
            refine lv_iconst (v := 1) hx hb d_M_zero_39 (by decide) ?_
            rw [hQ]
            exact W.zret (v := 1) hx hb hr (by first | rfl | decide) (fun t ht hW => ⟨⟨_, (), rfl, hres, trivial⟩, hS.F ht⟩) hS.2.2 d_M_zero_40
        refine lv_if_le (tgt := 35) hx hb d_M_zero_28 rfl (fun h28 => ?_) (fun h28 => ?_)
        · rw [if_pos h28] at hres
          refine lv_iconst (v := 0) hx hb d_M_zero_35 (by decide) ?_
          exact J36 0 hres ls _ _ (lv_sub hl [0, 1, 2] rfl) hP hS
        · rw [if_neg h28] at hres
          refine lv_iconst (v := 1) hx hb d_M_zero_31 (by decide) ?_
          refine lv_goto (tgt := 36) hx hb d_M_zero_32 rfl ?_
          exact J36 1 hres ls _ _ (lv_sub hl [0, 1, 2] rfl) hP hS
      refine lv_if_le (tgt := 23) hx hb d_M_zero_16 rfl (fun h16 => ?_) (fun h16 => ?_)
      · rw [if_pos h16] at hres
        refine lv_iconst (v := 0) hx hb d_M_zero_23 (by decide) ?_
        exact J24 0 hres ls _ _ (lv_sub hl [0, 1, 2] rfl) hP hS
      · rw [if_neg h16] at hres
        refine lv_iconst (v := 1) hx hb d_M_zero_19 (by decide) ?_
        refine lv_goto (tgt := 24) hx hb d_M_zero_20 rfl ?_
        exact J24 1 hres ls _ _ (lv_sub hl [0, 1, 2] rfl) hP hS
def km_far (a : Int32) : Int32 := (if a < (-20000) then 1 else (if a ≤ 20000 then 0 else 1))
set_option maxHeartbeats 4000000 in
set_option maxRecDepth 100000 in
theorem c_km_far (l : Launch) (dC : Nat → ClassId) (dI : Nat → Nat → Nat) (a : Int32) : pq_i l y_M_far w_M_far { frames := 0, cells := 0, slots := 0, locals := 0 } [.int a] (km_far a) := by
  intro sz
  refine Met.ofW (cc := b_M_far) (maxL := 1) (ret := (some .boolean)) (by decide) rfl ?_
  intro p e s m args below meth c s₁ B hml hv
  obtain ⟨hargs, hsz⟩ := hv
  have hx := B.exec
  have hb := B.bytes
  have hr := B.returns
  have hts : ∀ w ∈ lw_w, w.before args s = true := fun w h => atoms_spec (ws := w_M_far) B.pre w (List.mem_cons_of_mem _ h)
  have hown : s.vm.findClass R_M = some m.cls := findClass_of_methodNamed B.named
  have hlocks := B.notSynchronized
  subst hsz
  generalize hR : (headSpec w_M_far { frames := 0, cells := 0, slots := 0, locals := 0 }).room = R
  generalize hAe : (fun q : Nat => s.heap.size ≤ q) = A
  have hA : ∀ q : Nat, s.heap.size ≤ q → A q := fun q h => by rw [← hAe]; exact h
  have hS : va_S A s.heap s.heap [] := va_S.rf
  have hP : va_P (dC, dI) cls9 [] s.heap := fun k q h => by cases h
  generalize hRES : km_far a = RES
  have hres := hRES
  replace hRES := hRES.symm
  have hl := lv_entry [.int a] (n := 1) (Nat.le_of_ble_eq_true rfl)
  have hent : entryFrame m args 1 = F0 m 0 (lg_sl [.int a] ++ List.replicate (1 - (lg_sl [.int a]).length) Slot.unset).toArray [] := by rw [hargs]; exact lg_entry_eq m [.int a] 1
  rw [hent]
  clear hent
  generalize (lg_sl [.int a] ++ List.replicate (1 - (lg_sl [.int a]).length) Slot.unset).toArray = ls at hl ⊢
  have hl : lv_has ls 1 [(0, .int a)] := hl
  unfold km_far at hres
  generalize hQ : MQ below (va_Qi (fun x (_ : Unit) => x = RES) (fun _ _ => True) A) args s 0 0 A = Q
  replace hQ := hQ.symm
  refine lv_iload_n hx hb d_M_far_0 rfl (lv_at hl 0 rfl) ?_
  refine lv_sipush (v := (-20000)) hx hb d_M_far_1 (by decide) ?_
  refine lv_icmp_lt (tgt := 14) hx hb d_M_far_4 rfl (fun h4 => ?_) (fun h4 => ?_)
  · rw [if_pos h4] at hres
    refine lv_iconst (v := 1) hx hb d_M_far_14 (by decide) ?_
    refine lv_goto (tgt := 19) hx hb d_M_far_15 rfl ?_
    rw [hQ]
    exact W.zret (v := 1) hx hb hr (by first | rfl | decide) (fun t ht hW => ⟨⟨_, (), rfl, hres, trivial⟩, hS.F ht⟩) hS.2.2 d_M_far_19
  · rw [if_neg h4] at hres
    refine lv_iload_n hx hb d_M_far_7 rfl (lv_at hl 0 rfl) ?_
    refine lv_sipush (v := 20000) hx hb d_M_far_8 (by decide) ?_
    refine lv_icmp_le (tgt := 18) hx hb d_M_far_11 rfl (fun h11 => ?_) (fun h11 => ?_)
    · rw [if_pos h11] at hres
      refine lv_iconst (v := 0) hx hb d_M_far_18 (by decide) ?_
      rw [hQ]
      exact W.zret (v := 0) hx hb hr (by first | rfl | decide) (fun t ht hW => ⟨⟨_, (), rfl, hres, trivial⟩, hS.F ht⟩) hS.2.2 d_M_far_19
    · rw [if_neg h11] at hres
      refine lv_iconst (v := 1) hx hb d_M_far_14 (by decide) ?_
      refine lv_goto (tgt := 19) hx hb d_M_far_15 rfl ?_
      rw [hQ]
      exact W.zret (v := 1) hx hb hr (by first | rfl | decide) (fun t ht hW => ⟨⟨_, (), rfl, hres, trivial⟩, hS.F ht⟩) hS.2.2 d_M_far_19
def km_times_L21 (v : Int64) : Nat → (Int32) → (Nat → Int64) → (Int64) → (Int64) → (Nat → Int64)
  | 0, _, _, _, _ => (fun _ => 0)
  | n+1, k, g, cy, bf => (if 6 ≤ k then g else ((km_times_L21 v n) (k + 1) (vp_updL g (Int32.toNatClampNeg k) ((((((g (Int32.toNatClampNeg k)) * (v &&& 4294967295)) &&& 4294967295) + ((bf * (jv_lushr v 32)) &&& 4294967295)) + (cy &&& 4294967295)) &&& 4294967295)) ((((jv_lushr ((g (Int32.toNatClampNeg k)) * (v &&& 4294967295)) 32) + (jv_lushr (bf * (jv_lushr v 32)) 32)) + (jv_lushr cy 32)) + (jv_lushr (((((g (Int32.toNatClampNeg k)) * (v &&& 4294967295)) &&& 4294967295) + ((bf * (jv_lushr v 32)) &&& 4294967295)) + (cy &&& 4294967295)) 32)) (g (Int32.toNatClampNeg k))))
def km_times (f : Nat → Int64) (v : Int64) : (Nat → Int64) := (km_times_L21 v 7 0 f 0 0)
set_option maxHeartbeats 4000000 in
set_option maxRecDepth 100000 in
theorem c_km_times (l : Launch) (dC : Nat → ClassId) (dI : Nat → Nat → Nat) (r : Nat) (cJ : ClassId) (f : Nat → Int64) (v : Int64)  : mc_v l y_M_times w_M_times { frames := 0, cells := 0, slots := 0, locals := 0 } (dC, dI) cls9 [(r, .inl (cJ, 6, .inr (.inl f)))] [(r, .inl (cJ, 6, .inr (.inl (km_times f v))))] [(cJ, .long)] [.ref r, .long v] := by
  intro sz
  refine Met.ofW (cc := b_M_times) (maxL := 20) (ret := none) (by decide) rfl ?_
  intro p e s m args below meth c s₁ B hml hv
  obtain ⟨hargs, hsz, hP, hK, hD0⟩ := hv
  have hx := B.exec
  have hb := B.bytes
  have hr := B.returns
  have hts : ∀ w ∈ lw_w, w.before args s = true := fun w h => atoms_spec (ws := w_M_times) B.pre w (List.mem_cons_of_mem _ h)
  have hown : s.vm.findClass R_M = some m.cls := findClass_of_methodNamed B.named
  have hlocks := B.notSynchronized
  subst hsz
  have hD := hD0.self (sz := s.heap.size)
  generalize hR : (headSpec w_M_times { frames := 0, cells := 0, slots := 0, locals := 0 }).room = R
  generalize hAe : va_A [(r, .inl (cJ, 6, .inr (.inl f)))] s.heap.size = A at hD ⊢
  have hA : ∀ q : Nat, s.heap.size ≤ q → A q := fun q h => by rw [← hAe]; exact Or.inr h
  have hS : va_S A s.heap s.heap [] := va_S.rf
  generalize hRES : km_times f v = RES
  have hres := hRES
  have hl := lv_entry [.ref r, .long v] (n := 20) (Nat.le_of_ble_eq_true rfl)
  have hent : entryFrame m args 20 = F0 m 0 (lg_sl [.ref r, .long v] ++ List.replicate (20 - (lg_sl [.ref r, .long v]).length) Slot.unset).toArray [] := by rw [hargs]; exact lg_entry_eq m [.ref r, .long v] 20
  rw [hent]
  clear hent
  generalize (lg_sl [.ref r, .long v] ++ List.replicate (20 - (lg_sl [.ref r, .long v]).length) Slot.unset).toArray = ls at hl ⊢
  have hl : lv_has ls 20 [(0, .ref r), (1, .long v)] := hl
  have hP : va_P (dC, dI) cls9 [(r, .inl (cJ, 6, .inr (.inl f)))] s.heap := hP
  have hD : va_D A [(r, .inl (cJ, 6, .inr (.inl f)))] := hD
  clear hD0 hRES hAe
  unfold km_times at hres
  generalize hQ : MQ below (va_Qv (fun (_ : Unit) => True) (fun _ t => va_P (dC, dI) cls9 [(r, .inl (cJ, 6, .inr (.inl RES)))] t.heap ∧ va_K (dC, dI) cls9 [(cJ, .long)] t ∧ va_D A [(r, .inl (cJ, 6, .inr (.inl RES)))]) A) args s 0 0 A = Q
  replace hQ := hQ.symm
  refine lv_lload_n hx hb d_M_times_0 rfl (lv_at hl 1 rfl) ?_
  refine lv_ldc2 (v := 4294967295) hx hb hown (hts _ tw_374) d_M_times_1 ?_
  refine lv_land hx hb d_M_times_4 ?_
  refine lv_lstore_n (lv' := [(3, .long (v &&& 4294967295)), (0, .ref r), (1, .long v)]) hx hb d_M_times_5 rfl hl (by decide) rfl (fun ls hl => ?_)
  refine lv_lload_n hx hb d_M_times_6 rfl (lv_at hl 2 rfl) ?_
  refine lv_bipush (v := 32) hx hb d_M_times_7 (by decide) ?_
  refine lv_lushr (v := jv_lushr v 32) hx hb d_M_times_9 rfl ?_
  refine lv_lstore (lv' := [(5, .long (jv_lushr v 32)), (3, .long (v &&& 4294967295)), (0, .ref r), (1, .long v)]) hx hb d_M_times_10 hl (by decide) rfl (fun ls hl => ?_)
  refine lv_lconst (v := 0) hx hb d_M_times_12 (by decide) ?_
  refine lv_lstore (lv' := [(7, .long 0), (5, .long (jv_lushr v 32)), (3, .long (v &&& 4294967295)), (0, .ref r), (1, .long v)]) hx hb d_M_times_13 hl (by decide) rfl (fun ls hl => ?_)
  refine lv_lconst (v := 0) hx hb d_M_times_15 (by decide) ?_
  refine lv_lstore (lv' := [(9, .long 0), (7, .long 0), (5, .long (jv_lushr v 32)), (3, .long (v &&& 4294967295)), (0, .ref r), (1, .long v)]) hx hb d_M_times_16 hl (by decide) rfl (fun ls hl => ?_)
  refine lv_iconst (v := 0) hx hb d_M_times_18 (by decide) ?_
  refine lv_istore (lv' := [(11, .int 0), (9, .long 0), (7, .long 0), (5, .long (jv_lushr v 32)), (3, .long (v &&& 4294967295)), (0, .ref r), (1, .long v)]) hx hb d_M_times_19 hl (by decide) rfl (fun ls hl => ?_)
  have L21 : ∀ (n : Nat) (k : Int32) (g : Nat → Int64) (cy : Int64) (bf : Int64), (lu 6 k) → 6 - k.toNatClampNeg < n → km_times_L21 v n k g cy bf = RES → ∀ (ls : Array Slot) (H : Heap) (locs : List Loc), lv_has ls 20 [(11, .int k), (9, .long bf), (7, .long cy), (5, .long (jv_lushr v 32)), (3, .long (v &&& 4294967295)), (0, .ref r)] → va_P (dC, dI) cls9 [(r, .inl (cJ, 6, .inr (.inl g)))] H → va_D A [(r, .inl (cJ, 6, .inr (.inl g)))] → va_S A s.heap H locs → W p l e R s m args below meth c H locs 0 0 Q (F0 m 21 ls []) := by
    intro n
    induction n with
    | zero => intro k g cy bf hinv hmu; exact absurd hmu (Nat.not_lt_zero _)
    | succ n ih =>
      intro k g cy bf hinv hmu hres ls H locs hl hP hD hS
      rw [km_times_L21] at hres
      refine lv_iload hx hb d_M_times_21 (lv_at hl 0 rfl) ?_
      refine lv_bipush (v := 6) hx hb d_M_times_23 (by decide) ?_
      refine lv_icmp_ge (tgt := 116) hx hb d_M_times_25 rfl (fun h25 => ?_) (fun h25 => ?_)
      · rw [if_pos h25] at hres
        rw [hQ]
        subst hres
        exact W.vret hx hb hr (fun t ht hW => ⟨⟨(), rfl, trivial, ⟨by rw [ht]; exact hP, va_K.moved hW.alike hK, hD⟩⟩, hS.F ht⟩) hS.2.2 d_M_times_116
      · rw [if_neg h25] at hres
        refine lv_aload_n hx hb d_M_times_28 rfl (lv_at hl 5 rfl) ?_
        refine lv_iload hx hb d_M_times_29 (lv_at hl 0 rfl) ?_
        refine va_lald hx hb hK hP 0 0 rfl rfl (by exact (lu_step (N := 6) (by decide) hinv h25).2.1) d_M_times_31 ?_
        refine lv_lload_n hx hb d_M_times_32 rfl (lv_at hl 4 rfl) ?_
        refine lv_lmul hx hb d_M_times_33 ?_
        refine lv_lstore (lv' := [(12, .long ((g (Int32.toNatClampNeg k)) * (v &&& 4294967295))), (11, .int k), (9, .long bf), (7, .long cy), (5, .long (jv_lushr v 32)), (3, .long (v &&& 4294967295)), (0, .ref r)]) hx hb d_M_times_34 hl (by decide) rfl (fun ls hl => ?_)
        refine lv_lload hx hb d_M_times_36 (lv_at hl 2 rfl) ?_
        refine lv_lload hx hb d_M_times_38 (lv_at hl 4 rfl) ?_
        refine lv_lmul hx hb d_M_times_40 ?_
        refine lv_lstore (lv' := [(14, .long (bf * (jv_lushr v 32))), (12, .long ((g (Int32.toNatClampNeg k)) * (v &&& 4294967295))), (11, .int k), (9, .long bf), (7, .long cy), (5, .long (jv_lushr v 32)), (3, .long (v &&& 4294967295)), (0, .ref r)]) hx hb d_M_times_41 hl (by decide) rfl (fun ls hl => ?_)
        refine lv_lload hx hb d_M_times_43 (lv_at hl 1 rfl) ?_
        refine lv_ldc2 (v := 4294967295) hx hb hown (hts _ tw_374) d_M_times_45 ?_
        refine lv_land hx hb d_M_times_48 ?_
        refine lv_lload hx hb d_M_times_49 (lv_at hl 0 rfl) ?_
        refine lv_ldc2 (v := 4294967295) hx hb hown (hts _ tw_374) d_M_times_51 ?_
        refine lv_land hx hb d_M_times_54 ?_
        refine lv_ladd hx hb d_M_times_55 ?_
        refine lv_lload hx hb d_M_times_56 (lv_at hl 4 rfl) ?_
        refine lv_ldc2 (v := 4294967295) hx hb hown (hts _ tw_374) d_M_times_58 ?_
        refine lv_land hx hb d_M_times_61 ?_
        refine lv_ladd hx hb d_M_times_62 ?_
        refine lv_lstore (lv' := [(16, .long (((((g (Int32.toNatClampNeg k)) * (v &&& 4294967295)) &&& 4294967295) + ((bf * (jv_lushr v 32)) &&& 4294967295)) + (cy &&& 4294967295))), (14, .long (bf * (jv_lushr v 32))), (12, .long ((g (Int32.toNatClampNeg k)) * (v &&& 4294967295))), (11, .int k), (9, .long bf), (7, .long cy), (5, .long (jv_lushr v 32)), (3, .long (v &&& 4294967295)), (0, .ref r)]) hx hb d_M_times_63 hl (by decide) rfl (fun ls hl => ?_)
        refine lv_lload hx hb d_M_times_65 (lv_at hl 2 rfl) ?_
        refine lv_bipush (v := 32) hx hb d_M_times_67 (by decide) ?_
        refine lv_lushr (v := jv_lushr ((g (Int32.toNatClampNeg k)) * (v &&& 4294967295)) 32) hx hb d_M_times_69 rfl ?_
        refine lv_lload hx hb d_M_times_70 (lv_at hl 1 rfl) ?_
        refine lv_bipush (v := 32) hx hb d_M_times_72 (by decide) ?_
        refine lv_lushr (v := jv_lushr (bf * (jv_lushr v 32)) 32) hx hb d_M_times_74 rfl ?_
        refine lv_ladd hx hb d_M_times_75 ?_
        refine lv_lload hx hb d_M_times_76 (lv_at hl 5 rfl) ?_
        refine lv_bipush (v := 32) hx hb d_M_times_78 (by decide) ?_
        refine lv_lushr (v := jv_lushr cy 32) hx hb d_M_times_80 rfl ?_
        refine lv_ladd hx hb d_M_times_81 ?_
        refine lv_lload hx hb d_M_times_82 (lv_at hl 0 rfl) ?_
        refine lv_bipush (v := 32) hx hb d_M_times_84 (by decide) ?_
        refine lv_lushr (v := jv_lushr (((((g (Int32.toNatClampNeg k)) * (v &&& 4294967295)) &&& 4294967295) + ((bf * (jv_lushr v 32)) &&& 4294967295)) + (cy &&& 4294967295)) 32) hx hb d_M_times_86 rfl ?_
        refine lv_ladd hx hb d_M_times_87 ?_
        refine lv_lstore (lv' := [(18, .long ((((jv_lushr ((g (Int32.toNatClampNeg k)) * (v &&& 4294967295)) 32) + (jv_lushr (bf * (jv_lushr v 32)) 32)) + (jv_lushr cy 32)) + (jv_lushr (((((g (Int32.toNatClampNeg k)) * (v &&& 4294967295)) &&& 4294967295) + ((bf * (jv_lushr v 32)) &&& 4294967295)) + (cy &&& 4294967295)) 32))), (16, .long (((((g (Int32.toNatClampNeg k)) * (v &&& 4294967295)) &&& 4294967295) + ((bf * (jv_lushr v 32)) &&& 4294967295)) + (cy &&& 4294967295))), (14, .long (bf * (jv_lushr v 32))), (12, .long ((g (Int32.toNatClampNeg k)) * (v &&& 4294967295))), (11, .int k), (9, .long bf), (7, .long cy), (5, .long (jv_lushr v 32)), (3, .long (v &&& 4294967295)), (0, .ref r)]) hx hb d_M_times_88 hl (by decide) rfl (fun ls hl => ?_)
        refine lv_aload_n hx hb d_M_times_90 rfl (lv_at hl 9 rfl) ?_
        refine lv_iload hx hb d_M_times_91 (lv_at hl 4 rfl) ?_
        refine va_lald hx hb hK hP 0 0 rfl rfl (by exact (lu_step (N := 6) (by decide) hinv h25).2.1) d_M_times_93 ?_
        refine lv_lstore (lv' := [(9, .long (g (Int32.toNatClampNeg k))), (18, .long ((((jv_lushr ((g (Int32.toNatClampNeg k)) * (v &&& 4294967295)) 32) + (jv_lushr (bf * (jv_lushr v 32)) 32)) + (jv_lushr cy 32)) + (jv_lushr (((((g (Int32.toNatClampNeg k)) * (v &&& 4294967295)) &&& 4294967295) + ((bf * (jv_lushr v 32)) &&& 4294967295)) + (cy &&& 4294967295)) 32))), (16, .long (((((g (Int32.toNatClampNeg k)) * (v &&& 4294967295)) &&& 4294967295) + ((bf * (jv_lushr v 32)) &&& 4294967295)) + (cy &&& 4294967295))), (14, .long (bf * (jv_lushr v 32))), (12, .long ((g (Int32.toNatClampNeg k)) * (v &&& 4294967295))), (11, .int k), (7, .long cy), (5, .long (jv_lushr v 32)), (3, .long (v &&& 4294967295)), (0, .ref r)]) hx hb d_M_times_94 hl (by decide) rfl (fun ls hl => ?_)
        refine lv_aload_n hx hb d_M_times_96 rfl (lv_at hl 9 rfl) ?_
        refine lv_iload hx hb d_M_times_97 (lv_at hl 5 rfl) ?_
        refine lv_lload hx hb d_M_times_99 (lv_at hl 2 rfl) ?_
        refine lv_ldc2 (v := 4294967295) hx hb hown (hts _ tw_374) d_M_times_101 ?_
        refine lv_land hx hb d_M_times_104 ?_
        refine va_last hx hb hK hP hD hS 0 0 rfl rfl (by exact (lu_step (N := 6) (by decide) hinv h25).2.1) d_M_times_105 (fun H locs hP hD hS => ?_)
        have hP : va_P (dC, dI) cls9 [(r, .inl (cJ, 6, .inr (.inl (vp_updL g (Int32.toNatClampNeg k) ((((((g (Int32.toNatClampNeg k)) * (v &&& 4294967295)) &&& 4294967295) + ((bf * (jv_lushr v 32)) &&& 4294967295)) + (cy &&& 4294967295)) &&& 4294967295)))))] H := hP
        have hD : va_D A [(r, .inl (cJ, 6, .inr (.inl (vp_updL g (Int32.toNatClampNeg k) ((((((g (Int32.toNatClampNeg k)) * (v &&& 4294967295)) &&& 4294967295) + ((bf * (jv_lushr v 32)) &&& 4294967295)) + (cy &&& 4294967295)) &&& 4294967295)))))] := hD
        refine lv_lload hx hb d_M_times_106 (lv_at hl 1 rfl) ?_
        refine lv_lstore (lv' := [(7, .long ((((jv_lushr ((g (Int32.toNatClampNeg k)) * (v &&& 4294967295)) 32) + (jv_lushr (bf * (jv_lushr v 32)) 32)) + (jv_lushr cy 32)) + (jv_lushr (((((g (Int32.toNatClampNeg k)) * (v &&& 4294967295)) &&& 4294967295) + ((bf * (jv_lushr v 32)) &&& 4294967295)) + (cy &&& 4294967295)) 32))), (9, .long (g (Int32.toNatClampNeg k))), (18, .long ((((jv_lushr ((g (Int32.toNatClampNeg k)) * (v &&& 4294967295)) 32) + (jv_lushr (bf * (jv_lushr v 32)) 32)) + (jv_lushr cy 32)) + (jv_lushr (((((g (Int32.toNatClampNeg k)) * (v &&& 4294967295)) &&& 4294967295) + ((bf * (jv_lushr v 32)) &&& 4294967295)) + (cy &&& 4294967295)) 32))), (16, .long (((((g (Int32.toNatClampNeg k)) * (v &&& 4294967295)) &&& 4294967295) + ((bf * (jv_lushr v 32)) &&& 4294967295)) + (cy &&& 4294967295))), (14, .long (bf * (jv_lushr v 32))), (12, .long ((g (Int32.toNatClampNeg k)) * (v &&& 4294967295))), (11, .int k), (5, .long (jv_lushr v 32)), (3, .long (v &&& 4294967295)), (0, .ref r)]) hx hb d_M_times_108 hl (by decide) rfl (fun ls hl => ?_)
        refine lv_iinc (k := 6) (v := k + 1) (lv' := [(11, .int (k + 1)), (7, .long ((((jv_lushr ((g (Int32.toNatClampNeg k)) * (v &&& 4294967295)) 32) + (jv_lushr (bf * (jv_lushr v 32)) 32)) + (jv_lushr cy 32)) + (jv_lushr (((((g (Int32.toNatClampNeg k)) * (v &&& 4294967295)) &&& 4294967295) + ((bf * (jv_lushr v 32)) &&& 4294967295)) + (cy &&& 4294967295)) 32))), (9, .long (g (Int32.toNatClampNeg k))), (18, .long ((((jv_lushr ((g (Int32.toNatClampNeg k)) * (v &&& 4294967295)) 32) + (jv_lushr (bf * (jv_lushr v 32)) 32)) + (jv_lushr cy 32)) + (jv_lushr (((((g (Int32.toNatClampNeg k)) * (v &&& 4294967295)) &&& 4294967295) + ((bf * (jv_lushr v 32)) &&& 4294967295)) + (cy &&& 4294967295)) 32))), (16, .long (((((g (Int32.toNatClampNeg k)) * (v &&& 4294967295)) &&& 4294967295) + ((bf * (jv_lushr v 32)) &&& 4294967295)) + (cy &&& 4294967295))), (14, .long (bf * (jv_lushr v 32))), (12, .long ((g (Int32.toNatClampNeg k)) * (v &&& 4294967295))), (5, .long (jv_lushr v 32)), (3, .long (v &&& 4294967295)), (0, .ref r)]) hx hb d_M_times_110 hl rfl rfl (by decide) rfl (fun ls hl => ?_)
        refine lv_goto (tgt := 21) hx hb d_M_times_113 rfl ?_
        exact ih (k + 1) (vp_updL g (Int32.toNatClampNeg k) ((((((g (Int32.toNatClampNeg k)) * (v &&& 4294967295)) &&& 4294967295) + ((bf * (jv_lushr v 32)) &&& 4294967295)) + (cy &&& 4294967295)) &&& 4294967295)) ((((jv_lushr ((g (Int32.toNatClampNeg k)) * (v &&& 4294967295)) 32) + (jv_lushr (bf * (jv_lushr v 32)) 32)) + (jv_lushr cy 32)) + (jv_lushr (((((g (Int32.toNatClampNeg k)) * (v &&& 4294967295)) &&& 4294967295) + ((bf * (jv_lushr v 32)) &&& 4294967295)) + (cy &&& 4294967295)) 32)) (g (Int32.toNatClampNeg k)) (by exact (lu_step (N := 6) (by decide) hinv h25).1) (by have h9 := (lu_step (N := 6) (by decide) hinv h25).2.2; omega) hres ls _ _ (lv_sub hl [0, 2, 1, 7, 8, 9] rfl) hP hD hS
  exact L21 7 0 f 0 0 (by exact lu_0 _) (by decide) hres ls _ _ (lv_sub hl [0, 1, 2, 3, 4, 5] rfl) hP hD hS
def km_prod_j23 (k : Int32) (g : Nat → Int64) (kL3 : (Int32) → (Nat → Int64) → (Nat → Int64)) (t23_0 : Int64) : (Nat → Int64) := (kL3 (k + 1) (vp_updL g (Int32.toNatClampNeg k) t23_0))
def km_prod_L3 (a : Int64) (b : Int64) (c0 : Int64) : Nat → (Int32) → (Nat → Int64) → (Nat → Int64)
  | 0, _, _ => (fun _ => 0)
  | n+1, k, g => (if 6 ≤ k then (km_times (km_times (km_times g a) b) c0) else (if k = 0 then (km_prod_j23 k g (km_prod_L3 a b c0 n) 1) else (km_prod_j23 k g (km_prod_L3 a b c0 n) 0)))
def km_prod (f : Nat → Int64) (a : Int64) (b : Int64) (c0 : Int64) : (Nat → Int64) := (km_prod_L3 a b c0 7 0 f)
set_option maxHeartbeats 4000000 in
set_option maxRecDepth 100000 in
theorem c_km_prod (l : Launch) (dC : Nat → ClassId) (dI : Nat → Nat → Nat) (r : Nat) (cJ : ClassId) (f : Nat → Int64) (a : Int64) (b : Int64) (c0 : Int64)  : mc_v l y_M_product w_M_product { frames := 1, cells := 0, slots := 0, locals := 39 } (dC, dI) cls9 [(r, .inl (cJ, 6, .inr (.inl f)))] [(r, .inl (cJ, 6, .inr (.inl (km_prod f a b c0))))] [(cJ, .long)] [.ref r, .long a, .long b, .long c0] := by
  intro sz
  refine Met.ofW (cc := b_M_product) (maxL := 8) (ret := none) (by decide) rfl ?_
  intro p e s m args below meth c s₁ B hml hv
  obtain ⟨hargs, hsz, hP, hK, hD0⟩ := hv
  have hx := B.exec
  have hb := B.bytes
  have hr := B.returns
  have hts : ∀ w ∈ lw_w, w.before args s = true := fun w h => atoms_spec (ws := w_M_product) B.pre w (List.mem_cons_of_mem _ h)
  have hown : s.vm.findClass R_M = some m.cls := findClass_of_methodNamed B.named
  have hlocks := B.notSynchronized
  subst hsz
  have hD := hD0.self (sz := s.heap.size)
  generalize hR : (headSpec w_M_product { frames := 1, cells := 0, slots := 0, locals := 39 }).room = R
  generalize hAe : va_A [(r, .inl (cJ, 6, .inr (.inl f)))] s.heap.size = A at hD ⊢
  have hA : ∀ q : Nat, s.heap.size ≤ q → A q := fun q h => by rw [← hAe]; exact Or.inr h
  have hS : va_S A s.heap s.heap [] := va_S.rf
  generalize hRES : km_prod f a b c0 = RES
  have hres := hRES
  have hl := lv_entry [.ref r, .long a, .long b, .long c0] (n := 8) (Nat.le_of_ble_eq_true rfl)
  have hent : entryFrame m args 8 = F0 m 0 (lg_sl [.ref r, .long a, .long b, .long c0] ++ List.replicate (8 - (lg_sl [.ref r, .long a, .long b, .long c0]).length) Slot.unset).toArray [] := by rw [hargs]; exact lg_entry_eq m [.ref r, .long a, .long b, .long c0] 8
  rw [hent]
  clear hent
  generalize (lg_sl [.ref r, .long a, .long b, .long c0] ++ List.replicate (8 - (lg_sl [.ref r, .long a, .long b, .long c0]).length) Slot.unset).toArray = ls at hl ⊢
  have hl : lv_has ls 8 [(0, .ref r), (1, .long a), (3, .long b), (5, .long c0)] := hl
  have hP : va_P (dC, dI) cls9 [(r, .inl (cJ, 6, .inr (.inl f)))] s.heap := hP
  have hD : va_D A [(r, .inl (cJ, 6, .inr (.inl f)))] := hD
  clear hD0 hRES hAe
  unfold km_prod at hres
  generalize hQ : MQ below (va_Qv (fun (_ : Unit) => True) (fun _ t => va_P (dC, dI) cls9 [(r, .inl (cJ, 6, .inr (.inl RES)))] t.heap ∧ va_K (dC, dI) cls9 [(cJ, .long)] t ∧ va_D A [(r, .inl (cJ, 6, .inr (.inl RES)))]) A) args s 0 0 A = Q
  replace hQ := hQ.symm
  refine lv_iconst (v := 0) hx hb d_M_product_0 (by decide) ?_
  refine lv_istore (lv' := [(7, .int 0), (0, .ref r), (1, .long a), (3, .long b), (5, .long c0)]) hx hb d_M_product_1 hl (by decide) rfl (fun ls hl => ?_)
  have L3 : ∀ (n : Nat) (k : Int32) (g : Nat → Int64), (lu 6 k) → 6 - k.toNatClampNeg < n → km_prod_L3 a b c0 n k g = RES → ∀ (ls : Array Slot) (H : Heap) (locs : List Loc), lv_has ls 8 [(7, .int k), (0, .ref r), (1, .long a), (3, .long b), (5, .long c0)] → va_P (dC, dI) cls9 [(r, .inl (cJ, 6, .inr (.inl g)))] H → va_D A [(r, .inl (cJ, 6, .inr (.inl g)))] → va_S A s.heap H locs → W p l e R s m args below meth c H locs 0 0 Q (F0 m 3 ls []) := by
    intro n
    induction n with
    | zero => intro k g hinv hmu; exact absurd hmu (Nat.not_lt_zero _)
    | succ n ih =>
      intro k g hinv hmu hres ls H locs hl hP hD hS
      rw [km_prod_L3] at hres
      refine lv_iload hx hb d_M_product_3 (lv_at hl 0 rfl) ?_
      refine lv_bipush (v := 6) hx hb d_M_product_5 (by decide) ?_
      refine lv_icmp_ge (tgt := 30) hx hb d_M_product_7 rfl (fun h7 => ?_) (fun h7 => ?_)
      · rw [if_pos h7] at hres
        refine lv_aload_n hx hb d_M_product_30 rfl (lv_at hl 1 rfl) ?_
        refine lv_lload_n hx hb d_M_product_31 rfl (lv_at hl 2 rfl) ?_
        refine cm_v (wc := [(r, .inl (cJ, 6, .inr (.inl g)))]) (wr := []) (W1 := [(r, .inl (cJ, 6, .inr (.inl (km_times g a))))]) (w2 := [(r, .inl (cJ, 6, .inr (.inl (km_times g a))))]) (va_runS (g := F0 m 32 ls [.long a, .ref r]) (As := [.ref r, .long a]) (rest := []) ⟨hx, hb, hml, hown, hts⟩ (c_km_times l dC dI r cJ g a  _) (va_cwS 2 hts (gi_S tw_371 tw_372 tw_6 tw_373) rfl rfl rfl (by decide +kernel) ⟨(by rw [← hR]; exact Nat.le_of_ble_eq_true rfl), (by rw [← hR]; exact Nat.le_of_ble_eq_true rfl)⟩) ⟨mc_blind, mc_pre (hP.sub [0] rfl) (hK.sub [0] rfl) (hD.sub [0] (by decide) rfl)⟩ rfl rfl hl.1 rfl (lv_room (Nat.le_of_ble_eq_true rfl)) d_M_product_32 ⟨Nat.zero_le _, Nat.zero_le _⟩) hP hD hS hA [0] [] [0] rfl rfl (by decide) (by decide) rfl rfl (by decide) (fun H locs hP hD hS => ?_)
        refine lv_aload_n hx hb d_M_product_35 rfl (lv_at hl 1 rfl) ?_
        refine lv_lload_n hx hb d_M_product_36 rfl (lv_at hl 3 rfl) ?_
        refine cm_v (wc := [(r, .inl (cJ, 6, .inr (.inl (km_times g a))))]) (wr := []) (W1 := [(r, .inl (cJ, 6, .inr (.inl (km_times (km_times g a) b))))]) (w2 := [(r, .inl (cJ, 6, .inr (.inl (km_times (km_times g a) b))))]) (va_runS (g := F0 m 37 ls [.long b, .ref r]) (As := [.ref r, .long b]) (rest := []) ⟨hx, hb, hml, hown, hts⟩ (c_km_times l dC dI r cJ (km_times g a) b  _) (va_cwS 2 hts (gi_S tw_371 tw_372 tw_6 tw_373) rfl rfl rfl (by decide +kernel) ⟨(by rw [← hR]; exact Nat.le_of_ble_eq_true rfl), (by rw [← hR]; exact Nat.le_of_ble_eq_true rfl)⟩) ⟨mc_blind, mc_pre (hP.sub [0] rfl) (hK.sub [0] rfl) (hD.sub [0] (by decide) rfl)⟩ rfl rfl hl.1 rfl (lv_room (Nat.le_of_ble_eq_true rfl)) d_M_product_37 ⟨Nat.zero_le _, Nat.zero_le _⟩) hP hD hS hA [0] [] [0] rfl rfl (by decide) (by decide) rfl rfl (by decide) (fun H locs hP hD hS => ?_)
        refine lv_aload_n hx hb d_M_product_40 rfl (lv_at hl 1 rfl) ?_
        refine lv_lload hx hb d_M_product_41 (lv_at hl 4 rfl) ?_
        refine cm_v (wc := [(r, .inl (cJ, 6, .inr (.inl (km_times (km_times g a) b))))]) (wr := []) (W1 := [(r, .inl (cJ, 6, .inr (.inl (km_times (km_times (km_times g a) b) c0))))]) (w2 := [(r, .inl (cJ, 6, .inr (.inl (km_times (km_times (km_times g a) b) c0))))]) (va_runS (g := F0 m 43 ls [.long c0, .ref r]) (As := [.ref r, .long c0]) (rest := []) ⟨hx, hb, hml, hown, hts⟩ (c_km_times l dC dI r cJ (km_times (km_times g a) b) c0  _) (va_cwS 2 hts (gi_S tw_371 tw_372 tw_6 tw_373) rfl rfl rfl (by decide +kernel) ⟨(by rw [← hR]; exact Nat.le_of_ble_eq_true rfl), (by rw [← hR]; exact Nat.le_of_ble_eq_true rfl)⟩) ⟨mc_blind, mc_pre (hP.sub [0] rfl) (hK.sub [0] rfl) (hD.sub [0] (by decide) rfl)⟩ rfl rfl hl.1 rfl (lv_room (Nat.le_of_ble_eq_true rfl)) d_M_product_43 ⟨Nat.zero_le _, Nat.zero_le _⟩) hP hD hS hA [0] [] [0] rfl rfl (by decide) (by decide) rfl rfl (by decide) (fun H locs hP hD hS => ?_)
        rw [hQ]
        subst hres
        exact W.vret hx hb hr (fun t ht hW => ⟨⟨(), rfl, trivial, ⟨by rw [ht]; exact hP, va_K.moved hW.alike hK, hD⟩⟩, hS.F ht⟩) hS.2.2 d_M_product_46
      · rw [if_neg h7] at hres
        refine lv_aload_n hx hb d_M_product_10 rfl (lv_at hl 1 rfl) ?_
        refine lv_iload hx hb d_M_product_11 (lv_at hl 0 rfl) ?_
        refine lv_iload hx hb d_M_product_13 (lv_at hl 0 rfl) ?_
        have J23 : ∀ (t23_0 : Int64), km_prod_j23 k g (km_prod_L3 a b c0 n) t23_0 = RES → ∀ (ls : Array Slot) (H : Heap) (locs : List Loc), lv_has ls 8 [(7, .int k), (0, .ref r), (1, .long a), (3, .long b), (5, .long c0)] → va_P (dC, dI) cls9 [(r, .inl (cJ, 6, .inr (.inl g)))] H → va_D A [(r, .inl (cJ, 6, .inr (.inl g)))] → va_S A s.heap H locs → W p l e R s m args below meth c H locs 0 0 Q (F0 m 23 ls [.long t23_0, .int k, .ref r]) := by
          intro t23_0 hres ls H locs hl hP hD hS
          unfold km_prod_j23 at hres
          refine va_last hx hb hK hP hD hS 0 0 rfl rfl (by exact (lu_step (N := 6) (by decide) hinv h7).2.1) d_M_product_23 (fun H locs hP hD hS => ?_)
          have hP : va_P (dC, dI) cls9 [(r, .inl (cJ, 6, .inr (.inl (vp_updL g (Int32.toNatClampNeg k) t23_0))))] H := hP
          have hD : va_D A [(r, .inl (cJ, 6, .inr (.inl (vp_updL g (Int32.toNatClampNeg k) t23_0))))] := hD
          refine lv_iinc (k := 0) (v := k + 1) (lv' := [(7, .int (k + 1)), (0, .ref r), (1, .long a), (3, .long b), (5, .long c0)]) hx hb d_M_product_24 hl rfl rfl (by decide) rfl (fun ls hl => ?_)
          refine lv_goto (tgt := 3) hx hb d_M_product_27 rfl ?_
          exact ih (k + 1) (vp_updL g (Int32.toNatClampNeg k) t23_0) (by exact (lu_step (N := 6) (by decide) hinv h7).1) (by have h9 := (lu_step (N := 6) (by decide) hinv h7).2.2; omega) hres ls _ _ (lv_sub hl [0, 1, 2, 3, 4] rfl) hP hD hS
        refine lv_if_ne (tgt := 22) hx hb d_M_product_15 rfl (fun h15 => ?_) (fun h15 => ?_)
        · rw [if_neg h15] at hres
          refine lv_lconst (v := 0) hx hb d_M_product_22 (by decide) ?_
          exact J23 0 hres ls _ _ (lv_sub hl [0, 1, 2, 3, 4] rfl) hP hD hS
        · rw [if_pos h15] at hres
          refine lv_lconst (v := 1) hx hb d_M_product_18 (by decide) ?_
          refine lv_goto (tgt := 23) hx hb d_M_product_19 rfl ?_
          exact J23 1 hres ls _ _ (lv_sub hl [0, 1, 2, 3, 4] rfl) hP hD hS
  exact L3 7 0 f (by exact lu_0 _) (by decide) hres ls _ _ (lv_sub hl [0, 1, 2, 3, 4] rfl) hP hD hS
def km_cmp_L24 (fi : Nat → Int64) (se : Nat → Int64) (a : Int64) (b : Int64) (c0 : Int64) : Nat → (Int32) → Int32 × (Nat → Int64) × (Nat → Int64)
  | 0, _ => (0, fun _ => 0, fun _ => 0)
  | n+1, k => (if k < 0 then (0, (km_prod fi a a 1), (km_prod se b b c0)) else (if (lg_cmp ((km_prod fi a a 1) (Int32.toNatClampNeg k)) ((km_prod se b b c0) (Int32.toNatClampNeg k))) = 0 then ((km_cmp_L24 fi se a b c0 n) (k + (-1))) else (if 0 ≤ (lg_cmp ((km_prod fi a a 1) (Int32.toNatClampNeg k)) ((km_prod se b b c0) (Int32.toNatClampNeg k))) then (1, (km_prod fi a a 1), (km_prod se b b c0)) else ((-1), (km_prod fi a a 1), (km_prod se b b c0)))))
def km_cmp (fi : Nat → Int64) (se : Nat → Int64) (a : Int64) (b : Int64) (c0 : Int64) : Int32 × (Nat → Int64) × (Nat → Int64) := (km_cmp_L24 fi se a b c0 7 5)
set_option maxHeartbeats 4000000 in
set_option maxRecDepth 100000 in
theorem c_km_cmp (l : Launch) (dC : Nat → ClassId) (dI : Nat → Nat → Nat) (h0 : Nat) (apx : Nat) (apy : Nat) (aon : Nat) (aen : Nat) (afi : Nat) (ase : Nat) (cJ : ClassId) (cZ : ClassId) (cI : ClassId) (wd : Int32) (cn : Int32) (pn : Int32) (tc : Int32) (tn : Int32) (px : Nat → Int64) (py : Nat → Int64) (on : Nat → Int32) (en : Nat → Int32) (fi : Nat → Int64) (se : Nat → Int64) (a : Int64) (b : Int64) (c0 : Int64)  : mc_i l y_M_compare w_M_compare { frames := 2, cells := 0, slots := 0, locals := 66 } (dC, dI) cls9 [(h0, .inr (2, [.int wd, .ref apx, .ref apy, .ref aon, .ref aen, .int cn, .int pn, .int tc, .int tn, .ref afi, .ref ase])), (apx, .inl (cJ, 256, .inr (.inl px))), (apy, .inl (cJ, 256, .inr (.inl py))), (aon, .inl (cZ, 256, .inl on)), (aen, .inl (cI, 256, .inl en)), (afi, .inl (cJ, 6, .inr (.inl fi))), (ase, .inl (cJ, 6, .inr (.inl se)))] [(h0, .inr (2, [.int wd, .ref apx, .ref apy, .ref aon, .ref aen, .int cn, .int pn, .int tc, .int tn, .ref afi, .ref ase])), (apx, .inl (cJ, 256, .inr (.inl px))), (apy, .inl (cJ, 256, .inr (.inl py))), (aon, .inl (cZ, 256, .inl on)), (aen, .inl (cI, 256, .inl en)), (afi, .inl (cJ, 6, .inr (.inl ((km_cmp fi se a b c0).2.1)))), (ase, .inl (cJ, 6, .inr (.inl ((km_cmp fi se a b c0).2.2))))] [(cJ, .long), (cZ, .boolean), (cI, .int)] [.ref h0, .long a, .long b, .long c0] ((km_cmp fi se a b c0).1) := by
  intro sz
  refine Met.ofW (cc := b_M_compare) (maxL := 8) (ret := (some .int)) (by decide) rfl ?_
  intro p e s m args below meth c s₁ B hml hv
  obtain ⟨hargs, hsz, hP, hK, hD0⟩ := hv
  have hx := B.exec
  have hb := B.bytes
  have hr := B.returns
  have hts : ∀ w ∈ lw_w, w.before args s = true := fun w h => atoms_spec (ws := w_M_compare) B.pre w (List.mem_cons_of_mem _ h)
  have hown : s.vm.findClass R_M = some m.cls := findClass_of_methodNamed B.named
  have hlocks := B.notSynchronized
  subst hsz
  have hD := hD0.self (sz := s.heap.size)
  generalize hR : (headSpec w_M_compare { frames := 2, cells := 0, slots := 0, locals := 66 }).room = R
  generalize hAe : va_A [(h0, .inr (2, [.int wd, .ref apx, .ref apy, .ref aon, .ref aen, .int cn, .int pn, .int tc, .int tn, .ref afi, .ref ase])), (apx, .inl (cJ, 256, .inr (.inl px))), (apy, .inl (cJ, 256, .inr (.inl py))), (aon, .inl (cZ, 256, .inl on)), (aen, .inl (cI, 256, .inl en)), (afi, .inl (cJ, 6, .inr (.inl fi))), (ase, .inl (cJ, 6, .inr (.inl se)))] s.heap.size = A at hD ⊢
  have hA : ∀ q : Nat, s.heap.size ≤ q → A q := fun q h => by rw [← hAe]; exact Or.inr h
  have hS : va_S A s.heap s.heap [] := va_S.rf
  generalize hRES : km_cmp fi se a b c0 = RES
  have hres := hRES
  have hl := lv_entry [.ref h0, .long a, .long b, .long c0] (n := 8) (Nat.le_of_ble_eq_true rfl)
  have hent : entryFrame m args 8 = F0 m 0 (lg_sl [.ref h0, .long a, .long b, .long c0] ++ List.replicate (8 - (lg_sl [.ref h0, .long a, .long b, .long c0]).length) Slot.unset).toArray [] := by rw [hargs]; exact lg_entry_eq m [.ref h0, .long a, .long b, .long c0] 8
  rw [hent]
  clear hent
  generalize (lg_sl [.ref h0, .long a, .long b, .long c0] ++ List.replicate (8 - (lg_sl [.ref h0, .long a, .long b, .long c0]).length) Slot.unset).toArray = ls at hl ⊢
  have hl : lv_has ls 8 [(0, .ref h0), (1, .long a), (3, .long b), (5, .long c0)] := hl
  have hP : va_P (dC, dI) cls9 [(h0, .inr (2, [.int wd, .ref apx, .ref apy, .ref aon, .ref aen, .int cn, .int pn, .int tc, .int tn, .ref afi, .ref ase])), (apx, .inl (cJ, 256, .inr (.inl px))), (apy, .inl (cJ, 256, .inr (.inl py))), (aon, .inl (cZ, 256, .inl on)), (aen, .inl (cI, 256, .inl en)), (afi, .inl (cJ, 6, .inr (.inl fi))), (ase, .inl (cJ, 6, .inr (.inl se)))] s.heap := hP
  have hD : va_D A [(h0, .inr (2, [.int wd, .ref apx, .ref apy, .ref aon, .ref aen, .int cn, .int pn, .int tc, .int tn, .ref afi, .ref ase])), (apx, .inl (cJ, 256, .inr (.inl px))), (apy, .inl (cJ, 256, .inr (.inl py))), (aon, .inl (cZ, 256, .inl on)), (aen, .inl (cI, 256, .inl en)), (afi, .inl (cJ, 6, .inr (.inl fi))), (ase, .inl (cJ, 6, .inr (.inl se)))] := hD
  clear hD0 hRES hAe
  unfold km_cmp at hres
  generalize hQ : MQ below (va_Qi (fun x (_ : Unit) => x = RES.1) (fun _ t => va_P (dC, dI) cls9 [(h0, .inr (2, [.int wd, .ref apx, .ref apy, .ref aon, .ref aen, .int cn, .int pn, .int tc, .int tn, .ref afi, .ref ase])), (apx, .inl (cJ, 256, .inr (.inl px))), (apy, .inl (cJ, 256, .inr (.inl py))), (aon, .inl (cZ, 256, .inl on)), (aen, .inl (cI, 256, .inl en)), (afi, .inl (cJ, 6, .inr (.inl RES.2.1))), (ase, .inl (cJ, 6, .inr (.inl RES.2.2)))] t.heap ∧ va_K (dC, dI) cls9 [(cJ, .long), (cZ, .boolean), (cI, .int)] t ∧ va_D A [(h0, .inr (2, [.int wd, .ref apx, .ref apy, .ref aon, .ref aen, .int cn, .int pn, .int tc, .int tn, .ref afi, .ref ase])), (apx, .inl (cJ, 256, .inr (.inl px))), (apy, .inl (cJ, 256, .inr (.inl py))), (aon, .inl (cZ, 256, .inl on)), (aen, .inl (cI, 256, .inl en)), (afi, .inl (cJ, 6, .inr (.inl RES.2.1))), (ase, .inl (cJ, 6, .inr (.inl RES.2.2)))]) A) args s 0 0 A = Q
  replace hQ := hQ.symm
  refine lv_aload_n hx hb d_M_compare_0 rfl (lv_at hl 0 rfl) ?_
  refine va_get (D := (dC, dI)) (ci := 2) (v := .ref afi) (C := R_M) (T := F_M) (N := 11) hx hb hts in_M hown hK hP 0 rfl rfl 9 (by decide) (hts _ tw_288) (fun _ h9 => h9) rfl d_M_compare_1 ?_
  refine lv_lload_n hx hb d_M_compare_4 rfl (lv_at hl 1 rfl) ?_
  refine lv_lload_n hx hb d_M_compare_5 rfl (lv_at hl 1 rfl) ?_
  refine lv_lconst (v := 1) hx hb d_M_compare_6 (by decide) ?_
  refine cm_v (wc := [(afi, .inl (cJ, 6, .inr (.inl fi)))]) (wr := [(h0, .inr (2, [.int wd, .ref apx, .ref apy, .ref aon, .ref aen, .int cn, .int pn, .int tc, .int tn, .ref afi, .ref ase])), (apx, .inl (cJ, 256, .inr (.inl px))), (apy, .inl (cJ, 256, .inr (.inl py))), (aon, .inl (cZ, 256, .inl on)), (aen, .inl (cI, 256, .inl en)), (ase, .inl (cJ, 6, .inr (.inl se)))]) (W1 := [(afi, .inl (cJ, 6, .inr (.inl (km_prod fi a a 1))))]) (w2 := [(h0, .inr (2, [.int wd, .ref apx, .ref apy, .ref aon, .ref aen, .int cn, .int pn, .int tc, .int tn, .ref afi, .ref ase])), (apx, .inl (cJ, 256, .inr (.inl px))), (apy, .inl (cJ, 256, .inr (.inl py))), (aon, .inl (cZ, 256, .inl on)), (aen, .inl (cI, 256, .inl en)), (afi, .inl (cJ, 6, .inr (.inl (km_prod fi a a 1)))), (ase, .inl (cJ, 6, .inr (.inl se)))]) (va_runS (g := F0 m 7 ls [.long 1, .long a, .long a, .ref afi]) (As := [.ref afi, .long a, .long a, .long 1]) (rest := []) ⟨hx, hb, hml, hown, hts⟩ (c_km_prod l dC dI afi cJ fi a a 1  _) (va_cwS 4 hts (gi_S tw_368 tw_369 tw_6 tw_370) rfl rfl rfl (by decide +kernel) ⟨(by rw [← hR]; exact Nat.le_of_ble_eq_true rfl), (by rw [← hR]; exact Nat.le_of_ble_eq_true rfl)⟩) ⟨mc_blind, mc_pre (hP.sub [5] rfl) (hK.sub [0] rfl) (hD.sub [5] (by decide) rfl)⟩ rfl rfl hl.1 rfl (lv_room (Nat.le_of_ble_eq_true rfl)) d_M_compare_7 ⟨Nat.zero_le _, Nat.zero_le _⟩) hP hD hS hA [5] [0, 1, 2, 3, 4, 6] [0, 1, 2, 3, 4, 6, 5] rfl rfl (by decide) (by decide) rfl rfl (by decide) (fun H locs hP hD hS => ?_)
  refine lv_aload_n hx hb d_M_compare_10 rfl (lv_at hl 0 rfl) ?_
  refine va_get (D := (dC, dI)) (ci := 2) (v := .ref ase) (C := R_M) (T := F_M) (N := 11) hx hb hts in_M hown hK hP 0 rfl rfl 10 (by decide) (hts _ tw_289) (fun _ h9 => h9) rfl d_M_compare_11 ?_
  refine lv_lload_n hx hb d_M_compare_14 rfl (lv_at hl 2 rfl) ?_
  refine lv_lload_n hx hb d_M_compare_15 rfl (lv_at hl 2 rfl) ?_
  refine lv_lload hx hb d_M_compare_16 (lv_at hl 3 rfl) ?_
  refine cm_v (wc := [(ase, .inl (cJ, 6, .inr (.inl se)))]) (wr := [(h0, .inr (2, [.int wd, .ref apx, .ref apy, .ref aon, .ref aen, .int cn, .int pn, .int tc, .int tn, .ref afi, .ref ase])), (apx, .inl (cJ, 256, .inr (.inl px))), (apy, .inl (cJ, 256, .inr (.inl py))), (aon, .inl (cZ, 256, .inl on)), (aen, .inl (cI, 256, .inl en)), (afi, .inl (cJ, 6, .inr (.inl (km_prod fi a a 1))))]) (W1 := [(ase, .inl (cJ, 6, .inr (.inl (km_prod se b b c0))))]) (w2 := [(h0, .inr (2, [.int wd, .ref apx, .ref apy, .ref aon, .ref aen, .int cn, .int pn, .int tc, .int tn, .ref afi, .ref ase])), (apx, .inl (cJ, 256, .inr (.inl px))), (apy, .inl (cJ, 256, .inr (.inl py))), (aon, .inl (cZ, 256, .inl on)), (aen, .inl (cI, 256, .inl en)), (afi, .inl (cJ, 6, .inr (.inl (km_prod fi a a 1)))), (ase, .inl (cJ, 6, .inr (.inl (km_prod se b b c0))))]) (va_runS (g := F0 m 18 ls [.long c0, .long b, .long b, .ref ase]) (As := [.ref ase, .long b, .long b, .long c0]) (rest := []) ⟨hx, hb, hml, hown, hts⟩ (c_km_prod l dC dI ase cJ se b b c0  _) (va_cwS 4 hts (gi_S tw_368 tw_369 tw_6 tw_370) rfl rfl rfl (by decide +kernel) ⟨(by rw [← hR]; exact Nat.le_of_ble_eq_true rfl), (by rw [← hR]; exact Nat.le_of_ble_eq_true rfl)⟩) ⟨mc_blind, mc_pre (hP.sub [6] rfl) (hK.sub [0] rfl) (hD.sub [6] (by decide) rfl)⟩ rfl rfl hl.1 rfl (lv_room (Nat.le_of_ble_eq_true rfl)) d_M_compare_18 ⟨Nat.zero_le _, Nat.zero_le _⟩) hP hD hS hA [6] [0, 1, 2, 3, 4, 5] [0, 1, 2, 3, 4, 5, 6] rfl rfl (by decide) (by decide) rfl rfl (by decide) (fun H locs hP hD hS => ?_)
  refine lv_iconst (v := 5) hx hb d_M_compare_21 (by decide) ?_
  refine lv_istore (lv' := [(7, .int 5), (0, .ref h0), (1, .long a), (3, .long b), (5, .long c0)]) hx hb d_M_compare_22 hl (by decide) rfl (fun ls hl => ?_)
  have L24 : ∀ (n : Nat) (k : Int32), (ld 6 k) → (k + 1).toNatClampNeg < n → km_cmp_L24 fi se a b c0 n k = RES → ∀ (ls : Array Slot) (H : Heap) (locs : List Loc), lv_has ls 8 [(7, .int k), (0, .ref h0)] → va_P (dC, dI) cls9 [(h0, .inr (2, [.int wd, .ref apx, .ref apy, .ref aon, .ref aen, .int cn, .int pn, .int tc, .int tn, .ref afi, .ref ase])), (apx, .inl (cJ, 256, .inr (.inl px))), (apy, .inl (cJ, 256, .inr (.inl py))), (aon, .inl (cZ, 256, .inl on)), (aen, .inl (cI, 256, .inl en)), (afi, .inl (cJ, 6, .inr (.inl (km_prod fi a a 1)))), (ase, .inl (cJ, 6, .inr (.inl (km_prod se b b c0))))] H → va_D A [(h0, .inr (2, [.int wd, .ref apx, .ref apy, .ref aon, .ref aen, .int cn, .int pn, .int tc, .int tn, .ref afi, .ref ase])), (apx, .inl (cJ, 256, .inr (.inl px))), (apy, .inl (cJ, 256, .inr (.inl py))), (aon, .inl (cZ, 256, .inl on)), (aen, .inl (cI, 256, .inl en)), (afi, .inl (cJ, 6, .inr (.inl (km_prod fi a a 1)))), (ase, .inl (cJ, 6, .inr (.inl (km_prod se b b c0))))] → va_S A s.heap H locs → W p l e R s m args below meth c H locs 0 0 Q (F0 m 24 ls []) := by
    intro n
    induction n with
    | zero => intro k hinv hmu; exact absurd hmu (Nat.not_lt_zero _)
    | succ n ih =>
      intro k hinv hmu hres ls H locs hl hP hD hS
      rw [km_cmp_L24] at hres
      refine lv_iload hx hb d_M_compare_24 (lv_at hl 0 rfl) ?_
      refine lv_if_lt (tgt := 77) hx hb d_M_compare_26 rfl (fun h26 => ?_) (fun h26 => ?_)
      · rw [if_pos h26] at hres
        refine lv_iconst (v := 0) hx hb d_M_compare_77 (by decide) ?_
        rw [hQ]
        subst hres
        exact W.iret (v := 0) hx hb hr (fun t ht hW => ⟨⟨_, (), rfl, rfl, ⟨by rw [ht]; exact hP, va_K.moved hW.alike hK, hD⟩⟩, hS.F ht⟩) hS.2.2 d_M_compare_78
      · rw [if_neg h26] at hres
        refine lv_aload_n hx hb d_M_compare_29 rfl (lv_at hl 1 rfl) ?_
        refine va_get (D := (dC, dI)) (ci := 2) (v := .ref afi) (C := R_M) (T := F_M) (N := 11) hx hb hts in_M hown hK hP 0 rfl rfl 9 (by decide) (hts _ tw_288) (fun _ h9 => h9) rfl d_M_compare_30 ?_
        refine lv_iload hx hb d_M_compare_33 (lv_at hl 0 rfl) ?_
        refine va_lald hx hb hK hP 5 0 rfl rfl (by exact (ld_step (N := 6) (by decide) hinv h26).2.1) d_M_compare_35 ?_
        refine lv_aload_n hx hb d_M_compare_36 rfl (lv_at hl 1 rfl) ?_
        refine va_get (D := (dC, dI)) (ci := 2) (v := .ref ase) (C := R_M) (T := F_M) (N := 11) hx hb hts in_M hown hK hP 0 rfl rfl 10 (by decide) (hts _ tw_289) (fun _ h9 => h9) rfl d_M_compare_37 ?_
        refine lv_iload hx hb d_M_compare_40 (lv_at hl 0 rfl) ?_
        refine va_lald hx hb hK hP 6 0 rfl rfl (by exact (ld_step (N := 6) (by decide) hinv h26).2.1) d_M_compare_42 ?_
        refine W.lcmp hx hb d_M_compare_43 ?_
        refine lv_if_eq (tgt := 71) hx hb d_M_compare_44 rfl (fun h44 => ?_) (fun h44 => ?_)
        · rw [if_pos h44] at hres
          refine lv_iinc (k := 0) (v := k + (-1)) (lv' := [(7, .int (k + (-1))), (0, .ref h0)]) hx hb d_M_compare_71 hl rfl rfl (by decide) rfl (fun ls hl => ?_)
          refine lv_goto (tgt := 24) hx hb d_M_compare_74 rfl ?_
          exact ih (k + (-1)) (by exact (ld_step (N := 6) (by decide) hinv h26).1) (by have h9 := (ld_step (N := 6) (by decide) hinv h26).2.2; omega) hres ls _ _ (lv_sub hl [0, 1] rfl) hP hD hS
        · rw [if_neg h44] at hres
          refine lv_aload_n hx hb d_M_compare_47 rfl (lv_at hl 1 rfl) ?_
          refine va_get (D := (dC, dI)) (ci := 2) (v := .ref afi) (C := R_M) (T := F_M) (N := 11) hx hb hts in_M hown hK hP 0 rfl rfl 9 (by decide) (hts _ tw_288) (fun _ h9 => h9) rfl d_M_compare_48 ?_
          refine lv_iload hx hb d_M_compare_51 (lv_at hl 0 rfl) ?_
          refine va_lald hx hb hK hP 5 0 rfl rfl (by exact (ld_step (N := 6) (by decide) hinv h26).2.1) d_M_compare_53 ?_
          refine lv_aload_n hx hb d_M_compare_54 rfl (lv_at hl 1 rfl) ?_
          refine va_get (D := (dC, dI)) (ci := 2) (v := .ref ase) (C := R_M) (T := F_M) (N := 11) hx hb hts in_M hown hK hP 0 rfl rfl 10 (by decide) (hts _ tw_289) (fun _ h9 => h9) rfl d_M_compare_55 ?_
          refine lv_iload hx hb d_M_compare_58 (lv_at hl 0 rfl) ?_
          refine va_lald hx hb hK hP 6 0 rfl rfl (by exact (ld_step (N := 6) (by decide) hinv h26).2.1) d_M_compare_60 ?_
          refine W.lcmp hx hb d_M_compare_61 ?_
          refine lv_if_ge (tgt := 69) hx hb d_M_compare_62 rfl (fun h62 => ?_) (fun h62 => ?_)
          · rw [if_pos h62] at hres
            refine lv_iconst (v := 1) hx hb d_M_compare_69 (by decide) ?_
            rw [hQ]
            subst hres
            exact W.iret (v := 1) hx hb hr (fun t ht hW => ⟨⟨_, (), rfl, rfl, ⟨by rw [ht]; exact hP, va_K.moved hW.alike hK, hD⟩⟩, hS.F ht⟩) hS.2.2 d_M_compare_70
          · rw [if_neg h62] at hres
            refine lv_iconst (v := (-1)) hx hb d_M_compare_65 (by decide) ?_
            refine lv_goto (tgt := 70) hx hb d_M_compare_66 rfl ?_
            rw [hQ]
            subst hres
            exact W.iret (v := (-1)) hx hb hr (fun t ht hW => ⟨⟨_, (), rfl, rfl, ⟨by rw [ht]; exact hP, va_K.moved hW.alike hK, hD⟩⟩, hS.F ht⟩) hS.2.2 d_M_compare_70
  exact L24 7 5 (by exact Or.inr ⟨5, by decide, rfl⟩) (by decide) hres ls _ _ (lv_sub hl [0, 1] rfl) hP hD hS
def km_thr_L26 (fi : Nat → Int64) (se : Nat → Int64) (a : Int64) (b : Int64) (c0 : Int64) : Nat → (Int32) → Int32 × (Nat → Int64) × (Nat → Int64)
  | 0, _ => (0, fun _ => 0, fun _ => 0)
  | n+1, k => (if 6 ≤ k then (1, (km_prod fi b b 1), (km_prod se a c0 4)) else (if (lg_cmp ((km_prod fi b b 1) (Int32.toNatClampNeg k)) ((km_prod se a c0 4) (Int32.toNatClampNeg k))) = 0 then ((km_thr_L26 fi se a b c0 n) (k + 1)) else (0, (km_prod fi b b 1), (km_prod se a c0 4))))
def km_thr (fi : Nat → Int64) (se : Nat → Int64) (a : Int64) (b : Int64) (c0 : Int64) : Int32 × (Nat → Int64) × (Nat → Int64) := (km_thr_L26 fi se a b c0 7 0)
set_option maxHeartbeats 4000000 in
set_option maxRecDepth 100000 in
theorem c_km_thr (l : Launch) (dC : Nat → ClassId) (dI : Nat → Nat → Nat) (h0 : Nat) (apx : Nat) (apy : Nat) (aon : Nat) (aen : Nat) (afi : Nat) (ase : Nat) (cJ : ClassId) (cZ : ClassId) (cI : ClassId) (wd : Int32) (cn : Int32) (pn : Int32) (tc : Int32) (tn : Int32) (px : Nat → Int64) (py : Nat → Int64) (on : Nat → Int32) (en : Nat → Int32) (fi : Nat → Int64) (se : Nat → Int64) (a : Int64) (b : Int64) (c0 : Int64)  : mc_i l y_M_through w_M_through { frames := 2, cells := 0, slots := 0, locals := 66 } (dC, dI) cls9 [(h0, .inr (2, [.int wd, .ref apx, .ref apy, .ref aon, .ref aen, .int cn, .int pn, .int tc, .int tn, .ref afi, .ref ase])), (apx, .inl (cJ, 256, .inr (.inl px))), (apy, .inl (cJ, 256, .inr (.inl py))), (aon, .inl (cZ, 256, .inl on)), (aen, .inl (cI, 256, .inl en)), (afi, .inl (cJ, 6, .inr (.inl fi))), (ase, .inl (cJ, 6, .inr (.inl se)))] [(h0, .inr (2, [.int wd, .ref apx, .ref apy, .ref aon, .ref aen, .int cn, .int pn, .int tc, .int tn, .ref afi, .ref ase])), (apx, .inl (cJ, 256, .inr (.inl px))), (apy, .inl (cJ, 256, .inr (.inl py))), (aon, .inl (cZ, 256, .inl on)), (aen, .inl (cI, 256, .inl en)), (afi, .inl (cJ, 6, .inr (.inl ((km_thr fi se a b c0).2.1)))), (ase, .inl (cJ, 6, .inr (.inl ((km_thr fi se a b c0).2.2))))] [(cJ, .long), (cZ, .boolean), (cI, .int)] [.ref h0, .long a, .long b, .long c0] ((km_thr fi se a b c0).1) := by
  intro sz
  refine Met.ofW (cc := b_M_through) (maxL := 8) (ret := (some .boolean)) (by decide) rfl ?_
  intro p e s m args below meth c s₁ B hml hv
  obtain ⟨hargs, hsz, hP, hK, hD0⟩ := hv
  have hx := B.exec
  have hb := B.bytes
  have hr := B.returns
  have hts : ∀ w ∈ lw_w, w.before args s = true := fun w h => atoms_spec (ws := w_M_through) B.pre w (List.mem_cons_of_mem _ h)
  have hown : s.vm.findClass R_M = some m.cls := findClass_of_methodNamed B.named
  have hlocks := B.notSynchronized
  subst hsz
  have hD := hD0.self (sz := s.heap.size)
  generalize hR : (headSpec w_M_through { frames := 2, cells := 0, slots := 0, locals := 66 }).room = R
  generalize hAe : va_A [(h0, .inr (2, [.int wd, .ref apx, .ref apy, .ref aon, .ref aen, .int cn, .int pn, .int tc, .int tn, .ref afi, .ref ase])), (apx, .inl (cJ, 256, .inr (.inl px))), (apy, .inl (cJ, 256, .inr (.inl py))), (aon, .inl (cZ, 256, .inl on)), (aen, .inl (cI, 256, .inl en)), (afi, .inl (cJ, 6, .inr (.inl fi))), (ase, .inl (cJ, 6, .inr (.inl se)))] s.heap.size = A at hD ⊢
  have hA : ∀ q : Nat, s.heap.size ≤ q → A q := fun q h => by rw [← hAe]; exact Or.inr h
  have hS : va_S A s.heap s.heap [] := va_S.rf
  generalize hRES : km_thr fi se a b c0 = RES
  have hres := hRES
  have hl := lv_entry [.ref h0, .long a, .long b, .long c0] (n := 8) (Nat.le_of_ble_eq_true rfl)
  have hent : entryFrame m args 8 = F0 m 0 (lg_sl [.ref h0, .long a, .long b, .long c0] ++ List.replicate (8 - (lg_sl [.ref h0, .long a, .long b, .long c0]).length) Slot.unset).toArray [] := by rw [hargs]; exact lg_entry_eq m [.ref h0, .long a, .long b, .long c0] 8
  rw [hent]
  clear hent
  generalize (lg_sl [.ref h0, .long a, .long b, .long c0] ++ List.replicate (8 - (lg_sl [.ref h0, .long a, .long b, .long c0]).length) Slot.unset).toArray = ls at hl ⊢
  have hl : lv_has ls 8 [(0, .ref h0), (1, .long a), (3, .long b), (5, .long c0)] := hl
  have hP : va_P (dC, dI) cls9 [(h0, .inr (2, [.int wd, .ref apx, .ref apy, .ref aon, .ref aen, .int cn, .int pn, .int tc, .int tn, .ref afi, .ref ase])), (apx, .inl (cJ, 256, .inr (.inl px))), (apy, .inl (cJ, 256, .inr (.inl py))), (aon, .inl (cZ, 256, .inl on)), (aen, .inl (cI, 256, .inl en)), (afi, .inl (cJ, 6, .inr (.inl fi))), (ase, .inl (cJ, 6, .inr (.inl se)))] s.heap := hP
  have hD : va_D A [(h0, .inr (2, [.int wd, .ref apx, .ref apy, .ref aon, .ref aen, .int cn, .int pn, .int tc, .int tn, .ref afi, .ref ase])), (apx, .inl (cJ, 256, .inr (.inl px))), (apy, .inl (cJ, 256, .inr (.inl py))), (aon, .inl (cZ, 256, .inl on)), (aen, .inl (cI, 256, .inl en)), (afi, .inl (cJ, 6, .inr (.inl fi))), (ase, .inl (cJ, 6, .inr (.inl se)))] := hD
  clear hD0 hRES hAe
  unfold km_thr at hres
  generalize hQ : MQ below (va_Qi (fun x (_ : Unit) => x = RES.1) (fun _ t => va_P (dC, dI) cls9 [(h0, .inr (2, [.int wd, .ref apx, .ref apy, .ref aon, .ref aen, .int cn, .int pn, .int tc, .int tn, .ref afi, .ref ase])), (apx, .inl (cJ, 256, .inr (.inl px))), (apy, .inl (cJ, 256, .inr (.inl py))), (aon, .inl (cZ, 256, .inl on)), (aen, .inl (cI, 256, .inl en)), (afi, .inl (cJ, 6, .inr (.inl RES.2.1))), (ase, .inl (cJ, 6, .inr (.inl RES.2.2)))] t.heap ∧ va_K (dC, dI) cls9 [(cJ, .long), (cZ, .boolean), (cI, .int)] t ∧ va_D A [(h0, .inr (2, [.int wd, .ref apx, .ref apy, .ref aon, .ref aen, .int cn, .int pn, .int tc, .int tn, .ref afi, .ref ase])), (apx, .inl (cJ, 256, .inr (.inl px))), (apy, .inl (cJ, 256, .inr (.inl py))), (aon, .inl (cZ, 256, .inl on)), (aen, .inl (cI, 256, .inl en)), (afi, .inl (cJ, 6, .inr (.inl RES.2.1))), (ase, .inl (cJ, 6, .inr (.inl RES.2.2)))]) A) args s 0 0 A = Q
  replace hQ := hQ.symm
  refine lv_aload_n hx hb d_M_through_0 rfl (lv_at hl 0 rfl) ?_
  refine va_get (D := (dC, dI)) (ci := 2) (v := .ref afi) (C := R_M) (T := F_M) (N := 11) hx hb hts in_M hown hK hP 0 rfl rfl 9 (by decide) (hts _ tw_288) (fun _ h9 => h9) rfl d_M_through_1 ?_
  refine lv_lload_n hx hb d_M_through_4 rfl (lv_at hl 2 rfl) ?_
  refine lv_lload_n hx hb d_M_through_5 rfl (lv_at hl 2 rfl) ?_
  refine lv_lconst (v := 1) hx hb d_M_through_6 (by decide) ?_
  refine cm_v (wc := [(afi, .inl (cJ, 6, .inr (.inl fi)))]) (wr := [(h0, .inr (2, [.int wd, .ref apx, .ref apy, .ref aon, .ref aen, .int cn, .int pn, .int tc, .int tn, .ref afi, .ref ase])), (apx, .inl (cJ, 256, .inr (.inl px))), (apy, .inl (cJ, 256, .inr (.inl py))), (aon, .inl (cZ, 256, .inl on)), (aen, .inl (cI, 256, .inl en)), (ase, .inl (cJ, 6, .inr (.inl se)))]) (W1 := [(afi, .inl (cJ, 6, .inr (.inl (km_prod fi b b 1))))]) (w2 := [(h0, .inr (2, [.int wd, .ref apx, .ref apy, .ref aon, .ref aen, .int cn, .int pn, .int tc, .int tn, .ref afi, .ref ase])), (apx, .inl (cJ, 256, .inr (.inl px))), (apy, .inl (cJ, 256, .inr (.inl py))), (aon, .inl (cZ, 256, .inl on)), (aen, .inl (cI, 256, .inl en)), (afi, .inl (cJ, 6, .inr (.inl (km_prod fi b b 1)))), (ase, .inl (cJ, 6, .inr (.inl se)))]) (va_runS (g := F0 m 7 ls [.long 1, .long b, .long b, .ref afi]) (As := [.ref afi, .long b, .long b, .long 1]) (rest := []) ⟨hx, hb, hml, hown, hts⟩ (c_km_prod l dC dI afi cJ fi b b 1  _) (va_cwS 4 hts (gi_S tw_368 tw_369 tw_6 tw_370) rfl rfl rfl (by decide +kernel) ⟨(by rw [← hR]; exact Nat.le_of_ble_eq_true rfl), (by rw [← hR]; exact Nat.le_of_ble_eq_true rfl)⟩) ⟨mc_blind, mc_pre (hP.sub [5] rfl) (hK.sub [0] rfl) (hD.sub [5] (by decide) rfl)⟩ rfl rfl hl.1 rfl (lv_room (Nat.le_of_ble_eq_true rfl)) d_M_through_7 ⟨Nat.zero_le _, Nat.zero_le _⟩) hP hD hS hA [5] [0, 1, 2, 3, 4, 6] [0, 1, 2, 3, 4, 6, 5] rfl rfl (by decide) (by decide) rfl rfl (by decide) (fun H locs hP hD hS => ?_)
  refine lv_aload_n hx hb d_M_through_10 rfl (lv_at hl 0 rfl) ?_
  refine va_get (D := (dC, dI)) (ci := 2) (v := .ref ase) (C := R_M) (T := F_M) (N := 11) hx hb hts in_M hown hK hP 0 rfl rfl 10 (by decide) (hts _ tw_289) (fun _ h9 => h9) rfl d_M_through_11 ?_
  refine lv_lload_n hx hb d_M_through_14 rfl (lv_at hl 1 rfl) ?_
  refine lv_lload hx hb d_M_through_15 (lv_at hl 3 rfl) ?_
  refine lv_ldc2 (v := 4) hx hb hown (hts _ tw_375) d_M_through_17 ?_
  refine cm_v (wc := [(ase, .inl (cJ, 6, .inr (.inl se)))]) (wr := [(h0, .inr (2, [.int wd, .ref apx, .ref apy, .ref aon, .ref aen, .int cn, .int pn, .int tc, .int tn, .ref afi, .ref ase])), (apx, .inl (cJ, 256, .inr (.inl px))), (apy, .inl (cJ, 256, .inr (.inl py))), (aon, .inl (cZ, 256, .inl on)), (aen, .inl (cI, 256, .inl en)), (afi, .inl (cJ, 6, .inr (.inl (km_prod fi b b 1))))]) (W1 := [(ase, .inl (cJ, 6, .inr (.inl (km_prod se a c0 4))))]) (w2 := [(h0, .inr (2, [.int wd, .ref apx, .ref apy, .ref aon, .ref aen, .int cn, .int pn, .int tc, .int tn, .ref afi, .ref ase])), (apx, .inl (cJ, 256, .inr (.inl px))), (apy, .inl (cJ, 256, .inr (.inl py))), (aon, .inl (cZ, 256, .inl on)), (aen, .inl (cI, 256, .inl en)), (afi, .inl (cJ, 6, .inr (.inl (km_prod fi b b 1)))), (ase, .inl (cJ, 6, .inr (.inl (km_prod se a c0 4))))]) (va_runS (g := F0 m 20 ls [.long 4, .long c0, .long a, .ref ase]) (As := [.ref ase, .long a, .long c0, .long 4]) (rest := []) ⟨hx, hb, hml, hown, hts⟩ (c_km_prod l dC dI ase cJ se a c0 4  _) (va_cwS 4 hts (gi_S tw_368 tw_369 tw_6 tw_370) rfl rfl rfl (by decide +kernel) ⟨(by rw [← hR]; exact Nat.le_of_ble_eq_true rfl), (by rw [← hR]; exact Nat.le_of_ble_eq_true rfl)⟩) ⟨mc_blind, mc_pre (hP.sub [6] rfl) (hK.sub [0] rfl) (hD.sub [6] (by decide) rfl)⟩ rfl rfl hl.1 rfl (lv_room (Nat.le_of_ble_eq_true rfl)) d_M_through_20 ⟨Nat.zero_le _, Nat.zero_le _⟩) hP hD hS hA [6] [0, 1, 2, 3, 4, 5] [0, 1, 2, 3, 4, 5, 6] rfl rfl (by decide) (by decide) rfl rfl (by decide) (fun H locs hP hD hS => ?_)
  refine lv_iconst (v := 0) hx hb d_M_through_23 (by decide) ?_
  refine lv_istore (lv' := [(7, .int 0), (0, .ref h0), (1, .long a), (3, .long b), (5, .long c0)]) hx hb d_M_through_24 hl (by decide) rfl (fun ls hl => ?_)
  have L26 : ∀ (n : Nat) (k : Int32), (lu 6 k) → 6 - k.toNatClampNeg < n → km_thr_L26 fi se a b c0 n k = RES → ∀ (ls : Array Slot) (H : Heap) (locs : List Loc), lv_has ls 8 [(7, .int k), (0, .ref h0)] → va_P (dC, dI) cls9 [(h0, .inr (2, [.int wd, .ref apx, .ref apy, .ref aon, .ref aen, .int cn, .int pn, .int tc, .int tn, .ref afi, .ref ase])), (apx, .inl (cJ, 256, .inr (.inl px))), (apy, .inl (cJ, 256, .inr (.inl py))), (aon, .inl (cZ, 256, .inl on)), (aen, .inl (cI, 256, .inl en)), (afi, .inl (cJ, 6, .inr (.inl (km_prod fi b b 1)))), (ase, .inl (cJ, 6, .inr (.inl (km_prod se a c0 4))))] H → va_D A [(h0, .inr (2, [.int wd, .ref apx, .ref apy, .ref aon, .ref aen, .int cn, .int pn, .int tc, .int tn, .ref afi, .ref ase])), (apx, .inl (cJ, 256, .inr (.inl px))), (apy, .inl (cJ, 256, .inr (.inl py))), (aon, .inl (cZ, 256, .inl on)), (aen, .inl (cI, 256, .inl en)), (afi, .inl (cJ, 6, .inr (.inl (km_prod fi b b 1)))), (ase, .inl (cJ, 6, .inr (.inl (km_prod se a c0 4))))] → va_S A s.heap H locs → W p l e R s m args below meth c H locs 0 0 Q (F0 m 26 ls []) := by
    intro n
    induction n with
    | zero => intro k hinv hmu; exact absurd hmu (Nat.not_lt_zero _)
    | succ n ih =>
      intro k hinv hmu hres ls H locs hl hP hD hS
      rw [km_thr_L26] at hres
      refine lv_iload hx hb d_M_through_26 (lv_at hl 0 rfl) ?_
      refine lv_bipush (v := 6) hx hb d_M_through_28 (by decide) ?_
      refine lv_icmp_ge (tgt := 59) hx hb d_M_through_30 rfl (fun h30 => ?_) (fun h30 => ?_)
      · rw [if_pos h30] at hres
        refine lv_iconst (v := 1) hx hb d_M_through_59 (by decide) ?_
        rw [hQ]
        subst hres
        exact W.zret (v := 1) hx hb hr (by first | rfl | decide) (fun t ht hW => ⟨⟨_, (), rfl, rfl, ⟨by rw [ht]; exact hP, va_K.moved hW.alike hK, hD⟩⟩, hS.F ht⟩) hS.2.2 d_M_through_60
      · rw [if_neg h30] at hres
        refine lv_aload_n hx hb d_M_through_33 rfl (lv_at hl 1 rfl) ?_
        refine va_get (D := (dC, dI)) (ci := 2) (v := .ref afi) (C := R_M) (T := F_M) (N := 11) hx hb hts in_M hown hK hP 0 rfl rfl 9 (by decide) (hts _ tw_288) (fun _ h9 => h9) rfl d_M_through_34 ?_
        refine lv_iload hx hb d_M_through_37 (lv_at hl 0 rfl) ?_
        refine va_lald hx hb hK hP 5 0 rfl rfl (by exact (lu_step (N := 6) (by decide) hinv h30).2.1) d_M_through_39 ?_
        refine lv_aload_n hx hb d_M_through_40 rfl (lv_at hl 1 rfl) ?_
        refine va_get (D := (dC, dI)) (ci := 2) (v := .ref ase) (C := R_M) (T := F_M) (N := 11) hx hb hts in_M hown hK hP 0 rfl rfl 10 (by decide) (hts _ tw_289) (fun _ h9 => h9) rfl d_M_through_41 ?_
        refine lv_iload hx hb d_M_through_44 (lv_at hl 0 rfl) ?_
        refine va_lald hx hb hK hP 6 0 rfl rfl (by exact (lu_step (N := 6) (by decide) hinv h30).2.1) d_M_through_46 ?_
        refine W.lcmp hx hb d_M_through_47 ?_
        refine lv_if_eq (tgt := 53) hx hb d_M_through_48 rfl (fun h48 => ?_) (fun h48 => ?_)
        · rw [if_pos h48] at hres
          refine lv_iinc (k := 0) (v := k + 1) (lv' := [(7, .int (k + 1)), (0, .ref h0)]) hx hb d_M_through_53 hl rfl rfl (by decide) rfl (fun ls hl => ?_)
          refine lv_goto (tgt := 26) hx hb d_M_through_56 rfl ?_
          exact ih (k + 1) (by exact (lu_step (N := 6) (by decide) hinv h30).1) (by have h9 := (lu_step (N := 6) (by decide) hinv h30).2.2; omega) hres ls _ _ (lv_sub hl [0, 1] rfl) hP hD hS
        · rw [if_neg h48] at hres
          refine lv_iconst (v := 0) hx hb d_M_through_51 (by decide) ?_
          rw [hQ]
          subst hres
          exact W.zret (v := 0) hx hb hr (by first | rfl | decide) (fun t ht hW => ⟨⟨_, (), rfl, rfl, ⟨by rw [ht]; exact hP, va_K.moved hW.alike hK, hD⟩⟩, hS.F ht⟩) hS.2.2 d_M_through_52
  exact L26 7 0 (by exact lu_0 _) (by decide) hres ls _ _ (lv_sub hl [0, 1] rfl) hP hD hS
def km_so_k76 (a : Int64) (t21_0 : Int32) (x73 : Int32 × (Nat → Int64) × (Nat → Int64)) : Int32 × (Nat → Int64) × (Nat → Int64) := (if x73.1 = 0 then (0, x73.2.1, x73.2.2) else (if x73.1 ≤ 0 then (t21_0, x73.2.1, x73.2.2) else (km_sign a, x73.2.1, x73.2.2)))
def km_so_j71 (fi : Nat → Int64) (se : Nat → Int64) (a : Int64) (c0 : Int64) (t21_0 : Int32) (t59_0 : Int64) (t71_0 : Int64) : Int32 × (Nat → Int64) × (Nat → Int64) := (km_so_k76 a t21_0 (km_cmp fi se t59_0 t71_0 c0))
def km_so_j59 (fi : Nat → Int64) (se : Nat → Int64) (a : Int64) (b : Int64) (c0 : Int64) (t21_0 : Int32) (t59_0 : Int64) : Int32 × (Nat → Int64) × (Nat → Int64) := (if 0 ≤ (lg_cmp b 0) then (km_so_j71 fi se a c0 t21_0 t59_0 b) else (km_so_j71 fi se a c0 t21_0 t59_0 (-b)))
def km_so_j21 (fi : Nat → Int64) (se : Nat → Int64) (a : Int64) (b : Int64) (c0 : Int64) (t21_0 : Int32) : Int32 × (Nat → Int64) × (Nat → Int64) := (if (km_sign a) = t21_0 then (km_sign a, fi, se) else (if t21_0 = 0 then (km_sign a, fi, se) else (if (km_sign a) = 0 then (t21_0, fi, se) else (if 0 ≤ (lg_cmp a 0) then (km_so_j59 fi se a b c0 t21_0 a) else (km_so_j59 fi se a b c0 t21_0 (-a))))))
def km_so (fi : Nat → Int64) (se : Nat → Int64) (a : Int64) (b : Int64) (c0 : Int64) : Int32 × (Nat → Int64) × (Nat → Int64) := (if (lg_cmp c0 0) = 0 then (km_so_j21 fi se a b c0 0) else (km_so_j21 fi se a b c0 (km_sign b)))
set_option maxHeartbeats 4000000 in
set_option maxRecDepth 100000 in
theorem c_km_so (l : Launch) (dC : Nat → ClassId) (dI : Nat → Nat → Nat) (h0 : Nat) (apx : Nat) (apy : Nat) (aon : Nat) (aen : Nat) (afi : Nat) (ase : Nat) (cJ : ClassId) (cZ : ClassId) (cI : ClassId) (wd : Int32) (cn : Int32) (pn : Int32) (tc : Int32) (tn : Int32) (px : Nat → Int64) (py : Nat → Int64) (on : Nat → Int32) (en : Nat → Int32) (fi : Nat → Int64) (se : Nat → Int64) (a : Int64) (b : Int64) (c0 : Int64)  : mc_i l y_M_signOf w_M_signOf { frames := 3, cells := 0, slots := 0, locals := 93 } (dC, dI) cls9 [(h0, .inr (2, [.int wd, .ref apx, .ref apy, .ref aon, .ref aen, .int cn, .int pn, .int tc, .int tn, .ref afi, .ref ase])), (apx, .inl (cJ, 256, .inr (.inl px))), (apy, .inl (cJ, 256, .inr (.inl py))), (aon, .inl (cZ, 256, .inl on)), (aen, .inl (cI, 256, .inl en)), (afi, .inl (cJ, 6, .inr (.inl fi))), (ase, .inl (cJ, 6, .inr (.inl se)))] [(h0, .inr (2, [.int wd, .ref apx, .ref apy, .ref aon, .ref aen, .int cn, .int pn, .int tc, .int tn, .ref afi, .ref ase])), (apx, .inl (cJ, 256, .inr (.inl px))), (apy, .inl (cJ, 256, .inr (.inl py))), (aon, .inl (cZ, 256, .inl on)), (aen, .inl (cI, 256, .inl en)), (afi, .inl (cJ, 6, .inr (.inl ((km_so fi se a b c0).2.1)))), (ase, .inl (cJ, 6, .inr (.inl ((km_so fi se a b c0).2.2))))] [(cJ, .long), (cZ, .boolean), (cI, .int)] [.ref h0, .long a, .long b, .long c0] ((km_so fi se a b c0).1) := by
  intro sz
  refine Met.ofW (cc := b_M_signOf) (maxL := 10) (ret := (some .int)) (by decide) rfl ?_
  intro p e s m args below meth c s₁ B hml hv
  obtain ⟨hargs, hsz, hP, hK, hD0⟩ := hv
  have hx := B.exec
  have hb := B.bytes
  have hr := B.returns
  have hts : ∀ w ∈ lw_w, w.before args s = true := fun w h => atoms_spec (ws := w_M_signOf) B.pre w (List.mem_cons_of_mem _ h)
  have hown : s.vm.findClass R_M = some m.cls := findClass_of_methodNamed B.named
  have hlocks := B.notSynchronized
  subst hsz
  have hD := hD0.self (sz := s.heap.size)
  generalize hR : (headSpec w_M_signOf { frames := 3, cells := 0, slots := 0, locals := 93 }).room = R
  generalize hAe : va_A [(h0, .inr (2, [.int wd, .ref apx, .ref apy, .ref aon, .ref aen, .int cn, .int pn, .int tc, .int tn, .ref afi, .ref ase])), (apx, .inl (cJ, 256, .inr (.inl px))), (apy, .inl (cJ, 256, .inr (.inl py))), (aon, .inl (cZ, 256, .inl on)), (aen, .inl (cI, 256, .inl en)), (afi, .inl (cJ, 6, .inr (.inl fi))), (ase, .inl (cJ, 6, .inr (.inl se)))] s.heap.size = A at hD ⊢
  have hA : ∀ q : Nat, s.heap.size ≤ q → A q := fun q h => by rw [← hAe]; exact Or.inr h
  have hS : va_S A s.heap s.heap [] := va_S.rf
  generalize hRES : km_so fi se a b c0 = RES
  have hres := hRES
  have hl := lv_entry [.ref h0, .long a, .long b, .long c0] (n := 10) (Nat.le_of_ble_eq_true rfl)
  have hent : entryFrame m args 10 = F0 m 0 (lg_sl [.ref h0, .long a, .long b, .long c0] ++ List.replicate (10 - (lg_sl [.ref h0, .long a, .long b, .long c0]).length) Slot.unset).toArray [] := by rw [hargs]; exact lg_entry_eq m [.ref h0, .long a, .long b, .long c0] 10
  rw [hent]
  clear hent
  generalize (lg_sl [.ref h0, .long a, .long b, .long c0] ++ List.replicate (10 - (lg_sl [.ref h0, .long a, .long b, .long c0]).length) Slot.unset).toArray = ls at hl ⊢
  have hl : lv_has ls 10 [(0, .ref h0), (1, .long a), (3, .long b), (5, .long c0)] := hl
  have hP : va_P (dC, dI) cls9 [(h0, .inr (2, [.int wd, .ref apx, .ref apy, .ref aon, .ref aen, .int cn, .int pn, .int tc, .int tn, .ref afi, .ref ase])), (apx, .inl (cJ, 256, .inr (.inl px))), (apy, .inl (cJ, 256, .inr (.inl py))), (aon, .inl (cZ, 256, .inl on)), (aen, .inl (cI, 256, .inl en)), (afi, .inl (cJ, 6, .inr (.inl fi))), (ase, .inl (cJ, 6, .inr (.inl se)))] s.heap := hP
  have hD : va_D A [(h0, .inr (2, [.int wd, .ref apx, .ref apy, .ref aon, .ref aen, .int cn, .int pn, .int tc, .int tn, .ref afi, .ref ase])), (apx, .inl (cJ, 256, .inr (.inl px))), (apy, .inl (cJ, 256, .inr (.inl py))), (aon, .inl (cZ, 256, .inl on)), (aen, .inl (cI, 256, .inl en)), (afi, .inl (cJ, 6, .inr (.inl fi))), (ase, .inl (cJ, 6, .inr (.inl se)))] := hD
  clear hD0 hRES hAe
  unfold km_so at hres
  generalize hQ : MQ below (va_Qi (fun x (_ : Unit) => x = RES.1) (fun _ t => va_P (dC, dI) cls9 [(h0, .inr (2, [.int wd, .ref apx, .ref apy, .ref aon, .ref aen, .int cn, .int pn, .int tc, .int tn, .ref afi, .ref ase])), (apx, .inl (cJ, 256, .inr (.inl px))), (apy, .inl (cJ, 256, .inr (.inl py))), (aon, .inl (cZ, 256, .inl on)), (aen, .inl (cI, 256, .inl en)), (afi, .inl (cJ, 6, .inr (.inl RES.2.1))), (ase, .inl (cJ, 6, .inr (.inl RES.2.2)))] t.heap ∧ va_K (dC, dI) cls9 [(cJ, .long), (cZ, .boolean), (cI, .int)] t ∧ va_D A [(h0, .inr (2, [.int wd, .ref apx, .ref apy, .ref aon, .ref aen, .int cn, .int pn, .int tc, .int tn, .ref afi, .ref ase])), (apx, .inl (cJ, 256, .inr (.inl px))), (apy, .inl (cJ, 256, .inr (.inl py))), (aon, .inl (cZ, 256, .inl on)), (aen, .inl (cI, 256, .inl en)), (afi, .inl (cJ, 6, .inr (.inl RES.2.1))), (ase, .inl (cJ, 6, .inr (.inl RES.2.2)))]) A) args s 0 0 A = Q
  replace hQ := hQ.symm
  refine lv_lload_n hx hb d_M_signOf_0 rfl (lv_at hl 1 rfl) ?_
  refine cq_Si (As := [.long a]) (rest := []) ⟨hx, hb, hml, hown, hts⟩ (c_km_sign l dC dI a) (va_cwS 1 hts (gi_S tw_350 tw_351 tw_6 tw_352) rfl rfl rfl (by decide +kernel) ⟨(by rw [← hR]; exact Nat.le_of_ble_eq_true rfl), (by rw [← hR]; exact Nat.le_of_ble_eq_true rfl)⟩) rfl rfl hl.1 (Nat.le_of_ble_eq_true rfl) d_M_signOf_1 ⟨Nat.zero_le _, Nat.zero_le _⟩ hP hS hA (fun H locs hP hS => ?_)
  refine lv_istore (lv' := [(7, .int (km_sign a)), (0, .ref h0), (1, .long a), (3, .long b), (5, .long c0)]) hx hb d_M_signOf_4 hl (by decide) rfl (fun ls hl => ?_)
  refine lv_lload hx hb d_M_signOf_6 (lv_at hl 4 rfl) ?_
  refine lv_lconst (v := 0) hx hb d_M_signOf_8 (by decide) ?_
  refine W.lcmp hx hb d_M_signOf_9 ?_
  have J21 : ∀ (t21_0 : Int32), km_so_j21 fi se a b c0 t21_0 = RES → ∀ (ls : Array Slot) (H : Heap) (locs : List Loc), lv_has ls 10 [(7, .int (km_sign a)), (0, .ref h0), (1, .long a), (3, .long b), (5, .long c0)] → va_P (dC, dI) cls9 [(h0, .inr (2, [.int wd, .ref apx, .ref apy, .ref aon, .ref aen, .int cn, .int pn, .int tc, .int tn, .ref afi, .ref ase])), (apx, .inl (cJ, 256, .inr (.inl px))), (apy, .inl (cJ, 256, .inr (.inl py))), (aon, .inl (cZ, 256, .inl on)), (aen, .inl (cI, 256, .inl en)), (afi, .inl (cJ, 6, .inr (.inl fi))), (ase, .inl (cJ, 6, .inr (.inl se)))] H → va_D A [(h0, .inr (2, [.int wd, .ref apx, .ref apy, .ref aon, .ref aen, .int cn, .int pn, .int tc, .int tn, .ref afi, .ref ase])), (apx, .inl (cJ, 256, .inr (.inl px))), (apy, .inl (cJ, 256, .inr (.inl py))), (aon, .inl (cZ, 256, .inl on)), (aen, .inl (cI, 256, .inl en)), (afi, .inl (cJ, 6, .inr (.inl fi))), (ase, .inl (cJ, 6, .inr (.inl se)))] → va_S A s.heap H locs → W p l e R s m args below meth c H locs 0 0 Q (F0 m 21 ls [.int t21_0]) := by
    intro t21_0 hres ls H locs hl hP hD hS
    unfold km_so_j21 at hres
    refine lv_istore (lv' := [(8, .int t21_0), (7, .int (km_sign a)), (0, .ref h0), (1, .long a), (3, .long b), (5, .long c0)]) hx hb d_M_signOf_21 hl (by decide) rfl (fun ls hl => ?_)
    refine lv_iload hx hb d_M_signOf_23 (lv_at hl 1 rfl) ?_
    refine lv_iload hx hb d_M_signOf_25 (lv_at hl 0 rfl) ?_
    refine lv_icmp_eq (tgt := 35) hx hb d_M_signOf_27 rfl (fun h27 => ?_) (fun h27 => ?_)
    · rw [if_pos h27] at hres
      refine lv_iload hx hb d_M_signOf_35 (lv_at hl 1 rfl) ?_
      rw [hQ]
      subst hres
      exact W.iret (v := km_sign a) hx hb hr (fun t ht hW => ⟨⟨_, (), rfl, rfl, ⟨by rw [ht]; exact hP, va_K.moved hW.alike hK, hD⟩⟩, hS.F ht⟩) hS.2.2 d_M_signOf_37
    · rw [if_neg h27] at hres
      refine lv_iload hx hb d_M_signOf_30 (lv_at hl 0 rfl) ?_
      refine lv_if_ne (tgt := 38) hx hb d_M_signOf_32 rfl (fun h32 => ?_) (fun h32 => ?_)
      · rw [if_neg h32] at hres
        refine lv_iload hx hb d_M_signOf_38 (lv_at hl 1 rfl) ?_
        refine lv_if_ne (tgt := 46) hx hb d_M_signOf_40 rfl (fun h40 => ?_) (fun h40 => ?_)
        · rw [if_neg h40] at hres
          refine lv_aload_n hx hb d_M_signOf_46 rfl (lv_at hl 2 rfl) ?_
          refine lv_lload_n hx hb d_M_signOf_47 rfl (lv_at hl 3 rfl) ?_
          refine lv_lconst (v := 0) hx hb d_M_signOf_48 (by decide) ?_
          refine W.lcmp hx hb d_M_signOf_49 ?_
          have J59 : ∀ (t59_0 : Int64), km_so_j59 fi se a b c0 t21_0 t59_0 = RES → ∀ (ls : Array Slot) (H : Heap) (locs : List Loc), lv_has ls 10 [(8, .int t21_0), (7, .int (km_sign a)), (3, .long b), (5, .long c0)] → va_P (dC, dI) cls9 [(h0, .inr (2, [.int wd, .ref apx, .ref apy, .ref aon, .ref aen, .int cn, .int pn, .int tc, .int tn, .ref afi, .ref ase])), (apx, .inl (cJ, 256, .inr (.inl px))), (apy, .inl (cJ, 256, .inr (.inl py))), (aon, .inl (cZ, 256, .inl on)), (aen, .inl (cI, 256, .inl en)), (afi, .inl (cJ, 6, .inr (.inl fi))), (ase, .inl (cJ, 6, .inr (.inl se)))] H → va_D A [(h0, .inr (2, [.int wd, .ref apx, .ref apy, .ref aon, .ref aen, .int cn, .int pn, .int tc, .int tn, .ref afi, .ref ase])), (apx, .inl (cJ, 256, .inr (.inl px))), (apy, .inl (cJ, 256, .inr (.inl py))), (aon, .inl (cZ, 256, .inl on)), (aen, .inl (cI, 256, .inl en)), (afi, .inl (cJ, 6, .inr (.inl fi))), (ase, .inl (cJ, 6, .inr (.inl se)))] → va_S A s.heap H locs → W p l e R s m args below meth c H locs 0 0 Q (F0 m 59 ls [.long t59_0, .ref h0]) := by
            intro t59_0 hres ls H locs hl hP hD hS
            unfold km_so_j59 at hres
            refine lv_lload_n hx hb d_M_signOf_59 rfl (lv_at hl 2 rfl) ?_
            refine lv_lconst (v := 0) hx hb d_M_signOf_60 (by decide) ?_
            refine W.lcmp hx hb d_M_signOf_61 ?_
            have J71 : ∀ (t71_0 : Int64), km_so_j71 fi se a c0 t21_0 t59_0 t71_0 = RES → ∀ (ls : Array Slot) (H : Heap) (locs : List Loc), lv_has ls 10 [(8, .int t21_0), (7, .int (km_sign a)), (5, .long c0)] → va_P (dC, dI) cls9 [(h0, .inr (2, [.int wd, .ref apx, .ref apy, .ref aon, .ref aen, .int cn, .int pn, .int tc, .int tn, .ref afi, .ref ase])), (apx, .inl (cJ, 256, .inr (.inl px))), (apy, .inl (cJ, 256, .inr (.inl py))), (aon, .inl (cZ, 256, .inl on)), (aen, .inl (cI, 256, .inl en)), (afi, .inl (cJ, 6, .inr (.inl fi))), (ase, .inl (cJ, 6, .inr (.inl se)))] H → va_D A [(h0, .inr (2, [.int wd, .ref apx, .ref apy, .ref aon, .ref aen, .int cn, .int pn, .int tc, .int tn, .ref afi, .ref ase])), (apx, .inl (cJ, 256, .inr (.inl px))), (apy, .inl (cJ, 256, .inr (.inl py))), (aon, .inl (cZ, 256, .inl on)), (aen, .inl (cI, 256, .inl en)), (afi, .inl (cJ, 6, .inr (.inl fi))), (ase, .inl (cJ, 6, .inr (.inl se)))] → va_S A s.heap H locs → W p l e R s m args below meth c H locs 0 0 Q (F0 m 71 ls [.long t71_0, .long t59_0, .ref h0]) := by
              intro t71_0 hres ls H locs hl hP hD hS
              unfold km_so_j71 at hres
              refine lv_lload hx hb d_M_signOf_71 (lv_at hl 2 rfl) ?_
              refine cm_i (wc := [(h0, .inr (2, [.int wd, .ref apx, .ref apy, .ref aon, .ref aen, .int cn, .int pn, .int tc, .int tn, .ref afi, .ref ase])), (apx, .inl (cJ, 256, .inr (.inl px))), (apy, .inl (cJ, 256, .inr (.inl py))), (aon, .inl (cZ, 256, .inl on)), (aen, .inl (cI, 256, .inl en)), (afi, .inl (cJ, 6, .inr (.inl fi))), (ase, .inl (cJ, 6, .inr (.inl se)))]) (wr := []) (W1 := [(h0, .inr (2, [.int wd, .ref apx, .ref apy, .ref aon, .ref aen, .int cn, .int pn, .int tc, .int tn, .ref afi, .ref ase])), (apx, .inl (cJ, 256, .inr (.inl px))), (apy, .inl (cJ, 256, .inr (.inl py))), (aon, .inl (cZ, 256, .inl on)), (aen, .inl (cI, 256, .inl en)), (afi, .inl (cJ, 6, .inr (.inl ((km_cmp fi se t59_0 t71_0 c0).2.1)))), (ase, .inl (cJ, 6, .inr (.inl ((km_cmp fi se t59_0 t71_0 c0).2.2))))]) (w2 := [(h0, .inr (2, [.int wd, .ref apx, .ref apy, .ref aon, .ref aen, .int cn, .int pn, .int tc, .int tn, .ref afi, .ref ase])), (apx, .inl (cJ, 256, .inr (.inl px))), (apy, .inl (cJ, 256, .inr (.inl py))), (aon, .inl (cZ, 256, .inl on)), (aen, .inl (cI, 256, .inl en)), (afi, .inl (cJ, 6, .inr (.inl ((km_cmp fi se t59_0 t71_0 c0).2.1)))), (ase, .inl (cJ, 6, .inr (.inl ((km_cmp fi se t59_0 t71_0 c0).2.2))))]) (va_runV (g := F0 m 73 ls [.long c0, .long t71_0, .long t59_0, .ref h0]) (As := [.long t59_0, .long t71_0, .long c0]) (rest := []) ⟨hx, hb, hml, hown, hts⟩ (c_km_cmp l dC dI h0 apx apy aon aen afi ase cJ cZ cI wd cn pn tc tn px py on en fi se t59_0 t71_0 c0  _) (cwV 3 hts (gi_V tw_384 tw_386 ts_18 tw_6 tw_387) rfl rfl rfl (by decide +kernel) ⟨(by rw [← hR]; exact Nat.le_of_ble_eq_true rfl), (by rw [← hR]; exact Nat.le_of_ble_eq_true rfl)⟩) ⟨mc_blind, va_recv (ci := 2) (q := (R_M, F_M, 11)) hK hP rfl (q0 := 0) rfl, mc_pre (hP.sub [0, 1, 2, 3, 4, 5, 6] rfl) (hK.sub [0, 1, 2] rfl) (hD.sub [0, 1, 2, 3, 4, 5, 6] (by decide) rfl)⟩ rfl rfl hl.1 rfl (lv_room (Nat.le_of_ble_eq_true rfl)) d_M_signOf_73 ⟨Nat.zero_le _, Nat.zero_le _⟩) hP hD hS hA [0, 1, 2, 3, 4, 5, 6] [] [0, 1, 2, 3, 4, 5, 6] rfl rfl (by decide) (by decide) rfl rfl (by decide) (fun H locs hP hD hS => ?_)
              have K76 : ∀ (x73 : Int32 × (Nat → Int64) × (Nat → Int64)), km_so_k76 a t21_0 x73 = RES → ∀ (ls : Array Slot) (H : Heap) (locs : List Loc), lv_has ls 10 [(8, .int t21_0), (7, .int (km_sign a)), (5, .long c0)] → va_P (dC, dI) cls9 [(h0, .inr (2, [.int wd, .ref apx, .ref apy, .ref aon, .ref aen, .int cn, .int pn, .int tc, .int tn, .ref afi, .ref ase])), (apx, .inl (cJ, 256, .inr (.inl px))), (apy, .inl (cJ, 256, .inr (.inl py))), (aon, .inl (cZ, 256, .inl on)), (aen, .inl (cI, 256, .inl en)), (afi, .inl (cJ, 6, .inr (.inl x73.2.1))), (ase, .inl (cJ, 6, .inr (.inl x73.2.2)))] H → va_D A [(h0, .inr (2, [.int wd, .ref apx, .ref apy, .ref aon, .ref aen, .int cn, .int pn, .int tc, .int tn, .ref afi, .ref ase])), (apx, .inl (cJ, 256, .inr (.inl px))), (apy, .inl (cJ, 256, .inr (.inl py))), (aon, .inl (cZ, 256, .inl on)), (aen, .inl (cI, 256, .inl en)), (afi, .inl (cJ, 6, .inr (.inl x73.2.1))), (ase, .inl (cJ, 6, .inr (.inl x73.2.2)))] → va_S A s.heap H locs → W p l e R s m args below meth c H locs 0 0 Q (F0 m 76 ls [.int x73.1]) := by
                intro x73 hres ls H locs hl hP hD hS
                unfold km_so_k76 at hres
                refine lv_istore (lv' := [(9, .int x73.1), (8, .int t21_0), (7, .int (km_sign a)), (5, .long c0)]) hx hb d_M_signOf_76 hl (by decide) rfl (fun ls hl => ?_)
                refine lv_iload hx hb d_M_signOf_78 (lv_at hl 0 rfl) ?_
                refine lv_if_ne (tgt := 87) hx hb d_M_signOf_80 rfl (fun h80 => ?_) (fun h80 => ?_)
                · rw [if_neg h80] at hres
                  refine lv_iload hx hb d_M_signOf_87 (lv_at hl 0 rfl) ?_
                  refine lv_if_le (tgt := 97) hx hb d_M_signOf_89 rfl (fun h89 => ?_) (fun h89 => ?_)
                  · rw [if_pos h89] at hres
                    refine lv_iload hx hb d_M_signOf_97 (lv_at hl 1 rfl) ?_
                    rw [hQ]
                    subst hres
                    exact W.iret (v := t21_0) hx hb hr (fun t ht hW => ⟨⟨_, (), rfl, rfl, ⟨by rw [ht]; exact hP, va_K.moved hW.alike hK, hD⟩⟩, hS.F ht⟩) hS.2.2 d_M_signOf_99
                  · rw [if_neg h89] at hres
                    refine lv_iload hx hb d_M_signOf_92 (lv_at hl 2 rfl) ?_
                    refine lv_goto (tgt := 99) hx hb d_M_signOf_94 rfl ?_
                    rw [hQ]
                    subst hres
                    exact W.iret (v := km_sign a) hx hb hr (fun t ht hW => ⟨⟨_, (), rfl, rfl, ⟨by rw [ht]; exact hP, va_K.moved hW.alike hK, hD⟩⟩, hS.F ht⟩) hS.2.2 d_M_signOf_99
                · rw [if_pos h80] at hres
                  refine lv_iconst (v := 0) hx hb d_M_signOf_83 (by decide) ?_
                  refine lv_goto (tgt := 99) hx hb d_M_signOf_84 rfl ?_
                  rw [hQ]
                  subst hres
                  exact W.iret (v := 0) hx hb hr (fun t ht hW => ⟨⟨_, (), rfl, rfl, ⟨by rw [ht]; exact hP, va_K.moved hW.alike hK, hD⟩⟩, hS.F ht⟩) hS.2.2 d_M_signOf_99
              exact K76 (km_cmp fi se t59_0 t71_0 c0) hres ls _ _ (lv_sub hl [0, 1, 2] rfl) hP hD hS
            refine lv_if_ge (tgt := 70) hx hb d_M_signOf_62 rfl (fun h62 => ?_) (fun h62 => ?_)
            · rw [if_pos h62] at hres
              refine lv_lload_n hx hb d_M_signOf_70 rfl (lv_at hl 2 rfl) ?_
              exact J71 b hres ls _ _ (lv_sub hl [0, 1, 3] rfl) hP hD hS
            · rw [if_neg h62] at hres
              refine lv_lload_n hx hb d_M_signOf_65 rfl (lv_at hl 2 rfl) ?_
              refine lv_lneg hx hb d_M_signOf_66 ?_
              refine lv_goto (tgt := 71) hx hb d_M_signOf_67 rfl ?_
              exact J71 (-b) hres ls _ _ (lv_sub hl [0, 1, 3] rfl) hP hD hS
          refine lv_if_ge (tgt := 58) hx hb d_M_signOf_50 rfl (fun h50 => ?_) (fun h50 => ?_)
          · rw [if_pos h50] at hres
            refine lv_lload_n hx hb d_M_signOf_58 rfl (lv_at hl 3 rfl) ?_
            exact J59 a hres ls _ _ (lv_sub hl [0, 1, 4, 5] rfl) hP hD hS
          · rw [if_neg h50] at hres
            refine lv_lload_n hx hb d_M_signOf_53 rfl (lv_at hl 3 rfl) ?_
            refine lv_lneg hx hb d_M_signOf_54 ?_
            refine lv_goto (tgt := 59) hx hb d_M_signOf_55 rfl ?_
            exact J59 (-a) hres ls _ _ (lv_sub hl [0, 1, 4, 5] rfl) hP hD hS
        · rw [if_pos h40] at hres
          refine lv_iload hx hb d_M_signOf_43 (lv_at hl 0 rfl) ?_
          rw [hQ]
          subst hres
          exact W.iret (v := t21_0) hx hb hr (fun t ht hW => ⟨⟨_, (), rfl, rfl, ⟨by rw [ht]; exact hP, va_K.moved hW.alike hK, hD⟩⟩, hS.F ht⟩) hS.2.2 d_M_signOf_45
      · rw [if_pos h32] at hres
        refine lv_iload hx hb d_M_signOf_35 (lv_at hl 1 rfl) ?_
        rw [hQ]
        subst hres
        exact W.iret (v := km_sign a) hx hb hr (fun t ht hW => ⟨⟨_, (), rfl, rfl, ⟨by rw [ht]; exact hP, va_K.moved hW.alike hK, hD⟩⟩, hS.F ht⟩) hS.2.2 d_M_signOf_37
  refine lv_if_ne (tgt := 17) hx hb d_M_signOf_10 rfl (fun h10 => ?_) (fun h10 => ?_)
  · rw [if_neg h10] at hres
    refine lv_lload_n hx hb d_M_signOf_17 rfl (lv_at hl 3 rfl) ?_
    refine cq_Si (As := [.long b]) (rest := []) ⟨hx, hb, hml, hown, hts⟩ (c_km_sign l dC dI b) (va_cwS 1 hts (gi_S tw_350 tw_351 tw_6 tw_352) rfl rfl rfl (by decide +kernel) ⟨(by rw [← hR]; exact Nat.le_of_ble_eq_true rfl), (by rw [← hR]; exact Nat.le_of_ble_eq_true rfl)⟩) rfl rfl hl.1 (Nat.le_of_ble_eq_true rfl) d_M_signOf_18 ⟨Nat.zero_le _, Nat.zero_le _⟩ hP hS hA (fun H locs hP hS => ?_)
    exact J21 (km_sign b) hres ls _ _ (lv_sub hl [0, 1, 2, 3, 4] rfl) hP hD hS
  · rw [if_pos h10] at hres
    refine lv_iconst (v := 0) hx hb d_M_signOf_13 (by decide) ?_
    refine lv_goto (tgt := 21) hx hb d_M_signOf_14 rfl ?_
    exact J21 0 hres ls _ _ (lv_sub hl [0, 1, 2, 3, 4] rfl) hP hD hS
def km_cross_j47 (t9_0 : Int32) (t47_0 : Int32) : Int32 × Int32 := (t9_0, t47_0)
def km_cross_j43 (tn : Int32) (t9_0 : Int32) (t43_0 : Int32) : Int32 × Int32 := (km_cross_j47 t9_0 (tn + t43_0))
def km_cross_j9 (tn : Int32) (a : Int32) (b : Int32) (c0 : Int32) (t9_0 : Int32) : Int32 × Int32 := (if c0 ≤ 0 then (km_cross_j47 t9_0 tn) else (if b = 0 then (if a = 0 then (km_cross_j43 tn t9_0 0) else (if b = 0 then (km_cross_j43 tn t9_0 (-1)) else (km_cross_j43 tn t9_0 0))) else (if a = 0 then (km_cross_j43 tn t9_0 1) else (if a = 0 then (km_cross_j43 tn t9_0 0) else (if b = 0 then (km_cross_j43 tn t9_0 (-1)) else (km_cross_j43 tn t9_0 0))))))
def km_cross (tc : Int32) (tn : Int32) (a : Int32) (b : Int32) (c0 : Int32) : Int32 × Int32 := (if c0 = 0 then (km_cross_j9 tn a b c0 1) else (km_cross_j9 tn a b c0 tc))
set_option maxHeartbeats 4000000 in
set_option maxRecDepth 100000 in
theorem c_km_cross (l : Launch) (dC : Nat → ClassId) (dI : Nat → Nat → Nat) (h0 : Nat) (apx : Nat) (apy : Nat) (aon : Nat) (aen : Nat) (afi : Nat) (ase : Nat) (cJ : ClassId) (cZ : ClassId) (cI : ClassId) (wd : Int32) (cn : Int32) (pn : Int32) (px : Nat → Int64) (py : Nat → Int64) (on : Nat → Int32) (en : Nat → Int32) (fi : Nat → Int64) (se : Nat → Int64) (tc : Int32) (tn : Int32) (a : Int32) (b : Int32) (c0 : Int32)  : mc_v l y_M_cross w_M_cross { frames := 0, cells := 0, slots := 0, locals := 0 } (dC, dI) cls9 [(h0, .inr (2, [.int wd, .ref apx, .ref apy, .ref aon, .ref aen, .int cn, .int pn, .int tc, .int tn, .ref afi, .ref ase])), (apx, .inl (cJ, 256, .inr (.inl px))), (apy, .inl (cJ, 256, .inr (.inl py))), (aon, .inl (cZ, 256, .inl on)), (aen, .inl (cI, 256, .inl en)), (afi, .inl (cJ, 6, .inr (.inl fi))), (ase, .inl (cJ, 6, .inr (.inl se)))] [(h0, .inr (2, [.int wd, .ref apx, .ref apy, .ref aon, .ref aen, .int cn, .int pn, .int ((km_cross tc tn a b c0).1), .int ((km_cross tc tn a b c0).2), .ref afi, .ref ase])), (apx, .inl (cJ, 256, .inr (.inl px))), (apy, .inl (cJ, 256, .inr (.inl py))), (aon, .inl (cZ, 256, .inl on)), (aen, .inl (cI, 256, .inl en)), (afi, .inl (cJ, 6, .inr (.inl fi))), (ase, .inl (cJ, 6, .inr (.inl se)))] [(cJ, .long), (cZ, .boolean), (cI, .int)] [.ref h0, .int a, .int b, .int c0] := by
  intro sz
  refine Met.ofW (cc := b_M_cross) (maxL := 4) (ret := none) (by decide) rfl ?_
  intro p e s m args below meth c s₁ B hml hv
  obtain ⟨hargs, hsz, hP, hK, hD0⟩ := hv
  have hx := B.exec
  have hb := B.bytes
  have hr := B.returns
  have hts : ∀ w ∈ lw_w, w.before args s = true := fun w h => atoms_spec (ws := w_M_cross) B.pre w (List.mem_cons_of_mem _ h)
  have hown : s.vm.findClass R_M = some m.cls := findClass_of_methodNamed B.named
  have hlocks := B.notSynchronized
  subst hsz
  have hD := hD0.self (sz := s.heap.size)
  generalize hR : (headSpec w_M_cross { frames := 0, cells := 0, slots := 0, locals := 0 }).room = R
  generalize hAe : va_A [(h0, .inr (2, [.int wd, .ref apx, .ref apy, .ref aon, .ref aen, .int cn, .int pn, .int tc, .int tn, .ref afi, .ref ase])), (apx, .inl (cJ, 256, .inr (.inl px))), (apy, .inl (cJ, 256, .inr (.inl py))), (aon, .inl (cZ, 256, .inl on)), (aen, .inl (cI, 256, .inl en)), (afi, .inl (cJ, 6, .inr (.inl fi))), (ase, .inl (cJ, 6, .inr (.inl se)))] s.heap.size = A at hD ⊢
  have hA : ∀ q : Nat, s.heap.size ≤ q → A q := fun q h => by rw [← hAe]; exact Or.inr h
  have hS : va_S A s.heap s.heap [] := va_S.rf
  generalize hRES : km_cross tc tn a b c0 = RES
  have hres := hRES
  have hl := lv_entry [.ref h0, .int a, .int b, .int c0] (n := 4) (Nat.le_of_ble_eq_true rfl)
  have hent : entryFrame m args 4 = F0 m 0 (lg_sl [.ref h0, .int a, .int b, .int c0] ++ List.replicate (4 - (lg_sl [.ref h0, .int a, .int b, .int c0]).length) Slot.unset).toArray [] := by rw [hargs]; exact lg_entry_eq m [.ref h0, .int a, .int b, .int c0] 4
  rw [hent]
  clear hent
  generalize (lg_sl [.ref h0, .int a, .int b, .int c0] ++ List.replicate (4 - (lg_sl [.ref h0, .int a, .int b, .int c0]).length) Slot.unset).toArray = ls at hl ⊢
  have hl : lv_has ls 4 [(0, .ref h0), (1, .int a), (2, .int b), (3, .int c0)] := hl
  have hP : va_P (dC, dI) cls9 [(h0, .inr (2, [.int wd, .ref apx, .ref apy, .ref aon, .ref aen, .int cn, .int pn, .int tc, .int tn, .ref afi, .ref ase])), (apx, .inl (cJ, 256, .inr (.inl px))), (apy, .inl (cJ, 256, .inr (.inl py))), (aon, .inl (cZ, 256, .inl on)), (aen, .inl (cI, 256, .inl en)), (afi, .inl (cJ, 6, .inr (.inl fi))), (ase, .inl (cJ, 6, .inr (.inl se)))] s.heap := hP
  have hD : va_D A [(h0, .inr (2, [.int wd, .ref apx, .ref apy, .ref aon, .ref aen, .int cn, .int pn, .int tc, .int tn, .ref afi, .ref ase])), (apx, .inl (cJ, 256, .inr (.inl px))), (apy, .inl (cJ, 256, .inr (.inl py))), (aon, .inl (cZ, 256, .inl on)), (aen, .inl (cI, 256, .inl en)), (afi, .inl (cJ, 6, .inr (.inl fi))), (ase, .inl (cJ, 6, .inr (.inl se)))] := hD
  clear hD0 hRES hAe
  unfold km_cross at hres
  generalize hQ : MQ below (va_Qv (fun (_ : Unit) => True) (fun _ t => va_P (dC, dI) cls9 [(h0, .inr (2, [.int wd, .ref apx, .ref apy, .ref aon, .ref aen, .int cn, .int pn, .int RES.1, .int RES.2, .ref afi, .ref ase])), (apx, .inl (cJ, 256, .inr (.inl px))), (apy, .inl (cJ, 256, .inr (.inl py))), (aon, .inl (cZ, 256, .inl on)), (aen, .inl (cI, 256, .inl en)), (afi, .inl (cJ, 6, .inr (.inl fi))), (ase, .inl (cJ, 6, .inr (.inl se)))] t.heap ∧ va_K (dC, dI) cls9 [(cJ, .long), (cZ, .boolean), (cI, .int)] t ∧ va_D A [(h0, .inr (2, [.int wd, .ref apx, .ref apy, .ref aon, .ref aen, .int cn, .int pn, .int RES.1, .int RES.2, .ref afi, .ref ase])), (apx, .inl (cJ, 256, .inr (.inl px))), (apy, .inl (cJ, 256, .inr (.inl py))), (aon, .inl (cZ, 256, .inl on)), (aen, .inl (cI, 256, .inl en)), (afi, .inl (cJ, 6, .inr (.inl fi))), (ase, .inl (cJ, 6, .inr (.inl se)))]) A) args s 0 0 A = Q
  replace hQ := hQ.symm
  refine lv_iload_n hx hb d_M_cross_0 rfl (lv_at hl 3 rfl) ?_
  have J9 : ∀ (t9_0 : Int32), km_cross_j9 tn a b c0 t9_0 = RES → ∀ (ls : Array Slot) (H : Heap) (locs : List Loc), lv_has ls 4 [(0, .ref h0), (1, .int a), (2, .int b), (3, .int c0)] → va_P (dC, dI) cls9 [(h0, .inr (2, [.int wd, .ref apx, .ref apy, .ref aon, .ref aen, .int cn, .int pn, .int t9_0, .int tn, .ref afi, .ref ase])), (apx, .inl (cJ, 256, .inr (.inl px))), (apy, .inl (cJ, 256, .inr (.inl py))), (aon, .inl (cZ, 256, .inl on)), (aen, .inl (cI, 256, .inl en)), (afi, .inl (cJ, 6, .inr (.inl fi))), (ase, .inl (cJ, 6, .inr (.inl se)))] H → va_D A [(h0, .inr (2, [.int wd, .ref apx, .ref apy, .ref aon, .ref aen, .int cn, .int pn, .int t9_0, .int tn, .ref afi, .ref ase])), (apx, .inl (cJ, 256, .inr (.inl px))), (apy, .inl (cJ, 256, .inr (.inl py))), (aon, .inl (cZ, 256, .inl on)), (aen, .inl (cI, 256, .inl en)), (afi, .inl (cJ, 6, .inr (.inl fi))), (ase, .inl (cJ, 6, .inr (.inl se)))] → va_S A s.heap H locs → W p l e R s m args below meth c H locs 0 0 Q (F0 m 9 ls []) := by
    intro t9_0 hres ls H locs hl hP hD hS
    unfold km_cross_j9 at hres
    refine lv_iload_n hx hb d_M_cross_9 rfl (lv_at hl 3 rfl) ?_
    have J47 : ∀ (t47_0 : Int32), km_cross_j47 t9_0 t47_0 = RES → ∀ (ls : Array Slot) (H : Heap) (locs : List Loc), lv_has ls 4 [] → va_P (dC, dI) cls9 [(h0, .inr (2, [.int wd, .ref apx, .ref apy, .ref aon, .ref aen, .int cn, .int pn, .int t9_0, .int t47_0, .ref afi, .ref ase])), (apx, .inl (cJ, 256, .inr (.inl px))), (apy, .inl (cJ, 256, .inr (.inl py))), (aon, .inl (cZ, 256, .inl on)), (aen, .inl (cI, 256, .inl en)), (afi, .inl (cJ, 6, .inr (.inl fi))), (ase, .inl (cJ, 6, .inr (.inl se)))] H → va_D A [(h0, .inr (2, [.int wd, .ref apx, .ref apy, .ref aon, .ref aen, .int cn, .int pn, .int t9_0, .int t47_0, .ref afi, .ref ase])), (apx, .inl (cJ, 256, .inr (.inl px))), (apy, .inl (cJ, 256, .inr (.inl py))), (aon, .inl (cZ, 256, .inl on)), (aen, .inl (cI, 256, .inl en)), (afi, .inl (cJ, 6, .inr (.inl fi))), (ase, .inl (cJ, 6, .inr (.inl se)))] → va_S A s.heap H locs → W p l e R s m args below meth c H locs 0 0 Q (F0 m 47 ls []) := by
      intro t47_0 hres ls H locs hl hP hD hS
      unfold km_cross_j47 at hres
      rw [hQ]
      subst hres
      exact W.vret hx hb hr (fun t ht hW => ⟨⟨(), rfl, trivial, ⟨by rw [ht]; exact hP, va_K.moved hW.alike hK, hD⟩⟩, hS.F ht⟩) hS.2.2 d_M_cross_47
    refine lv_if_le (tgt := 47) hx hb d_M_cross_10 rfl (fun h10 => ?_) (fun h10 => ?_)
    · rw [if_pos h10] at hres
      exact J47 tn hres ls _ _ (lv_sub hl [] rfl) hP hD hS
    · rw [if_neg h10] at hres
      refine lv_aload_n hx hb d_M_cross_13 rfl (lv_at hl 0 rfl) ?_
      refine lv_dup hx hb d_M_cross_14 rfl ?_
      refine va_get (D := (dC, dI)) (ci := 2) (v := .int tn) (C := R_M) (T := F_M) (N := 11) hx hb hts in_M hown hK hP 0 rfl rfl 8 (by decide) (hts _ tw_287) (fun _ h9 => h9) rfl d_M_cross_15 ?_
      refine lv_iload_n hx hb d_M_cross_18 rfl (lv_at hl 2 rfl) ?_
      have J43 : ∀ (t43_0 : Int32), km_cross_j43 tn t9_0 t43_0 = RES → ∀ (ls : Array Slot) (H : Heap) (locs : List Loc), lv_has ls 4 [] → va_P (dC, dI) cls9 [(h0, .inr (2, [.int wd, .ref apx, .ref apy, .ref aon, .ref aen, .int cn, .int pn, .int t9_0, .int tn, .ref afi, .ref ase])), (apx, .inl (cJ, 256, .inr (.inl px))), (apy, .inl (cJ, 256, .inr (.inl py))), (aon, .inl (cZ, 256, .inl on)), (aen, .inl (cI, 256, .inl en)), (afi, .inl (cJ, 6, .inr (.inl fi))), (ase, .inl (cJ, 6, .inr (.inl se)))] H → va_D A [(h0, .inr (2, [.int wd, .ref apx, .ref apy, .ref aon, .ref aen, .int cn, .int pn, .int t9_0, .int tn, .ref afi, .ref ase])), (apx, .inl (cJ, 256, .inr (.inl px))), (apy, .inl (cJ, 256, .inr (.inl py))), (aon, .inl (cZ, 256, .inl on)), (aen, .inl (cI, 256, .inl en)), (afi, .inl (cJ, 6, .inr (.inl fi))), (ase, .inl (cJ, 6, .inr (.inl se)))] → va_S A s.heap H locs → W p l e R s m args below meth c H locs 0 0 Q (F0 m 43 ls [.int t43_0, .int tn, .ref h0]) := by
        intro t43_0 hres ls H locs hl hP hD hS
        unfold km_cross_j43 at hres
        refine lv_iadd hx hb d_M_cross_43 ?_
        refine va_put (D := (dC, dI)) (ci := 2) (v := .int (tn + t43_0)) (ty := .int) (C := R_M) (T := F_M) (N := 11) hx hb hts in_M tf_M tok_M n_M hown hK hP hD hS 0 rfl rfl 8 (by decide) (hts _ tw_287) (fun _ h9 => h9) rfl (by decide +kernel) (by rfl) (by rfl) (Nat.le_of_ble_eq_true rfl) d_M_cross_44 (fun H locs hP hD hS => ?_)
        have hP : va_P (dC, dI) cls9 [(h0, .inr (2, [.int wd, .ref apx, .ref apy, .ref aon, .ref aen, .int cn, .int pn, .int t9_0, .int (tn + t43_0), .ref afi, .ref ase])), (apx, .inl (cJ, 256, .inr (.inl px))), (apy, .inl (cJ, 256, .inr (.inl py))), (aon, .inl (cZ, 256, .inl on)), (aen, .inl (cI, 256, .inl en)), (afi, .inl (cJ, 6, .inr (.inl fi))), (ase, .inl (cJ, 6, .inr (.inl se)))] H := hP
        have hD : va_D A [(h0, .inr (2, [.int wd, .ref apx, .ref apy, .ref aon, .ref aen, .int cn, .int pn, .int t9_0, .int (tn + t43_0), .ref afi, .ref ase])), (apx, .inl (cJ, 256, .inr (.inl px))), (apy, .inl (cJ, 256, .inr (.inl py))), (aon, .inl (cZ, 256, .inl on)), (aen, .inl (cI, 256, .inl en)), (afi, .inl (cJ, 6, .inr (.inl fi))), (ase, .inl (cJ, 6, .inr (.inl se)))] := hD
        exact J47 (tn + t43_0) hres ls _ _ (lv_sub hl [] rfl) hP hD hS
      refine lv_if_eq (tgt := 30) hx hb d_M_cross_19 rfl (fun h19 => ?_) (fun h19 => ?_)
      · rw [if_pos h19] at hres
        refine lv_iload_n hx hb d_M_cross_30 rfl (lv_at hl 1 rfl) ?_
        refine lv_if_eq (tgt := 42) hx hb d_M_cross_31 rfl (fun h31 => ?_) (fun h31 => ?_)
        · rw [if_pos h31] at hres
          refine lv_iconst (v := 0) hx hb d_M_cross_42 (by decide) ?_
          exact J43 0 hres ls _ _ (lv_sub hl [] rfl) hP hD hS
        · rw [if_neg h31] at hres
          refine lv_iload_n hx hb d_M_cross_34 rfl (lv_at hl 2 rfl) ?_
          refine lv_if_ne (tgt := 42) hx hb d_M_cross_35 rfl (fun h35 => ?_) (fun h35 => ?_)
          · rw [if_neg h35] at hres
            refine lv_iconst (v := 0) hx hb d_M_cross_42 (by decide) ?_
            exact J43 0 hres ls _ _ (lv_sub hl [] rfl) hP hD hS
          · rw [if_pos h35] at hres
            refine lv_iconst (v := (-1)) hx hb d_M_cross_38 (by decide) ?_
            refine lv_goto (tgt := 43) hx hb d_M_cross_39 rfl ?_
            exact J43 (-1) hres ls _ _ (lv_sub hl [] rfl) hP hD hS
      · rw [if_neg h19] at hres
        refine lv_iload_n hx hb d_M_cross_22 rfl (lv_at hl 1 rfl) ?_
        refine lv_if_ne (tgt := 30) hx hb d_M_cross_23 rfl (fun h23 => ?_) (fun h23 => ?_)
        · rw [if_neg h23] at hres
          refine lv_iload_n hx hb d_M_cross_30 rfl (lv_at hl 1 rfl) ?_
          refine lv_if_eq (tgt := 42) hx hb d_M_cross_31 rfl (fun h31 => ?_) (fun h31 => ?_)
          · rw [if_pos h31] at hres
            refine lv_iconst (v := 0) hx hb d_M_cross_42 (by decide) ?_
            exact J43 0 hres ls _ _ (lv_sub hl [] rfl) hP hD hS
          · rw [if_neg h31] at hres
            refine lv_iload_n hx hb d_M_cross_34 rfl (lv_at hl 2 rfl) ?_
            refine lv_if_ne (tgt := 42) hx hb d_M_cross_35 rfl (fun h35 => ?_) (fun h35 => ?_)
            · rw [if_neg h35] at hres
              refine lv_iconst (v := 0) hx hb d_M_cross_42 (by decide) ?_
              exact J43 0 hres ls _ _ (lv_sub hl [] rfl) hP hD hS
            · rw [if_pos h35] at hres
              refine lv_iconst (v := (-1)) hx hb d_M_cross_38 (by decide) ?_
              refine lv_goto (tgt := 43) hx hb d_M_cross_39 rfl ?_
              exact J43 (-1) hres ls _ _ (lv_sub hl [] rfl) hP hD hS
        · rw [if_pos h23] at hres
          refine lv_iconst (v := 1) hx hb d_M_cross_26 (by decide) ?_
          refine lv_goto (tgt := 43) hx hb d_M_cross_27 rfl ?_
          exact J43 1 hres ls _ _ (lv_sub hl [] rfl) hP hD hS
  refine lv_if_ne (tgt := 9) hx hb d_M_cross_1 rfl (fun h1 => ?_) (fun h1 => ?_)
  · rw [if_neg h1] at hres
    exact J9 tc hres ls _ _ (lv_sub hl [0, 1, 2, 3] rfl) hP hD hS
  · rw [if_pos h1] at hres
    refine lv_aload_n hx hb d_M_cross_4 rfl (lv_at hl 0 rfl) ?_
    refine lv_iconst (v := 1) hx hb d_M_cross_5 (by decide) ?_
    refine va_put (D := (dC, dI)) (ci := 2) (v := .int 1) (ty := .boolean) (C := R_M) (T := F_M) (N := 11) hx hb hts in_M tf_M tok_M n_M hown hK hP hD hS 0 rfl rfl 7 (by decide) (hts _ tw_286) (fun _ h9 => h9) rfl (by decide +kernel) (by rfl) (by rfl) (Nat.le_of_ble_eq_true rfl) d_M_cross_6 (fun H locs hP hD hS => ?_)
    have hP : va_P (dC, dI) cls9 [(h0, .inr (2, [.int wd, .ref apx, .ref apy, .ref aon, .ref aen, .int cn, .int pn, .int 1, .int tn, .ref afi, .ref ase])), (apx, .inl (cJ, 256, .inr (.inl px))), (apy, .inl (cJ, 256, .inr (.inl py))), (aon, .inl (cZ, 256, .inl on)), (aen, .inl (cI, 256, .inl en)), (afi, .inl (cJ, 6, .inr (.inl fi))), (ase, .inl (cJ, 6, .inr (.inl se)))] H := hP
    have hD : va_D A [(h0, .inr (2, [.int wd, .ref apx, .ref apy, .ref aon, .ref aen, .int cn, .int pn, .int 1, .int tn, .ref afi, .ref ase])), (apx, .inl (cJ, 256, .inr (.inl px))), (apy, .inl (cJ, 256, .inr (.inl py))), (aon, .inl (cZ, 256, .inl on)), (aen, .inl (cI, 256, .inl en)), (afi, .inl (cJ, 6, .inr (.inl fi))), (ase, .inl (cJ, 6, .inr (.inl se)))] := hD
    exact J9 1 hres ls _ _ (lv_sub hl [0, 1, 2, 3] rfl) hP hD hS
def km_line_j103 (t103_0 : Int32) (t103_1 : Int32) : Int32 × Int32 := (t103_0, t103_1)
def km_line_k103 (x100 : Int32 × Int32) : Int32 × Int32 := (km_line_j103 x100.1 x100.2)
def km_line_j87 (tn : Int32) (a : Int64) (b : Int64) (c0 : Int64) (d : Int64) (t37_0 : Int32) (t75_0 : Int32) (t87_0 : Int32) : Int32 × Int32 := (km_line_k103 (km_cross t37_0 tn t75_0 t87_0 ((km_sign ((a * d) - (c0 * b))) * (km_sign (d - b)))))
def km_line_j75 (tn : Int32) (a : Int64) (b : Int64) (c0 : Int64) (d : Int64) (t37_0 : Int32) (t75_0 : Int32) : Int32 × Int32 := (if (lg_cmp d 0) < 0 then (km_line_j87 tn a b c0 d t37_0 t75_0 0) else (km_line_j87 tn a b c0 d t37_0 t75_0 1))
def km_line_j60 (tn : Int32) (a : Int64) (b : Int64) (c0 : Int64) (d : Int64) (t37_0 : Int32) (t48_0 : Int32) (t60_0 : Int32) : Int32 × Int32 := (if t48_0 = t60_0 then (km_line_j103 t37_0 tn) else (if (lg_cmp b 0) < 0 then (km_line_j75 tn a b c0 d t37_0 0) else (km_line_j75 tn a b c0 d t37_0 1)))
def km_line_j48 (tn : Int32) (a : Int64) (b : Int64) (c0 : Int64) (d : Int64) (t37_0 : Int32) (t48_0 : Int32) : Int32 × Int32 := (if (lg_cmp d 0) < 0 then (km_line_j60 tn a b c0 d t37_0 t48_0 0) else (km_line_j60 tn a b c0 d t37_0 t48_0 1))
def km_line_j37 (tn : Int32) (a : Int64) (b : Int64) (c0 : Int64) (d : Int64) (t37_0 : Int32) : Int32 × Int32 := (if (lg_cmp b 0) < 0 then (km_line_j48 tn a b c0 d t37_0 0) else (km_line_j48 tn a b c0 d t37_0 1))
def km_line (tc : Int32) (tn : Int32) (a : Int64) (b : Int64) (c0 : Int64) (d : Int64) : Int32 × Int32 := (if (lg_cmp ((a * d) - (c0 * b)) 0) = 0 then (if 0 < (lg_cmp ((a * c0) + (b * d)) 0) then (km_line_j37 tn a b c0 d tc) else (km_line_j37 tn a b c0 d 1)) else (km_line_j37 tn a b c0 d tc))
set_option maxHeartbeats 4000000 in
set_option maxRecDepth 100000 in
theorem c_km_line (l : Launch) (dC : Nat → ClassId) (dI : Nat → Nat → Nat) (h0 : Nat) (apx : Nat) (apy : Nat) (aon : Nat) (aen : Nat) (afi : Nat) (ase : Nat) (cJ : ClassId) (cZ : ClassId) (cI : ClassId) (wd : Int32) (cn : Int32) (pn : Int32) (px : Nat → Int64) (py : Nat → Int64) (on : Nat → Int32) (en : Nat → Int32) (fi : Nat → Int64) (se : Nat → Int64) (tc : Int32) (tn : Int32) (a : Int64) (b : Int64) (c0 : Int64) (d : Int64)  : mc_v l y_M_line w_M_line { frames := 1, cells := 0, slots := 0, locals := 23 } (dC, dI) cls9 [(h0, .inr (2, [.int wd, .ref apx, .ref apy, .ref aon, .ref aen, .int cn, .int pn, .int tc, .int tn, .ref afi, .ref ase])), (apx, .inl (cJ, 256, .inr (.inl px))), (apy, .inl (cJ, 256, .inr (.inl py))), (aon, .inl (cZ, 256, .inl on)), (aen, .inl (cI, 256, .inl en)), (afi, .inl (cJ, 6, .inr (.inl fi))), (ase, .inl (cJ, 6, .inr (.inl se)))] [(h0, .inr (2, [.int wd, .ref apx, .ref apy, .ref aon, .ref aen, .int cn, .int pn, .int ((km_line tc tn a b c0 d).1), .int ((km_line tc tn a b c0 d).2), .ref afi, .ref ase])), (apx, .inl (cJ, 256, .inr (.inl px))), (apy, .inl (cJ, 256, .inr (.inl py))), (aon, .inl (cZ, 256, .inl on)), (aen, .inl (cI, 256, .inl en)), (afi, .inl (cJ, 6, .inr (.inl fi))), (ase, .inl (cJ, 6, .inr (.inl se)))] [(cJ, .long), (cZ, .boolean), (cI, .int)] [.ref h0, .long a, .long b, .long c0, .long d] := by
  intro sz
  refine Met.ofW (cc := b_M_line) (maxL := 11) (ret := none) (by decide) rfl ?_
  intro p e s m args below meth c s₁ B hml hv
  obtain ⟨hargs, hsz, hP, hK, hD0⟩ := hv
  have hx := B.exec
  have hb := B.bytes
  have hr := B.returns
  have hts : ∀ w ∈ lw_w, w.before args s = true := fun w h => atoms_spec (ws := w_M_line) B.pre w (List.mem_cons_of_mem _ h)
  have hown : s.vm.findClass R_M = some m.cls := findClass_of_methodNamed B.named
  have hlocks := B.notSynchronized
  subst hsz
  have hD := hD0.self (sz := s.heap.size)
  generalize hR : (headSpec w_M_line { frames := 1, cells := 0, slots := 0, locals := 23 }).room = R
  generalize hAe : va_A [(h0, .inr (2, [.int wd, .ref apx, .ref apy, .ref aon, .ref aen, .int cn, .int pn, .int tc, .int tn, .ref afi, .ref ase])), (apx, .inl (cJ, 256, .inr (.inl px))), (apy, .inl (cJ, 256, .inr (.inl py))), (aon, .inl (cZ, 256, .inl on)), (aen, .inl (cI, 256, .inl en)), (afi, .inl (cJ, 6, .inr (.inl fi))), (ase, .inl (cJ, 6, .inr (.inl se)))] s.heap.size = A at hD ⊢
  have hA : ∀ q : Nat, s.heap.size ≤ q → A q := fun q h => by rw [← hAe]; exact Or.inr h
  have hS : va_S A s.heap s.heap [] := va_S.rf
  generalize hRES : km_line tc tn a b c0 d = RES
  have hres := hRES
  have hl := lv_entry [.ref h0, .long a, .long b, .long c0, .long d] (n := 11) (Nat.le_of_ble_eq_true rfl)
  have hent : entryFrame m args 11 = F0 m 0 (lg_sl [.ref h0, .long a, .long b, .long c0, .long d] ++ List.replicate (11 - (lg_sl [.ref h0, .long a, .long b, .long c0, .long d]).length) Slot.unset).toArray [] := by rw [hargs]; exact lg_entry_eq m [.ref h0, .long a, .long b, .long c0, .long d] 11
  rw [hent]
  clear hent
  generalize (lg_sl [.ref h0, .long a, .long b, .long c0, .long d] ++ List.replicate (11 - (lg_sl [.ref h0, .long a, .long b, .long c0, .long d]).length) Slot.unset).toArray = ls at hl ⊢
  have hl : lv_has ls 11 [(0, .ref h0), (1, .long a), (3, .long b), (5, .long c0), (7, .long d)] := hl
  have hP : va_P (dC, dI) cls9 [(h0, .inr (2, [.int wd, .ref apx, .ref apy, .ref aon, .ref aen, .int cn, .int pn, .int tc, .int tn, .ref afi, .ref ase])), (apx, .inl (cJ, 256, .inr (.inl px))), (apy, .inl (cJ, 256, .inr (.inl py))), (aon, .inl (cZ, 256, .inl on)), (aen, .inl (cI, 256, .inl en)), (afi, .inl (cJ, 6, .inr (.inl fi))), (ase, .inl (cJ, 6, .inr (.inl se)))] s.heap := hP
  have hD : va_D A [(h0, .inr (2, [.int wd, .ref apx, .ref apy, .ref aon, .ref aen, .int cn, .int pn, .int tc, .int tn, .ref afi, .ref ase])), (apx, .inl (cJ, 256, .inr (.inl px))), (apy, .inl (cJ, 256, .inr (.inl py))), (aon, .inl (cZ, 256, .inl on)), (aen, .inl (cI, 256, .inl en)), (afi, .inl (cJ, 6, .inr (.inl fi))), (ase, .inl (cJ, 6, .inr (.inl se)))] := hD
  clear hD0 hRES hAe
  unfold km_line at hres
  generalize hQ : MQ below (va_Qv (fun (_ : Unit) => True) (fun _ t => va_P (dC, dI) cls9 [(h0, .inr (2, [.int wd, .ref apx, .ref apy, .ref aon, .ref aen, .int cn, .int pn, .int RES.1, .int RES.2, .ref afi, .ref ase])), (apx, .inl (cJ, 256, .inr (.inl px))), (apy, .inl (cJ, 256, .inr (.inl py))), (aon, .inl (cZ, 256, .inl on)), (aen, .inl (cI, 256, .inl en)), (afi, .inl (cJ, 6, .inr (.inl fi))), (ase, .inl (cJ, 6, .inr (.inl se)))] t.heap ∧ va_K (dC, dI) cls9 [(cJ, .long), (cZ, .boolean), (cI, .int)] t ∧ va_D A [(h0, .inr (2, [.int wd, .ref apx, .ref apy, .ref aon, .ref aen, .int cn, .int pn, .int RES.1, .int RES.2, .ref afi, .ref ase])), (apx, .inl (cJ, 256, .inr (.inl px))), (apy, .inl (cJ, 256, .inr (.inl py))), (aon, .inl (cZ, 256, .inl on)), (aen, .inl (cI, 256, .inl en)), (afi, .inl (cJ, 6, .inr (.inl fi))), (ase, .inl (cJ, 6, .inr (.inl se)))]) A) args s 0 0 A = Q
  replace hQ := hQ.symm
  refine lv_lload_n hx hb d_M_line_0 rfl (lv_at hl 1 rfl) ?_
  refine lv_lload hx hb d_M_line_1 (lv_at hl 4 rfl) ?_
  refine lv_lmul hx hb d_M_line_3 ?_
  refine lv_lload hx hb d_M_line_4 (lv_at hl 3 rfl) ?_
  refine lv_lload_n hx hb d_M_line_6 rfl (lv_at hl 2 rfl) ?_
  refine lv_lmul hx hb d_M_line_7 ?_
  refine lv_lsub hx hb d_M_line_8 ?_
  refine lv_lstore (lv' := [(9, .long ((a * d) - (c0 * b))), (0, .ref h0), (1, .long a), (3, .long b), (5, .long c0), (7, .long d)]) hx hb d_M_line_9 hl (by decide) rfl (fun ls hl => ?_)
  refine lv_lload hx hb d_M_line_11 (lv_at hl 0 rfl) ?_
  refine lv_lconst (v := 0) hx hb d_M_line_13 (by decide) ?_
  refine W.lcmp hx hb d_M_line_14 ?_
  have J37 : ∀ (t37_0 : Int32), km_line_j37 tn a b c0 d t37_0 = RES → ∀ (ls : Array Slot) (H : Heap) (locs : List Loc), lv_has ls 11 [(9, .long ((a * d) - (c0 * b))), (0, .ref h0), (3, .long b), (7, .long d)] → va_P (dC, dI) cls9 [(h0, .inr (2, [.int wd, .ref apx, .ref apy, .ref aon, .ref aen, .int cn, .int pn, .int t37_0, .int tn, .ref afi, .ref ase])), (apx, .inl (cJ, 256, .inr (.inl px))), (apy, .inl (cJ, 256, .inr (.inl py))), (aon, .inl (cZ, 256, .inl on)), (aen, .inl (cI, 256, .inl en)), (afi, .inl (cJ, 6, .inr (.inl fi))), (ase, .inl (cJ, 6, .inr (.inl se)))] H → va_D A [(h0, .inr (2, [.int wd, .ref apx, .ref apy, .ref aon, .ref aen, .int cn, .int pn, .int t37_0, .int tn, .ref afi, .ref ase])), (apx, .inl (cJ, 256, .inr (.inl px))), (apy, .inl (cJ, 256, .inr (.inl py))), (aon, .inl (cZ, 256, .inl on)), (aen, .inl (cI, 256, .inl en)), (afi, .inl (cJ, 6, .inr (.inl fi))), (ase, .inl (cJ, 6, .inr (.inl se)))] → va_S A s.heap H locs → W p l e R s m args below meth c H locs 0 0 Q (F0 m 37 ls []) := by
    intro t37_0 hres ls H locs hl hP hD hS
    unfold km_line_j37 at hres
    refine lv_lload_n hx hb d_M_line_37 rfl (lv_at hl 2 rfl) ?_
    refine lv_lconst (v := 0) hx hb d_M_line_38 (by decide) ?_
    refine W.lcmp hx hb d_M_line_39 ?_
    have J48 : ∀ (t48_0 : Int32), km_line_j48 tn a b c0 d t37_0 t48_0 = RES → ∀ (ls : Array Slot) (H : Heap) (locs : List Loc), lv_has ls 11 [(9, .long ((a * d) - (c0 * b))), (0, .ref h0), (3, .long b), (7, .long d)] → va_P (dC, dI) cls9 [(h0, .inr (2, [.int wd, .ref apx, .ref apy, .ref aon, .ref aen, .int cn, .int pn, .int t37_0, .int tn, .ref afi, .ref ase])), (apx, .inl (cJ, 256, .inr (.inl px))), (apy, .inl (cJ, 256, .inr (.inl py))), (aon, .inl (cZ, 256, .inl on)), (aen, .inl (cI, 256, .inl en)), (afi, .inl (cJ, 6, .inr (.inl fi))), (ase, .inl (cJ, 6, .inr (.inl se)))] H → va_D A [(h0, .inr (2, [.int wd, .ref apx, .ref apy, .ref aon, .ref aen, .int cn, .int pn, .int t37_0, .int tn, .ref afi, .ref ase])), (apx, .inl (cJ, 256, .inr (.inl px))), (apy, .inl (cJ, 256, .inr (.inl py))), (aon, .inl (cZ, 256, .inl on)), (aen, .inl (cI, 256, .inl en)), (afi, .inl (cJ, 6, .inr (.inl fi))), (ase, .inl (cJ, 6, .inr (.inl se)))] → va_S A s.heap H locs → W p l e R s m args below meth c H locs 0 0 Q (F0 m 48 ls [.int t48_0]) := by
      intro t48_0 hres ls H locs hl hP hD hS
      unfold km_line_j48 at hres
      refine lv_lload hx hb d_M_line_48 (lv_at hl 3 rfl) ?_
      refine lv_lconst (v := 0) hx hb d_M_line_50 (by decide) ?_
      refine W.lcmp hx hb d_M_line_51 ?_
      have J60 : ∀ (t60_0 : Int32), km_line_j60 tn a b c0 d t37_0 t48_0 t60_0 = RES → ∀ (ls : Array Slot) (H : Heap) (locs : List Loc), lv_has ls 11 [(9, .long ((a * d) - (c0 * b))), (0, .ref h0), (3, .long b), (7, .long d)] → va_P (dC, dI) cls9 [(h0, .inr (2, [.int wd, .ref apx, .ref apy, .ref aon, .ref aen, .int cn, .int pn, .int t37_0, .int tn, .ref afi, .ref ase])), (apx, .inl (cJ, 256, .inr (.inl px))), (apy, .inl (cJ, 256, .inr (.inl py))), (aon, .inl (cZ, 256, .inl on)), (aen, .inl (cI, 256, .inl en)), (afi, .inl (cJ, 6, .inr (.inl fi))), (ase, .inl (cJ, 6, .inr (.inl se)))] H → va_D A [(h0, .inr (2, [.int wd, .ref apx, .ref apy, .ref aon, .ref aen, .int cn, .int pn, .int t37_0, .int tn, .ref afi, .ref ase])), (apx, .inl (cJ, 256, .inr (.inl px))), (apy, .inl (cJ, 256, .inr (.inl py))), (aon, .inl (cZ, 256, .inl on)), (aen, .inl (cI, 256, .inl en)), (afi, .inl (cJ, 6, .inr (.inl fi))), (ase, .inl (cJ, 6, .inr (.inl se)))] → va_S A s.heap H locs → W p l e R s m args below meth c H locs 0 0 Q (F0 m 60 ls [.int t60_0, .int t48_0]) := by
        intro t60_0 hres ls H locs hl hP hD hS
        unfold km_line_j60 at hres
        have J103 : ∀ (t103_0 : Int32) (t103_1 : Int32), km_line_j103 t103_0 t103_1 = RES → ∀ (ls : Array Slot) (H : Heap) (locs : List Loc), lv_has ls 11 [] → va_P (dC, dI) cls9 [(h0, .inr (2, [.int wd, .ref apx, .ref apy, .ref aon, .ref aen, .int cn, .int pn, .int t103_0, .int t103_1, .ref afi, .ref ase])), (apx, .inl (cJ, 256, .inr (.inl px))), (apy, .inl (cJ, 256, .inr (.inl py))), (aon, .inl (cZ, 256, .inl on)), (aen, .inl (cI, 256, .inl en)), (afi, .inl (cJ, 6, .inr (.inl fi))), (ase, .inl (cJ, 6, .inr (.inl se)))] H → va_D A [(h0, .inr (2, [.int wd, .ref apx, .ref apy, .ref aon, .ref aen, .int cn, .int pn, .int t103_0, .int t103_1, .ref afi, .ref ase])), (apx, .inl (cJ, 256, .inr (.inl px))), (apy, .inl (cJ, 256, .inr (.inl py))), (aon, .inl (cZ, 256, .inl on)), (aen, .inl (cI, 256, .inl en)), (afi, .inl (cJ, 6, .inr (.inl fi))), (ase, .inl (cJ, 6, .inr (.inl se)))] → va_S A s.heap H locs → W p l e R s m args below meth c H locs 0 0 Q (F0 m 103 ls []) := by
          intro t103_0 t103_1 hres ls H locs hl hP hD hS
          unfold km_line_j103 at hres
          rw [hQ]
          subst hres
          exact W.vret hx hb hr (fun t ht hW => ⟨⟨(), rfl, trivial, ⟨by rw [ht]; exact hP, va_K.moved hW.alike hK, hD⟩⟩, hS.F ht⟩) hS.2.2 d_M_line_103
        refine lv_icmp_eq (tgt := 103) hx hb d_M_line_60 rfl (fun h60 => ?_) (fun h60 => ?_)
        · rw [if_pos h60] at hres
          exact J103 t37_0 tn hres ls _ _ (lv_sub hl [] rfl) hP hD hS
        · rw [if_neg h60] at hres
          refine lv_aload_n hx hb d_M_line_63 rfl (lv_at hl 1 rfl) ?_
          refine lv_lload_n hx hb d_M_line_64 rfl (lv_at hl 2 rfl) ?_
          refine lv_lconst (v := 0) hx hb d_M_line_65 (by decide) ?_
          refine W.lcmp hx hb d_M_line_66 ?_
          have J75 : ∀ (t75_0 : Int32), km_line_j75 tn a b c0 d t37_0 t75_0 = RES → ∀ (ls : Array Slot) (H : Heap) (locs : List Loc), lv_has ls 11 [(9, .long ((a * d) - (c0 * b))), (3, .long b), (7, .long d)] → va_P (dC, dI) cls9 [(h0, .inr (2, [.int wd, .ref apx, .ref apy, .ref aon, .ref aen, .int cn, .int pn, .int t37_0, .int tn, .ref afi, .ref ase])), (apx, .inl (cJ, 256, .inr (.inl px))), (apy, .inl (cJ, 256, .inr (.inl py))), (aon, .inl (cZ, 256, .inl on)), (aen, .inl (cI, 256, .inl en)), (afi, .inl (cJ, 6, .inr (.inl fi))), (ase, .inl (cJ, 6, .inr (.inl se)))] H → va_D A [(h0, .inr (2, [.int wd, .ref apx, .ref apy, .ref aon, .ref aen, .int cn, .int pn, .int t37_0, .int tn, .ref afi, .ref ase])), (apx, .inl (cJ, 256, .inr (.inl px))), (apy, .inl (cJ, 256, .inr (.inl py))), (aon, .inl (cZ, 256, .inl on)), (aen, .inl (cI, 256, .inl en)), (afi, .inl (cJ, 6, .inr (.inl fi))), (ase, .inl (cJ, 6, .inr (.inl se)))] → va_S A s.heap H locs → W p l e R s m args below meth c H locs 0 0 Q (F0 m 75 ls [.int t75_0, .ref h0]) := by
            intro t75_0 hres ls H locs hl hP hD hS
            unfold km_line_j75 at hres
            refine lv_lload hx hb d_M_line_75 (lv_at hl 2 rfl) ?_
            refine lv_lconst (v := 0) hx hb d_M_line_77 (by decide) ?_
            refine W.lcmp hx hb d_M_line_78 ?_
            have J87 : ∀ (t87_0 : Int32), km_line_j87 tn a b c0 d t37_0 t75_0 t87_0 = RES → ∀ (ls : Array Slot) (H : Heap) (locs : List Loc), lv_has ls 11 [(9, .long ((a * d) - (c0 * b))), (3, .long b), (7, .long d)] → va_P (dC, dI) cls9 [(h0, .inr (2, [.int wd, .ref apx, .ref apy, .ref aon, .ref aen, .int cn, .int pn, .int t37_0, .int tn, .ref afi, .ref ase])), (apx, .inl (cJ, 256, .inr (.inl px))), (apy, .inl (cJ, 256, .inr (.inl py))), (aon, .inl (cZ, 256, .inl on)), (aen, .inl (cI, 256, .inl en)), (afi, .inl (cJ, 6, .inr (.inl fi))), (ase, .inl (cJ, 6, .inr (.inl se)))] H → va_D A [(h0, .inr (2, [.int wd, .ref apx, .ref apy, .ref aon, .ref aen, .int cn, .int pn, .int t37_0, .int tn, .ref afi, .ref ase])), (apx, .inl (cJ, 256, .inr (.inl px))), (apy, .inl (cJ, 256, .inr (.inl py))), (aon, .inl (cZ, 256, .inl on)), (aen, .inl (cI, 256, .inl en)), (afi, .inl (cJ, 6, .inr (.inl fi))), (ase, .inl (cJ, 6, .inr (.inl se)))] → va_S A s.heap H locs → W p l e R s m args below meth c H locs 0 0 Q (F0 m 87 ls [.int t87_0, .int t75_0, .ref h0]) := by
              intro t87_0 hres ls H locs hl hP hD hS
              unfold km_line_j87 at hres
              refine lv_lload hx hb d_M_line_87 (lv_at hl 0 rfl) ?_
              refine cq_Si (As := [.long ((a * d) - (c0 * b))]) (rest := [.int t87_0, .int t75_0, .ref h0]) ⟨hx, hb, hml, hown, hts⟩ (c_km_sign l dC dI ((a * d) - (c0 * b))) (va_cwS 1 hts (gi_S tw_350 tw_351 tw_6 tw_352) rfl rfl rfl (by decide +kernel) ⟨(by rw [← hR]; exact Nat.le_of_ble_eq_true rfl), (by rw [← hR]; exact Nat.le_of_ble_eq_true rfl)⟩) rfl rfl hl.1 (Nat.le_of_ble_eq_true rfl) d_M_line_89 ⟨Nat.zero_le _, Nat.zero_le _⟩ hP hS hA (fun H locs hP hS => ?_)
              refine lv_lload hx hb d_M_line_92 (lv_at hl 2 rfl) ?_
              refine lv_lload_n hx hb d_M_line_94 rfl (lv_at hl 1 rfl) ?_
              refine lv_lsub hx hb d_M_line_95 ?_
              refine cq_Si (As := [.long (d - b)]) (rest := [.int (km_sign ((a * d) - (c0 * b))), .int t87_0, .int t75_0, .ref h0]) ⟨hx, hb, hml, hown, hts⟩ (c_km_sign l dC dI (d - b)) (va_cwS 1 hts (gi_S tw_350 tw_351 tw_6 tw_352) rfl rfl rfl (by decide +kernel) ⟨(by rw [← hR]; exact Nat.le_of_ble_eq_true rfl), (by rw [← hR]; exact Nat.le_of_ble_eq_true rfl)⟩) rfl rfl hl.1 (Nat.le_of_ble_eq_true rfl) d_M_line_96 ⟨Nat.zero_le _, Nat.zero_le _⟩ hP hS hA (fun H locs hP hS => ?_)
              refine lv_imul hx hb d_M_line_99 ?_
              refine cm_v (wc := [(h0, .inr (2, [.int wd, .ref apx, .ref apy, .ref aon, .ref aen, .int cn, .int pn, .int t37_0, .int tn, .ref afi, .ref ase])), (apx, .inl (cJ, 256, .inr (.inl px))), (apy, .inl (cJ, 256, .inr (.inl py))), (aon, .inl (cZ, 256, .inl on)), (aen, .inl (cI, 256, .inl en)), (afi, .inl (cJ, 6, .inr (.inl fi))), (ase, .inl (cJ, 6, .inr (.inl se)))]) (wr := []) (W1 := [(h0, .inr (2, [.int wd, .ref apx, .ref apy, .ref aon, .ref aen, .int cn, .int pn, .int ((km_cross t37_0 tn t75_0 t87_0 ((km_sign ((a * d) - (c0 * b))) * (km_sign (d - b)))).1), .int ((km_cross t37_0 tn t75_0 t87_0 ((km_sign ((a * d) - (c0 * b))) * (km_sign (d - b)))).2), .ref afi, .ref ase])), (apx, .inl (cJ, 256, .inr (.inl px))), (apy, .inl (cJ, 256, .inr (.inl py))), (aon, .inl (cZ, 256, .inl on)), (aen, .inl (cI, 256, .inl en)), (afi, .inl (cJ, 6, .inr (.inl fi))), (ase, .inl (cJ, 6, .inr (.inl se)))]) (w2 := [(h0, .inr (2, [.int wd, .ref apx, .ref apy, .ref aon, .ref aen, .int cn, .int pn, .int ((km_cross t37_0 tn t75_0 t87_0 ((km_sign ((a * d) - (c0 * b))) * (km_sign (d - b)))).1), .int ((km_cross t37_0 tn t75_0 t87_0 ((km_sign ((a * d) - (c0 * b))) * (km_sign (d - b)))).2), .ref afi, .ref ase])), (apx, .inl (cJ, 256, .inr (.inl px))), (apy, .inl (cJ, 256, .inr (.inl py))), (aon, .inl (cZ, 256, .inl on)), (aen, .inl (cI, 256, .inl en)), (afi, .inl (cJ, 6, .inr (.inl fi))), (ase, .inl (cJ, 6, .inr (.inl se)))]) (va_runV (g := F0 m 100 ls [.int ((km_sign ((a * d) - (c0 * b))) * (km_sign (d - b))), .int t87_0, .int t75_0, .ref h0]) (As := [.int t75_0, .int t87_0, .int ((km_sign ((a * d) - (c0 * b))) * (km_sign (d - b)))]) (rest := []) ⟨hx, hb, hml, hown, hts⟩ (c_km_cross l dC dI h0 apx apy aon aen afi ase cJ cZ cI wd cn pn px py on en fi se t37_0 tn t75_0 t87_0 ((km_sign ((a * d) - (c0 * b))) * (km_sign (d - b)))  _) (cwV 3 hts (gi_V tw_353 tw_355 ts_13 tw_6 tw_356) rfl rfl rfl (by decide +kernel) ⟨(by rw [← hR]; exact Nat.le_of_ble_eq_true rfl), (by rw [← hR]; exact Nat.le_of_ble_eq_true rfl)⟩) ⟨mc_blind, va_recv (ci := 2) (q := (R_M, F_M, 11)) hK hP rfl (q0 := 0) rfl, mc_pre (hP.sub [0, 1, 2, 3, 4, 5, 6] rfl) (hK.sub [0, 1, 2] rfl) (hD.sub [0, 1, 2, 3, 4, 5, 6] (by decide) rfl)⟩ rfl rfl hl.1 rfl (lv_room (Nat.le_of_ble_eq_true rfl)) d_M_line_100 ⟨Nat.zero_le _, Nat.zero_le _⟩) hP hD hS hA [0, 1, 2, 3, 4, 5, 6] [] [0, 1, 2, 3, 4, 5, 6] rfl rfl (by decide) (by decide) rfl rfl (by decide) (fun H locs hP hD hS => ?_)
              have K103 : ∀ (x100 : Int32 × Int32), km_line_k103 x100 = RES → ∀ (ls : Array Slot) (H : Heap) (locs : List Loc), lv_has ls 11 [(9, .long ((a * d) - (c0 * b))), (3, .long b), (7, .long d)] → va_P (dC, dI) cls9 [(h0, .inr (2, [.int wd, .ref apx, .ref apy, .ref aon, .ref aen, .int cn, .int pn, .int x100.1, .int x100.2, .ref afi, .ref ase])), (apx, .inl (cJ, 256, .inr (.inl px))), (apy, .inl (cJ, 256, .inr (.inl py))), (aon, .inl (cZ, 256, .inl on)), (aen, .inl (cI, 256, .inl en)), (afi, .inl (cJ, 6, .inr (.inl fi))), (ase, .inl (cJ, 6, .inr (.inl se)))] H → va_D A [(h0, .inr (2, [.int wd, .ref apx, .ref apy, .ref aon, .ref aen, .int cn, .int pn, .int x100.1, .int x100.2, .ref afi, .ref ase])), (apx, .inl (cJ, 256, .inr (.inl px))), (apy, .inl (cJ, 256, .inr (.inl py))), (aon, .inl (cZ, 256, .inl on)), (aen, .inl (cI, 256, .inl en)), (afi, .inl (cJ, 6, .inr (.inl fi))), (ase, .inl (cJ, 6, .inr (.inl se)))] → va_S A s.heap H locs → W p l e R s m args below meth c H locs 0 0 Q (F0 m 103 ls []) := by
                intro x100 hres ls H locs hl hP hD hS
                unfold km_line_k103 at hres
                exact J103 x100.1 x100.2 hres ls _ _ (lv_sub hl [] rfl) hP hD hS
              exact K103 (km_cross t37_0 tn t75_0 t87_0 ((km_sign ((a * d) - (c0 * b))) * (km_sign (d - b)))) hres ls _ _ (lv_sub hl [0, 1, 2] rfl) hP hD hS
            refine lv_if_lt (tgt := 86) hx hb d_M_line_79 rfl (fun h79 => ?_) (fun h79 => ?_)
            · rw [if_pos h79] at hres
              refine lv_iconst (v := 0) hx hb d_M_line_86 (by decide) ?_
              exact J87 0 hres ls _ _ (lv_sub hl [0, 1, 2] rfl) hP hD hS
            · rw [if_neg h79] at hres
              refine lv_iconst (v := 1) hx hb d_M_line_82 (by decide) ?_
              refine lv_goto (tgt := 87) hx hb d_M_line_83 rfl ?_
              exact J87 1 hres ls _ _ (lv_sub hl [0, 1, 2] rfl) hP hD hS
          refine lv_if_lt (tgt := 74) hx hb d_M_line_67 rfl (fun h67 => ?_) (fun h67 => ?_)
          · rw [if_pos h67] at hres
            refine lv_iconst (v := 0) hx hb d_M_line_74 (by decide) ?_
            exact J75 0 hres ls _ _ (lv_sub hl [0, 2, 3] rfl) hP hD hS
          · rw [if_neg h67] at hres
            refine lv_iconst (v := 1) hx hb d_M_line_70 (by decide) ?_
            refine lv_goto (tgt := 75) hx hb d_M_line_71 rfl ?_
            exact J75 1 hres ls _ _ (lv_sub hl [0, 2, 3] rfl) hP hD hS
      refine lv_if_lt (tgt := 59) hx hb d_M_line_52 rfl (fun h52 => ?_) (fun h52 => ?_)
      · rw [if_pos h52] at hres
        refine lv_iconst (v := 0) hx hb d_M_line_59 (by decide) ?_
        exact J60 0 hres ls _ _ (lv_sub hl [0, 1, 2, 3] rfl) hP hD hS
      · rw [if_neg h52] at hres
        refine lv_iconst (v := 1) hx hb d_M_line_55 (by decide) ?_
        refine lv_goto (tgt := 60) hx hb d_M_line_56 rfl ?_
        exact J60 1 hres ls _ _ (lv_sub hl [0, 1, 2, 3] rfl) hP hD hS
    refine lv_if_lt (tgt := 47) hx hb d_M_line_40 rfl (fun h40 => ?_) (fun h40 => ?_)
    · rw [if_pos h40] at hres
      refine lv_iconst (v := 0) hx hb d_M_line_47 (by decide) ?_
      exact J48 0 hres ls _ _ (lv_sub hl [0, 1, 2, 3] rfl) hP hD hS
    · rw [if_neg h40] at hres
      refine lv_iconst (v := 1) hx hb d_M_line_43 (by decide) ?_
      refine lv_goto (tgt := 48) hx hb d_M_line_44 rfl ?_
      exact J48 1 hres ls _ _ (lv_sub hl [0, 1, 2, 3] rfl) hP hD hS
  refine lv_if_ne (tgt := 37) hx hb d_M_line_15 rfl (fun h15 => ?_) (fun h15 => ?_)
  · rw [if_neg h15] at hres
    exact J37 tc hres ls _ _ (lv_sub hl [0, 1, 3, 5] rfl) hP hD hS
  · rw [if_pos h15] at hres
    refine lv_lload_n hx hb d_M_line_18 rfl (lv_at hl 2 rfl) ?_
    refine lv_lload hx hb d_M_line_19 (lv_at hl 4 rfl) ?_
    refine lv_lmul hx hb d_M_line_21 ?_
    refine lv_lload_n hx hb d_M_line_22 rfl (lv_at hl 3 rfl) ?_
    refine lv_lload hx hb d_M_line_23 (lv_at hl 5 rfl) ?_
    refine lv_lmul hx hb d_M_line_25 ?_
    refine lv_ladd hx hb d_M_line_26 ?_
    refine lv_lconst (v := 0) hx hb d_M_line_27 (by decide) ?_
    refine W.lcmp hx hb d_M_line_28 ?_
    refine lv_if_gt (tgt := 37) hx hb d_M_line_29 rfl (fun h29 => ?_) (fun h29 => ?_)
    · rw [if_pos h29] at hres
      exact J37 tc hres ls _ _ (lv_sub hl [0, 1, 3, 5] rfl) hP hD hS
    · rw [if_neg h29] at hres
      refine lv_aload_n hx hb d_M_line_32 rfl (lv_at hl 1 rfl) ?_
      refine lv_iconst (v := 1) hx hb d_M_line_33 (by decide) ?_
      refine va_put (D := (dC, dI)) (ci := 2) (v := .int 1) (ty := .boolean) (C := R_M) (T := F_M) (N := 11) hx hb hts in_M tf_M tok_M n_M hown hK hP hD hS 0 rfl rfl 7 (by decide) (hts _ tw_286) (fun _ h9 => h9) rfl (by decide +kernel) (by rfl) (by rfl) (Nat.le_of_ble_eq_true rfl) d_M_line_34 (fun H locs hP hD hS => ?_)
      have hP : va_P (dC, dI) cls9 [(h0, .inr (2, [.int wd, .ref apx, .ref apy, .ref aon, .ref aen, .int cn, .int pn, .int 1, .int tn, .ref afi, .ref ase])), (apx, .inl (cJ, 256, .inr (.inl px))), (apy, .inl (cJ, 256, .inr (.inl py))), (aon, .inl (cZ, 256, .inl on)), (aen, .inl (cI, 256, .inl en)), (afi, .inl (cJ, 6, .inr (.inl fi))), (ase, .inl (cJ, 6, .inr (.inl se)))] H := hP
      have hD : va_D A [(h0, .inr (2, [.int wd, .ref apx, .ref apy, .ref aon, .ref aen, .int cn, .int pn, .int 1, .int tn, .ref afi, .ref ase])), (apx, .inl (cJ, 256, .inr (.inl px))), (apy, .inl (cJ, 256, .inr (.inl py))), (aon, .inl (cZ, 256, .inl on)), (aen, .inl (cI, 256, .inl en)), (afi, .inl (cJ, 6, .inr (.inl fi))), (ase, .inl (cJ, 6, .inr (.inl se)))] := hD
      exact J37 1 hres ls _ _ (lv_sub hl [0, 1, 3, 5] rfl) hP hD hS
def km_side_k142 (x139 : Int32 × (Nat → Int64) × (Nat → Int64)) : Int32 × (Nat → Int64) × (Nat → Int64) := x139
def km_side (fi : Nat → Int64) (se : Nat → Int64) (ax : Int64) (ay : Int64) (bx : Int64) (bz : Int64) (cx : Int64) (cz : Int64) (dn : Int32) : Int32 × (Nat → Int64) × (Nat → Int64) := (if (lg_cmp ((ay - (2 * bz)) + cz) 0) = 0 then (km_sign ((((((ax - (2 * bx)) + cx) * ay) * ay) - (((2 * (bx - ax)) * (2 * (bz - ay))) * ay)) + ((ax * (2 * (bz - ay))) * (2 * (bz - ay)))), fi, se) else (km_side_k142 (km_so fi se (((2 * ((ay - (2 * bz)) + cz)) * ((((ay - (2 * bz)) + cz) * ax) - (((ax - (2 * bx)) + cx) * ay))) - (((((ay - (2 * bz)) + cz) * (2 * (bx - ax))) - (((ax - (2 * bx)) + cx) * (2 * (bz - ay)))) * (2 * (bz - ay)))) ((Int32.toInt64 dn) * ((((ay - (2 * bz)) + cz) * (2 * (bx - ax))) - (((ax - (2 * bx)) + cx) * (2 * (bz - ay))))) (((2 * (bz - ay)) * (2 * (bz - ay))) - ((4 * ((ay - (2 * bz)) + cz)) * ay)))))
set_option maxHeartbeats 4000000 in
set_option maxRecDepth 100000 in
theorem c_km_side (l : Launch) (dC : Nat → ClassId) (dI : Nat → Nat → Nat) (h0 : Nat) (apx : Nat) (apy : Nat) (aon : Nat) (aen : Nat) (afi : Nat) (ase : Nat) (cJ : ClassId) (cZ : ClassId) (cI : ClassId) (wd : Int32) (cn : Int32) (pn : Int32) (tc : Int32) (tn : Int32) (px : Nat → Int64) (py : Nat → Int64) (on : Nat → Int32) (en : Nat → Int32) (fi : Nat → Int64) (se : Nat → Int64) (ax : Int64) (ay : Int64) (bx : Int64) (bz : Int64) (cx : Int64) (cz : Int64) (dn : Int32)  : mc_i l y_M_side w_M_side { frames := 4, cells := 0, slots := 0, locals := 122 } (dC, dI) cls9 [(h0, .inr (2, [.int wd, .ref apx, .ref apy, .ref aon, .ref aen, .int cn, .int pn, .int tc, .int tn, .ref afi, .ref ase])), (apx, .inl (cJ, 256, .inr (.inl px))), (apy, .inl (cJ, 256, .inr (.inl py))), (aon, .inl (cZ, 256, .inl on)), (aen, .inl (cI, 256, .inl en)), (afi, .inl (cJ, 6, .inr (.inl fi))), (ase, .inl (cJ, 6, .inr (.inl se)))] [(h0, .inr (2, [.int wd, .ref apx, .ref apy, .ref aon, .ref aen, .int cn, .int pn, .int tc, .int tn, .ref afi, .ref ase])), (apx, .inl (cJ, 256, .inr (.inl px))), (apy, .inl (cJ, 256, .inr (.inl py))), (aon, .inl (cZ, 256, .inl on)), (aen, .inl (cI, 256, .inl en)), (afi, .inl (cJ, 6, .inr (.inl ((km_side fi se ax ay bx bz cx cz dn).2.1)))), (ase, .inl (cJ, 6, .inr (.inl ((km_side fi se ax ay bx bz cx cz dn).2.2))))] [(cJ, .long), (cZ, .boolean), (cI, .int)] [.ref h0, .long ax, .long ay, .long bx, .long bz, .long cx, .long cz, .int dn] ((km_side fi se ax ay bx bz cx cz dn).1) := by
  intro sz
  refine Met.ofW (cc := b_M_side) (maxL := 26) (ret := (some .int)) (by decide) rfl ?_
  intro p e s m args below meth c s₁ B hml hv
  obtain ⟨hargs, hsz, hP, hK, hD0⟩ := hv
  have hx := B.exec
  have hb := B.bytes
  have hr := B.returns
  have hts : ∀ w ∈ lw_w, w.before args s = true := fun w h => atoms_spec (ws := w_M_side) B.pre w (List.mem_cons_of_mem _ h)
  have hown : s.vm.findClass R_M = some m.cls := findClass_of_methodNamed B.named
  have hlocks := B.notSynchronized
  subst hsz
  have hD := hD0.self (sz := s.heap.size)
  generalize hR : (headSpec w_M_side { frames := 4, cells := 0, slots := 0, locals := 122 }).room = R
  generalize hAe : va_A [(h0, .inr (2, [.int wd, .ref apx, .ref apy, .ref aon, .ref aen, .int cn, .int pn, .int tc, .int tn, .ref afi, .ref ase])), (apx, .inl (cJ, 256, .inr (.inl px))), (apy, .inl (cJ, 256, .inr (.inl py))), (aon, .inl (cZ, 256, .inl on)), (aen, .inl (cI, 256, .inl en)), (afi, .inl (cJ, 6, .inr (.inl fi))), (ase, .inl (cJ, 6, .inr (.inl se)))] s.heap.size = A at hD ⊢
  have hA : ∀ q : Nat, s.heap.size ≤ q → A q := fun q h => by rw [← hAe]; exact Or.inr h
  have hS : va_S A s.heap s.heap [] := va_S.rf
  generalize hRES : km_side fi se ax ay bx bz cx cz dn = RES
  have hres := hRES
  have hl := lv_entry [.ref h0, .long ax, .long ay, .long bx, .long bz, .long cx, .long cz, .int dn] (n := 26) (Nat.le_of_ble_eq_true rfl)
  have hent : entryFrame m args 26 = F0 m 0 (lg_sl [.ref h0, .long ax, .long ay, .long bx, .long bz, .long cx, .long cz, .int dn] ++ List.replicate (26 - (lg_sl [.ref h0, .long ax, .long ay, .long bx, .long bz, .long cx, .long cz, .int dn]).length) Slot.unset).toArray [] := by rw [hargs]; exact lg_entry_eq m [.ref h0, .long ax, .long ay, .long bx, .long bz, .long cx, .long cz, .int dn] 26
  rw [hent]
  clear hent
  generalize (lg_sl [.ref h0, .long ax, .long ay, .long bx, .long bz, .long cx, .long cz, .int dn] ++ List.replicate (26 - (lg_sl [.ref h0, .long ax, .long ay, .long bx, .long bz, .long cx, .long cz, .int dn]).length) Slot.unset).toArray = ls at hl ⊢
  have hl : lv_has ls 26 [(0, .ref h0), (1, .long ax), (3, .long ay), (5, .long bx), (7, .long bz), (9, .long cx), (11, .long cz), (13, .int dn)] := hl
  have hP : va_P (dC, dI) cls9 [(h0, .inr (2, [.int wd, .ref apx, .ref apy, .ref aon, .ref aen, .int cn, .int pn, .int tc, .int tn, .ref afi, .ref ase])), (apx, .inl (cJ, 256, .inr (.inl px))), (apy, .inl (cJ, 256, .inr (.inl py))), (aon, .inl (cZ, 256, .inl on)), (aen, .inl (cI, 256, .inl en)), (afi, .inl (cJ, 6, .inr (.inl fi))), (ase, .inl (cJ, 6, .inr (.inl se)))] s.heap := hP
  have hD : va_D A [(h0, .inr (2, [.int wd, .ref apx, .ref apy, .ref aon, .ref aen, .int cn, .int pn, .int tc, .int tn, .ref afi, .ref ase])), (apx, .inl (cJ, 256, .inr (.inl px))), (apy, .inl (cJ, 256, .inr (.inl py))), (aon, .inl (cZ, 256, .inl on)), (aen, .inl (cI, 256, .inl en)), (afi, .inl (cJ, 6, .inr (.inl fi))), (ase, .inl (cJ, 6, .inr (.inl se)))] := hD
  clear hD0 hRES hAe
  unfold km_side at hres
  generalize hQ : MQ below (va_Qi (fun x (_ : Unit) => x = RES.1) (fun _ t => va_P (dC, dI) cls9 [(h0, .inr (2, [.int wd, .ref apx, .ref apy, .ref aon, .ref aen, .int cn, .int pn, .int tc, .int tn, .ref afi, .ref ase])), (apx, .inl (cJ, 256, .inr (.inl px))), (apy, .inl (cJ, 256, .inr (.inl py))), (aon, .inl (cZ, 256, .inl on)), (aen, .inl (cI, 256, .inl en)), (afi, .inl (cJ, 6, .inr (.inl RES.2.1))), (ase, .inl (cJ, 6, .inr (.inl RES.2.2)))] t.heap ∧ va_K (dC, dI) cls9 [(cJ, .long), (cZ, .boolean), (cI, .int)] t ∧ va_D A [(h0, .inr (2, [.int wd, .ref apx, .ref apy, .ref aon, .ref aen, .int cn, .int pn, .int tc, .int tn, .ref afi, .ref ase])), (apx, .inl (cJ, 256, .inr (.inl px))), (apy, .inl (cJ, 256, .inr (.inl py))), (aon, .inl (cZ, 256, .inl on)), (aen, .inl (cI, 256, .inl en)), (afi, .inl (cJ, 6, .inr (.inl RES.2.1))), (ase, .inl (cJ, 6, .inr (.inl RES.2.2)))]) A) args s 0 0 A = Q
  replace hQ := hQ.symm
  refine lv_lload_n hx hb d_M_side_0 rfl (lv_at hl 1 rfl) ?_
  refine lv_ldc2 (v := 2) hx hb hown (hts _ tw_321) d_M_side_1 ?_
  refine lv_lload hx hb d_M_side_4 (lv_at hl 3 rfl) ?_
  refine lv_lmul hx hb d_M_side_6 ?_
  refine lv_lsub hx hb d_M_side_7 ?_
  refine lv_lload hx hb d_M_side_8 (lv_at hl 5 rfl) ?_
  refine lv_ladd hx hb d_M_side_10 ?_
  refine lv_lstore (lv' := [(14, .long ((ax - (2 * bx)) + cx)), (0, .ref h0), (1, .long ax), (3, .long ay), (5, .long bx), (7, .long bz), (9, .long cx), (11, .long cz), (13, .int dn)]) hx hb d_M_side_11 hl (by decide) rfl (fun ls hl => ?_)
  refine lv_ldc2 (v := 2) hx hb hown (hts _ tw_321) d_M_side_13 ?_
  refine lv_lload hx hb d_M_side_16 (lv_at hl 4 rfl) ?_
  refine lv_lload_n hx hb d_M_side_18 rfl (lv_at hl 2 rfl) ?_
  refine lv_lsub hx hb d_M_side_19 ?_
  refine lv_lmul hx hb d_M_side_20 ?_
  refine lv_lstore (lv' := [(16, .long (2 * (bx - ax))), (14, .long ((ax - (2 * bx)) + cx)), (0, .ref h0), (1, .long ax), (3, .long ay), (5, .long bx), (7, .long bz), (9, .long cx), (11, .long cz), (13, .int dn)]) hx hb d_M_side_21 hl (by decide) rfl (fun ls hl => ?_)
  refine lv_lload_n hx hb d_M_side_23 rfl (lv_at hl 4 rfl) ?_
  refine lv_ldc2 (v := 2) hx hb hown (hts _ tw_321) d_M_side_24 ?_
  refine lv_lload hx hb d_M_side_27 (lv_at hl 6 rfl) ?_
  refine lv_lmul hx hb d_M_side_29 ?_
  refine lv_lsub hx hb d_M_side_30 ?_
  refine lv_lload hx hb d_M_side_31 (lv_at hl 8 rfl) ?_
  refine lv_ladd hx hb d_M_side_33 ?_
  refine lv_lstore (lv' := [(18, .long ((ay - (2 * bz)) + cz)), (16, .long (2 * (bx - ax))), (14, .long ((ax - (2 * bx)) + cx)), (0, .ref h0), (1, .long ax), (3, .long ay), (5, .long bx), (7, .long bz), (9, .long cx), (11, .long cz), (13, .int dn)]) hx hb d_M_side_34 hl (by decide) rfl (fun ls hl => ?_)
  refine lv_ldc2 (v := 2) hx hb hown (hts _ tw_321) d_M_side_36 ?_
  refine lv_lload hx hb d_M_side_39 (lv_at hl 7 rfl) ?_
  refine lv_lload_n hx hb d_M_side_41 rfl (lv_at hl 5 rfl) ?_
  refine lv_lsub hx hb d_M_side_42 ?_
  refine lv_lmul hx hb d_M_side_43 ?_
  refine lv_lstore (lv' := [(20, .long (2 * (bz - ay))), (18, .long ((ay - (2 * bz)) + cz)), (16, .long (2 * (bx - ax))), (14, .long ((ax - (2 * bx)) + cx)), (0, .ref h0), (1, .long ax), (3, .long ay), (5, .long bx), (7, .long bz), (9, .long cx), (11, .long cz), (13, .int dn)]) hx hb d_M_side_44 hl (by decide) rfl (fun ls hl => ?_)
  refine lv_lload hx hb d_M_side_46 (lv_at hl 1 rfl) ?_
  refine lv_lconst (v := 0) hx hb d_M_side_48 (by decide) ?_
  refine W.lcmp hx hb d_M_side_49 ?_
  refine lv_if_ne (tgt := 79) hx hb d_M_side_50 rfl (fun h50 => ?_) (fun h50 => ?_)
  · rw [if_neg h50] at hres
    refine lv_lload hx hb d_M_side_79 (lv_at hl 1 rfl) ?_
    refine lv_lload hx hb d_M_side_81 (lv_at hl 2 rfl) ?_
    refine lv_lmul hx hb d_M_side_83 ?_
    refine lv_lload hx hb d_M_side_84 (lv_at hl 3 rfl) ?_
    refine lv_lload hx hb d_M_side_86 (lv_at hl 0 rfl) ?_
    refine lv_lmul hx hb d_M_side_88 ?_
    refine lv_lsub hx hb d_M_side_89 ?_
    refine lv_lstore (lv' := [(22, .long ((((ay - (2 * bz)) + cz) * (2 * (bx - ax))) - (((ax - (2 * bx)) + cx) * (2 * (bz - ay))))), (20, .long (2 * (bz - ay))), (18, .long ((ay - (2 * bz)) + cz)), (16, .long (2 * (bx - ax))), (14, .long ((ax - (2 * bx)) + cx)), (0, .ref h0), (1, .long ax), (3, .long ay), (5, .long bx), (7, .long bz), (9, .long cx), (11, .long cz), (13, .int dn)]) hx hb d_M_side_90 hl (by decide) rfl (fun ls hl => ?_)
    refine lv_lload hx hb d_M_side_92 (lv_at hl 2 rfl) ?_
    refine lv_lload_n hx hb d_M_side_94 rfl (lv_at hl 6 rfl) ?_
    refine lv_lmul hx hb d_M_side_95 ?_
    refine lv_lload hx hb d_M_side_96 (lv_at hl 4 rfl) ?_
    refine lv_lload_n hx hb d_M_side_98 rfl (lv_at hl 7 rfl) ?_
    refine lv_lmul hx hb d_M_side_99 ?_
    refine lv_lsub hx hb d_M_side_100 ?_
    refine lv_lstore (lv' := [(24, .long ((((ay - (2 * bz)) + cz) * ax) - (((ax - (2 * bx)) + cx) * ay))), (22, .long ((((ay - (2 * bz)) + cz) * (2 * (bx - ax))) - (((ax - (2 * bx)) + cx) * (2 * (bz - ay))))), (20, .long (2 * (bz - ay))), (18, .long ((ay - (2 * bz)) + cz)), (16, .long (2 * (bx - ax))), (14, .long ((ax - (2 * bx)) + cx)), (0, .ref h0), (1, .long ax), (3, .long ay), (5, .long bx), (7, .long bz), (9, .long cx), (11, .long cz), (13, .int dn)]) hx hb d_M_side_101 hl (by decide) rfl (fun ls hl => ?_)
    refine lv_aload_n hx hb d_M_side_103 rfl (lv_at hl 6 rfl) ?_
    refine lv_ldc2 (v := 2) hx hb hown (hts _ tw_321) d_M_side_104 ?_
    refine lv_lload hx hb d_M_side_107 (lv_at hl 3 rfl) ?_
    refine lv_lmul hx hb d_M_side_109 ?_
    refine lv_lload hx hb d_M_side_110 (lv_at hl 0 rfl) ?_
    refine lv_lmul hx hb d_M_side_112 ?_
    refine lv_lload hx hb d_M_side_113 (lv_at hl 1 rfl) ?_
    refine lv_lload hx hb d_M_side_115 (lv_at hl 2 rfl) ?_
    refine lv_lmul hx hb d_M_side_117 ?_
    refine lv_lsub hx hb d_M_side_118 ?_
    refine lv_iload hx hb d_M_side_119 (lv_at hl 13 rfl) ?_
    refine lv_i2l (v := Int32.toInt64 dn) hx hb d_M_side_121 rfl ?_
    refine lv_lload hx hb d_M_side_122 (lv_at hl 1 rfl) ?_
    refine lv_lmul hx hb d_M_side_124 ?_
    refine lv_lload hx hb d_M_side_125 (lv_at hl 2 rfl) ?_
    refine lv_lload hx hb d_M_side_127 (lv_at hl 2 rfl) ?_
    refine lv_lmul hx hb d_M_side_129 ?_
    refine lv_ldc2 (v := 4) hx hb hown (hts _ tw_375) d_M_side_130 ?_
    refine lv_lload hx hb d_M_side_133 (lv_at hl 3 rfl) ?_
    refine lv_lmul hx hb d_M_side_135 ?_
    refine lv_lload_n hx hb d_M_side_136 rfl (lv_at hl 8 rfl) ?_
    refine lv_lmul hx hb d_M_side_137 ?_
    refine lv_lsub hx hb d_M_side_138 ?_
    refine cm_i (wc := [(h0, .inr (2, [.int wd, .ref apx, .ref apy, .ref aon, .ref aen, .int cn, .int pn, .int tc, .int tn, .ref afi, .ref ase])), (apx, .inl (cJ, 256, .inr (.inl px))), (apy, .inl (cJ, 256, .inr (.inl py))), (aon, .inl (cZ, 256, .inl on)), (aen, .inl (cI, 256, .inl en)), (afi, .inl (cJ, 6, .inr (.inl fi))), (ase, .inl (cJ, 6, .inr (.inl se)))]) (wr := []) (W1 := [(h0, .inr (2, [.int wd, .ref apx, .ref apy, .ref aon, .ref aen, .int cn, .int pn, .int tc, .int tn, .ref afi, .ref ase])), (apx, .inl (cJ, 256, .inr (.inl px))), (apy, .inl (cJ, 256, .inr (.inl py))), (aon, .inl (cZ, 256, .inl on)), (aen, .inl (cI, 256, .inl en)), (afi, .inl (cJ, 6, .inr (.inl ((km_so fi se (((2 * ((ay - (2 * bz)) + cz)) * ((((ay - (2 * bz)) + cz) * ax) - (((ax - (2 * bx)) + cx) * ay))) - (((((ay - (2 * bz)) + cz) * (2 * (bx - ax))) - (((ax - (2 * bx)) + cx) * (2 * (bz - ay)))) * (2 * (bz - ay)))) ((Int32.toInt64 dn) * ((((ay - (2 * bz)) + cz) * (2 * (bx - ax))) - (((ax - (2 * bx)) + cx) * (2 * (bz - ay))))) (((2 * (bz - ay)) * (2 * (bz - ay))) - ((4 * ((ay - (2 * bz)) + cz)) * ay))).2.1)))), (ase, .inl (cJ, 6, .inr (.inl ((km_so fi se (((2 * ((ay - (2 * bz)) + cz)) * ((((ay - (2 * bz)) + cz) * ax) - (((ax - (2 * bx)) + cx) * ay))) - (((((ay - (2 * bz)) + cz) * (2 * (bx - ax))) - (((ax - (2 * bx)) + cx) * (2 * (bz - ay)))) * (2 * (bz - ay)))) ((Int32.toInt64 dn) * ((((ay - (2 * bz)) + cz) * (2 * (bx - ax))) - (((ax - (2 * bx)) + cx) * (2 * (bz - ay))))) (((2 * (bz - ay)) * (2 * (bz - ay))) - ((4 * ((ay - (2 * bz)) + cz)) * ay))).2.2))))]) (w2 := [(h0, .inr (2, [.int wd, .ref apx, .ref apy, .ref aon, .ref aen, .int cn, .int pn, .int tc, .int tn, .ref afi, .ref ase])), (apx, .inl (cJ, 256, .inr (.inl px))), (apy, .inl (cJ, 256, .inr (.inl py))), (aon, .inl (cZ, 256, .inl on)), (aen, .inl (cI, 256, .inl en)), (afi, .inl (cJ, 6, .inr (.inl ((km_so fi se (((2 * ((ay - (2 * bz)) + cz)) * ((((ay - (2 * bz)) + cz) * ax) - (((ax - (2 * bx)) + cx) * ay))) - (((((ay - (2 * bz)) + cz) * (2 * (bx - ax))) - (((ax - (2 * bx)) + cx) * (2 * (bz - ay)))) * (2 * (bz - ay)))) ((Int32.toInt64 dn) * ((((ay - (2 * bz)) + cz) * (2 * (bx - ax))) - (((ax - (2 * bx)) + cx) * (2 * (bz - ay))))) (((2 * (bz - ay)) * (2 * (bz - ay))) - ((4 * ((ay - (2 * bz)) + cz)) * ay))).2.1)))), (ase, .inl (cJ, 6, .inr (.inl ((km_so fi se (((2 * ((ay - (2 * bz)) + cz)) * ((((ay - (2 * bz)) + cz) * ax) - (((ax - (2 * bx)) + cx) * ay))) - (((((ay - (2 * bz)) + cz) * (2 * (bx - ax))) - (((ax - (2 * bx)) + cx) * (2 * (bz - ay)))) * (2 * (bz - ay)))) ((Int32.toInt64 dn) * ((((ay - (2 * bz)) + cz) * (2 * (bx - ax))) - (((ax - (2 * bx)) + cx) * (2 * (bz - ay))))) (((2 * (bz - ay)) * (2 * (bz - ay))) - ((4 * ((ay - (2 * bz)) + cz)) * ay))).2.2))))]) (va_runV (g := F0 m 139 ls [.long (((2 * (bz - ay)) * (2 * (bz - ay))) - ((4 * ((ay - (2 * bz)) + cz)) * ay)), .long ((Int32.toInt64 dn) * ((((ay - (2 * bz)) + cz) * (2 * (bx - ax))) - (((ax - (2 * bx)) + cx) * (2 * (bz - ay))))), .long (((2 * ((ay - (2 * bz)) + cz)) * ((((ay - (2 * bz)) + cz) * ax) - (((ax - (2 * bx)) + cx) * ay))) - (((((ay - (2 * bz)) + cz) * (2 * (bx - ax))) - (((ax - (2 * bx)) + cx) * (2 * (bz - ay)))) * (2 * (bz - ay)))), .ref h0]) (As := [.long (((2 * ((ay - (2 * bz)) + cz)) * ((((ay - (2 * bz)) + cz) * ax) - (((ax - (2 * bx)) + cx) * ay))) - (((((ay - (2 * bz)) + cz) * (2 * (bx - ax))) - (((ax - (2 * bx)) + cx) * (2 * (bz - ay)))) * (2 * (bz - ay)))), .long ((Int32.toInt64 dn) * ((((ay - (2 * bz)) + cz) * (2 * (bx - ax))) - (((ax - (2 * bx)) + cx) * (2 * (bz - ay))))), .long (((2 * (bz - ay)) * (2 * (bz - ay))) - ((4 * ((ay - (2 * bz)) + cz)) * ay))]) (rest := []) ⟨hx, hb, hml, hown, hts⟩ (c_km_so l dC dI h0 apx apy aon aen afi ase cJ cZ cI wd cn pn tc tn px py on en fi se (((2 * ((ay - (2 * bz)) + cz)) * ((((ay - (2 * bz)) + cz) * ax) - (((ax - (2 * bx)) + cx) * ay))) - (((((ay - (2 * bz)) + cz) * (2 * (bx - ax))) - (((ax - (2 * bx)) + cx) * (2 * (bz - ay)))) * (2 * (bz - ay)))) ((Int32.toInt64 dn) * ((((ay - (2 * bz)) + cz) * (2 * (bx - ax))) - (((ax - (2 * bx)) + cx) * (2 * (bz - ay))))) (((2 * (bz - ay)) * (2 * (bz - ay))) - ((4 * ((ay - (2 * bz)) + cz)) * ay))  _) (cwV 3 hts (gi_V tw_380 tw_382 ts_17 tw_6 tw_383) rfl rfl rfl (by decide +kernel) ⟨(by rw [← hR]; exact Nat.le_of_ble_eq_true rfl), (by rw [← hR]; exact Nat.le_of_ble_eq_true rfl)⟩) ⟨mc_blind, va_recv (ci := 2) (q := (R_M, F_M, 11)) hK hP rfl (q0 := 0) rfl, mc_pre (hP.sub [0, 1, 2, 3, 4, 5, 6] rfl) (hK.sub [0, 1, 2] rfl) (hD.sub [0, 1, 2, 3, 4, 5, 6] (by decide) rfl)⟩ rfl rfl hl.1 rfl (lv_room (Nat.le_of_ble_eq_true rfl)) d_M_side_139 ⟨Nat.zero_le _, Nat.zero_le _⟩) hP hD hS hA [0, 1, 2, 3, 4, 5, 6] [] [0, 1, 2, 3, 4, 5, 6] rfl rfl (by decide) (by decide) rfl rfl (by decide) (fun H locs hP hD hS => ?_)
    have K142 : ∀ (x139 : Int32 × (Nat → Int64) × (Nat → Int64)), km_side_k142 x139 = RES → ∀ (ls : Array Slot) (H : Heap) (locs : List Loc), lv_has ls 26 [(24, .long ((((ay - (2 * bz)) + cz) * ax) - (((ax - (2 * bx)) + cx) * ay))), (22, .long ((((ay - (2 * bz)) + cz) * (2 * (bx - ax))) - (((ax - (2 * bx)) + cx) * (2 * (bz - ay))))), (20, .long (2 * (bz - ay))), (18, .long ((ay - (2 * bz)) + cz)), (16, .long (2 * (bx - ax))), (14, .long ((ax - (2 * bx)) + cx)), (0, .ref h0), (1, .long ax), (3, .long ay), (5, .long bx), (7, .long bz), (9, .long cx), (11, .long cz), (13, .int dn)] → va_P (dC, dI) cls9 [(h0, .inr (2, [.int wd, .ref apx, .ref apy, .ref aon, .ref aen, .int cn, .int pn, .int tc, .int tn, .ref afi, .ref ase])), (apx, .inl (cJ, 256, .inr (.inl px))), (apy, .inl (cJ, 256, .inr (.inl py))), (aon, .inl (cZ, 256, .inl on)), (aen, .inl (cI, 256, .inl en)), (afi, .inl (cJ, 6, .inr (.inl x139.2.1))), (ase, .inl (cJ, 6, .inr (.inl x139.2.2)))] H → va_D A [(h0, .inr (2, [.int wd, .ref apx, .ref apy, .ref aon, .ref aen, .int cn, .int pn, .int tc, .int tn, .ref afi, .ref ase])), (apx, .inl (cJ, 256, .inr (.inl px))), (apy, .inl (cJ, 256, .inr (.inl py))), (aon, .inl (cZ, 256, .inl on)), (aen, .inl (cI, 256, .inl en)), (afi, .inl (cJ, 6, .inr (.inl x139.2.1))), (ase, .inl (cJ, 6, .inr (.inl x139.2.2)))] → va_S A s.heap H locs → W p l e R s m args below meth c H locs 0 0 Q (F0 m 142 ls [.int x139.1]) := by
      intro x139 hres ls H locs hl hP hD hS
      unfold km_side_k142 at hres
      rw [hQ]
      subst hres
      exact W.iret (v := x139.1) hx hb hr (fun t ht hW => ⟨⟨_, (), rfl, rfl, ⟨by rw [ht]; exact hP, va_K.moved hW.alike hK, hD⟩⟩, hS.F ht⟩) hS.2.2 d_M_side_142
    exact K142 (km_so fi se (((2 * ((ay - (2 * bz)) + cz)) * ((((ay - (2 * bz)) + cz) * ax) - (((ax - (2 * bx)) + cx) * ay))) - (((((ay - (2 * bz)) + cz) * (2 * (bx - ax))) - (((ax - (2 * bx)) + cx) * (2 * (bz - ay)))) * (2 * (bz - ay)))) ((Int32.toInt64 dn) * ((((ay - (2 * bz)) + cz) * (2 * (bx - ax))) - (((ax - (2 * bx)) + cx) * (2 * (bz - ay))))) (((2 * (bz - ay)) * (2 * (bz - ay))) - ((4 * ((ay - (2 * bz)) + cz)) * ay))) hres ls _ _ (lv_sub hl [0, 1, 2, 3, 4, 5, 6, 7, 8, 9, 10, 11, 12, 13] rfl) hP hD hS
  · rw [if_pos h50] at hres
    refine lv_lload hx hb d_M_side_53 (lv_at hl 3 rfl) ?_
    refine lv_lload_n hx hb d_M_side_55 rfl (lv_at hl 6 rfl) ?_
    refine lv_lmul hx hb d_M_side_56 ?_
    refine lv_lload_n hx hb d_M_side_57 rfl (lv_at hl 6 rfl) ?_
    refine lv_lmul hx hb d_M_side_58 ?_
    refine lv_lload hx hb d_M_side_59 (lv_at hl 2 rfl) ?_
    refine lv_lload hx hb d_M_side_61 (lv_at hl 0 rfl) ?_
    refine lv_lmul hx hb d_M_side_63 ?_
    refine lv_lload_n hx hb d_M_side_64 rfl (lv_at hl 6 rfl) ?_
    refine lv_lmul hx hb d_M_side_65 ?_
    refine lv_lsub hx hb d_M_side_66 ?_
    refine lv_lload_n hx hb d_M_side_67 rfl (lv_at hl 5 rfl) ?_
    refine lv_lload hx hb d_M_side_68 (lv_at hl 0 rfl) ?_
    refine lv_lmul hx hb d_M_side_70 ?_
    refine lv_lload hx hb d_M_side_71 (lv_at hl 0 rfl) ?_
    refine lv_lmul hx hb d_M_side_73 ?_
    refine lv_ladd hx hb d_M_side_74 ?_
    refine cq_Si (As := [.long ((((((ax - (2 * bx)) + cx) * ay) * ay) - (((2 * (bx - ax)) * (2 * (bz - ay))) * ay)) + ((ax * (2 * (bz - ay))) * (2 * (bz - ay))))]) (rest := []) ⟨hx, hb, hml, hown, hts⟩ (c_km_sign l dC dI ((((((ax - (2 * bx)) + cx) * ay) * ay) - (((2 * (bx - ax)) * (2 * (bz - ay))) * ay)) + ((ax * (2 * (bz - ay))) * (2 * (bz - ay))))) (va_cwS 1 hts (gi_S tw_350 tw_351 tw_6 tw_352) rfl rfl rfl (by decide +kernel) ⟨(by rw [← hR]; exact Nat.le_of_ble_eq_true rfl), (by rw [← hR]; exact Nat.le_of_ble_eq_true rfl)⟩) rfl rfl hl.1 (Nat.le_of_ble_eq_true rfl) d_M_side_75 ⟨Nat.zero_le _, Nat.zero_le _⟩ hP hS hA (fun H locs hP hS => ?_)
    rw [hQ]
    subst hres
    exact W.iret (v := km_sign ((((((ax - (2 * bx)) + cx) * ay) * ay) - (((2 * (bx - ax)) * (2 * (bz - ay))) * ay)) + ((ax * (2 * (bz - ay))) * (2 * (bz - ay))))) hx hb hr (fun t ht hW => ⟨⟨_, (), rfl, rfl, ⟨by rw [ht]; exact hP, va_K.moved hW.alike hK, hD⟩⟩, hS.F ht⟩) hS.2.2 d_M_side_78
