def km_begun (cn : Int32) (en : Nat → Int32) : Int32 := (if cn = 0 then 0 else (en (Int32.toNatClampNeg (cn - 1))))
set_option maxHeartbeats 4000000 in
set_option maxRecDepth 100000 in
theorem c_km_begun (l : Launch) (dC : Nat → ClassId) (dI : Nat → Nat → Nat) (h0 : Nat) (apx : Nat) (apy : Nat) (aon : Nat) (aen : Nat) (afi : Nat) (ase : Nat) (cJ : ClassId) (cZ : ClassId) (cI : ClassId) (wd : Int32) (pn : Int32) (tc : Int32) (tn : Int32) (px : Nat → Int64) (py : Nat → Int64) (on : Nat → Int32) (fi : Nat → Int64) (se : Nat → Int64) (cn : Int32) (en : Nat → Int32) (hbg : begok cn) : mc_i l y_M_begun w_M_begun { frames := 0, cells := 0, slots := 0, locals := 0 } (dC, dI) cls9 [(h0, .inr (2, [.int wd, .ref apx, .ref apy, .ref aon, .ref aen, .int cn, .int pn, .int tc, .int tn, .ref afi, .ref ase])), (apx, .inl (cJ, 256, .inr (.inl px))), (apy, .inl (cJ, 256, .inr (.inl py))), (aon, .inl (cZ, 256, .inl on)), (aen, .inl (cI, 256, .inl en)), (afi, .inl (cJ, 6, .inr (.inl fi))), (ase, .inl (cJ, 6, .inr (.inl se)))] [(h0, .inr (2, [.int wd, .ref apx, .ref apy, .ref aon, .ref aen, .int cn, .int pn, .int tc, .int tn, .ref afi, .ref ase])), (apx, .inl (cJ, 256, .inr (.inl px))), (apy, .inl (cJ, 256, .inr (.inl py))), (aon, .inl (cZ, 256, .inl on)), (aen, .inl (cI, 256, .inl en)), (afi, .inl (cJ, 6, .inr (.inl fi))), (ase, .inl (cJ, 6, .inr (.inl se)))] [(cJ, .long), (cZ, .boolean), (cI, .int)] [.ref h0] (km_begun cn en) := by
  intro sz
  refine Met.ofW (cc := b_M_begun) (maxL := 1) (ret := (some .int)) (by decide) rfl ?_
  intro p e s m args below meth c s₁ B hml hv
  obtain ⟨hargs, hsz, hP, hK, hD0⟩ := hv
  have hx := B.exec
  have hb := B.bytes
  have hr := B.returns
  have hts : ∀ w ∈ lw_w, w.before args s = true := fun w h => atoms_spec (ws := w_M_begun) B.pre w (List.mem_cons_of_mem _ h)
  have hown : s.vm.findClass R_M = some m.cls := findClass_of_methodNamed B.named
  have hlocks := B.notSynchronized
  subst hsz
  have hD := hD0.self (sz := s.heap.size)
  generalize hR : (headSpec w_M_begun { frames := 0, cells := 0, slots := 0, locals := 0 }).room = R
  generalize hAe : va_A [(h0, .inr (2, [.int wd, .ref apx, .ref apy, .ref aon, .ref aen, .int cn, .int pn, .int tc, .int tn, .ref afi, .ref ase])), (apx, .inl (cJ, 256, .inr (.inl px))), (apy, .inl (cJ, 256, .inr (.inl py))), (aon, .inl (cZ, 256, .inl on)), (aen, .inl (cI, 256, .inl en)), (afi, .inl (cJ, 6, .inr (.inl fi))), (ase, .inl (cJ, 6, .inr (.inl se)))] s.heap.size = A at hD ⊢
  have hA : ∀ q : Nat, s.heap.size ≤ q → A q := fun q h => by rw [← hAe]; exact Or.inr h
  have hS : va_S A s.heap s.heap [] := va_S.rf
  generalize hRES : km_begun cn en = RES
  have hres := hRES
  have hl := lv_entry [.ref h0] (n := 1) (Nat.le_of_ble_eq_true rfl)
  have hent : entryFrame m args 1 = F0 m 0 (lg_sl [.ref h0] ++ List.replicate (1 - (lg_sl [.ref h0]).length) Slot.unset).toArray [] := by rw [hargs]; exact lg_entry_eq m [.ref h0] 1
  rw [hent]
  clear hent
  generalize (lg_sl [.ref h0] ++ List.replicate (1 - (lg_sl [.ref h0]).length) Slot.unset).toArray = ls at hl ⊢
  have hl : lv_has ls 1 [(0, .ref h0)] := hl
  have hP : va_P (dC, dI) cls9 [(h0, .inr (2, [.int wd, .ref apx, .ref apy, .ref aon, .ref aen, .int cn, .int pn, .int tc, .int tn, .ref afi, .ref ase])), (apx, .inl (cJ, 256, .inr (.inl px))), (apy, .inl (cJ, 256, .inr (.inl py))), (aon, .inl (cZ, 256, .inl on)), (aen, .inl (cI, 256, .inl en)), (afi, .inl (cJ, 6, .inr (.inl fi))), (ase, .inl (cJ, 6, .inr (.inl se)))] s.heap := hP
  have hD : va_D A [(h0, .inr (2, [.int wd, .ref apx, .ref apy, .ref aon, .ref aen, .int cn, .int pn, .int tc, .int tn, .ref afi, .ref ase])), (apx, .inl (cJ, 256, .inr (.inl px))), (apy, .inl (cJ, 256, .inr (.inl py))), (aon, .inl (cZ, 256, .inl on)), (aen, .inl (cI, 256, .inl en)), (afi, .inl (cJ, 6, .inr (.inl fi))), (ase, .inl (cJ, 6, .inr (.inl se)))] := hD
  clear hD0 hRES hAe
  unfold km_begun at hres
  generalize hQ : MQ below (va_Qi (fun x (_ : Unit) => x = RES) (fun _ t => va_P (dC, dI) cls9 [(h0, .inr (2, [.int wd, .ref apx, .ref apy, .ref aon, .ref aen, .int cn, .int pn, .int tc, .int tn, .ref afi, .ref ase])), (apx, .inl (cJ, 256, .inr (.inl px))), (apy, .inl (cJ, 256, .inr (.inl py))), (aon, .inl (cZ, 256, .inl on)), (aen, .inl (cI, 256, .inl en)), (afi, .inl (cJ, 6, .inr (.inl fi))), (ase, .inl (cJ, 6, .inr (.inl se)))] t.heap ∧ va_K (dC, dI) cls9 [(cJ, .long), (cZ, .boolean), (cI, .int)] t ∧ va_D A [(h0, .inr (2, [.int wd, .ref apx, .ref apy, .ref aon, .ref aen, .int cn, .int pn, .int tc, .int tn, .ref afi, .ref ase])), (apx, .inl (cJ, 256, .inr (.inl px))), (apy, .inl (cJ, 256, .inr (.inl py))), (aon, .inl (cZ, 256, .inl on)), (aen, .inl (cI, 256, .inl en)), (afi, .inl (cJ, 6, .inr (.inl fi))), (ase, .inl (cJ, 6, .inr (.inl se)))]) A) args s 0 0 A = Q
  replace hQ := hQ.symm
  refine lv_aload_n hx hb d_M_begun_0 rfl (lv_at hl 0 rfl) ?_
  refine va_get (D := (dC, dI)) (ci := 2) (v := .int cn) (C := R_M) (T := F_M) (N := 11) hx hb hts in_M hown hK hP 0 rfl rfl 5 (by decide) (hts _ tw_284) (fun _ h9 => h9) rfl d_M_begun_1 ?_
  refine lv_if_ne (tgt := 11) hx hb d_M_begun_4 rfl (fun h4 => ?_) (fun h4 => ?_)
  · rw [if_neg h4] at hres
    refine lv_aload_n hx hb d_M_begun_11 rfl (lv_at hl 0 rfl) ?_
    refine va_get (D := (dC, dI)) (ci := 2) (v := .ref aen) (C := R_M) (T := F_M) (N := 11) hx hb hts in_M hown hK hP 0 rfl rfl 4 (by decide) (hts _ tw_283) (fun _ h9 => h9) rfl d_M_begun_12 ?_
    refine lv_aload_n hx hb d_M_begun_15 rfl (lv_at hl 0 rfl) ?_
    refine va_get (D := (dC, dI)) (ci := 2) (v := .int cn) (C := R_M) (T := F_M) (N := 11) hx hb hts in_M hown hK hP 0 rfl rfl 5 (by decide) (hts _ tw_284) (fun _ h9 => h9) rfl d_M_begun_16 ?_
    refine lv_iconst (v := 1) hx hb d_M_begun_19 (by decide) ?_
    refine lv_isub hx hb d_M_begun_20 ?_
    refine va_iald hx hb hK hP 4 2 rfl rfl (by obtain ⟨C9, g1, e⟩ := hbg; rw [e] at h4 ⊢; have h8 : C9 ≠ 0 := fun z => h4 (by rw [z]; rfl); have h9 := nI_pred (C9 - 1); rw [Nat.sub_add_cancel (by omega)] at h9; rw [h9]; exact vp_in_nI (by omega) (by decide)) d_M_begun_21 ?_
    rw [hQ]
    subst hres
    exact W.iret (v := en (Int32.toNatClampNeg (cn - 1))) hx hb hr (fun t ht hW => ⟨⟨_, (), rfl, rfl, ⟨by rw [ht]; exact hP, va_K.moved hW.alike hK, hD⟩⟩, hS.F ht⟩) hS.2.2 d_M_begun_22
  · rw [if_pos h4] at hres
    refine lv_iconst (v := 0) hx hb d_M_begun_7 (by decide) ?_
    refine lv_goto (tgt := 22) hx hb d_M_begun_8 rfl ?_
    rw [hQ]
    subst hres
    exact W.iret (v := 0) hx hb hr (fun t ht hW => ⟨⟨_, (), rfl, rfl, ⟨by rw [ht]; exact hP, va_K.moved hW.alike hK, hD⟩⟩, hS.F ht⟩) hS.2.2 d_M_begun_22
def km_go_k41 (en : Nat → Int32) (c1 : Int32) (kL16 : (Int32) → (Int32) → (Int32) → (Int32) → (Nat → Int64) → (Nat → Int64) → Int32 × Int32 × (Nat → Int64) × (Nat → Int64)) (x38 : Int32 × Int32 × (Nat → Int64) × (Nat → Int64)) : Int32 × Int32 × (Nat → Int64) × (Nat → Int64) := (kL16 (c1 + 1) (en (Int32.toNatClampNeg c1)) x38.1 x38.2.1 x38.2.2.1 x38.2.2.2)
def km_go_L16 (px : Nat → Int64) (py : Nat → Int64) (on : Nat → Int32) (cn : Int32) (en : Nat → Int32) (x : Int64) (y : Int64) : Nat → (Int32) → (Int32) → (Int32) → (Int32) → (Nat → Int64) → (Nat → Int64) → Int32 × Int32 × (Nat → Int64) × (Nat → Int64)
  | 0, _, _, _, _, _, _ => (0, 0, fun _ => 0, fun _ => 0)
  | n+1, c1, f0, tc1, tn1, f1, s1 => (if cn ≤ c1 then (tc1, tn1, f1, s1) else (km_go_k41 en c1 (km_go_L16 px py on cn en x y n) (km_around px py on tc1 tn1 f1 s1 0 f0 (en (Int32.toNatClampNeg c1)) x y)))
def km_go (px : Nat → Int64) (py : Nat → Int64) (on : Nat → Int32) (cn : Int32) (en : Nat → Int32) (fi : Nat → Int64) (se : Nat → Int64) (x : Int64) (y : Int64) : Int32 × Int32 × (Nat → Int64) × (Nat → Int64) := (km_go_L16 px py on cn en x y 257 0 0 0 0 fi se)
set_option maxHeartbeats 4000000 in
set_option maxRecDepth 100000 in
theorem c_km_go (l : Launch) (dC : Nat → ClassId) (dI : Nat → Nat → Nat) (h0 : Nat) (apx : Nat) (apy : Nat) (aon : Nat) (aen : Nat) (afi : Nat) (ase : Nat) (cJ : ClassId) (cZ : ClassId) (cI : ClassId) (wd : Int32) (pn : Int32) (tc : Int32) (tn : Int32) (px : Nat → Int64) (py : Nat → Int64) (on : Nat → Int32) (cn : Int32) (en : Nat → Int32) (fi : Nat → Int64) (se : Nat → Int64) (x : Int64) (y : Int64) (hmk : mok cn pn en) : mc_v l y_M_go w_M_go { frames := 7, cells := 0, slots := 0, locals := 253 } (dC, dI) cls9 [(h0, .inr (2, [.int wd, .ref apx, .ref apy, .ref aon, .ref aen, .int cn, .int pn, .int tc, .int tn, .ref afi, .ref ase])), (apx, .inl (cJ, 256, .inr (.inl px))), (apy, .inl (cJ, 256, .inr (.inl py))), (aon, .inl (cZ, 256, .inl on)), (aen, .inl (cI, 256, .inl en)), (afi, .inl (cJ, 6, .inr (.inl fi))), (ase, .inl (cJ, 6, .inr (.inl se)))] [(h0, .inr (2, [.int wd, .ref apx, .ref apy, .ref aon, .ref aen, .int cn, .int pn, .int ((km_go px py on cn en fi se x y).1), .int ((km_go px py on cn en fi se x y).2.1), .ref afi, .ref ase])), (apx, .inl (cJ, 256, .inr (.inl px))), (apy, .inl (cJ, 256, .inr (.inl py))), (aon, .inl (cZ, 256, .inl on)), (aen, .inl (cI, 256, .inl en)), (afi, .inl (cJ, 6, .inr (.inl ((km_go px py on cn en fi se x y).2.2.1)))), (ase, .inl (cJ, 6, .inr (.inl ((km_go px py on cn en fi se x y).2.2.2))))] [(cJ, .long), (cZ, .boolean), (cI, .int)] [.ref h0, .long x, .long y] := by
  intro sz
  refine Met.ofW (cc := b_M_go) (maxL := 7) (ret := none) (by decide) rfl ?_
  intro p e s m args below meth c s₁ B hml hv
  obtain ⟨hargs, hsz, hP, hK, hD0⟩ := hv
  have hx := B.exec
  have hb := B.bytes
  have hr := B.returns
  have hts : ∀ w ∈ lw_w, w.before args s = true := fun w h => atoms_spec (ws := w_M_go) B.pre w (List.mem_cons_of_mem _ h)
  have hown : s.vm.findClass R_M = some m.cls := findClass_of_methodNamed B.named
  have hlocks := B.notSynchronized
  subst hsz
  have hD := hD0.self (sz := s.heap.size)
  generalize hR : (headSpec w_M_go { frames := 7, cells := 0, slots := 0, locals := 253 }).room = R
  generalize hAe : va_A [(h0, .inr (2, [.int wd, .ref apx, .ref apy, .ref aon, .ref aen, .int cn, .int pn, .int tc, .int tn, .ref afi, .ref ase])), (apx, .inl (cJ, 256, .inr (.inl px))), (apy, .inl (cJ, 256, .inr (.inl py))), (aon, .inl (cZ, 256, .inl on)), (aen, .inl (cI, 256, .inl en)), (afi, .inl (cJ, 6, .inr (.inl fi))), (ase, .inl (cJ, 6, .inr (.inl se)))] s.heap.size = A at hD ⊢
  have hA : ∀ q : Nat, s.heap.size ≤ q → A q := fun q h => by rw [← hAe]; exact Or.inr h
  have hS : va_S A s.heap s.heap [] := va_S.rf
  generalize hRES : km_go px py on cn en fi se x y = RES
  have hres := hRES
  have hl := lv_entry [.ref h0, .long x, .long y] (n := 7) (Nat.le_of_ble_eq_true rfl)
  have hent : entryFrame m args 7 = F0 m 0 (lg_sl [.ref h0, .long x, .long y] ++ List.replicate (7 - (lg_sl [.ref h0, .long x, .long y]).length) Slot.unset).toArray [] := by rw [hargs]; exact lg_entry_eq m [.ref h0, .long x, .long y] 7
  rw [hent]
  clear hent
  generalize (lg_sl [.ref h0, .long x, .long y] ++ List.replicate (7 - (lg_sl [.ref h0, .long x, .long y]).length) Slot.unset).toArray = ls at hl ⊢
  have hl : lv_has ls 7 [(0, .ref h0), (1, .long x), (3, .long y)] := hl
  have hP : va_P (dC, dI) cls9 [(h0, .inr (2, [.int wd, .ref apx, .ref apy, .ref aon, .ref aen, .int cn, .int pn, .int tc, .int tn, .ref afi, .ref ase])), (apx, .inl (cJ, 256, .inr (.inl px))), (apy, .inl (cJ, 256, .inr (.inl py))), (aon, .inl (cZ, 256, .inl on)), (aen, .inl (cI, 256, .inl en)), (afi, .inl (cJ, 6, .inr (.inl fi))), (ase, .inl (cJ, 6, .inr (.inl se)))] s.heap := hP
  have hD : va_D A [(h0, .inr (2, [.int wd, .ref apx, .ref apy, .ref aon, .ref aen, .int cn, .int pn, .int tc, .int tn, .ref afi, .ref ase])), (apx, .inl (cJ, 256, .inr (.inl px))), (apy, .inl (cJ, 256, .inr (.inl py))), (aon, .inl (cZ, 256, .inl on)), (aen, .inl (cI, 256, .inl en)), (afi, .inl (cJ, 6, .inr (.inl fi))), (ase, .inl (cJ, 6, .inr (.inl se)))] := hD
  clear hD0 hRES hAe
  unfold km_go at hres
  have hmk0 := hmk
  obtain ⟨C9, P9, e9, hC, hPn, hPl, h00, hPe, hst⟩ := hmk
  have hC256 : C9 ≤ 256 := by
    have h9 := mok_C h00 (fun c hc => (hst c hc).1)
    omega
  generalize hQ : MQ below (va_Qv (fun (_ : Unit) => True) (fun _ t => va_P (dC, dI) cls9 [(h0, .inr (2, [.int wd, .ref apx, .ref apy, .ref aon, .ref aen, .int cn, .int pn, .int RES.1, .int RES.2.1, .ref afi, .ref ase])), (apx, .inl (cJ, 256, .inr (.inl px))), (apy, .inl (cJ, 256, .inr (.inl py))), (aon, .inl (cZ, 256, .inl on)), (aen, .inl (cI, 256, .inl en)), (afi, .inl (cJ, 6, .inr (.inl RES.2.2.1))), (ase, .inl (cJ, 6, .inr (.inl RES.2.2.2)))] t.heap ∧ va_K (dC, dI) cls9 [(cJ, .long), (cZ, .boolean), (cI, .int)] t ∧ va_D A [(h0, .inr (2, [.int wd, .ref apx, .ref apy, .ref aon, .ref aen, .int cn, .int pn, .int RES.1, .int RES.2.1, .ref afi, .ref ase])), (apx, .inl (cJ, 256, .inr (.inl px))), (apy, .inl (cJ, 256, .inr (.inl py))), (aon, .inl (cZ, 256, .inl on)), (aen, .inl (cI, 256, .inl en)), (afi, .inl (cJ, 6, .inr (.inl RES.2.2.1))), (ase, .inl (cJ, 6, .inr (.inl RES.2.2.2)))]) A) args s 0 0 A = Q
  replace hQ := hQ.symm
  refine lv_aload_n hx hb d_M_go_0 rfl (lv_at hl 0 rfl) ?_
  refine lv_iconst (v := 0) hx hb d_M_go_1 (by decide) ?_
  refine va_put (D := (dC, dI)) (ci := 2) (v := .int 0) (ty := .boolean) (C := R_M) (T := F_M) (N := 11) hx hb hts in_M tf_M tok_M n_M hown hK hP hD hS 0 rfl rfl 7 (by decide) (hts _ tw_286) (fun _ h9 => h9) rfl (by decide +kernel) (by rfl) (by rfl) (Nat.le_of_ble_eq_true rfl) d_M_go_2 (fun H locs hP hD hS => ?_)
  have hP : va_P (dC, dI) cls9 [(h0, .inr (2, [.int wd, .ref apx, .ref apy, .ref aon, .ref aen, .int cn, .int pn, .int 0, .int tn, .ref afi, .ref ase])), (apx, .inl (cJ, 256, .inr (.inl px))), (apy, .inl (cJ, 256, .inr (.inl py))), (aon, .inl (cZ, 256, .inl on)), (aen, .inl (cI, 256, .inl en)), (afi, .inl (cJ, 6, .inr (.inl fi))), (ase, .inl (cJ, 6, .inr (.inl se)))] H := hP
  have hD : va_D A [(h0, .inr (2, [.int wd, .ref apx, .ref apy, .ref aon, .ref aen, .int cn, .int pn, .int 0, .int tn, .ref afi, .ref ase])), (apx, .inl (cJ, 256, .inr (.inl px))), (apy, .inl (cJ, 256, .inr (.inl py))), (aon, .inl (cZ, 256, .inl on)), (aen, .inl (cI, 256, .inl en)), (afi, .inl (cJ, 6, .inr (.inl fi))), (ase, .inl (cJ, 6, .inr (.inl se)))] := hD
  refine lv_aload_n hx hb d_M_go_5 rfl (lv_at hl 0 rfl) ?_
  refine lv_iconst (v := 0) hx hb d_M_go_6 (by decide) ?_
  refine va_put (D := (dC, dI)) (ci := 2) (v := .int 0) (ty := .int) (C := R_M) (T := F_M) (N := 11) hx hb hts in_M tf_M tok_M n_M hown hK hP hD hS 0 rfl rfl 8 (by decide) (hts _ tw_287) (fun _ h9 => h9) rfl (by decide +kernel) (by rfl) (by rfl) (Nat.le_of_ble_eq_true rfl) d_M_go_7 (fun H locs hP hD hS => ?_)
  have hP : va_P (dC, dI) cls9 [(h0, .inr (2, [.int wd, .ref apx, .ref apy, .ref aon, .ref aen, .int cn, .int pn, .int 0, .int 0, .ref afi, .ref ase])), (apx, .inl (cJ, 256, .inr (.inl px))), (apy, .inl (cJ, 256, .inr (.inl py))), (aon, .inl (cZ, 256, .inl on)), (aen, .inl (cI, 256, .inl en)), (afi, .inl (cJ, 6, .inr (.inl fi))), (ase, .inl (cJ, 6, .inr (.inl se)))] H := hP
  have hD : va_D A [(h0, .inr (2, [.int wd, .ref apx, .ref apy, .ref aon, .ref aen, .int cn, .int pn, .int 0, .int 0, .ref afi, .ref ase])), (apx, .inl (cJ, 256, .inr (.inl px))), (apy, .inl (cJ, 256, .inr (.inl py))), (aon, .inl (cZ, 256, .inl on)), (aen, .inl (cI, 256, .inl en)), (afi, .inl (cJ, 6, .inr (.inl fi))), (ase, .inl (cJ, 6, .inr (.inl se)))] := hD
  refine lv_iconst (v := 0) hx hb d_M_go_10 (by decide) ?_
  refine lv_istore (lv' := [(5, .int 0), (0, .ref h0), (1, .long x), (3, .long y)]) hx hb d_M_go_11 hl (by decide) rfl (fun ls hl => ?_)
  refine lv_iconst (v := 0) hx hb d_M_go_13 (by decide) ?_
  refine lv_istore (lv' := [(6, .int 0), (5, .int 0), (0, .ref h0), (1, .long x), (3, .long y)]) hx hb d_M_go_14 hl (by decide) rfl (fun ls hl => ?_)
  have L16 : ∀ (n : Nat) (c1 : Int32) (f0 : Int32) (tc1 : Int32) (tn1 : Int32) (f1 : Nat → Int64) (s1 : Nat → Int64), (∃ j : Nat, j ≤ C9 ∧ c1 = nI j ∧ f0 = nI (e9 j)) → 256 - c1.toNatClampNeg < n → km_go_L16 px py on cn en x y n c1 f0 tc1 tn1 f1 s1 = RES → ∀ (ls : Array Slot) (H : Heap) (locs : List Loc), lv_has ls 7 [(6, .int c1), (5, .int f0), (0, .ref h0), (1, .long x), (3, .long y)] → va_P (dC, dI) cls9 [(h0, .inr (2, [.int wd, .ref apx, .ref apy, .ref aon, .ref aen, .int cn, .int pn, .int tc1, .int tn1, .ref afi, .ref ase])), (apx, .inl (cJ, 256, .inr (.inl px))), (apy, .inl (cJ, 256, .inr (.inl py))), (aon, .inl (cZ, 256, .inl on)), (aen, .inl (cI, 256, .inl en)), (afi, .inl (cJ, 6, .inr (.inl f1))), (ase, .inl (cJ, 6, .inr (.inl s1)))] H → va_D A [(h0, .inr (2, [.int wd, .ref apx, .ref apy, .ref aon, .ref aen, .int cn, .int pn, .int tc1, .int tn1, .ref afi, .ref ase])), (apx, .inl (cJ, 256, .inr (.inl px))), (apy, .inl (cJ, 256, .inr (.inl py))), (aon, .inl (cZ, 256, .inl on)), (aen, .inl (cI, 256, .inl en)), (afi, .inl (cJ, 6, .inr (.inl f1))), (ase, .inl (cJ, 6, .inr (.inl s1)))] → va_S A s.heap H locs → W p l e R s m args below meth c H locs 0 0 Q (F0 m 16 ls []) := by
    intro n
    induction n with
    | zero => intro c1 f0 tc1 tn1 f1 s1 hinv hmu; exact absurd hmu (Nat.not_lt_zero _)
    | succ n ih =>
      intro c1 f0 tc1 tn1 f1 s1 hinv hmu hres ls H locs hl hP hD hS
      rw [km_go_L16] at hres
      refine lv_iload hx hb d_M_go_16 (lv_at hl 0 rfl) ?_
      refine lv_aload_n hx hb d_M_go_18 rfl (lv_at hl 2 rfl) ?_
      refine va_get (D := (dC, dI)) (ci := 2) (v := .int cn) (C := R_M) (T := F_M) (N := 11) hx hb hts in_M hown hK hP 0 rfl rfl 5 (by decide) (hts _ tw_284) (fun _ h9 => h9) rfl d_M_go_19 ?_
      refine lv_icmp_ge (tgt := 56) hx hb d_M_go_22 rfl (fun h22 => ?_) (fun h22 => ?_)
      · rw [if_pos h22] at hres
        rw [hQ]
        subst hres
        exact W.vret hx hb hr (fun t ht hW => ⟨⟨(), rfl, trivial, ⟨by rw [ht]; exact hP, va_K.moved hW.alike hK, hD⟩⟩, hS.F ht⟩) hS.2.2 d_M_go_56
      · rw [if_neg h22] at hres
        refine lv_aload_n hx hb d_M_go_25 rfl (lv_at hl 2 rfl) ?_
        refine lv_iconst (v := 0) hx hb d_M_go_26 (by decide) ?_
        refine lv_iload hx hb d_M_go_27 (lv_at hl 1 rfl) ?_
        refine lv_aload_n hx hb d_M_go_29 rfl (lv_at hl 2 rfl) ?_
        refine va_get (D := (dC, dI)) (ci := 2) (v := .ref aen) (C := R_M) (T := F_M) (N := 11) hx hb hts in_M hown hK hP 0 rfl rfl 4 (by decide) (hts _ tw_283) (fun _ h9 => h9) rfl d_M_go_30 ?_
        refine lv_iload hx hb d_M_go_33 (lv_at hl 0 rfl) ?_
        refine va_iald hx hb hK hP 4 2 rfl rfl (by obtain ⟨j, g1, g2, g3⟩ := hinv; have g4 : j < C9 := nI_nle_lt (by omega) (by rw [hC, g2] at h22; exact h22); rw [g2]; exact vp_in_nI (by omega) (by decide)) d_M_go_35 ?_
        refine lv_lload_n hx hb d_M_go_36 rfl (lv_at hl 3 rfl) ?_
        refine lv_lload_n hx hb d_M_go_37 rfl (lv_at hl 4 rfl) ?_
        refine cm_v (wc := [(h0, .inr (2, [.int wd, .ref apx, .ref apy, .ref aon, .ref aen, .int cn, .int pn, .int tc1, .int tn1, .ref afi, .ref ase])), (apx, .inl (cJ, 256, .inr (.inl px))), (apy, .inl (cJ, 256, .inr (.inl py))), (aon, .inl (cZ, 256, .inl on)), (aen, .inl (cI, 256, .inl en)), (afi, .inl (cJ, 6, .inr (.inl f1))), (ase, .inl (cJ, 6, .inr (.inl s1)))]) (wr := []) (W1 := [(h0, .inr (2, [.int wd, .ref apx, .ref apy, .ref aon, .ref aen, .int cn, .int pn, .int ((km_around px py on tc1 tn1 f1 s1 0 f0 (en (Int32.toNatClampNeg c1)) x y).1), .int ((km_around px py on tc1 tn1 f1 s1 0 f0 (en (Int32.toNatClampNeg c1)) x y).2.1), .ref afi, .ref ase])), (apx, .inl (cJ, 256, .inr (.inl px))), (apy, .inl (cJ, 256, .inr (.inl py))), (aon, .inl (cZ, 256, .inl on)), (aen, .inl (cI, 256, .inl en)), (afi, .inl (cJ, 6, .inr (.inl ((km_around px py on tc1 tn1 f1 s1 0 f0 (en (Int32.toNatClampNeg c1)) x y).2.2.1)))), (ase, .inl (cJ, 6, .inr (.inl ((km_around px py on tc1 tn1 f1 s1 0 f0 (en (Int32.toNatClampNeg c1)) x y).2.2.2))))]) (w2 := [(h0, .inr (2, [.int wd, .ref apx, .ref apy, .ref aon, .ref aen, .int cn, .int pn, .int ((km_around px py on tc1 tn1 f1 s1 0 f0 (en (Int32.toNatClampNeg c1)) x y).1), .int ((km_around px py on tc1 tn1 f1 s1 0 f0 (en (Int32.toNatClampNeg c1)) x y).2.1), .ref afi, .ref ase])), (apx, .inl (cJ, 256, .inr (.inl px))), (apy, .inl (cJ, 256, .inr (.inl py))), (aon, .inl (cZ, 256, .inl on)), (aen, .inl (cI, 256, .inl en)), (afi, .inl (cJ, 6, .inr (.inl ((km_around px py on tc1 tn1 f1 s1 0 f0 (en (Int32.toNatClampNeg c1)) x y).2.2.1)))), (ase, .inl (cJ, 6, .inr (.inl ((km_around px py on tc1 tn1 f1 s1 0 f0 (en (Int32.toNatClampNeg c1)) x y).2.2.2))))]) (va_runV (g := F0 m 38 ls [.long y, .long x, .int (en (Int32.toNatClampNeg c1)), .int f0, .int 0, .ref h0]) (As := [.int 0, .int f0, .int (en (Int32.toNatClampNeg c1)), .long x, .long y]) (rest := []) ⟨hx, hb, hml, hown, hts⟩ (c_km_around l dC dI h0 apx apy aon aen afi ase cJ cZ cI wd cn pn en px py on tc1 tn1 f1 s1 0 f0 (en (Int32.toNatClampNeg c1)) x y (by obtain ⟨j, g1, g2, g3⟩ := hinv; have g4 : j < C9 := nI_nle_lt (by omega) (by rw [hC, g2] at h22; exact h22); exact ⟨e9 j, e9 (j + 1), (hst j g4).1, by have h9 := mok_le (fun c hc => (hst c hc).1) (show j + 1 ≤ C9 by omega); omega, g3, by rw [g2, nI_clamp (by omega)]; exact (hst j g4).2⟩) _) (cwV 5 hts (gi_V tw_342 tw_344 ts_11 tw_6 tw_345) rfl rfl rfl (by decide +kernel) ⟨(by rw [← hR]; exact Nat.le_of_ble_eq_true rfl), (by rw [← hR]; exact Nat.le_of_ble_eq_true rfl)⟩) ⟨mc_blind, va_recv (ci := 2) (q := (R_M, F_M, 11)) hK hP rfl (q0 := 0) rfl, mc_pre (hP.sub [0, 1, 2, 3, 4, 5, 6] rfl) (hK.sub [0, 1, 2] rfl) (hD.sub [0, 1, 2, 3, 4, 5, 6] (by decide) rfl)⟩ rfl rfl hl.1 rfl (lv_room (Nat.le_of_ble_eq_true rfl)) d_M_go_38 ⟨Nat.zero_le _, Nat.zero_le _⟩) hP hD hS hA [0, 1, 2, 3, 4, 5, 6] [] [0, 1, 2, 3, 4, 5, 6] rfl rfl (by decide) (by decide) rfl rfl (by decide) (fun H locs hP hD hS => ?_)
        have K41 : ∀ (x38 : Int32 × Int32 × (Nat → Int64) × (Nat → Int64)), km_go_k41 en c1 (km_go_L16 px py on cn en x y n) x38 = RES → ∀ (ls : Array Slot) (H : Heap) (locs : List Loc), lv_has ls 7 [(6, .int c1), (5, .int f0), (0, .ref h0), (1, .long x), (3, .long y)] → va_P (dC, dI) cls9 [(h0, .inr (2, [.int wd, .ref apx, .ref apy, .ref aon, .ref aen, .int cn, .int pn, .int x38.1, .int x38.2.1, .ref afi, .ref ase])), (apx, .inl (cJ, 256, .inr (.inl px))), (apy, .inl (cJ, 256, .inr (.inl py))), (aon, .inl (cZ, 256, .inl on)), (aen, .inl (cI, 256, .inl en)), (afi, .inl (cJ, 6, .inr (.inl x38.2.2.1))), (ase, .inl (cJ, 6, .inr (.inl x38.2.2.2)))] H → va_D A [(h0, .inr (2, [.int wd, .ref apx, .ref apy, .ref aon, .ref aen, .int cn, .int pn, .int x38.1, .int x38.2.1, .ref afi, .ref ase])), (apx, .inl (cJ, 256, .inr (.inl px))), (apy, .inl (cJ, 256, .inr (.inl py))), (aon, .inl (cZ, 256, .inl on)), (aen, .inl (cI, 256, .inl en)), (afi, .inl (cJ, 6, .inr (.inl x38.2.2.1))), (ase, .inl (cJ, 6, .inr (.inl x38.2.2.2)))] → va_S A s.heap H locs → W p l e R s m args below meth c H locs 0 0 Q (F0 m 41 ls []) := by
          intro x38 hres ls H locs hl hP hD hS
          unfold km_go_k41 at hres
          refine lv_aload_n hx hb d_M_go_41 rfl (lv_at hl 2 rfl) ?_
          refine va_get (D := (dC, dI)) (ci := 2) (v := .ref aen) (C := R_M) (T := F_M) (N := 11) hx hb hts in_M hown hK hP 0 rfl rfl 4 (by decide) (hts _ tw_283) (fun _ h9 => h9) rfl d_M_go_42 ?_
          refine lv_iload hx hb d_M_go_45 (lv_at hl 0 rfl) ?_
          refine va_iald hx hb hK hP 4 2 rfl rfl (by obtain ⟨j, g1, g2, g3⟩ := hinv; have g4 : j < C9 := nI_nle_lt (by omega) (by rw [hC, g2] at h22; exact h22); rw [g2]; exact vp_in_nI (by omega) (by decide)) d_M_go_47 ?_
          refine lv_istore (lv' := [(5, .int (en (Int32.toNatClampNeg c1))), (6, .int c1), (0, .ref h0), (1, .long x), (3, .long y)]) hx hb d_M_go_48 hl (by decide) rfl (fun ls hl => ?_)
          refine lv_iinc (k := 1) (v := c1 + 1) (lv' := [(6, .int (c1 + 1)), (5, .int (en (Int32.toNatClampNeg c1))), (0, .ref h0), (1, .long x), (3, .long y)]) hx hb d_M_go_50 hl rfl rfl (by decide) rfl (fun ls hl => ?_)
          refine lv_goto (tgt := 16) hx hb d_M_go_53 rfl ?_
          exact ih (c1 + 1) (en (Int32.toNatClampNeg c1)) x38.1 x38.2.1 x38.2.2.1 x38.2.2.2 (by obtain ⟨j, g1, g2, g3⟩ := hinv; have g4 : j < C9 := nI_nle_lt (by omega) (by rw [hC, g2] at h22; exact h22); exact ⟨j + 1, by omega, by rw [g2, nI_1], by rw [g2, nI_clamp (by omega)]; exact (hst j g4).2⟩) (by obtain ⟨j, g1, g2, g3⟩ := hinv; have g4 : j < C9 := nI_nle_lt (by omega) (by rw [hC, g2] at h22; exact h22); rw [g2, nI_clamp (by omega)] at hmu; rw [g2, nI_1, nI_clamp (by omega)]; omega) hres ls _ _ (lv_sub hl [0, 1, 2, 3, 4] rfl) hP hD hS
        exact K41 (km_around px py on tc1 tn1 f1 s1 0 f0 (en (Int32.toNatClampNeg c1)) x y) hres ls _ _ (lv_sub hl [0, 1, 2, 3, 4] rfl) hP hD hS
  exact L16 257 0 0 0 0 fi se (by exact ⟨0, by omega, rfl, by rw [h00]; rfl⟩) (by decide) hres ls _ _ (lv_sub hl [0, 1, 2, 3, 4] rfl) hP hD hS
def km_wind_k34 (x31 : Int32 × Int32 × (Nat → Int64) × (Nat → Int64)) : Int32 × Int32 × Int32 × (Nat → Int64) × (Nat → Int64) := (if x31.1 = 0 then (x31.2.1, x31.1, x31.2.1, x31.2.2.1, x31.2.2.2) else (1000, x31.1, x31.2.1, x31.2.2.1, x31.2.2.2))
def km_wind (px : Nat → Int64) (py : Nat → Int64) (on : Nat → Int32) (cn : Int32) (en : Nat → Int32) (fi : Nat → Int64) (se : Nat → Int64) (tc : Int32) (tn : Int32) (x : Int32) (y : Int32) : Int32 × Int32 × Int32 × (Nat → Int64) × (Nat → Int64) := (if (km_far x) = 0 then (if (km_far y) = 0 then (km_wind_k34 (km_go px py on cn en fi se (2 * (Int32.toInt64 x)) (2 * (Int32.toInt64 y)))) else (2000, tc, tn, fi, se)) else (2000, tc, tn, fi, se))
set_option maxHeartbeats 4000000 in
set_option maxRecDepth 100000 in
theorem c_km_wind (l : Launch) (dC : Nat → ClassId) (dI : Nat → Nat → Nat) (h0 : Nat) (apx : Nat) (apy : Nat) (aon : Nat) (aen : Nat) (afi : Nat) (ase : Nat) (cJ : ClassId) (cZ : ClassId) (cI : ClassId) (wd : Int32) (pn : Int32) (px : Nat → Int64) (py : Nat → Int64) (on : Nat → Int32) (cn : Int32) (en : Nat → Int32) (fi : Nat → Int64) (se : Nat → Int64) (tc : Int32) (tn : Int32) (x : Int32) (y : Int32) (hmk : mok cn pn en) : mc_i l y_M_winding w_M_winding { frames := 8, cells := 0, slots := 0, locals := 279 } (dC, dI) cls9 [(h0, .inr (2, [.int wd, .ref apx, .ref apy, .ref aon, .ref aen, .int cn, .int pn, .int tc, .int tn, .ref afi, .ref ase])), (apx, .inl (cJ, 256, .inr (.inl px))), (apy, .inl (cJ, 256, .inr (.inl py))), (aon, .inl (cZ, 256, .inl on)), (aen, .inl (cI, 256, .inl en)), (afi, .inl (cJ, 6, .inr (.inl fi))), (ase, .inl (cJ, 6, .inr (.inl se)))] [(h0, .inr (2, [.int wd, .ref apx, .ref apy, .ref aon, .ref aen, .int cn, .int pn, .int ((km_wind px py on cn en fi se tc tn x y).2.1), .int ((km_wind px py on cn en fi se tc tn x y).2.2.1), .ref afi, .ref ase])), (apx, .inl (cJ, 256, .inr (.inl px))), (apy, .inl (cJ, 256, .inr (.inl py))), (aon, .inl (cZ, 256, .inl on)), (aen, .inl (cI, 256, .inl en)), (afi, .inl (cJ, 6, .inr (.inl ((km_wind px py on cn en fi se tc tn x y).2.2.2.1)))), (ase, .inl (cJ, 6, .inr (.inl ((km_wind px py on cn en fi se tc tn x y).2.2.2.2))))] [(cJ, .long), (cZ, .boolean), (cI, .int)] [.ref h0, .int x, .int y] ((km_wind px py on cn en fi se tc tn x y).1) := by
  intro sz
  refine Met.ofW (cc := b_M_winding) (maxL := 3) (ret := (some .int)) (by decide) rfl ?_
  intro p e s m args below meth c s₁ B hml hv
  obtain ⟨hargs, hsz, hP, hK, hD0⟩ := hv
  have hx := B.exec
  have hb := B.bytes
  have hr := B.returns
  have hts : ∀ w ∈ lw_w, w.before args s = true := fun w h => atoms_spec (ws := w_M_winding) B.pre w (List.mem_cons_of_mem _ h)
  have hown : s.vm.findClass R_M = some m.cls := findClass_of_methodNamed B.named
  have hlocks := B.notSynchronized
  subst hsz
  have hD := hD0.self (sz := s.heap.size)
  generalize hR : (headSpec w_M_winding { frames := 8, cells := 0, slots := 0, locals := 279 }).room = R
  generalize hAe : va_A [(h0, .inr (2, [.int wd, .ref apx, .ref apy, .ref aon, .ref aen, .int cn, .int pn, .int tc, .int tn, .ref afi, .ref ase])), (apx, .inl (cJ, 256, .inr (.inl px))), (apy, .inl (cJ, 256, .inr (.inl py))), (aon, .inl (cZ, 256, .inl on)), (aen, .inl (cI, 256, .inl en)), (afi, .inl (cJ, 6, .inr (.inl fi))), (ase, .inl (cJ, 6, .inr (.inl se)))] s.heap.size = A at hD ⊢
  have hA : ∀ q : Nat, s.heap.size ≤ q → A q := fun q h => by rw [← hAe]; exact Or.inr h
  have hS : va_S A s.heap s.heap [] := va_S.rf
  generalize hRES : km_wind px py on cn en fi se tc tn x y = RES
  have hres := hRES
  have hl := lv_entry [.ref h0, .int x, .int y] (n := 3) (Nat.le_of_ble_eq_true rfl)
  have hent : entryFrame m args 3 = F0 m 0 (lg_sl [.ref h0, .int x, .int y] ++ List.replicate (3 - (lg_sl [.ref h0, .int x, .int y]).length) Slot.unset).toArray [] := by rw [hargs]; exact lg_entry_eq m [.ref h0, .int x, .int y] 3
  rw [hent]
  clear hent
  generalize (lg_sl [.ref h0, .int x, .int y] ++ List.replicate (3 - (lg_sl [.ref h0, .int x, .int y]).length) Slot.unset).toArray = ls at hl ⊢
  have hl : lv_has ls 3 [(0, .ref h0), (1, .int x), (2, .int y)] := hl
  have hP : va_P (dC, dI) cls9 [(h0, .inr (2, [.int wd, .ref apx, .ref apy, .ref aon, .ref aen, .int cn, .int pn, .int tc, .int tn, .ref afi, .ref ase])), (apx, .inl (cJ, 256, .inr (.inl px))), (apy, .inl (cJ, 256, .inr (.inl py))), (aon, .inl (cZ, 256, .inl on)), (aen, .inl (cI, 256, .inl en)), (afi, .inl (cJ, 6, .inr (.inl fi))), (ase, .inl (cJ, 6, .inr (.inl se)))] s.heap := hP
  have hD : va_D A [(h0, .inr (2, [.int wd, .ref apx, .ref apy, .ref aon, .ref aen, .int cn, .int pn, .int tc, .int tn, .ref afi, .ref ase])), (apx, .inl (cJ, 256, .inr (.inl px))), (apy, .inl (cJ, 256, .inr (.inl py))), (aon, .inl (cZ, 256, .inl on)), (aen, .inl (cI, 256, .inl en)), (afi, .inl (cJ, 6, .inr (.inl fi))), (ase, .inl (cJ, 6, .inr (.inl se)))] := hD
  clear hD0 hRES hAe
  unfold km_wind at hres
  generalize hQ : MQ below (va_Qi (fun x (_ : Unit) => x = RES.1) (fun _ t => va_P (dC, dI) cls9 [(h0, .inr (2, [.int wd, .ref apx, .ref apy, .ref aon, .ref aen, .int cn, .int pn, .int RES.2.1, .int RES.2.2.1, .ref afi, .ref ase])), (apx, .inl (cJ, 256, .inr (.inl px))), (apy, .inl (cJ, 256, .inr (.inl py))), (aon, .inl (cZ, 256, .inl on)), (aen, .inl (cI, 256, .inl en)), (afi, .inl (cJ, 6, .inr (.inl RES.2.2.2.1))), (ase, .inl (cJ, 6, .inr (.inl RES.2.2.2.2)))] t.heap ∧ va_K (dC, dI) cls9 [(cJ, .long), (cZ, .boolean), (cI, .int)] t ∧ va_D A [(h0, .inr (2, [.int wd, .ref apx, .ref apy, .ref aon, .ref aen, .int cn, .int pn, .int RES.2.1, .int RES.2.2.1, .ref afi, .ref ase])), (apx, .inl (cJ, 256, .inr (.inl px))), (apy, .inl (cJ, 256, .inr (.inl py))), (aon, .inl (cZ, 256, .inl on)), (aen, .inl (cI, 256, .inl en)), (afi, .inl (cJ, 6, .inr (.inl RES.2.2.2.1))), (ase, .inl (cJ, 6, .inr (.inl RES.2.2.2.2)))]) A) args s 0 0 A = Q
  replace hQ := hQ.symm
  refine lv_iload_n hx hb d_M_winding_0 rfl (lv_at hl 1 rfl) ?_
  refine cq_Si (As := [.int x]) (rest := []) ⟨hx, hb, hml, hown, hts⟩ (c_km_far l dC dI x) (va_cwS 1 hts (gi_S tw_318 tw_319 tw_6 tw_320) rfl rfl rfl (by decide +kernel) ⟨(by rw [← hR]; exact Nat.le_of_ble_eq_true rfl), (by rw [← hR]; exact Nat.le_of_ble_eq_true rfl)⟩) rfl rfl hl.1 (Nat.le_of_ble_eq_true rfl) d_M_winding_1 ⟨Nat.zero_le _, Nat.zero_le _⟩ hP hS hA (fun H locs hP hS => ?_)
  refine lv_if_ne (tgt := 14) hx hb d_M_winding_4 rfl (fun h4 => ?_) (fun h4 => ?_)
  · rw [if_neg h4] at hres
    refine lv_sipush (v := 2000) hx hb d_M_winding_14 (by decide) ?_
    rw [hQ]
    subst hres
    exact W.iret (v := 2000) hx hb hr (fun t ht hW => ⟨⟨_, (), rfl, rfl, ⟨by rw [ht]; exact hP, va_K.moved hW.alike hK, hD⟩⟩, hS.F ht⟩) hS.2.2 d_M_winding_17
  · rw [if_pos h4] at hres
    refine lv_iload_n hx hb d_M_winding_7 rfl (lv_at hl 2 rfl) ?_
    refine cq_Si (As := [.int y]) (rest := []) ⟨hx, hb, hml, hown, hts⟩ (c_km_far l dC dI y) (va_cwS 1 hts (gi_S tw_318 tw_319 tw_6 tw_320) rfl rfl rfl (by decide +kernel) ⟨(by rw [← hR]; exact Nat.le_of_ble_eq_true rfl), (by rw [← hR]; exact Nat.le_of_ble_eq_true rfl)⟩) rfl rfl hl.1 (Nat.le_of_ble_eq_true rfl) d_M_winding_8 ⟨Nat.zero_le _, Nat.zero_le _⟩ hP hS hA (fun H locs hP hS => ?_)
    refine lv_if_eq (tgt := 18) hx hb d_M_winding_11 rfl (fun h11 => ?_) (fun h11 => ?_)
    · rw [if_pos h11] at hres
      refine lv_aload_n hx hb d_M_winding_18 rfl (lv_at hl 0 rfl) ?_
      refine lv_ldc2 (v := 2) hx hb hown (hts _ tw_321) d_M_winding_19 ?_
      refine lv_iload_n hx hb d_M_winding_22 rfl (lv_at hl 1 rfl) ?_
      refine lv_i2l (v := Int32.toInt64 x) hx hb d_M_winding_23 rfl ?_
      refine lv_lmul hx hb d_M_winding_24 ?_
      refine lv_ldc2 (v := 2) hx hb hown (hts _ tw_321) d_M_winding_25 ?_
      refine lv_iload_n hx hb d_M_winding_28 rfl (lv_at hl 2 rfl) ?_
      refine lv_i2l (v := Int32.toInt64 y) hx hb d_M_winding_29 rfl ?_
      refine lv_lmul hx hb d_M_winding_30 ?_
      refine cm_v (wc := [(h0, .inr (2, [.int wd, .ref apx, .ref apy, .ref aon, .ref aen, .int cn, .int pn, .int tc, .int tn, .ref afi, .ref ase])), (apx, .inl (cJ, 256, .inr (.inl px))), (apy, .inl (cJ, 256, .inr (.inl py))), (aon, .inl (cZ, 256, .inl on)), (aen, .inl (cI, 256, .inl en)), (afi, .inl (cJ, 6, .inr (.inl fi))), (ase, .inl (cJ, 6, .inr (.inl se)))]) (wr := []) (W1 := [(h0, .inr (2, [.int wd, .ref apx, .ref apy, .ref aon, .ref aen, .int cn, .int pn, .int ((km_go px py on cn en fi se (2 * (Int32.toInt64 x)) (2 * (Int32.toInt64 y))).1), .int ((km_go px py on cn en fi se (2 * (Int32.toInt64 x)) (2 * (Int32.toInt64 y))).2.1), .ref afi, .ref ase])), (apx, .inl (cJ, 256, .inr (.inl px))), (apy, .inl (cJ, 256, .inr (.inl py))), (aon, .inl (cZ, 256, .inl on)), (aen, .inl (cI, 256, .inl en)), (afi, .inl (cJ, 6, .inr (.inl ((km_go px py on cn en fi se (2 * (Int32.toInt64 x)) (2 * (Int32.toInt64 y))).2.2.1)))), (ase, .inl (cJ, 6, .inr (.inl ((km_go px py on cn en fi se (2 * (Int32.toInt64 x)) (2 * (Int32.toInt64 y))).2.2.2))))]) (w2 := [(h0, .inr (2, [.int wd, .ref apx, .ref apy, .ref aon, .ref aen, .int cn, .int pn, .int ((km_go px py on cn en fi se (2 * (Int32.toInt64 x)) (2 * (Int32.toInt64 y))).1), .int ((km_go px py on cn en fi se (2 * (Int32.toInt64 x)) (2 * (Int32.toInt64 y))).2.1), .ref afi, .ref ase])), (apx, .inl (cJ, 256, .inr (.inl px))), (apy, .inl (cJ, 256, .inr (.inl py))), (aon, .inl (cZ, 256, .inl on)), (aen, .inl (cI, 256, .inl en)), (afi, .inl (cJ, 6, .inr (.inl ((km_go px py on cn en fi se (2 * (Int32.toInt64 x)) (2 * (Int32.toInt64 y))).2.2.1)))), (ase, .inl (cJ, 6, .inr (.inl ((km_go px py on cn en fi se (2 * (Int32.toInt64 x)) (2 * (Int32.toInt64 y))).2.2.2))))]) (va_runV (g := F0 m 31 ls [.long (2 * (Int32.toInt64 y)), .long (2 * (Int32.toInt64 x)), .ref h0]) (As := [.long (2 * (Int32.toInt64 x)), .long (2 * (Int32.toInt64 y))]) (rest := []) ⟨hx, hb, hml, hown, hts⟩ (c_km_go l dC dI h0 apx apy aon aen afi ase cJ cZ cI wd pn tc tn px py on cn en fi se (2 * (Int32.toInt64 x)) (2 * (Int32.toInt64 y)) (by exact hmk) _) (cwV 2 hts (gi_V tw_338 tw_340 ts_10 tw_6 tw_341) rfl rfl rfl (by decide +kernel) ⟨(by rw [← hR]; exact Nat.le_of_ble_eq_true rfl), (by rw [← hR]; exact Nat.le_of_ble_eq_true rfl)⟩) ⟨mc_blind, va_recv (ci := 2) (q := (R_M, F_M, 11)) hK hP rfl (q0 := 0) rfl, mc_pre (hP.sub [0, 1, 2, 3, 4, 5, 6] rfl) (hK.sub [0, 1, 2] rfl) (hD.sub [0, 1, 2, 3, 4, 5, 6] (by decide) rfl)⟩ rfl rfl hl.1 rfl (lv_room (Nat.le_of_ble_eq_true rfl)) d_M_winding_31 ⟨Nat.zero_le _, Nat.zero_le _⟩) hP hD hS hA [0, 1, 2, 3, 4, 5, 6] [] [0, 1, 2, 3, 4, 5, 6] rfl rfl (by decide) (by decide) rfl rfl (by decide) (fun H locs hP hD hS => ?_)
      have K34 : ∀ (x31 : Int32 × Int32 × (Nat → Int64) × (Nat → Int64)), km_wind_k34 x31 = RES → ∀ (ls : Array Slot) (H : Heap) (locs : List Loc), lv_has ls 3 [(0, .ref h0), (1, .int x), (2, .int y)] → va_P (dC, dI) cls9 [(h0, .inr (2, [.int wd, .ref apx, .ref apy, .ref aon, .ref aen, .int cn, .int pn, .int x31.1, .int x31.2.1, .ref afi, .ref ase])), (apx, .inl (cJ, 256, .inr (.inl px))), (apy, .inl (cJ, 256, .inr (.inl py))), (aon, .inl (cZ, 256, .inl on)), (aen, .inl (cI, 256, .inl en)), (afi, .inl (cJ, 6, .inr (.inl x31.2.2.1))), (ase, .inl (cJ, 6, .inr (.inl x31.2.2.2)))] H → va_D A [(h0, .inr (2, [.int wd, .ref apx, .ref apy, .ref aon, .ref aen, .int cn, .int pn, .int x31.1, .int x31.2.1, .ref afi, .ref ase])), (apx, .inl (cJ, 256, .inr (.inl px))), (apy, .inl (cJ, 256, .inr (.inl py))), (aon, .inl (cZ, 256, .inl on)), (aen, .inl (cI, 256, .inl en)), (afi, .inl (cJ, 6, .inr (.inl x31.2.2.1))), (ase, .inl (cJ, 6, .inr (.inl x31.2.2.2)))] → va_S A s.heap H locs → W p l e R s m args below meth c H locs 0 0 Q (F0 m 34 ls []) := by
        intro x31 hres ls H locs hl hP hD hS
        unfold km_wind_k34 at hres
        refine lv_aload_n hx hb d_M_winding_34 rfl (lv_at hl 0 rfl) ?_
        refine va_get (D := (dC, dI)) (ci := 2) (v := .int x31.1) (C := R_M) (T := F_M) (N := 11) hx hb hts in_M hown hK hP 0 rfl rfl 7 (by decide) (hts _ tw_286) (fun _ h9 => h9) rfl d_M_winding_35 ?_
        refine lv_if_eq (tgt := 47) hx hb d_M_winding_38 rfl (fun h38 => ?_) (fun h38 => ?_)
        · rw [if_pos h38] at hres
          refine lv_aload_n hx hb d_M_winding_47 rfl (lv_at hl 0 rfl) ?_
          refine va_get (D := (dC, dI)) (ci := 2) (v := .int x31.2.1) (C := R_M) (T := F_M) (N := 11) hx hb hts in_M hown hK hP 0 rfl rfl 8 (by decide) (hts _ tw_287) (fun _ h9 => h9) rfl d_M_winding_48 ?_
          rw [hQ]
          subst hres
          exact W.iret (v := x31.2.1) hx hb hr (fun t ht hW => ⟨⟨_, (), rfl, rfl, ⟨by rw [ht]; exact hP, va_K.moved hW.alike hK, hD⟩⟩, hS.F ht⟩) hS.2.2 d_M_winding_51
        · rw [if_neg h38] at hres
          refine lv_sipush (v := 1000) hx hb d_M_winding_41 (by decide) ?_
          refine lv_goto (tgt := 51) hx hb d_M_winding_44 rfl ?_
          rw [hQ]
          subst hres
          exact W.iret (v := 1000) hx hb hr (fun t ht hW => ⟨⟨_, (), rfl, rfl, ⟨by rw [ht]; exact hP, va_K.moved hW.alike hK, hD⟩⟩, hS.F ht⟩) hS.2.2 d_M_winding_51
      exact K34 (km_go px py on cn en fi se (2 * (Int32.toInt64 x)) (2 * (Int32.toInt64 y))) hres ls _ _ (lv_sub hl [0, 1, 2] rfl) hP hD hS
    · rw [if_neg h11] at hres
      refine lv_sipush (v := 2000) hx hb d_M_winding_14 (by decide) ?_
      rw [hQ]
      subst hres
      exact W.iret (v := 2000) hx hb hr (fun t ht hW => ⟨⟨_, (), rfl, rfl, ⟨by rw [ht]; exact hP, va_K.moved hW.alike hK, hD⟩⟩, hS.F ht⟩) hS.2.2 d_M_winding_17
def km_row_j76 (i1 : Int32) (kL21 : (Int32) → (Int64) → (Int32) → (Int32) → (Nat → Int64) → (Nat → Int64) → Int64 × Int32 × Int32 × (Nat → Int64) × (Nat → Int64)) (x52 : Int32 × Int32 × (Nat → Int64) × (Nat → Int64)) (t76_0 : Int64) : Int64 × Int32 × Int32 × (Nat → Int64) × (Nat → Int64) := (kL21 (i1 + 1) t76_0 x52.1 x52.2.1 x52.2.2.1 x52.2.2.2)
def km_row_k55 (i1 : Int32) (r1 : Int64) (kL21 : (Int32) → (Int64) → (Int32) → (Int32) → (Nat → Int64) → (Nat → Int64) → Int64 × Int32 × Int32 × (Nat → Int64) × (Nat → Int64)) (x52 : Int32 × Int32 × (Nat → Int64) × (Nat → Int64)) : Int64 × Int32 × Int32 × (Nat → Int64) × (Nat → Int64) := (if x52.1 = 0 then (if x52.2.1 = 0 then (km_row_j76 i1 kL21 x52 r1) else (km_row_j76 i1 kL21 x52 (r1 ||| (jv_lshl 1 i1)))) else (km_row_j76 i1 kL21 x52 (r1 ||| (jv_lshl 1 i1))))
def km_row_L21 (wd : Int32) (px : Nat → Int64) (py : Nat → Int64) (on : Nat → Int32) (cn : Int32) (en : Nat → Int32) (jj : Int32) : Nat → (Int32) → (Int64) → (Int32) → (Int32) → (Nat → Int64) → (Nat → Int64) → Int64 × Int32 × Int32 × (Nat → Int64) × (Nat → Int64)
  | 0, _, _, _, _, _, _ => (0, 0, 0, fun _ => 0, fun _ => 0)
  | n+1, i1, r1, tc1, tn1, f1, s1 => (if wd ≤ i1 then (r1, tc1, tn1, f1, s1) else (km_row_k55 i1 r1 (km_row_L21 wd px py on cn en jj n) (km_go px py on cn en f1 s1 ((128 * (Int32.toInt64 i1)) + 64) ((128 * (Int32.toInt64 jj)) + 64))))
def km_row (wd : Int32) (px : Nat → Int64) (py : Nat → Int64) (on : Nat → Int32) (cn : Int32) (en : Nat → Int32) (fi : Nat → Int64) (se : Nat → Int64) (tc : Int32) (tn : Int32) (jj : Int32) : Int64 × Int32 × Int32 × (Nat → Int64) × (Nat → Int64) := (if jj < (-300) then (0, tc, tn, fi, se) else (if jj ≤ 300 then (km_row_L21 wd px py on cn en jj 65 0 0 tc tn fi se) else (0, tc, tn, fi, se)))
set_option maxHeartbeats 4000000 in
set_option maxRecDepth 100000 in
theorem c_km_row (l : Launch) (dC : Nat → ClassId) (dI : Nat → Nat → Nat) (h0 : Nat) (apx : Nat) (apy : Nat) (aon : Nat) (aen : Nat) (afi : Nat) (ase : Nat) (cJ : ClassId) (cZ : ClassId) (cI : ClassId) (pn : Int32) (wd : Int32) (px : Nat → Int64) (py : Nat → Int64) (on : Nat → Int32) (cn : Int32) (en : Nat → Int32) (fi : Nat → Int64) (se : Nat → Int64) (tc : Int32) (tn : Int32) (jj : Int32) (hmk : mok cn pn en) (hwd : wok wd) : mc_l l y_M_row w_M_row { frames := 8, cells := 0, slots := 0, locals := 279 } (dC, dI) cls9 [(h0, .inr (2, [.int wd, .ref apx, .ref apy, .ref aon, .ref aen, .int cn, .int pn, .int tc, .int tn, .ref afi, .ref ase])), (apx, .inl (cJ, 256, .inr (.inl px))), (apy, .inl (cJ, 256, .inr (.inl py))), (aon, .inl (cZ, 256, .inl on)), (aen, .inl (cI, 256, .inl en)), (afi, .inl (cJ, 6, .inr (.inl fi))), (ase, .inl (cJ, 6, .inr (.inl se)))] [(h0, .inr (2, [.int wd, .ref apx, .ref apy, .ref aon, .ref aen, .int cn, .int pn, .int ((km_row wd px py on cn en fi se tc tn jj).2.1), .int ((km_row wd px py on cn en fi se tc tn jj).2.2.1), .ref afi, .ref ase])), (apx, .inl (cJ, 256, .inr (.inl px))), (apy, .inl (cJ, 256, .inr (.inl py))), (aon, .inl (cZ, 256, .inl on)), (aen, .inl (cI, 256, .inl en)), (afi, .inl (cJ, 6, .inr (.inl ((km_row wd px py on cn en fi se tc tn jj).2.2.2.1)))), (ase, .inl (cJ, 6, .inr (.inl ((km_row wd px py on cn en fi se tc tn jj).2.2.2.2))))] [(cJ, .long), (cZ, .boolean), (cI, .int)] [.ref h0, .int jj] ((km_row wd px py on cn en fi se tc tn jj).1) := by
  intro sz
  refine Met.ofW (cc := b_M_row) (maxL := 5) (ret := (some .long)) (by decide) rfl ?_
  intro p e s m args below meth c s₁ B hml hv
  obtain ⟨hargs, hsz, hP, hK, hD0⟩ := hv
  have hx := B.exec
  have hb := B.bytes
  have hr := B.returns
  have hts : ∀ w ∈ lw_w, w.before args s = true := fun w h => atoms_spec (ws := w_M_row) B.pre w (List.mem_cons_of_mem _ h)
  have hown : s.vm.findClass R_M = some m.cls := findClass_of_methodNamed B.named
  have hlocks := B.notSynchronized
  subst hsz
  have hD := hD0.self (sz := s.heap.size)
  generalize hR : (headSpec w_M_row { frames := 8, cells := 0, slots := 0, locals := 279 }).room = R
  generalize hAe : va_A [(h0, .inr (2, [.int wd, .ref apx, .ref apy, .ref aon, .ref aen, .int cn, .int pn, .int tc, .int tn, .ref afi, .ref ase])), (apx, .inl (cJ, 256, .inr (.inl px))), (apy, .inl (cJ, 256, .inr (.inl py))), (aon, .inl (cZ, 256, .inl on)), (aen, .inl (cI, 256, .inl en)), (afi, .inl (cJ, 6, .inr (.inl fi))), (ase, .inl (cJ, 6, .inr (.inl se)))] s.heap.size = A at hD ⊢
  have hA : ∀ q : Nat, s.heap.size ≤ q → A q := fun q h => by rw [← hAe]; exact Or.inr h
  have hS : va_S A s.heap s.heap [] := va_S.rf
  generalize hRES : km_row wd px py on cn en fi se tc tn jj = RES
  have hres := hRES
  have hl := lv_entry [.ref h0, .int jj] (n := 5) (Nat.le_of_ble_eq_true rfl)
  have hent : entryFrame m args 5 = F0 m 0 (lg_sl [.ref h0, .int jj] ++ List.replicate (5 - (lg_sl [.ref h0, .int jj]).length) Slot.unset).toArray [] := by rw [hargs]; exact lg_entry_eq m [.ref h0, .int jj] 5
  rw [hent]
  clear hent
  generalize (lg_sl [.ref h0, .int jj] ++ List.replicate (5 - (lg_sl [.ref h0, .int jj]).length) Slot.unset).toArray = ls at hl ⊢
  have hl : lv_has ls 5 [(0, .ref h0), (1, .int jj)] := hl
  have hP : va_P (dC, dI) cls9 [(h0, .inr (2, [.int wd, .ref apx, .ref apy, .ref aon, .ref aen, .int cn, .int pn, .int tc, .int tn, .ref afi, .ref ase])), (apx, .inl (cJ, 256, .inr (.inl px))), (apy, .inl (cJ, 256, .inr (.inl py))), (aon, .inl (cZ, 256, .inl on)), (aen, .inl (cI, 256, .inl en)), (afi, .inl (cJ, 6, .inr (.inl fi))), (ase, .inl (cJ, 6, .inr (.inl se)))] s.heap := hP
  have hD : va_D A [(h0, .inr (2, [.int wd, .ref apx, .ref apy, .ref aon, .ref aen, .int cn, .int pn, .int tc, .int tn, .ref afi, .ref ase])), (apx, .inl (cJ, 256, .inr (.inl px))), (apy, .inl (cJ, 256, .inr (.inl py))), (aon, .inl (cZ, 256, .inl on)), (aen, .inl (cI, 256, .inl en)), (afi, .inl (cJ, 6, .inr (.inl fi))), (ase, .inl (cJ, 6, .inr (.inl se)))] := hD
  clear hD0 hRES hAe
  unfold km_row at hres
  generalize hQ : MQ below (va_Ql (fun x (_ : Unit) => x = RES.1) (fun _ t => va_P (dC, dI) cls9 [(h0, .inr (2, [.int wd, .ref apx, .ref apy, .ref aon, .ref aen, .int cn, .int pn, .int RES.2.1, .int RES.2.2.1, .ref afi, .ref ase])), (apx, .inl (cJ, 256, .inr (.inl px))), (apy, .inl (cJ, 256, .inr (.inl py))), (aon, .inl (cZ, 256, .inl on)), (aen, .inl (cI, 256, .inl en)), (afi, .inl (cJ, 6, .inr (.inl RES.2.2.2.1))), (ase, .inl (cJ, 6, .inr (.inl RES.2.2.2.2)))] t.heap ∧ va_K (dC, dI) cls9 [(cJ, .long), (cZ, .boolean), (cI, .int)] t ∧ va_D A [(h0, .inr (2, [.int wd, .ref apx, .ref apy, .ref aon, .ref aen, .int cn, .int pn, .int RES.2.1, .int RES.2.2.1, .ref afi, .ref ase])), (apx, .inl (cJ, 256, .inr (.inl px))), (apy, .inl (cJ, 256, .inr (.inl py))), (aon, .inl (cZ, 256, .inl on)), (aen, .inl (cI, 256, .inl en)), (afi, .inl (cJ, 6, .inr (.inl RES.2.2.2.1))), (ase, .inl (cJ, 6, .inr (.inl RES.2.2.2.2)))]) A) args s 0 0 A = Q
  replace hQ := hQ.symm
  refine lv_iload_n hx hb d_M_row_0 rfl (lv_at hl 1 rfl) ?_
  refine lv_sipush (v := (-300)) hx hb d_M_row_1 (by decide) ?_
  refine lv_icmp_lt (tgt := 14) hx hb d_M_row_4 rfl (fun h4 => ?_) (fun h4 => ?_)
  · rw [if_pos h4] at hres
    refine lv_lconst (v := 0) hx hb d_M_row_14 (by decide) ?_
    rw [hQ]
    subst hres
    exact W.lret (v := 0) hx hb hr (fun t ht hW => ⟨⟨_, (), rfl, rfl, ⟨by rw [ht]; exact hP, va_K.moved hW.alike hK, hD⟩⟩, hS.F ht⟩) hS.2.2 d_M_row_15
  · rw [if_neg h4] at hres
    refine lv_iload_n hx hb d_M_row_7 rfl (lv_at hl 1 rfl) ?_
    refine lv_sipush (v := 300) hx hb d_M_row_8 (by decide) ?_
    refine lv_icmp_le (tgt := 16) hx hb d_M_row_11 rfl (fun h11 => ?_) (fun h11 => ?_)
    · rw [if_pos h11] at hres
      refine lv_lconst (v := 0) hx hb d_M_row_16 (by decide) ?_
      refine lv_lstore_n (lv' := [(2, .long 0), (0, .ref h0), (1, .int jj)]) hx hb d_M_row_17 rfl hl (by decide) rfl (fun ls hl => ?_)
      refine lv_iconst (v := 0) hx hb d_M_row_18 (by decide) ?_
      refine lv_istore (lv' := [(4, .int 0), (2, .long 0), (0, .ref h0), (1, .int jj)]) hx hb d_M_row_19 hl (by decide) rfl (fun ls hl => ?_)
      have L21 : ∀ (n : Nat) (i1 : Int32) (r1 : Int64) (tc1 : Int32) (tn1 : Int32) (f1 : Nat → Int64) (s1 : Nat → Int64), (∃ j : Nat, j ≤ 64 ∧ i1 = nI j) → 64 - i1.toNatClampNeg < n → km_row_L21 wd px py on cn en jj n i1 r1 tc1 tn1 f1 s1 = RES → ∀ (ls : Array Slot) (H : Heap) (locs : List Loc), lv_has ls 5 [(4, .int i1), (2, .long r1), (0, .ref h0), (1, .int jj)] → va_P (dC, dI) cls9 [(h0, .inr (2, [.int wd, .ref apx, .ref apy, .ref aon, .ref aen, .int cn, .int pn, .int tc1, .int tn1, .ref afi, .ref ase])), (apx, .inl (cJ, 256, .inr (.inl px))), (apy, .inl (cJ, 256, .inr (.inl py))), (aon, .inl (cZ, 256, .inl on)), (aen, .inl (cI, 256, .inl en)), (afi, .inl (cJ, 6, .inr (.inl f1))), (ase, .inl (cJ, 6, .inr (.inl s1)))] H → va_D A [(h0, .inr (2, [.int wd, .ref apx, .ref apy, .ref aon, .ref aen, .int cn, .int pn, .int tc1, .int tn1, .ref afi, .ref ase])), (apx, .inl (cJ, 256, .inr (.inl px))), (apy, .inl (cJ, 256, .inr (.inl py))), (aon, .inl (cZ, 256, .inl on)), (aen, .inl (cI, 256, .inl en)), (afi, .inl (cJ, 6, .inr (.inl f1))), (ase, .inl (cJ, 6, .inr (.inl s1)))] → va_S A s.heap H locs → W p l e R s m args below meth c H locs 0 0 Q (F0 m 21 ls []) := by
        intro n
        induction n with
        | zero => intro i1 r1 tc1 tn1 f1 s1 hinv hmu; exact absurd hmu (Nat.not_lt_zero _)
        | succ n ih =>
          intro i1 r1 tc1 tn1 f1 s1 hinv hmu hres ls H locs hl hP hD hS
          rw [km_row_L21] at hres
          refine lv_iload hx hb d_M_row_21 (lv_at hl 0 rfl) ?_
          refine lv_aload_n hx hb d_M_row_23 rfl (lv_at hl 2 rfl) ?_
          refine va_get (D := (dC, dI)) (ci := 2) (v := .int wd) (C := R_M) (T := F_M) (N := 11) hx hb hts in_M hown hK hP 0 rfl rfl 0 (by decide) (hts _ tw_279) (fun _ h9 => h9) rfl d_M_row_24 ?_
          refine lv_icmp_ge (tgt := 82) hx hb d_M_row_27 rfl (fun h27 => ?_) (fun h27 => ?_)
          · rw [if_pos h27] at hres
            refine lv_lload_n hx hb d_M_row_82 rfl (lv_at hl 1 rfl) ?_
            rw [hQ]
            subst hres
            exact W.lret (v := r1) hx hb hr (fun t ht hW => ⟨⟨_, (), rfl, rfl, ⟨by rw [ht]; exact hP, va_K.moved hW.alike hK, hD⟩⟩, hS.F ht⟩) hS.2.2 d_M_row_83
          · rw [if_neg h27] at hres
            refine lv_aload_n hx hb d_M_row_30 rfl (lv_at hl 2 rfl) ?_
            refine lv_ldc2 (v := 128) hx hb hown (hts _ tw_392) d_M_row_31 ?_
            refine lv_iload hx hb d_M_row_34 (lv_at hl 0 rfl) ?_
            refine lv_i2l (v := Int32.toInt64 i1) hx hb d_M_row_36 rfl ?_
            refine lv_lmul hx hb d_M_row_37 ?_
            refine lv_ldc2 (v := 64) hx hb hown (hts _ tw_393) d_M_row_38 ?_
            refine lv_ladd hx hb d_M_row_41 ?_
            refine lv_ldc2 (v := 128) hx hb hown (hts _ tw_392) d_M_row_42 ?_
            refine lv_iload_n hx hb d_M_row_45 rfl (lv_at hl 3 rfl) ?_
            refine lv_i2l (v := Int32.toInt64 jj) hx hb d_M_row_46 rfl ?_
            refine lv_lmul hx hb d_M_row_47 ?_
            refine lv_ldc2 (v := 64) hx hb hown (hts _ tw_393) d_M_row_48 ?_
            refine lv_ladd hx hb d_M_row_51 ?_
            refine cm_v (wc := [(h0, .inr (2, [.int wd, .ref apx, .ref apy, .ref aon, .ref aen, .int cn, .int pn, .int tc1, .int tn1, .ref afi, .ref ase])), (apx, .inl (cJ, 256, .inr (.inl px))), (apy, .inl (cJ, 256, .inr (.inl py))), (aon, .inl (cZ, 256, .inl on)), (aen, .inl (cI, 256, .inl en)), (afi, .inl (cJ, 6, .inr (.inl f1))), (ase, .inl (cJ, 6, .inr (.inl s1)))]) (wr := []) (W1 := [(h0, .inr (2, [.int wd, .ref apx, .ref apy, .ref aon, .ref aen, .int cn, .int pn, .int ((km_go px py on cn en f1 s1 ((128 * (Int32.toInt64 i1)) + 64) ((128 * (Int32.toInt64 jj)) + 64)).1), .int ((km_go px py on cn en f1 s1 ((128 * (Int32.toInt64 i1)) + 64) ((128 * (Int32.toInt64 jj)) + 64)).2.1), .ref afi, .ref ase])), (apx, .inl (cJ, 256, .inr (.inl px))), (apy, .inl (cJ, 256, .inr (.inl py))), (aon, .inl (cZ, 256, .inl on)), (aen, .inl (cI, 256, .inl en)), (afi, .inl (cJ, 6, .inr (.inl ((km_go px py on cn en f1 s1 ((128 * (Int32.toInt64 i1)) + 64) ((128 * (Int32.toInt64 jj)) + 64)).2.2.1)))), (ase, .inl (cJ, 6, .inr (.inl ((km_go px py on cn en f1 s1 ((128 * (Int32.toInt64 i1)) + 64) ((128 * (Int32.toInt64 jj)) + 64)).2.2.2))))]) (w2 := [(h0, .inr (2, [.int wd, .ref apx, .ref apy, .ref aon, .ref aen, .int cn, .int pn, .int ((km_go px py on cn en f1 s1 ((128 * (Int32.toInt64 i1)) + 64) ((128 * (Int32.toInt64 jj)) + 64)).1), .int ((km_go px py on cn en f1 s1 ((128 * (Int32.toInt64 i1)) + 64) ((128 * (Int32.toInt64 jj)) + 64)).2.1), .ref afi, .ref ase])), (apx, .inl (cJ, 256, .inr (.inl px))), (apy, .inl (cJ, 256, .inr (.inl py))), (aon, .inl (cZ, 256, .inl on)), (aen, .inl (cI, 256, .inl en)), (afi, .inl (cJ, 6, .inr (.inl ((km_go px py on cn en f1 s1 ((128 * (Int32.toInt64 i1)) + 64) ((128 * (Int32.toInt64 jj)) + 64)).2.2.1)))), (ase, .inl (cJ, 6, .inr (.inl ((km_go px py on cn en f1 s1 ((128 * (Int32.toInt64 i1)) + 64) ((128 * (Int32.toInt64 jj)) + 64)).2.2.2))))]) (va_runV (g := F0 m 52 ls [.long ((128 * (Int32.toInt64 jj)) + 64), .long ((128 * (Int32.toInt64 i1)) + 64), .ref h0]) (As := [.long ((128 * (Int32.toInt64 i1)) + 64), .long ((128 * (Int32.toInt64 jj)) + 64)]) (rest := []) ⟨hx, hb, hml, hown, hts⟩ (c_km_go l dC dI h0 apx apy aon aen afi ase cJ cZ cI wd pn tc1 tn1 px py on cn en f1 s1 ((128 * (Int32.toInt64 i1)) + 64) ((128 * (Int32.toInt64 jj)) + 64) (by exact hmk) _) (cwV 2 hts (gi_V tw_338 tw_340 ts_10 tw_6 tw_341) rfl rfl rfl (by decide +kernel) ⟨(by rw [← hR]; exact Nat.le_of_ble_eq_true rfl), (by rw [← hR]; exact Nat.le_of_ble_eq_true rfl)⟩) ⟨mc_blind, va_recv (ci := 2) (q := (R_M, F_M, 11)) hK hP rfl (q0 := 0) rfl, mc_pre (hP.sub [0, 1, 2, 3, 4, 5, 6] rfl) (hK.sub [0, 1, 2] rfl) (hD.sub [0, 1, 2, 3, 4, 5, 6] (by decide) rfl)⟩ rfl rfl hl.1 rfl (lv_room (Nat.le_of_ble_eq_true rfl)) d_M_row_52 ⟨Nat.zero_le _, Nat.zero_le _⟩) hP hD hS hA [0, 1, 2, 3, 4, 5, 6] [] [0, 1, 2, 3, 4, 5, 6] rfl rfl (by decide) (by decide) rfl rfl (by decide) (fun H locs hP hD hS => ?_)
            have K55 : ∀ (x52 : Int32 × Int32 × (Nat → Int64) × (Nat → Int64)), km_row_k55 i1 r1 (km_row_L21 wd px py on cn en jj n) x52 = RES → ∀ (ls : Array Slot) (H : Heap) (locs : List Loc), lv_has ls 5 [(4, .int i1), (2, .long r1), (0, .ref h0), (1, .int jj)] → va_P (dC, dI) cls9 [(h0, .inr (2, [.int wd, .ref apx, .ref apy, .ref aon, .ref aen, .int cn, .int pn, .int x52.1, .int x52.2.1, .ref afi, .ref ase])), (apx, .inl (cJ, 256, .inr (.inl px))), (apy, .inl (cJ, 256, .inr (.inl py))), (aon, .inl (cZ, 256, .inl on)), (aen, .inl (cI, 256, .inl en)), (afi, .inl (cJ, 6, .inr (.inl x52.2.2.1))), (ase, .inl (cJ, 6, .inr (.inl x52.2.2.2)))] H → va_D A [(h0, .inr (2, [.int wd, .ref apx, .ref apy, .ref aon, .ref aen, .int cn, .int pn, .int x52.1, .int x52.2.1, .ref afi, .ref ase])), (apx, .inl (cJ, 256, .inr (.inl px))), (apy, .inl (cJ, 256, .inr (.inl py))), (aon, .inl (cZ, 256, .inl on)), (aen, .inl (cI, 256, .inl en)), (afi, .inl (cJ, 6, .inr (.inl x52.2.2.1))), (ase, .inl (cJ, 6, .inr (.inl x52.2.2.2)))] → va_S A s.heap H locs → W p l e R s m args below meth c H locs 0 0 Q (F0 m 55 ls []) := by
              intro x52 hres ls H locs hl hP hD hS
              unfold km_row_k55 at hres
              refine lv_aload_n hx hb d_M_row_55 rfl (lv_at hl 2 rfl) ?_
              refine va_get (D := (dC, dI)) (ci := 2) (v := .int x52.1) (C := R_M) (T := F_M) (N := 11) hx hb hts in_M hown hK hP 0 rfl rfl 7 (by decide) (hts _ tw_286) (fun _ h9 => h9) rfl d_M_row_56 ?_
              have J76 : ∀ (t76_0 : Int64), km_row_j76 i1 (km_row_L21 wd px py on cn en jj n) x52 t76_0 = RES → ∀ (ls : Array Slot) (H : Heap) (locs : List Loc), lv_has ls 5 [(2, .long t76_0), (4, .int i1), (0, .ref h0), (1, .int jj)] → va_P (dC, dI) cls9 [(h0, .inr (2, [.int wd, .ref apx, .ref apy, .ref aon, .ref aen, .int cn, .int pn, .int x52.1, .int x52.2.1, .ref afi, .ref ase])), (apx, .inl (cJ, 256, .inr (.inl px))), (apy, .inl (cJ, 256, .inr (.inl py))), (aon, .inl (cZ, 256, .inl on)), (aen, .inl (cI, 256, .inl en)), (afi, .inl (cJ, 6, .inr (.inl x52.2.2.1))), (ase, .inl (cJ, 6, .inr (.inl x52.2.2.2)))] H → va_D A [(h0, .inr (2, [.int wd, .ref apx, .ref apy, .ref aon, .ref aen, .int cn, .int pn, .int x52.1, .int x52.2.1, .ref afi, .ref ase])), (apx, .inl (cJ, 256, .inr (.inl px))), (apy, .inl (cJ, 256, .inr (.inl py))), (aon, .inl (cZ, 256, .inl on)), (aen, .inl (cI, 256, .inl en)), (afi, .inl (cJ, 6, .inr (.inl x52.2.2.1))), (ase, .inl (cJ, 6, .inr (.inl x52.2.2.2)))] → va_S A s.heap H locs → W p l e R s m args below meth c H locs 0 0 Q (F0 m 76 ls []) := by
                intro t76_0 hres ls H locs hl hP hD hS
                unfold km_row_j76 at hres
                refine lv_iinc (k := 1) (v := i1 + 1) (lv' := [(4, .int (i1 + 1)), (2, .long t76_0), (0, .ref h0), (1, .int jj)]) hx hb d_M_row_76 hl rfl rfl (by decide) rfl (fun ls hl => ?_)
                refine lv_goto (tgt := 21) hx hb d_M_row_79 rfl ?_
                exact ih (i1 + 1) t76_0 x52.1 x52.2.1 x52.2.2.1 x52.2.2.2 (by obtain ⟨w9, hw9, ew⟩ := hwd; obtain ⟨j, g1, g2⟩ := hinv; have g4 : j < w9 := nI_nle_lt (by omega) (by rw [ew, g2] at h27; exact h27); exact ⟨j + 1, by omega, by rw [g2, nI_1]⟩) (by obtain ⟨w9, hw9, ew⟩ := hwd; obtain ⟨j, g1, g2⟩ := hinv; have g4 : j < w9 := nI_nle_lt (by omega) (by rw [ew, g2] at h27; exact h27); rw [g2, nI_clamp (by omega)] at hmu; rw [g2, nI_1, nI_clamp (by omega)]; omega) hres ls _ _ (lv_sub hl [0, 1, 2, 3] rfl) hP hD hS
              refine lv_if_ne (tgt := 69) hx hb d_M_row_59 rfl (fun h59 => ?_) (fun h59 => ?_)
              · rw [if_neg h59] at hres
                refine lv_lload_n hx hb d_M_row_69 rfl (lv_at hl 1 rfl) ?_
                refine lv_lconst (v := 1) hx hb d_M_row_70 (by decide) ?_
                refine lv_iload hx hb d_M_row_71 (lv_at hl 0 rfl) ?_
                refine lv_lshl (v := jv_lshl 1 i1) hx hb d_M_row_73 rfl ?_
                refine lv_lor hx hb d_M_row_74 ?_
                refine lv_lstore_n (lv' := [(2, .long (r1 ||| (jv_lshl 1 i1))), (4, .int i1), (0, .ref h0), (1, .int jj)]) hx hb d_M_row_75 rfl hl (by decide) rfl (fun ls hl => ?_)
                exact J76 (r1 ||| (jv_lshl 1 i1)) hres ls _ _ (lv_sub hl [0, 1, 2, 3] rfl) hP hD hS
              · rw [if_pos h59] at hres
                refine lv_aload_n hx hb d_M_row_62 rfl (lv_at hl 2 rfl) ?_
                refine va_get (D := (dC, dI)) (ci := 2) (v := .int x52.2.1) (C := R_M) (T := F_M) (N := 11) hx hb hts in_M hown hK hP 0 rfl rfl 8 (by decide) (hts _ tw_287) (fun _ h9 => h9) rfl d_M_row_63 ?_
                refine lv_if_eq (tgt := 76) hx hb d_M_row_66 rfl (fun h66 => ?_) (fun h66 => ?_)
                · rw [if_pos h66] at hres
                  exact J76 r1 hres ls _ _ (lv_sub hl [1, 0, 2, 3] rfl) hP hD hS
                · rw [if_neg h66] at hres
                  refine lv_lload_n hx hb d_M_row_69 rfl (lv_at hl 1 rfl) ?_
                  refine lv_lconst (v := 1) hx hb d_M_row_70 (by decide) ?_
                  refine lv_iload hx hb d_M_row_71 (lv_at hl 0 rfl) ?_
                  refine lv_lshl (v := jv_lshl 1 i1) hx hb d_M_row_73 rfl ?_
                  refine lv_lor hx hb d_M_row_74 ?_
                  refine lv_lstore_n (lv' := [(2, .long (r1 ||| (jv_lshl 1 i1))), (4, .int i1), (0, .ref h0), (1, .int jj)]) hx hb d_M_row_75 rfl hl (by decide) rfl (fun ls hl => ?_)
                  exact J76 (r1 ||| (jv_lshl 1 i1)) hres ls _ _ (lv_sub hl [0, 1, 2, 3] rfl) hP hD hS
            exact K55 (km_go px py on cn en f1 s1 ((128 * (Int32.toInt64 i1)) + 64) ((128 * (Int32.toInt64 jj)) + 64)) hres ls _ _ (lv_sub hl [0, 1, 2, 3] rfl) hP hD hS
      exact L21 65 0 0 tc tn fi se (by exact ⟨0, by omega, rfl⟩) (by decide) hres ls _ _ (lv_sub hl [0, 1, 2, 3] rfl) hP hD hS
    · rw [if_neg h11] at hres
      refine lv_lconst (v := 0) hx hb d_M_row_14 (by decide) ?_
      rw [hQ]
      subst hres
      exact W.lret (v := 0) hx hb hr (fun t ht hW => ⟨⟨_, (), rfl, rfl, ⟨by rw [ht]; exact hP, va_K.moved hW.alike hK, hD⟩⟩, hS.F ht⟩) hS.2.2 d_M_row_15
def km_point (px : Nat → Int64) (py : Nat → Int64) (on : Nat → Int32) (cn : Int32) (pn : Int32) (en : Nat → Int32) (x : Int32) (y : Int32) (o : Int32) : Int32 × (Nat → Int64) × (Nat → Int64) × (Nat → Int32) × Int32 := (if (km_far x) = 0 then (if (km_far y) = 0 then (if pn = 256 then ((-3), px, py, on, pn) else ((pn + 1) - (km_begun cn en), vp_updL px (Int32.toNatClampNeg pn) (2 * (Int32.toInt64 x)), vp_updL py (Int32.toNatClampNeg pn) (2 * (Int32.toInt64 y)), upd on (Int32.toNatClampNeg pn) (vp_nar .boolean o), pn + 1)) else ((-1), px, py, on, pn)) else ((-1), px, py, on, pn))
set_option maxHeartbeats 4000000 in
set_option maxRecDepth 100000 in
theorem c_km_point (l : Launch) (dC : Nat → ClassId) (dI : Nat → Nat → Nat) (h0 : Nat) (apx : Nat) (apy : Nat) (aon : Nat) (aen : Nat) (afi : Nat) (ase : Nat) (cJ : ClassId) (cZ : ClassId) (cI : ClassId) (wd : Int32) (tc : Int32) (tn : Int32) (fi : Nat → Int64) (se : Nat → Int64) (px : Nat → Int64) (py : Nat → Int64) (on : Nat → Int32) (cn : Int32) (pn : Int32) (en : Nat → Int32) (x : Int32) (y : Int32) (o : Int32) (hmk : mok cn pn en) : mc_i l y_M_point w_M_point { frames := 1, cells := 0, slots := 0, locals := 20 } (dC, dI) cls9 [(h0, .inr (2, [.int wd, .ref apx, .ref apy, .ref aon, .ref aen, .int cn, .int pn, .int tc, .int tn, .ref afi, .ref ase])), (apx, .inl (cJ, 256, .inr (.inl px))), (apy, .inl (cJ, 256, .inr (.inl py))), (aon, .inl (cZ, 256, .inl on)), (aen, .inl (cI, 256, .inl en)), (afi, .inl (cJ, 6, .inr (.inl fi))), (ase, .inl (cJ, 6, .inr (.inl se)))] [(h0, .inr (2, [.int wd, .ref apx, .ref apy, .ref aon, .ref aen, .int cn, .int ((km_point px py on cn pn en x y o).2.2.2.2), .int tc, .int tn, .ref afi, .ref ase])), (apx, .inl (cJ, 256, .inr (.inl ((km_point px py on cn pn en x y o).2.1)))), (apy, .inl (cJ, 256, .inr (.inl ((km_point px py on cn pn en x y o).2.2.1)))), (aon, .inl (cZ, 256, .inl ((km_point px py on cn pn en x y o).2.2.2.1))), (aen, .inl (cI, 256, .inl en)), (afi, .inl (cJ, 6, .inr (.inl fi))), (ase, .inl (cJ, 6, .inr (.inl se)))] [(cJ, .long), (cZ, .boolean), (cI, .int)] [.ref h0, .int x, .int y, .int o] ((km_point px py on cn pn en x y o).1) := by
  intro sz
  refine Met.ofW (cc := b_M_point) (maxL := 4) (ret := (some .int)) (by decide) rfl ?_
  intro p e s m args below meth c s₁ B hml hv
  obtain ⟨hargs, hsz, hP, hK, hD0⟩ := hv
  have hx := B.exec
  have hb := B.bytes
  have hr := B.returns
  have hts : ∀ w ∈ lw_w, w.before args s = true := fun w h => atoms_spec (ws := w_M_point) B.pre w (List.mem_cons_of_mem _ h)
  have hown : s.vm.findClass R_M = some m.cls := findClass_of_methodNamed B.named
  have hlocks := B.notSynchronized
  subst hsz
  have hD := hD0.self (sz := s.heap.size)
  generalize hR : (headSpec w_M_point { frames := 1, cells := 0, slots := 0, locals := 20 }).room = R
  generalize hAe : va_A [(h0, .inr (2, [.int wd, .ref apx, .ref apy, .ref aon, .ref aen, .int cn, .int pn, .int tc, .int tn, .ref afi, .ref ase])), (apx, .inl (cJ, 256, .inr (.inl px))), (apy, .inl (cJ, 256, .inr (.inl py))), (aon, .inl (cZ, 256, .inl on)), (aen, .inl (cI, 256, .inl en)), (afi, .inl (cJ, 6, .inr (.inl fi))), (ase, .inl (cJ, 6, .inr (.inl se)))] s.heap.size = A at hD ⊢
  have hA : ∀ q : Nat, s.heap.size ≤ q → A q := fun q h => by rw [← hAe]; exact Or.inr h
  have hS : va_S A s.heap s.heap [] := va_S.rf
  generalize hRES : km_point px py on cn pn en x y o = RES
  have hres := hRES
  have hl := lv_entry [.ref h0, .int x, .int y, .int o] (n := 4) (Nat.le_of_ble_eq_true rfl)
  have hent : entryFrame m args 4 = F0 m 0 (lg_sl [.ref h0, .int x, .int y, .int o] ++ List.replicate (4 - (lg_sl [.ref h0, .int x, .int y, .int o]).length) Slot.unset).toArray [] := by rw [hargs]; exact lg_entry_eq m [.ref h0, .int x, .int y, .int o] 4
  rw [hent]
  clear hent
  generalize (lg_sl [.ref h0, .int x, .int y, .int o] ++ List.replicate (4 - (lg_sl [.ref h0, .int x, .int y, .int o]).length) Slot.unset).toArray = ls at hl ⊢
  have hl : lv_has ls 4 [(0, .ref h0), (1, .int x), (2, .int y), (3, .int o)] := hl
  have hP : va_P (dC, dI) cls9 [(h0, .inr (2, [.int wd, .ref apx, .ref apy, .ref aon, .ref aen, .int cn, .int pn, .int tc, .int tn, .ref afi, .ref ase])), (apx, .inl (cJ, 256, .inr (.inl px))), (apy, .inl (cJ, 256, .inr (.inl py))), (aon, .inl (cZ, 256, .inl on)), (aen, .inl (cI, 256, .inl en)), (afi, .inl (cJ, 6, .inr (.inl fi))), (ase, .inl (cJ, 6, .inr (.inl se)))] s.heap := hP
  have hD : va_D A [(h0, .inr (2, [.int wd, .ref apx, .ref apy, .ref aon, .ref aen, .int cn, .int pn, .int tc, .int tn, .ref afi, .ref ase])), (apx, .inl (cJ, 256, .inr (.inl px))), (apy, .inl (cJ, 256, .inr (.inl py))), (aon, .inl (cZ, 256, .inl on)), (aen, .inl (cI, 256, .inl en)), (afi, .inl (cJ, 6, .inr (.inl fi))), (ase, .inl (cJ, 6, .inr (.inl se)))] := hD
  clear hD0 hRES hAe
  unfold km_point at hres
  generalize hQ : MQ below (va_Qi (fun x (_ : Unit) => x = RES.1) (fun _ t => va_P (dC, dI) cls9 [(h0, .inr (2, [.int wd, .ref apx, .ref apy, .ref aon, .ref aen, .int cn, .int RES.2.2.2.2, .int tc, .int tn, .ref afi, .ref ase])), (apx, .inl (cJ, 256, .inr (.inl RES.2.1))), (apy, .inl (cJ, 256, .inr (.inl RES.2.2.1))), (aon, .inl (cZ, 256, .inl RES.2.2.2.1)), (aen, .inl (cI, 256, .inl en)), (afi, .inl (cJ, 6, .inr (.inl fi))), (ase, .inl (cJ, 6, .inr (.inl se)))] t.heap ∧ va_K (dC, dI) cls9 [(cJ, .long), (cZ, .boolean), (cI, .int)] t ∧ va_D A [(h0, .inr (2, [.int wd, .ref apx, .ref apy, .ref aon, .ref aen, .int cn, .int RES.2.2.2.2, .int tc, .int tn, .ref afi, .ref ase])), (apx, .inl (cJ, 256, .inr (.inl RES.2.1))), (apy, .inl (cJ, 256, .inr (.inl RES.2.2.1))), (aon, .inl (cZ, 256, .inl RES.2.2.2.1)), (aen, .inl (cI, 256, .inl en)), (afi, .inl (cJ, 6, .inr (.inl fi))), (ase, .inl (cJ, 6, .inr (.inl se)))]) A) args s 0 0 A = Q
  replace hQ := hQ.symm
  refine lv_iload_n hx hb d_M_point_0 rfl (lv_at hl 1 rfl) ?_
  refine cq_Si (As := [.int x]) (rest := []) ⟨hx, hb, hml, hown, hts⟩ (c_km_far l dC dI x) (va_cwS 1 hts (gi_S tw_318 tw_319 tw_6 tw_320) rfl rfl rfl (by decide +kernel) ⟨(by rw [← hR]; exact Nat.le_of_ble_eq_true rfl), (by rw [← hR]; exact Nat.le_of_ble_eq_true rfl)⟩) rfl rfl hl.1 (Nat.le_of_ble_eq_true rfl) d_M_point_1 ⟨Nat.zero_le _, Nat.zero_le _⟩ hP hS hA (fun H locs hP hS => ?_)
  refine lv_if_ne (tgt := 14) hx hb d_M_point_4 rfl (fun h4 => ?_) (fun h4 => ?_)
  · rw [if_neg h4] at hres
    refine lv_iconst (v := (-1)) hx hb d_M_point_14 (by decide) ?_
    rw [hQ]
    subst hres
    exact W.iret (v := (-1)) hx hb hr (fun t ht hW => ⟨⟨_, (), rfl, rfl, ⟨by rw [ht]; exact hP, va_K.moved hW.alike hK, hD⟩⟩, hS.F ht⟩) hS.2.2 d_M_point_15
  · rw [if_pos h4] at hres
    refine lv_iload_n hx hb d_M_point_7 rfl (lv_at hl 2 rfl) ?_
    refine cq_Si (As := [.int y]) (rest := []) ⟨hx, hb, hml, hown, hts⟩ (c_km_far l dC dI y) (va_cwS 1 hts (gi_S tw_318 tw_319 tw_6 tw_320) rfl rfl rfl (by decide +kernel) ⟨(by rw [← hR]; exact Nat.le_of_ble_eq_true rfl), (by rw [← hR]; exact Nat.le_of_ble_eq_true rfl)⟩) rfl rfl hl.1 (Nat.le_of_ble_eq_true rfl) d_M_point_8 ⟨Nat.zero_le _, Nat.zero_le _⟩ hP hS hA (fun H locs hP hS => ?_)
    refine lv_if_eq (tgt := 16) hx hb d_M_point_11 rfl (fun h11 => ?_) (fun h11 => ?_)
    · rw [if_pos h11] at hres
      refine lv_aload_n hx hb d_M_point_16 rfl (lv_at hl 0 rfl) ?_
      refine va_get (D := (dC, dI)) (ci := 2) (v := .int pn) (C := R_M) (T := F_M) (N := 11) hx hb hts in_M hown hK hP 0 rfl rfl 6 (by decide) (hts _ tw_285) (fun _ h9 => h9) rfl d_M_point_17 ?_
      refine lv_sipush (v := 256) hx hb d_M_point_20 (by decide) ?_
      refine lv_icmp_ne (tgt := 29) hx hb d_M_point_23 rfl (fun h23 => ?_) (fun h23 => ?_)
      · rw [if_neg h23] at hres
        refine lv_aload_n hx hb d_M_point_29 rfl (lv_at hl 0 rfl) ?_
        refine va_get (D := (dC, dI)) (ci := 2) (v := .ref apx) (C := R_M) (T := F_M) (N := 11) hx hb hts in_M hown hK hP 0 rfl rfl 1 (by decide) (hts _ tw_280) (fun _ h9 => h9) rfl d_M_point_30 ?_
        refine lv_aload_n hx hb d_M_point_33 rfl (lv_at hl 0 rfl) ?_
        refine va_get (D := (dC, dI)) (ci := 2) (v := .int pn) (C := R_M) (T := F_M) (N := 11) hx hb hts in_M hown hK hP 0 rfl rfl 6 (by decide) (hts _ tw_285) (fun _ h9 => h9) rfl d_M_point_34 ?_
        refine lv_ldc2 (v := 2) hx hb hown (hts _ tw_321) d_M_point_37 ?_
        refine lv_iload_n hx hb d_M_point_40 rfl (lv_at hl 1 rfl) ?_
        refine lv_i2l (v := Int32.toInt64 x) hx hb d_M_point_41 rfl ?_
        refine lv_lmul hx hb d_M_point_42 ?_
        refine va_last hx hb hK hP hD hS 1 0 rfl rfl (by obtain ⟨C9, P9, e9, hC, hPn, hPl, h00, hPe, hst⟩ := hmk; rw [hPn] at h23 ⊢; have h9 : P9 ≠ 256 := fun z => h23 (by rw [z]; rfl); exact vp_in_nI (by omega) (by decide)) d_M_point_43 (fun H locs hP hD hS => ?_)
        have hP : va_P (dC, dI) cls9 [(h0, .inr (2, [.int wd, .ref apx, .ref apy, .ref aon, .ref aen, .int cn, .int pn, .int tc, .int tn, .ref afi, .ref ase])), (apx, .inl (cJ, 256, .inr (.inl (vp_updL px (Int32.toNatClampNeg pn) (2 * (Int32.toInt64 x)))))), (apy, .inl (cJ, 256, .inr (.inl py))), (aon, .inl (cZ, 256, .inl on)), (aen, .inl (cI, 256, .inl en)), (afi, .inl (cJ, 6, .inr (.inl fi))), (ase, .inl (cJ, 6, .inr (.inl se)))] H := hP
        have hD : va_D A [(h0, .inr (2, [.int wd, .ref apx, .ref apy, .ref aon, .ref aen, .int cn, .int pn, .int tc, .int tn, .ref afi, .ref ase])), (apx, .inl (cJ, 256, .inr (.inl (vp_updL px (Int32.toNatClampNeg pn) (2 * (Int32.toInt64 x)))))), (apy, .inl (cJ, 256, .inr (.inl py))), (aon, .inl (cZ, 256, .inl on)), (aen, .inl (cI, 256, .inl en)), (afi, .inl (cJ, 6, .inr (.inl fi))), (ase, .inl (cJ, 6, .inr (.inl se)))] := hD
        refine lv_aload_n hx hb d_M_point_44 rfl (lv_at hl 0 rfl) ?_
        refine va_get (D := (dC, dI)) (ci := 2) (v := .ref apy) (C := R_M) (T := F_M) (N := 11) hx hb hts in_M hown hK hP 0 rfl rfl 2 (by decide) (hts _ tw_281) (fun _ h9 => h9) rfl d_M_point_45 ?_
        refine lv_aload_n hx hb d_M_point_48 rfl (lv_at hl 0 rfl) ?_
        refine va_get (D := (dC, dI)) (ci := 2) (v := .int pn) (C := R_M) (T := F_M) (N := 11) hx hb hts in_M hown hK hP 0 rfl rfl 6 (by decide) (hts _ tw_285) (fun _ h9 => h9) rfl d_M_point_49 ?_
        refine lv_ldc2 (v := 2) hx hb hown (hts _ tw_321) d_M_point_52 ?_
        refine lv_iload_n hx hb d_M_point_55 rfl (lv_at hl 2 rfl) ?_
        refine lv_i2l (v := Int32.toInt64 y) hx hb d_M_point_56 rfl ?_
        refine lv_lmul hx hb d_M_point_57 ?_
        refine va_last hx hb hK hP hD hS 2 0 rfl rfl (by obtain ⟨C9, P9, e9, hC, hPn, hPl, h00, hPe, hst⟩ := hmk; rw [hPn] at h23 ⊢; have h9 : P9 ≠ 256 := fun z => h23 (by rw [z]; rfl); exact vp_in_nI (by omega) (by decide)) d_M_point_58 (fun H locs hP hD hS => ?_)
        have hP : va_P (dC, dI) cls9 [(h0, .inr (2, [.int wd, .ref apx, .ref apy, .ref aon, .ref aen, .int cn, .int pn, .int tc, .int tn, .ref afi, .ref ase])), (apx, .inl (cJ, 256, .inr (.inl (vp_updL px (Int32.toNatClampNeg pn) (2 * (Int32.toInt64 x)))))), (apy, .inl (cJ, 256, .inr (.inl (vp_updL py (Int32.toNatClampNeg pn) (2 * (Int32.toInt64 y)))))), (aon, .inl (cZ, 256, .inl on)), (aen, .inl (cI, 256, .inl en)), (afi, .inl (cJ, 6, .inr (.inl fi))), (ase, .inl (cJ, 6, .inr (.inl se)))] H := hP
        have hD : va_D A [(h0, .inr (2, [.int wd, .ref apx, .ref apy, .ref aon, .ref aen, .int cn, .int pn, .int tc, .int tn, .ref afi, .ref ase])), (apx, .inl (cJ, 256, .inr (.inl (vp_updL px (Int32.toNatClampNeg pn) (2 * (Int32.toInt64 x)))))), (apy, .inl (cJ, 256, .inr (.inl (vp_updL py (Int32.toNatClampNeg pn) (2 * (Int32.toInt64 y)))))), (aon, .inl (cZ, 256, .inl on)), (aen, .inl (cI, 256, .inl en)), (afi, .inl (cJ, 6, .inr (.inl fi))), (ase, .inl (cJ, 6, .inr (.inl se)))] := hD
        refine lv_aload_n hx hb d_M_point_59 rfl (lv_at hl 0 rfl) ?_
        refine va_get (D := (dC, dI)) (ci := 2) (v := .ref aon) (C := R_M) (T := F_M) (N := 11) hx hb hts in_M hown hK hP 0 rfl rfl 3 (by decide) (hts _ tw_282) (fun _ h9 => h9) rfl d_M_point_60 ?_
        refine lv_aload_n hx hb d_M_point_63 rfl (lv_at hl 0 rfl) ?_
        refine va_get (D := (dC, dI)) (ci := 2) (v := .int pn) (C := R_M) (T := F_M) (N := 11) hx hb hts in_M hown hK hP 0 rfl rfl 6 (by decide) (hts _ tw_285) (fun _ h9 => h9) rfl d_M_point_64 ?_
        refine lv_iload_n hx hb d_M_point_67 rfl (lv_at hl 3 rfl) ?_
        refine va_zast hx hb hK hP hD hS 3 1 rfl rfl (by obtain ⟨C9, P9, e9, hC, hPn, hPl, h00, hPe, hst⟩ := hmk; rw [hPn] at h23 ⊢; have h9 : P9 ≠ 256 := fun z => h23 (by rw [z]; rfl); exact vp_in_nI (by omega) (by decide)) d_M_point_68 (fun H locs hP hD hS => ?_)
        have hP : va_P (dC, dI) cls9 [(h0, .inr (2, [.int wd, .ref apx, .ref apy, .ref aon, .ref aen, .int cn, .int pn, .int tc, .int tn, .ref afi, .ref ase])), (apx, .inl (cJ, 256, .inr (.inl (vp_updL px (Int32.toNatClampNeg pn) (2 * (Int32.toInt64 x)))))), (apy, .inl (cJ, 256, .inr (.inl (vp_updL py (Int32.toNatClampNeg pn) (2 * (Int32.toInt64 y)))))), (aon, .inl (cZ, 256, .inl (upd on (Int32.toNatClampNeg pn) (vp_nar .boolean o)))), (aen, .inl (cI, 256, .inl en)), (afi, .inl (cJ, 6, .inr (.inl fi))), (ase, .inl (cJ, 6, .inr (.inl se)))] H := hP
        have hD : va_D A [(h0, .inr (2, [.int wd, .ref apx, .ref apy, .ref aon, .ref aen, .int cn, .int pn, .int tc, .int tn, .ref afi, .ref ase])), (apx, .inl (cJ, 256, .inr (.inl (vp_updL px (Int32.toNatClampNeg pn) (2 * (Int32.toInt64 x)))))), (apy, .inl (cJ, 256, .inr (.inl (vp_updL py (Int32.toNatClampNeg pn) (2 * (Int32.toInt64 y)))))), (aon, .inl (cZ, 256, .inl (upd on (Int32.toNatClampNeg pn) (vp_nar .boolean o)))), (aen, .inl (cI, 256, .inl en)), (afi, .inl (cJ, 6, .inr (.inl fi))), (ase, .inl (cJ, 6, .inr (.inl se)))] := hD
        refine lv_aload_n hx hb d_M_point_69 rfl (lv_at hl 0 rfl) ?_
        refine lv_dup hx hb d_M_point_70 rfl ?_
        refine va_get (D := (dC, dI)) (ci := 2) (v := .int pn) (C := R_M) (T := F_M) (N := 11) hx hb hts in_M hown hK hP 0 rfl rfl 6 (by decide) (hts _ tw_285) (fun _ h9 => h9) rfl d_M_point_71 ?_
        refine lv_iconst (v := 1) hx hb d_M_point_74 (by decide) ?_
        refine lv_iadd hx hb d_M_point_75 ?_
        refine va_put (D := (dC, dI)) (ci := 2) (v := .int (pn + 1)) (ty := .int) (C := R_M) (T := F_M) (N := 11) hx hb hts in_M tf_M tok_M n_M hown hK hP hD hS 0 rfl rfl 6 (by decide) (hts _ tw_285) (fun _ h9 => h9) rfl (by decide +kernel) (by rfl) (by rfl) (Nat.le_of_ble_eq_true rfl) d_M_point_76 (fun H locs hP hD hS => ?_)
        have hP : va_P (dC, dI) cls9 [(h0, .inr (2, [.int wd, .ref apx, .ref apy, .ref aon, .ref aen, .int cn, .int (pn + 1), .int tc, .int tn, .ref afi, .ref ase])), (apx, .inl (cJ, 256, .inr (.inl (vp_updL px (Int32.toNatClampNeg pn) (2 * (Int32.toInt64 x)))))), (apy, .inl (cJ, 256, .inr (.inl (vp_updL py (Int32.toNatClampNeg pn) (2 * (Int32.toInt64 y)))))), (aon, .inl (cZ, 256, .inl (upd on (Int32.toNatClampNeg pn) (vp_nar .boolean o)))), (aen, .inl (cI, 256, .inl en)), (afi, .inl (cJ, 6, .inr (.inl fi))), (ase, .inl (cJ, 6, .inr (.inl se)))] H := hP
        have hD : va_D A [(h0, .inr (2, [.int wd, .ref apx, .ref apy, .ref aon, .ref aen, .int cn, .int (pn + 1), .int tc, .int tn, .ref afi, .ref ase])), (apx, .inl (cJ, 256, .inr (.inl (vp_updL px (Int32.toNatClampNeg pn) (2 * (Int32.toInt64 x)))))), (apy, .inl (cJ, 256, .inr (.inl (vp_updL py (Int32.toNatClampNeg pn) (2 * (Int32.toInt64 y)))))), (aon, .inl (cZ, 256, .inl (upd on (Int32.toNatClampNeg pn) (vp_nar .boolean o)))), (aen, .inl (cI, 256, .inl en)), (afi, .inl (cJ, 6, .inr (.inl fi))), (ase, .inl (cJ, 6, .inr (.inl se)))] := hD
        refine lv_aload_n hx hb d_M_point_79 rfl (lv_at hl 0 rfl) ?_
        refine va_get (D := (dC, dI)) (ci := 2) (v := .int (pn + 1)) (C := R_M) (T := F_M) (N := 11) hx hb hts in_M hown hK hP 0 rfl rfl 6 (by decide) (hts _ tw_285) (fun _ h9 => h9) rfl d_M_point_80 ?_
        refine lv_aload_n hx hb d_M_point_83 rfl (lv_at hl 0 rfl) ?_
        refine cm_i (wc := [(h0, .inr (2, [.int wd, .ref apx, .ref apy, .ref aon, .ref aen, .int cn, .int (pn + 1), .int tc, .int tn, .ref afi, .ref ase])), (apx, .inl (cJ, 256, .inr (.inl (vp_updL px (Int32.toNatClampNeg pn) (2 * (Int32.toInt64 x)))))), (apy, .inl (cJ, 256, .inr (.inl (vp_updL py (Int32.toNatClampNeg pn) (2 * (Int32.toInt64 y)))))), (aon, .inl (cZ, 256, .inl (upd on (Int32.toNatClampNeg pn) (vp_nar .boolean o)))), (aen, .inl (cI, 256, .inl en)), (afi, .inl (cJ, 6, .inr (.inl fi))), (ase, .inl (cJ, 6, .inr (.inl se)))]) (wr := []) (W1 := [(h0, .inr (2, [.int wd, .ref apx, .ref apy, .ref aon, .ref aen, .int cn, .int (pn + 1), .int tc, .int tn, .ref afi, .ref ase])), (apx, .inl (cJ, 256, .inr (.inl (vp_updL px (Int32.toNatClampNeg pn) (2 * (Int32.toInt64 x)))))), (apy, .inl (cJ, 256, .inr (.inl (vp_updL py (Int32.toNatClampNeg pn) (2 * (Int32.toInt64 y)))))), (aon, .inl (cZ, 256, .inl (upd on (Int32.toNatClampNeg pn) (vp_nar .boolean o)))), (aen, .inl (cI, 256, .inl en)), (afi, .inl (cJ, 6, .inr (.inl fi))), (ase, .inl (cJ, 6, .inr (.inl se)))]) (w2 := [(h0, .inr (2, [.int wd, .ref apx, .ref apy, .ref aon, .ref aen, .int cn, .int (pn + 1), .int tc, .int tn, .ref afi, .ref ase])), (apx, .inl (cJ, 256, .inr (.inl (vp_updL px (Int32.toNatClampNeg pn) (2 * (Int32.toInt64 x)))))), (apy, .inl (cJ, 256, .inr (.inl (vp_updL py (Int32.toNatClampNeg pn) (2 * (Int32.toInt64 y)))))), (aon, .inl (cZ, 256, .inl (upd on (Int32.toNatClampNeg pn) (vp_nar .boolean o)))), (aen, .inl (cI, 256, .inl en)), (afi, .inl (cJ, 6, .inr (.inl fi))), (ase, .inl (cJ, 6, .inr (.inl se)))]) (va_runV (g := F0 m 84 ls [.ref h0, .int (pn + 1)]) (As := []) (rest := [.int (pn + 1)]) ⟨hx, hb, hml, hown, hts⟩ (c_km_begun l dC dI h0 apx apy aon aen afi ase cJ cZ cI wd (pn + 1) tc tn (vp_updL px (Int32.toNatClampNeg pn) (2 * (Int32.toInt64 x))) (vp_updL py (Int32.toNatClampNeg pn) (2 * (Int32.toInt64 y))) (upd on (Int32.toNatClampNeg pn) (vp_nar .boolean o)) fi se cn en (by exact mok_beg hmk) _) (cwV 0 hts (gi_V tw_322 tw_324 ts_9 tw_6 tw_325) rfl rfl rfl (by decide +kernel) ⟨(by rw [← hR]; exact Nat.le_of_ble_eq_true rfl), (by rw [← hR]; exact Nat.le_of_ble_eq_true rfl)⟩) ⟨mc_blind, va_recv (ci := 2) (q := (R_M, F_M, 11)) hK hP rfl (q0 := 0) rfl, mc_pre (hP.sub [0, 1, 2, 3, 4, 5, 6] rfl) (hK.sub [0, 1, 2] rfl) (hD.sub [0, 1, 2, 3, 4, 5, 6] (by decide) rfl)⟩ rfl rfl hl.1 rfl (lv_room (Nat.le_of_ble_eq_true rfl)) d_M_point_84 ⟨Nat.zero_le _, Nat.zero_le _⟩) hP hD hS hA [0, 1, 2, 3, 4, 5, 6] [] [0, 1, 2, 3, 4, 5, 6] rfl rfl (by decide) (by decide) rfl rfl (by decide) (fun H locs hP hD hS => ?_)
        refine lv_isub hx hb d_M_point_87 ?_
        rw [hQ]
        subst hres
        exact W.iret (v := (pn + 1) - (km_begun cn en)) hx hb hr (fun t ht hW => ⟨⟨_, (), rfl, rfl, ⟨by rw [ht]; exact hP, va_K.moved hW.alike hK, hD⟩⟩, hS.F ht⟩) hS.2.2 d_M_point_88
      · rw [if_pos h23] at hres
        refine lv_bipush (v := (-3)) hx hb d_M_point_26 (by decide) ?_
        rw [hQ]
        subst hres
        exact W.iret (v := (-3)) hx hb hr (fun t ht hW => ⟨⟨_, (), rfl, rfl, ⟨by rw [ht]; exact hP, va_K.moved hW.alike hK, hD⟩⟩, hS.F ht⟩) hS.2.2 d_M_point_28
    · rw [if_neg h11] at hres
      refine lv_iconst (v := (-1)) hx hb d_M_point_14 (by decide) ?_
      rw [hQ]
      subst hres
      exact W.iret (v := (-1)) hx hb hr (fun t ht hW => ⟨⟨_, (), rfl, rfl, ⟨by rw [ht]; exact hP, va_K.moved hW.alike hK, hD⟩⟩, hS.F ht⟩) hS.2.2 d_M_point_15
theorem km_begun_i {C : Nat} {e : Nat → Nat} {en : Nat → Int32} (hC : C ≤ 256) (h0 : e 0 = 0) (h : ∀ c, c < C → e c < e (c + 1) ∧ en c = nI (e (c + 1))) : km_begun (nI C) en = nI (e C) := by
  unfold km_begun
  by_cases c : C = 0
  · subst c
    rw [if_pos (by decide), h0]; rfl
  · have h9 := nI_pred (C - 1)
    rw [Nat.sub_add_cancel (by omega)] at h9
    rw [if_neg (nI_ne0 (by omega) (by omega)), h9, nI_clamp (by omega), (h (C - 1) (by omega)).2, Nat.sub_add_cancel (by omega)]
theorem mok_close {cn pn : Int32} {en : Nat → Int32} (hm : mok cn pn en) (h : ¬ pn = km_begun cn en) : vp_in cn 256 := by
  obtain ⟨C, P, e, h1, h2, h3, h4, h5, h6⟩ := hm
  have h7 := mok_C h4 (fun c hc => (h6 c hc).1)
  rw [h1, h2, km_begun_i (by omega) h4 h6] at h
  have h8 : P ≠ e C := fun z => h (by rw [z])
  rw [h1]
  exact vp_in_nI (by omega) (by decide)
def km_close (cn : Int32) (pn : Int32) (en : Nat → Int32) : Int32 × (Nat → Int32) × Int32 := (if pn = (km_begun cn en) then ((-2), en, cn) else (cn + 1, upd en (Int32.toNatClampNeg cn) pn, cn + 1))
set_option maxHeartbeats 4000000 in
set_option maxRecDepth 100000 in
theorem c_km_close (l : Launch) (dC : Nat → ClassId) (dI : Nat → Nat → Nat) (h0 : Nat) (apx : Nat) (apy : Nat) (aon : Nat) (aen : Nat) (afi : Nat) (ase : Nat) (cJ : ClassId) (cZ : ClassId) (cI : ClassId) (wd : Int32) (tc : Int32) (tn : Int32) (px : Nat → Int64) (py : Nat → Int64) (on : Nat → Int32) (fi : Nat → Int64) (se : Nat → Int64) (cn : Int32) (pn : Int32) (en : Nat → Int32) (hmk : mok cn pn en) : mc_i l y_M_close w_M_close { frames := 1, cells := 0, slots := 0, locals := 20 } (dC, dI) cls9 [(h0, .inr (2, [.int wd, .ref apx, .ref apy, .ref aon, .ref aen, .int cn, .int pn, .int tc, .int tn, .ref afi, .ref ase])), (apx, .inl (cJ, 256, .inr (.inl px))), (apy, .inl (cJ, 256, .inr (.inl py))), (aon, .inl (cZ, 256, .inl on)), (aen, .inl (cI, 256, .inl en)), (afi, .inl (cJ, 6, .inr (.inl fi))), (ase, .inl (cJ, 6, .inr (.inl se)))] [(h0, .inr (2, [.int wd, .ref apx, .ref apy, .ref aon, .ref aen, .int ((km_close cn pn en).2.2), .int pn, .int tc, .int tn, .ref afi, .ref ase])), (apx, .inl (cJ, 256, .inr (.inl px))), (apy, .inl (cJ, 256, .inr (.inl py))), (aon, .inl (cZ, 256, .inl on)), (aen, .inl (cI, 256, .inl ((km_close cn pn en).2.1))), (afi, .inl (cJ, 6, .inr (.inl fi))), (ase, .inl (cJ, 6, .inr (.inl se)))] [(cJ, .long), (cZ, .boolean), (cI, .int)] [.ref h0] ((km_close cn pn en).1) := by
  intro sz
  refine Met.ofW (cc := b_M_close) (maxL := 1) (ret := (some .int)) (by decide) rfl ?_
  intro p e s m args below meth c s₁ B hml hv
  obtain ⟨hargs, hsz, hP, hK, hD0⟩ := hv
  have hx := B.exec
  have hb := B.bytes
  have hr := B.returns
  have hts : ∀ w ∈ lw_w, w.before args s = true := fun w h => atoms_spec (ws := w_M_close) B.pre w (List.mem_cons_of_mem _ h)
  have hown : s.vm.findClass R_M = some m.cls := findClass_of_methodNamed B.named
  have hlocks := B.notSynchronized
  subst hsz
  have hD := hD0.self (sz := s.heap.size)
  generalize hR : (headSpec w_M_close { frames := 1, cells := 0, slots := 0, locals := 20 }).room = R
  generalize hAe : va_A [(h0, .inr (2, [.int wd, .ref apx, .ref apy, .ref aon, .ref aen, .int cn, .int pn, .int tc, .int tn, .ref afi, .ref ase])), (apx, .inl (cJ, 256, .inr (.inl px))), (apy, .inl (cJ, 256, .inr (.inl py))), (aon, .inl (cZ, 256, .inl on)), (aen, .inl (cI, 256, .inl en)), (afi, .inl (cJ, 6, .inr (.inl fi))), (ase, .inl (cJ, 6, .inr (.inl se)))] s.heap.size = A at hD ⊢
  have hA : ∀ q : Nat, s.heap.size ≤ q → A q := fun q h => by rw [← hAe]; exact Or.inr h
  have hS : va_S A s.heap s.heap [] := va_S.rf
  generalize hRES : km_close cn pn en = RES
  have hres := hRES
  have hl := lv_entry [.ref h0] (n := 1) (Nat.le_of_ble_eq_true rfl)
  have hent : entryFrame m args 1 = F0 m 0 (lg_sl [.ref h0] ++ List.replicate (1 - (lg_sl [.ref h0]).length) Slot.unset).toArray [] := by rw [hargs]; exact lg_entry_eq m [.ref h0] 1
  rw [hent]
  clear hent
  generalize (lg_sl [.ref h0] ++ List.replicate (1 - (lg_sl [.ref h0]).length) Slot.unset).toArray = ls at hl ⊢
  have hl : lv_has ls 1 [(0, .ref h0)] := hl
  have hP : va_P (dC, dI) cls9 [(h0, .inr (2, [.int wd, .ref apx, .ref apy, .ref aon, .ref aen, .int cn, .int pn, .int tc, .int tn, .ref afi, .ref ase])), (apx, .inl (cJ, 256, .inr (.inl px))), (apy, .inl (cJ, 256, .inr (.inl py))), (aon, .inl (cZ, 256, .inl on)), (aen, .inl (cI, 256, .inl en)), (afi, .inl (cJ, 6, .inr (.inl fi))), (ase, .inl (cJ, 6, .inr (.inl se)))] s.heap := hP
  have hD : va_D A [(h0, .inr (2, [.int wd, .ref apx, .ref apy, .ref aon, .ref aen, .int cn, .int pn, .int tc, .int tn, .ref afi, .ref ase])), (apx, .inl (cJ, 256, .inr (.inl px))), (apy, .inl (cJ, 256, .inr (.inl py))), (aon, .inl (cZ, 256, .inl on)), (aen, .inl (cI, 256, .inl en)), (afi, .inl (cJ, 6, .inr (.inl fi))), (ase, .inl (cJ, 6, .inr (.inl se)))] := hD
  clear hD0 hRES hAe
  unfold km_close at hres
  generalize hQ : MQ below (va_Qi (fun x (_ : Unit) => x = RES.1) (fun _ t => va_P (dC, dI) cls9 [(h0, .inr (2, [.int wd, .ref apx, .ref apy, .ref aon, .ref aen, .int RES.2.2, .int pn, .int tc, .int tn, .ref afi, .ref ase])), (apx, .inl (cJ, 256, .inr (.inl px))), (apy, .inl (cJ, 256, .inr (.inl py))), (aon, .inl (cZ, 256, .inl on)), (aen, .inl (cI, 256, .inl RES.2.1)), (afi, .inl (cJ, 6, .inr (.inl fi))), (ase, .inl (cJ, 6, .inr (.inl se)))] t.heap ∧ va_K (dC, dI) cls9 [(cJ, .long), (cZ, .boolean), (cI, .int)] t ∧ va_D A [(h0, .inr (2, [.int wd, .ref apx, .ref apy, .ref aon, .ref aen, .int RES.2.2, .int pn, .int tc, .int tn, .ref afi, .ref ase])), (apx, .inl (cJ, 256, .inr (.inl px))), (apy, .inl (cJ, 256, .inr (.inl py))), (aon, .inl (cZ, 256, .inl on)), (aen, .inl (cI, 256, .inl RES.2.1)), (afi, .inl (cJ, 6, .inr (.inl fi))), (ase, .inl (cJ, 6, .inr (.inl se)))]) A) args s 0 0 A = Q
  replace hQ := hQ.symm
  refine lv_aload_n hx hb d_M_close_0 rfl (lv_at hl 0 rfl) ?_
  refine va_get (D := (dC, dI)) (ci := 2) (v := .int pn) (C := R_M) (T := F_M) (N := 11) hx hb hts in_M hown hK hP 0 rfl rfl 6 (by decide) (hts _ tw_285) (fun _ h9 => h9) rfl d_M_close_1 ?_
  refine lv_aload_n hx hb d_M_close_4 rfl (lv_at hl 0 rfl) ?_
  refine cm_i (wc := [(h0, .inr (2, [.int wd, .ref apx, .ref apy, .ref aon, .ref aen, .int cn, .int pn, .int tc, .int tn, .ref afi, .ref ase])), (apx, .inl (cJ, 256, .inr (.inl px))), (apy, .inl (cJ, 256, .inr (.inl py))), (aon, .inl (cZ, 256, .inl on)), (aen, .inl (cI, 256, .inl en)), (afi, .inl (cJ, 6, .inr (.inl fi))), (ase, .inl (cJ, 6, .inr (.inl se)))]) (wr := []) (W1 := [(h0, .inr (2, [.int wd, .ref apx, .ref apy, .ref aon, .ref aen, .int cn, .int pn, .int tc, .int tn, .ref afi, .ref ase])), (apx, .inl (cJ, 256, .inr (.inl px))), (apy, .inl (cJ, 256, .inr (.inl py))), (aon, .inl (cZ, 256, .inl on)), (aen, .inl (cI, 256, .inl en)), (afi, .inl (cJ, 6, .inr (.inl fi))), (ase, .inl (cJ, 6, .inr (.inl se)))]) (w2 := [(h0, .inr (2, [.int wd, .ref apx, .ref apy, .ref aon, .ref aen, .int cn, .int pn, .int tc, .int tn, .ref afi, .ref ase])), (apx, .inl (cJ, 256, .inr (.inl px))), (apy, .inl (cJ, 256, .inr (.inl py))), (aon, .inl (cZ, 256, .inl on)), (aen, .inl (cI, 256, .inl en)), (afi, .inl (cJ, 6, .inr (.inl fi))), (ase, .inl (cJ, 6, .inr (.inl se)))]) (va_runV (g := F0 m 5 ls [.ref h0, .int pn]) (As := []) (rest := [.int pn]) ⟨hx, hb, hml, hown, hts⟩ (c_km_begun l dC dI h0 apx apy aon aen afi ase cJ cZ cI wd pn tc tn px py on fi se cn en (by exact mok_beg hmk) _) (cwV 0 hts (gi_V tw_322 tw_324 ts_9 tw_6 tw_325) rfl rfl rfl (by decide +kernel) ⟨(by rw [← hR]; exact Nat.le_of_ble_eq_true rfl), (by rw [← hR]; exact Nat.le_of_ble_eq_true rfl)⟩) ⟨mc_blind, va_recv (ci := 2) (q := (R_M, F_M, 11)) hK hP rfl (q0 := 0) rfl, mc_pre (hP.sub [0, 1, 2, 3, 4, 5, 6] rfl) (hK.sub [0, 1, 2] rfl) (hD.sub [0, 1, 2, 3, 4, 5, 6] (by decide) rfl)⟩ rfl rfl hl.1 rfl (lv_room (Nat.le_of_ble_eq_true rfl)) d_M_close_5 ⟨Nat.zero_le _, Nat.zero_le _⟩) hP hD hS hA [0, 1, 2, 3, 4, 5, 6] [] [0, 1, 2, 3, 4, 5, 6] rfl rfl (by decide) (by decide) rfl rfl (by decide) (fun H locs hP hD hS => ?_)
  refine lv_icmp_ne (tgt := 14) hx hb d_M_close_8 rfl (fun h8 => ?_) (fun h8 => ?_)
  · rw [if_neg h8] at hres
    refine lv_aload_n hx hb d_M_close_14 rfl (lv_at hl 0 rfl) ?_
    refine va_get (D := (dC, dI)) (ci := 2) (v := .ref aen) (C := R_M) (T := F_M) (N := 11) hx hb hts in_M hown hK hP 0 rfl rfl 4 (by decide) (hts _ tw_283) (fun _ h9 => h9) rfl d_M_close_15 ?_
    refine lv_aload_n hx hb d_M_close_18 rfl (lv_at hl 0 rfl) ?_
    refine va_get (D := (dC, dI)) (ci := 2) (v := .int cn) (C := R_M) (T := F_M) (N := 11) hx hb hts in_M hown hK hP 0 rfl rfl 5 (by decide) (hts _ tw_284) (fun _ h9 => h9) rfl d_M_close_19 ?_
    refine lv_aload_n hx hb d_M_close_22 rfl (lv_at hl 0 rfl) ?_
    refine va_get (D := (dC, dI)) (ci := 2) (v := .int pn) (C := R_M) (T := F_M) (N := 11) hx hb hts in_M hown hK hP 0 rfl rfl 6 (by decide) (hts _ tw_285) (fun _ h9 => h9) rfl d_M_close_23 ?_
    refine va_iast hx hb hK hP hD hS 4 2 rfl rfl (by exact mok_close hmk h8) d_M_close_26 (fun H locs hP hD hS => ?_)
    have hP : va_P (dC, dI) cls9 [(h0, .inr (2, [.int wd, .ref apx, .ref apy, .ref aon, .ref aen, .int cn, .int pn, .int tc, .int tn, .ref afi, .ref ase])), (apx, .inl (cJ, 256, .inr (.inl px))), (apy, .inl (cJ, 256, .inr (.inl py))), (aon, .inl (cZ, 256, .inl on)), (aen, .inl (cI, 256, .inl (upd en (Int32.toNatClampNeg cn) pn))), (afi, .inl (cJ, 6, .inr (.inl fi))), (ase, .inl (cJ, 6, .inr (.inl se)))] H := hP
    have hD : va_D A [(h0, .inr (2, [.int wd, .ref apx, .ref apy, .ref aon, .ref aen, .int cn, .int pn, .int tc, .int tn, .ref afi, .ref ase])), (apx, .inl (cJ, 256, .inr (.inl px))), (apy, .inl (cJ, 256, .inr (.inl py))), (aon, .inl (cZ, 256, .inl on)), (aen, .inl (cI, 256, .inl (upd en (Int32.toNatClampNeg cn) pn))), (afi, .inl (cJ, 6, .inr (.inl fi))), (ase, .inl (cJ, 6, .inr (.inl se)))] := hD
    refine lv_aload_n hx hb d_M_close_27 rfl (lv_at hl 0 rfl) ?_
    refine lv_dup hx hb d_M_close_28 rfl ?_
    refine va_get (D := (dC, dI)) (ci := 2) (v := .int cn) (C := R_M) (T := F_M) (N := 11) hx hb hts in_M hown hK hP 0 rfl rfl 5 (by decide) (hts _ tw_284) (fun _ h9 => h9) rfl d_M_close_29 ?_
    refine lv_iconst (v := 1) hx hb d_M_close_32 (by decide) ?_
    refine lv_iadd hx hb d_M_close_33 ?_
    refine va_put (D := (dC, dI)) (ci := 2) (v := .int (cn + 1)) (ty := .int) (C := R_M) (T := F_M) (N := 11) hx hb hts in_M tf_M tok_M n_M hown hK hP hD hS 0 rfl rfl 5 (by decide) (hts _ tw_284) (fun _ h9 => h9) rfl (by decide +kernel) (by rfl) (by rfl) (Nat.le_of_ble_eq_true rfl) d_M_close_34 (fun H locs hP hD hS => ?_)
    have hP : va_P (dC, dI) cls9 [(h0, .inr (2, [.int wd, .ref apx, .ref apy, .ref aon, .ref aen, .int (cn + 1), .int pn, .int tc, .int tn, .ref afi, .ref ase])), (apx, .inl (cJ, 256, .inr (.inl px))), (apy, .inl (cJ, 256, .inr (.inl py))), (aon, .inl (cZ, 256, .inl on)), (aen, .inl (cI, 256, .inl (upd en (Int32.toNatClampNeg cn) pn))), (afi, .inl (cJ, 6, .inr (.inl fi))), (ase, .inl (cJ, 6, .inr (.inl se)))] H := hP
    have hD : va_D A [(h0, .inr (2, [.int wd, .ref apx, .ref apy, .ref aon, .ref aen, .int (cn + 1), .int pn, .int tc, .int tn, .ref afi, .ref ase])), (apx, .inl (cJ, 256, .inr (.inl px))), (apy, .inl (cJ, 256, .inr (.inl py))), (aon, .inl (cZ, 256, .inl on)), (aen, .inl (cI, 256, .inl (upd en (Int32.toNatClampNeg cn) pn))), (afi, .inl (cJ, 6, .inr (.inl fi))), (ase, .inl (cJ, 6, .inr (.inl se)))] := hD
    refine lv_aload_n hx hb d_M_close_37 rfl (lv_at hl 0 rfl) ?_
    refine va_get (D := (dC, dI)) (ci := 2) (v := .int (cn + 1)) (C := R_M) (T := F_M) (N := 11) hx hb hts in_M hown hK hP 0 rfl rfl 5 (by decide) (hts _ tw_284) (fun _ h9 => h9) rfl d_M_close_38 ?_
    rw [hQ]
    subst hres
    exact W.iret (v := cn + 1) hx hb hr (fun t ht hW => ⟨⟨_, (), rfl, rfl, ⟨by rw [ht]; exact hP, va_K.moved hW.alike hK, hD⟩⟩, hS.F ht⟩) hS.2.2 d_M_close_41
  · rw [if_pos h8] at hres
    refine lv_bipush (v := (-2)) hx hb d_M_close_11 (by decide) ?_
    rw [hQ]
    subst hres
    exact W.iret (v := (-2)) hx hb hr (fun t ht hW => ⟨⟨_, (), rfl, rfl, ⟨by rw [ht]; exact hP, va_K.moved hW.alike hK, hD⟩⟩, hS.F ht⟩) hS.2.2 d_M_close_13
def km_clear (cn : Int32) (pn : Int32) : Int32 × Int32 × Int32 := (cn, 0, 0)
set_option maxHeartbeats 4000000 in
set_option maxRecDepth 100000 in
theorem c_km_clear (l : Launch) (dC : Nat → ClassId) (dI : Nat → Nat → Nat) (h0 : Nat) (apx : Nat) (apy : Nat) (aon : Nat) (aen : Nat) (afi : Nat) (ase : Nat) (cJ : ClassId) (cZ : ClassId) (cI : ClassId) (wd : Int32) (tc : Int32) (tn : Int32) (px : Nat → Int64) (py : Nat → Int64) (on : Nat → Int32) (en : Nat → Int32) (fi : Nat → Int64) (se : Nat → Int64) (cn : Int32) (pn : Int32)  : mc_i l y_M_clear w_M_clear { frames := 0, cells := 0, slots := 0, locals := 0 } (dC, dI) cls9 [(h0, .inr (2, [.int wd, .ref apx, .ref apy, .ref aon, .ref aen, .int cn, .int pn, .int tc, .int tn, .ref afi, .ref ase])), (apx, .inl (cJ, 256, .inr (.inl px))), (apy, .inl (cJ, 256, .inr (.inl py))), (aon, .inl (cZ, 256, .inl on)), (aen, .inl (cI, 256, .inl en)), (afi, .inl (cJ, 6, .inr (.inl fi))), (ase, .inl (cJ, 6, .inr (.inl se)))] [(h0, .inr (2, [.int wd, .ref apx, .ref apy, .ref aon, .ref aen, .int ((km_clear cn pn).2.1), .int ((km_clear cn pn).2.2), .int tc, .int tn, .ref afi, .ref ase])), (apx, .inl (cJ, 256, .inr (.inl px))), (apy, .inl (cJ, 256, .inr (.inl py))), (aon, .inl (cZ, 256, .inl on)), (aen, .inl (cI, 256, .inl en)), (afi, .inl (cJ, 6, .inr (.inl fi))), (ase, .inl (cJ, 6, .inr (.inl se)))] [(cJ, .long), (cZ, .boolean), (cI, .int)] [.ref h0] ((km_clear cn pn).1) := by
  intro sz
  refine Met.ofW (cc := b_M_clear) (maxL := 2) (ret := (some .int)) (by decide) rfl ?_
  intro p e s m args below meth c s₁ B hml hv
  obtain ⟨hargs, hsz, hP, hK, hD0⟩ := hv
  have hx := B.exec
  have hb := B.bytes
  have hr := B.returns
  have hts : ∀ w ∈ lw_w, w.before args s = true := fun w h => atoms_spec (ws := w_M_clear) B.pre w (List.mem_cons_of_mem _ h)
  have hown : s.vm.findClass R_M = some m.cls := findClass_of_methodNamed B.named
  have hlocks := B.notSynchronized
  subst hsz
  have hD := hD0.self (sz := s.heap.size)
  generalize hR : (headSpec w_M_clear { frames := 0, cells := 0, slots := 0, locals := 0 }).room = R
  generalize hAe : va_A [(h0, .inr (2, [.int wd, .ref apx, .ref apy, .ref aon, .ref aen, .int cn, .int pn, .int tc, .int tn, .ref afi, .ref ase])), (apx, .inl (cJ, 256, .inr (.inl px))), (apy, .inl (cJ, 256, .inr (.inl py))), (aon, .inl (cZ, 256, .inl on)), (aen, .inl (cI, 256, .inl en)), (afi, .inl (cJ, 6, .inr (.inl fi))), (ase, .inl (cJ, 6, .inr (.inl se)))] s.heap.size = A at hD ⊢
  have hA : ∀ q : Nat, s.heap.size ≤ q → A q := fun q h => by rw [← hAe]; exact Or.inr h
  have hS : va_S A s.heap s.heap [] := va_S.rf
  generalize hRES : km_clear cn pn = RES
  have hres := hRES
  have hl := lv_entry [.ref h0] (n := 2) (Nat.le_of_ble_eq_true rfl)
  have hent : entryFrame m args 2 = F0 m 0 (lg_sl [.ref h0] ++ List.replicate (2 - (lg_sl [.ref h0]).length) Slot.unset).toArray [] := by rw [hargs]; exact lg_entry_eq m [.ref h0] 2
  rw [hent]
  clear hent
  generalize (lg_sl [.ref h0] ++ List.replicate (2 - (lg_sl [.ref h0]).length) Slot.unset).toArray = ls at hl ⊢
  have hl : lv_has ls 2 [(0, .ref h0)] := hl
  have hP : va_P (dC, dI) cls9 [(h0, .inr (2, [.int wd, .ref apx, .ref apy, .ref aon, .ref aen, .int cn, .int pn, .int tc, .int tn, .ref afi, .ref ase])), (apx, .inl (cJ, 256, .inr (.inl px))), (apy, .inl (cJ, 256, .inr (.inl py))), (aon, .inl (cZ, 256, .inl on)), (aen, .inl (cI, 256, .inl en)), (afi, .inl (cJ, 6, .inr (.inl fi))), (ase, .inl (cJ, 6, .inr (.inl se)))] s.heap := hP
  have hD : va_D A [(h0, .inr (2, [.int wd, .ref apx, .ref apy, .ref aon, .ref aen, .int cn, .int pn, .int tc, .int tn, .ref afi, .ref ase])), (apx, .inl (cJ, 256, .inr (.inl px))), (apy, .inl (cJ, 256, .inr (.inl py))), (aon, .inl (cZ, 256, .inl on)), (aen, .inl (cI, 256, .inl en)), (afi, .inl (cJ, 6, .inr (.inl fi))), (ase, .inl (cJ, 6, .inr (.inl se)))] := hD
  clear hD0 hRES hAe
  unfold km_clear at hres
  generalize hQ : MQ below (va_Qi (fun x (_ : Unit) => x = RES.1) (fun _ t => va_P (dC, dI) cls9 [(h0, .inr (2, [.int wd, .ref apx, .ref apy, .ref aon, .ref aen, .int RES.2.1, .int RES.2.2, .int tc, .int tn, .ref afi, .ref ase])), (apx, .inl (cJ, 256, .inr (.inl px))), (apy, .inl (cJ, 256, .inr (.inl py))), (aon, .inl (cZ, 256, .inl on)), (aen, .inl (cI, 256, .inl en)), (afi, .inl (cJ, 6, .inr (.inl fi))), (ase, .inl (cJ, 6, .inr (.inl se)))] t.heap ∧ va_K (dC, dI) cls9 [(cJ, .long), (cZ, .boolean), (cI, .int)] t ∧ va_D A [(h0, .inr (2, [.int wd, .ref apx, .ref apy, .ref aon, .ref aen, .int RES.2.1, .int RES.2.2, .int tc, .int tn, .ref afi, .ref ase])), (apx, .inl (cJ, 256, .inr (.inl px))), (apy, .inl (cJ, 256, .inr (.inl py))), (aon, .inl (cZ, 256, .inl on)), (aen, .inl (cI, 256, .inl en)), (afi, .inl (cJ, 6, .inr (.inl fi))), (ase, .inl (cJ, 6, .inr (.inl se)))]) A) args s 0 0 A = Q
  replace hQ := hQ.symm
  refine lv_aload_n hx hb d_M_clear_0 rfl (lv_at hl 0 rfl) ?_
  refine va_get (D := (dC, dI)) (ci := 2) (v := .int cn) (C := R_M) (T := F_M) (N := 11) hx hb hts in_M hown hK hP 0 rfl rfl 5 (by decide) (hts _ tw_284) (fun _ h9 => h9) rfl d_M_clear_1 ?_
  refine lv_istore_n (lv' := [(1, .int cn), (0, .ref h0)]) hx hb d_M_clear_4 rfl hl (by decide) rfl (fun ls hl => ?_)
  refine lv_aload_n hx hb d_M_clear_5 rfl (lv_at hl 1 rfl) ?_
  refine lv_iconst (v := 0) hx hb d_M_clear_6 (by decide) ?_
  refine va_put (D := (dC, dI)) (ci := 2) (v := .int 0) (ty := .int) (C := R_M) (T := F_M) (N := 11) hx hb hts in_M tf_M tok_M n_M hown hK hP hD hS 0 rfl rfl 5 (by decide) (hts _ tw_284) (fun _ h9 => h9) rfl (by decide +kernel) (by rfl) (by rfl) (Nat.le_of_ble_eq_true rfl) d_M_clear_7 (fun H locs hP hD hS => ?_)
  have hP : va_P (dC, dI) cls9 [(h0, .inr (2, [.int wd, .ref apx, .ref apy, .ref aon, .ref aen, .int 0, .int pn, .int tc, .int tn, .ref afi, .ref ase])), (apx, .inl (cJ, 256, .inr (.inl px))), (apy, .inl (cJ, 256, .inr (.inl py))), (aon, .inl (cZ, 256, .inl on)), (aen, .inl (cI, 256, .inl en)), (afi, .inl (cJ, 6, .inr (.inl fi))), (ase, .inl (cJ, 6, .inr (.inl se)))] H := hP
  have hD : va_D A [(h0, .inr (2, [.int wd, .ref apx, .ref apy, .ref aon, .ref aen, .int 0, .int pn, .int tc, .int tn, .ref afi, .ref ase])), (apx, .inl (cJ, 256, .inr (.inl px))), (apy, .inl (cJ, 256, .inr (.inl py))), (aon, .inl (cZ, 256, .inl on)), (aen, .inl (cI, 256, .inl en)), (afi, .inl (cJ, 6, .inr (.inl fi))), (ase, .inl (cJ, 6, .inr (.inl se)))] := hD
  refine lv_aload_n hx hb d_M_clear_10 rfl (lv_at hl 1 rfl) ?_
  refine lv_iconst (v := 0) hx hb d_M_clear_11 (by decide) ?_
  refine va_put (D := (dC, dI)) (ci := 2) (v := .int 0) (ty := .int) (C := R_M) (T := F_M) (N := 11) hx hb hts in_M tf_M tok_M n_M hown hK hP hD hS 0 rfl rfl 6 (by decide) (hts _ tw_285) (fun _ h9 => h9) rfl (by decide +kernel) (by rfl) (by rfl) (Nat.le_of_ble_eq_true rfl) d_M_clear_12 (fun H locs hP hD hS => ?_)
  have hP : va_P (dC, dI) cls9 [(h0, .inr (2, [.int wd, .ref apx, .ref apy, .ref aon, .ref aen, .int 0, .int 0, .int tc, .int tn, .ref afi, .ref ase])), (apx, .inl (cJ, 256, .inr (.inl px))), (apy, .inl (cJ, 256, .inr (.inl py))), (aon, .inl (cZ, 256, .inl on)), (aen, .inl (cI, 256, .inl en)), (afi, .inl (cJ, 6, .inr (.inl fi))), (ase, .inl (cJ, 6, .inr (.inl se)))] H := hP
  have hD : va_D A [(h0, .inr (2, [.int wd, .ref apx, .ref apy, .ref aon, .ref aen, .int 0, .int 0, .int tc, .int tn, .ref afi, .ref ase])), (apx, .inl (cJ, 256, .inr (.inl px))), (apy, .inl (cJ, 256, .inr (.inl py))), (aon, .inl (cZ, 256, .inl on)), (aen, .inl (cI, 256, .inl en)), (afi, .inl (cJ, 6, .inr (.inl fi))), (ase, .inl (cJ, 6, .inr (.inl se)))] := hD
  refine lv_iload_n hx hb d_M_clear_15 rfl (lv_at hl 0 rfl) ?_
  rw [hQ]
  subst hres
  exact W.iret (v := cn) hx hb hr (fun t ht hW => ⟨⟨_, (), rfl, rfl, ⟨by rw [ht]; exact hP, va_K.moved hW.alike hK, hD⟩⟩, hS.F ht⟩) hS.2.2 d_M_clear_16
def km_count (wd : Int32) (cn : Int32) (pn : Int32) (en : Nat → Int32) (what : Int32) : Int32 := (if what = 0 then wd else (if what = 1 then cn else (if what = 2 then pn else (if what = 3 then (pn - (km_begun cn en)) else (-1)))))
set_option maxHeartbeats 4000000 in
set_option maxRecDepth 100000 in
theorem c_km_count (l : Launch) (dC : Nat → ClassId) (dI : Nat → Nat → Nat) (h0 : Nat) (apx : Nat) (apy : Nat) (aon : Nat) (aen : Nat) (afi : Nat) (ase : Nat) (cJ : ClassId) (cZ : ClassId) (cI : ClassId) (tc : Int32) (tn : Int32) (px : Nat → Int64) (py : Nat → Int64) (on : Nat → Int32) (fi : Nat → Int64) (se : Nat → Int64) (wd : Int32) (cn : Int32) (pn : Int32) (en : Nat → Int32) (what : Int32) (hmk : mok cn pn en) : mc_i l y_M_count w_M_count { frames := 1, cells := 0, slots := 0, locals := 20 } (dC, dI) cls9 [(h0, .inr (2, [.int wd, .ref apx, .ref apy, .ref aon, .ref aen, .int cn, .int pn, .int tc, .int tn, .ref afi, .ref ase])), (apx, .inl (cJ, 256, .inr (.inl px))), (apy, .inl (cJ, 256, .inr (.inl py))), (aon, .inl (cZ, 256, .inl on)), (aen, .inl (cI, 256, .inl en)), (afi, .inl (cJ, 6, .inr (.inl fi))), (ase, .inl (cJ, 6, .inr (.inl se)))] [(h0, .inr (2, [.int wd, .ref apx, .ref apy, .ref aon, .ref aen, .int cn, .int pn, .int tc, .int tn, .ref afi, .ref ase])), (apx, .inl (cJ, 256, .inr (.inl px))), (apy, .inl (cJ, 256, .inr (.inl py))), (aon, .inl (cZ, 256, .inl on)), (aen, .inl (cI, 256, .inl en)), (afi, .inl (cJ, 6, .inr (.inl fi))), (ase, .inl (cJ, 6, .inr (.inl se)))] [(cJ, .long), (cZ, .boolean), (cI, .int)] [.ref h0, .int what] (km_count wd cn pn en what) := by
  intro sz
  refine Met.ofW (cc := b_M_count) (maxL := 2) (ret := (some .int)) (by decide) rfl ?_
  intro p e s m args below meth c s₁ B hml hv
  obtain ⟨hargs, hsz, hP, hK, hD0⟩ := hv
  have hx := B.exec
  have hb := B.bytes
  have hr := B.returns
  have hts : ∀ w ∈ lw_w, w.before args s = true := fun w h => atoms_spec (ws := w_M_count) B.pre w (List.mem_cons_of_mem _ h)
  have hown : s.vm.findClass R_M = some m.cls := findClass_of_methodNamed B.named
  have hlocks := B.notSynchronized
  subst hsz
  have hD := hD0.self (sz := s.heap.size)
  generalize hR : (headSpec w_M_count { frames := 1, cells := 0, slots := 0, locals := 20 }).room = R
  generalize hAe : va_A [(h0, .inr (2, [.int wd, .ref apx, .ref apy, .ref aon, .ref aen, .int cn, .int pn, .int tc, .int tn, .ref afi, .ref ase])), (apx, .inl (cJ, 256, .inr (.inl px))), (apy, .inl (cJ, 256, .inr (.inl py))), (aon, .inl (cZ, 256, .inl on)), (aen, .inl (cI, 256, .inl en)), (afi, .inl (cJ, 6, .inr (.inl fi))), (ase, .inl (cJ, 6, .inr (.inl se)))] s.heap.size = A at hD ⊢
  have hA : ∀ q : Nat, s.heap.size ≤ q → A q := fun q h => by rw [← hAe]; exact Or.inr h
  have hS : va_S A s.heap s.heap [] := va_S.rf
  generalize hRES : km_count wd cn pn en what = RES
  have hres := hRES
  have hl := lv_entry [.ref h0, .int what] (n := 2) (Nat.le_of_ble_eq_true rfl)
  have hent : entryFrame m args 2 = F0 m 0 (lg_sl [.ref h0, .int what] ++ List.replicate (2 - (lg_sl [.ref h0, .int what]).length) Slot.unset).toArray [] := by rw [hargs]; exact lg_entry_eq m [.ref h0, .int what] 2
  rw [hent]
  clear hent
  generalize (lg_sl [.ref h0, .int what] ++ List.replicate (2 - (lg_sl [.ref h0, .int what]).length) Slot.unset).toArray = ls at hl ⊢
  have hl : lv_has ls 2 [(0, .ref h0), (1, .int what)] := hl
  have hP : va_P (dC, dI) cls9 [(h0, .inr (2, [.int wd, .ref apx, .ref apy, .ref aon, .ref aen, .int cn, .int pn, .int tc, .int tn, .ref afi, .ref ase])), (apx, .inl (cJ, 256, .inr (.inl px))), (apy, .inl (cJ, 256, .inr (.inl py))), (aon, .inl (cZ, 256, .inl on)), (aen, .inl (cI, 256, .inl en)), (afi, .inl (cJ, 6, .inr (.inl fi))), (ase, .inl (cJ, 6, .inr (.inl se)))] s.heap := hP
  have hD : va_D A [(h0, .inr (2, [.int wd, .ref apx, .ref apy, .ref aon, .ref aen, .int cn, .int pn, .int tc, .int tn, .ref afi, .ref ase])), (apx, .inl (cJ, 256, .inr (.inl px))), (apy, .inl (cJ, 256, .inr (.inl py))), (aon, .inl (cZ, 256, .inl on)), (aen, .inl (cI, 256, .inl en)), (afi, .inl (cJ, 6, .inr (.inl fi))), (ase, .inl (cJ, 6, .inr (.inl se)))] := hD
  clear hD0 hRES hAe
  unfold km_count at hres
  generalize hQ : MQ below (va_Qi (fun x (_ : Unit) => x = RES) (fun _ t => va_P (dC, dI) cls9 [(h0, .inr (2, [.int wd, .ref apx, .ref apy, .ref aon, .ref aen, .int cn, .int pn, .int tc, .int tn, .ref afi, .ref ase])), (apx, .inl (cJ, 256, .inr (.inl px))), (apy, .inl (cJ, 256, .inr (.inl py))), (aon, .inl (cZ, 256, .inl on)), (aen, .inl (cI, 256, .inl en)), (afi, .inl (cJ, 6, .inr (.inl fi))), (ase, .inl (cJ, 6, .inr (.inl se)))] t.heap ∧ va_K (dC, dI) cls9 [(cJ, .long), (cZ, .boolean), (cI, .int)] t ∧ va_D A [(h0, .inr (2, [.int wd, .ref apx, .ref apy, .ref aon, .ref aen, .int cn, .int pn, .int tc, .int tn, .ref afi, .ref ase])), (apx, .inl (cJ, 256, .inr (.inl px))), (apy, .inl (cJ, 256, .inr (.inl py))), (aon, .inl (cZ, 256, .inl on)), (aen, .inl (cI, 256, .inl en)), (afi, .inl (cJ, 6, .inr (.inl fi))), (ase, .inl (cJ, 6, .inr (.inl se)))]) A) args s 0 0 A = Q
  replace hQ := hQ.symm
  refine lv_iload_n hx hb d_M_count_0 rfl (lv_at hl 1 rfl) ?_
  by_cases hs1_0 : what = 0
  · rw [if_pos hs1_0] at hres
    refine lv_tableIn (off := 31) (tgt := 32) hx hb d_M_count_1 (by rw [hs1_0]; decide) (by rw [hs1_0]; decide) (by rw [hs1_0]; rfl) rfl ?_
    refine lv_aload_n hx hb d_M_count_32 rfl (lv_at hl 0 rfl) ?_
    refine va_get (D := (dC, dI)) (ci := 2) (v := .int wd) (C := R_M) (T := F_M) (N := 11) hx hb hts in_M hown hK hP 0 rfl rfl 0 (by decide) (hts _ tw_279) (fun _ h9 => h9) rfl d_M_count_33 ?_
    rw [hQ]
    subst hres
    exact W.iret (v := wd) hx hb hr (fun t ht hW => ⟨⟨_, (), rfl, rfl, ⟨by rw [ht]; exact hP, va_K.moved hW.alike hK, hD⟩⟩, hS.F ht⟩) hS.2.2 d_M_count_36
  · rw [if_neg hs1_0] at hres
    by_cases hs1_1 : what = 1
    · rw [if_pos hs1_1] at hres
      refine lv_tableIn (off := 36) (tgt := 37) hx hb d_M_count_1 (by rw [hs1_1]; decide) (by rw [hs1_1]; decide) (by rw [hs1_1]; rfl) rfl ?_
      refine lv_aload_n hx hb d_M_count_37 rfl (lv_at hl 0 rfl) ?_
      refine va_get (D := (dC, dI)) (ci := 2) (v := .int cn) (C := R_M) (T := F_M) (N := 11) hx hb hts in_M hown hK hP 0 rfl rfl 5 (by decide) (hts _ tw_284) (fun _ h9 => h9) rfl d_M_count_38 ?_
      rw [hQ]
      subst hres
      exact W.iret (v := cn) hx hb hr (fun t ht hW => ⟨⟨_, (), rfl, rfl, ⟨by rw [ht]; exact hP, va_K.moved hW.alike hK, hD⟩⟩, hS.F ht⟩) hS.2.2 d_M_count_41
    · rw [if_neg hs1_1] at hres
      by_cases hs1_2 : what = 2
      · rw [if_pos hs1_2] at hres
        refine lv_tableIn (off := 41) (tgt := 42) hx hb d_M_count_1 (by rw [hs1_2]; decide) (by rw [hs1_2]; decide) (by rw [hs1_2]; rfl) rfl ?_
        refine lv_aload_n hx hb d_M_count_42 rfl (lv_at hl 0 rfl) ?_
        refine va_get (D := (dC, dI)) (ci := 2) (v := .int pn) (C := R_M) (T := F_M) (N := 11) hx hb hts in_M hown hK hP 0 rfl rfl 6 (by decide) (hts _ tw_285) (fun _ h9 => h9) rfl d_M_count_43 ?_
        rw [hQ]
        subst hres
        exact W.iret (v := pn) hx hb hr (fun t ht hW => ⟨⟨_, (), rfl, rfl, ⟨by rw [ht]; exact hP, va_K.moved hW.alike hK, hD⟩⟩, hS.F ht⟩) hS.2.2 d_M_count_46
      · rw [if_neg hs1_2] at hres
        by_cases hs1_3 : what = 3
        · rw [if_pos hs1_3] at hres
          refine lv_tableIn (off := 46) (tgt := 47) hx hb d_M_count_1 (by rw [hs1_3]; decide) (by rw [hs1_3]; decide) (by rw [hs1_3]; rfl) rfl ?_
          refine lv_aload_n hx hb d_M_count_47 rfl (lv_at hl 0 rfl) ?_
          refine va_get (D := (dC, dI)) (ci := 2) (v := .int pn) (C := R_M) (T := F_M) (N := 11) hx hb hts in_M hown hK hP 0 rfl rfl 6 (by decide) (hts _ tw_285) (fun _ h9 => h9) rfl d_M_count_48 ?_
          refine lv_aload_n hx hb d_M_count_51 rfl (lv_at hl 0 rfl) ?_
          refine cm_i (wc := [(h0, .inr (2, [.int wd, .ref apx, .ref apy, .ref aon, .ref aen, .int cn, .int pn, .int tc, .int tn, .ref afi, .ref ase])), (apx, .inl (cJ, 256, .inr (.inl px))), (apy, .inl (cJ, 256, .inr (.inl py))), (aon, .inl (cZ, 256, .inl on)), (aen, .inl (cI, 256, .inl en)), (afi, .inl (cJ, 6, .inr (.inl fi))), (ase, .inl (cJ, 6, .inr (.inl se)))]) (wr := []) (W1 := [(h0, .inr (2, [.int wd, .ref apx, .ref apy, .ref aon, .ref aen, .int cn, .int pn, .int tc, .int tn, .ref afi, .ref ase])), (apx, .inl (cJ, 256, .inr (.inl px))), (apy, .inl (cJ, 256, .inr (.inl py))), (aon, .inl (cZ, 256, .inl on)), (aen, .inl (cI, 256, .inl en)), (afi, .inl (cJ, 6, .inr (.inl fi))), (ase, .inl (cJ, 6, .inr (.inl se)))]) (w2 := [(h0, .inr (2, [.int wd, .ref apx, .ref apy, .ref aon, .ref aen, .int cn, .int pn, .int tc, .int tn, .ref afi, .ref ase])), (apx, .inl (cJ, 256, .inr (.inl px))), (apy, .inl (cJ, 256, .inr (.inl py))), (aon, .inl (cZ, 256, .inl on)), (aen, .inl (cI, 256, .inl en)), (afi, .inl (cJ, 6, .inr (.inl fi))), (ase, .inl (cJ, 6, .inr (.inl se)))]) (va_runV (g := F0 m 52 ls [.ref h0, .int pn]) (As := []) (rest := [.int pn]) ⟨hx, hb, hml, hown, hts⟩ (c_km_begun l dC dI h0 apx apy aon aen afi ase cJ cZ cI wd pn tc tn px py on fi se cn en (by exact mok_beg hmk) _) (cwV 0 hts (gi_V tw_322 tw_324 ts_9 tw_6 tw_325) rfl rfl rfl (by decide +kernel) ⟨(by rw [← hR]; exact Nat.le_of_ble_eq_true rfl), (by rw [← hR]; exact Nat.le_of_ble_eq_true rfl)⟩) ⟨mc_blind, va_recv (ci := 2) (q := (R_M, F_M, 11)) hK hP rfl (q0 := 0) rfl, mc_pre (hP.sub [0, 1, 2, 3, 4, 5, 6] rfl) (hK.sub [0, 1, 2] rfl) (hD.sub [0, 1, 2, 3, 4, 5, 6] (by decide) rfl)⟩ rfl rfl hl.1 rfl (lv_room (Nat.le_of_ble_eq_true rfl)) d_M_count_52 ⟨Nat.zero_le _, Nat.zero_le _⟩) hP hD hS hA [0, 1, 2, 3, 4, 5, 6] [] [0, 1, 2, 3, 4, 5, 6] rfl rfl (by decide) (by decide) rfl rfl (by decide) (fun H locs hP hD hS => ?_)
          refine lv_isub hx hb d_M_count_55 ?_
          rw [hQ]
          subst hres
          exact W.iret (v := pn - (km_begun cn en)) hx hb hr (fun t ht hW => ⟨⟨_, (), rfl, rfl, ⟨by rw [ht]; exact hP, va_K.moved hW.alike hK, hD⟩⟩, hS.F ht⟩) hS.2.2 d_M_count_56
        · rw [if_neg hs1_3] at hres
          refine lv_tableOut (tgt := 57) hx hb d_M_count_1 (by have a0 := lv_neT hs1_0 (show (0 : Int32).toInt = 0 by decide); have a1 := lv_neT hs1_1 (show (1 : Int32).toInt = 1 by decide); have a2 := lv_neT hs1_2 (show (2 : Int32).toInt = 2 by decide); have a3 := lv_neT hs1_3 (show (3 : Int32).toInt = 3 by decide); omega) rfl ?_
          refine lv_iconst (v := (-1)) hx hb d_M_count_57 (by decide) ?_
          rw [hQ]
          subst hres
          exact W.iret (v := (-1)) hx hb hr (fun t ht hW => ⟨⟨_, (), rfl, rfl, ⟨by rw [ht]; exact hP, va_K.moved hW.alike hK, hD⟩⟩, hS.F ht⟩) hS.2.2 d_M_count_58
