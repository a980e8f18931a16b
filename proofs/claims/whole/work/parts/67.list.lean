def kj_newlen (a : Int32) (b : Int32) (c0 : Int32) : Int32 := (a + (if b < c0 then c0 else b))
set_option maxHeartbeats 4000000 in
set_option maxRecDepth 100000 in
theorem c_kj_newlen (l : Launch) (dC : Nat → ClassId) (dI : Nat → Nat → Nat) (a : Int32) (b : Int32) (c0 : Int32) (hx0 : ¬ a + (if b < c0 then c0 else b) ≤ 0) (hx1 : ¬ 2147483639 < a + (if b < c0 then c0 else b)) : pr_i l y_P_newLength w_P_newLength { frames := 1, cells := 0, slots := 0, locals := 32 } (dC, dI) cls9 [] [] [.int a, .int b, .int c0] (kj_newlen a b c0) := by
  intro sz
  refine Met.ofW (cc := b_P_newLength) (maxL := 4) (ret := (some .int)) (by decide) rfl ?_
  intro p e s m args below meth c s₁ B hml hv
  obtain ⟨hargs, hsz, hP, hK⟩ := hv
  have hx := B.exec
  have hb := B.bytes
  have hr := B.returns
  have hts : ∀ w ∈ lw_w, w.before args s = true := fun w h => atoms_spec (ws := w_P_newLength) B.pre w (List.mem_cons_of_mem _ h)
  have hown : s.vm.findClass R_P = some m.cls := findClass_of_methodNamed B.named
  have hlocks := B.notSynchronized
  subst hsz
  generalize hR : (headSpec w_P_newLength { frames := 1, cells := 0, slots := 0, locals := 32 }).room = R
  generalize hAe : (fun q : Nat => s.heap.size ≤ q) = A
  have hA : ∀ q : Nat, s.heap.size ≤ q → A q := fun q h => by rw [← hAe]; exact h
  have hS : va_S A s.heap s.heap [] := va_S.rf
  generalize hRES : kj_newlen a b c0 = RES
  have hres := hRES
  have hl := lv_entry [.int a, .int b, .int c0] (n := 4) (Nat.le_of_ble_eq_true rfl)
  have hent : entryFrame m args 4 = F0 m 0 (lg_sl [.int a, .int b, .int c0] ++ List.replicate (4 - (lg_sl [.int a, .int b, .int c0]).length) Slot.unset).toArray [] := by rw [hargs]; exact lg_entry_eq m [.int a, .int b, .int c0] 4
  rw [hent]
  clear hent
  generalize (lg_sl [.int a, .int b, .int c0] ++ List.replicate (4 - (lg_sl [.int a, .int b, .int c0]).length) Slot.unset).toArray = ls at hl ⊢
  have hl : lv_has ls 4 [(0, .int a), (1, .int b), (2, .int c0)] := hl
  have hP : va_P (dC, dI) cls9 [] s.heap := hP
  unfold kj_newlen at hres
  generalize hQ : MQ below (va_Qi (fun x (_ : Unit) => x = RES) (fun _ _ => True) A) args s 0 0 A = Q
  replace hQ := hQ.symm
  refine lv_iload_n hx hb d_P_newLength_0 rfl (lv_at hl 0 rfl) ?_
  refine lv_iload_n hx hb d_P_newLength_1 rfl (lv_at hl 1 rfl) ?_
  refine lv_iload_n hx hb d_P_newLength_2 rfl (lv_at hl 2 rfl) ?_
  refine va_mmax hx hb (hml.trans hl.1.symm) hown (hts _ tw_148) (hts _ tw_27) (hts _ tw_2) (hts _ tw_28) (by rw [← hR]; exact Nat.le_of_ble_eq_true rfl) (by rw [← hR]; exact Nat.le_of_ble_eq_true rfl) (Nat.zero_le _) (Nat.zero_le _) d_P_newLength_3 ?_
  refine lv_iadd hx hb d_P_newLength_6 ?_
  refine lv_istore_n (lv' := [(3, .int (a + (if b < c0 then c0 else b))), (0, .int a), (1, .int b), (2, .int c0)]) hx hb d_P_newLength_7 rfl hl (by decide) rfl (fun ls hl => ?_)
  refine lv_iconst (v := 0) hx hb d_P_newLength_8 (by decide) ?_
  refine lv_iload_n hx hb d_P_newLength_9 rfl (lv_at hl 0 rfl) ?_
  refine lv_icmp_ge (tgt := 21) hx hb d_P_newLength_10 rfl (fun h10 => ?_) (fun h10 => ?_)
  · exact absurd h10 (by exact hx0)
  · refine lv_iload_n hx hb d_P_newLength_13 rfl (lv_at hl 0 rfl) ?_
    refine lv_ldc (v := 2147483639) hx hb hown (hts _ tw_149) d_P_newLength_14 ?_
    refine lv_icmp_gt (tgt := 21) hx hb d_P_newLength_16 rfl (fun h16 => ?_) (fun h16 => ?_)
    · exact absurd h16 (by exact hx1)
    · refine lv_iload_n hx hb d_P_newLength_19 rfl (lv_at hl 0 rfl) ?_
      rw [hQ]
      exact W.iret (v := a + (if b < c0 then c0 else b)) hx hb hr (fun t ht hW => ⟨⟨_, (), rfl, hres, trivial⟩, hS.F ht⟩) hS.2.2 d_P_newLength_20
set_option maxHeartbeats 4000000 in
set_option maxRecDepth 100000 in
theorem c_copy3 (l : Launch) (dC : Nat → ClassId) (dI : Nat → Nat → Nat) (o0 mi cap N : Nat) (cO : ClassId) (g : Nat → Option Nat) (pl : va_W) (hcap : cap ≤ N) (hN : N ≤ 1000) (hall : ∀ i : Nat, i < cap → ∀ y : Nat, g i = some y → ∃ (n : Nat) (fs : List Value), pl[n]? = some (y, .inr (1, fs))) : al_r l y_Y_copyOf2 w_Y_copyOf2 { frames := 1, cells := 1, slots := N, locals := 32 } (dC, dI) cls9 ([(o0, .inl (cO, cap, .inr (.inr (.inr (.inr g)))))] ++ pl) (fun u a => ([(o0, .inl (cO, cap, .inr (.inr (.inr (.inr g))))), (a, .inl (u, N, .inr (.inr (.inr (.inr (va_cpy g (fun _ => none) 0 0 cap))))))] ++ pl)) [(cO, (.object "java/lang/Object"))] [.ref o0, .int (nI N), .ref mi] mi 1 N := by
  intro sz
  refine Met.ofW (cc := b_Y_copyOf2) (maxL := 4) (ret := (some (.array (.object "java/lang/Object")))) (by decide) rfl ?_
  intro p e s m args below meth c s₁ B hml hv
  obtain ⟨hargs, hsz, hP, hK, hD0, hxk⟩ := hv
  have hx := B.exec
  have hb := B.bytes
  have hr := B.returns
  have hts : ∀ w ∈ lw_w, w.before args s = true := fun w h => atoms_spec (ws := w_Y_copyOf2) B.pre w (List.mem_cons_of_mem _ h)
  have hown : s.vm.findClass R_Y = some m.cls := findClass_of_methodNamed B.named
  have hlocks := B.notSynchronized
  subst hsz
  have hD := hD0.self (sz := s.heap.size)
  generalize hR : (headSpec w_Y_copyOf2 { frames := 1, cells := 1, slots := N, locals := 32 }).room = R
  generalize hAe : va_A ([(o0, .inl (cO, cap, .inr (.inr (.inr (.inr g)))))] ++ pl) s.heap.size = A at hD ⊢
  have hA : ∀ q : Nat, s.heap.size ≤ q → A q := fun q h => by rw [← hAe]; exact Or.inr h
  have hS : va_S A s.heap s.heap [] := va_S.rf
  have hl := lv_entry [.ref o0, .int (nI N), .ref mi] (n := 4) (Nat.le_of_ble_eq_true rfl)
  have hent : entryFrame m args 4 = F0 m 0 (lg_sl [.ref o0, .int (nI N), .ref mi] ++ List.replicate (4 - (lg_sl [.ref o0, .int (nI N), .ref mi]).length) Slot.unset).toArray [] := by rw [hargs]; exact lg_entry_eq m [.ref o0, .int (nI N), .ref mi] 4
  rw [hent]
  clear hent
  generalize (lg_sl [.ref o0, .int (nI N), .ref mi] ++ List.replicate (4 - (lg_sl [.ref o0, .int (nI N), .ref mi]).length) Slot.unset).toArray = ls at hl ⊢
  have hl : lv_has ls 4 [(0, .ref o0), (1, .int (nI N)), (2, .ref mi)] := hl
  have hP : va_P (dC, dI) cls9 ([(o0, .inl (cO, cap, .inr (.inr (.inr (.inr g)))))] ++ pl) s.heap := hP
  have hD : va_D A ([(o0, .inl (cO, cap, .inr (.inr (.inr (.inr g)))))] ++ pl) := hD
  generalize hQ : MQ below (va_Qr (fun (_ : ClassId) => True) (fun u a t => va_P (dC, dI) cls9 ([(o0, .inl (cO, cap, .inr (.inr (.inr (.inr g))))), (a, .inl (u, N, .inr (.inr (.inr (.inr (va_cpy g (fun _ => none) 0 0 cap))))))] ++ pl) t.heap ∧ va_K (dC, dI) cls9 ([(cO, (.object "java/lang/Object"))] ++ [(u, (.object "java/lang/Object"))]) t ∧ va_D A ([(o0, .inl (cO, cap, .inr (.inr (.inr (.inr g))))), (a, .inl (u, N, .inr (.inr (.inr (.inr (va_cpy g (fun _ => none) 0 0 cap))))))] ++ pl)) A) args s 1 N A = Q
  replace hQ := hQ.symm
  refine lv_aload_n hx hb d_Y_copyOf2_0 rfl (lv_at hl 2 rfl) ?_
  refine va_ldcM hx hb hown (hts _ tw_167) hxk.2.1 d_Y_copyOf2_1 ?_
  refine lv_acmp_ne (rx := some mi) (ry := some mi) (tgt := 13) hx hb d_Y_copyOf2_3 rfl (fun h => absurd rfl h) (fun _ => ?_)
  refine lv_iload_n hx hb d_Y_copyOf2_6 rfl (lv_at hl 1 rfl) ?_
  refine va_newq (N' := N) hx hb hown (hts _ tw_169) hxk.1 hK hP hD hS hA (by exact nI_pos (by omega)) (by exact nI_clamp (by omega)) (by omega) (by rw [← hR]; exact Nat.le_refl _) (by rw [← hR]; show 0 + N ≤ N; omega) d_Y_copyOf2_7 (fun q7 cN7 H hK hP hD hS => ?_)
  have hP : va_P (dC, dI) cls9 ([(o0, .inl (cO, cap, .inr (.inr (.inr (.inr g))))), (q7, .inl (cN7, N, .inr (.inr (.inr (.inr (fun _ => none))))))] ++ pl) H := vp_perm pm_in hP
  have hD : va_D A ([(o0, .inl (cO, cap, .inr (.inr (.inr (.inr g))))), (q7, .inl (cN7, N, .inr (.inr (.inr (.inr (fun _ => none))))))] ++ pl) := vd_perm pm_in hD
  have hK : va_K (dC, dI) cls9 [(cO, (.object "java/lang/Object")), (cN7, (.object "java/lang/Object"))] s := hK
  refine lv_goto (tgt := 24) hx hb d_Y_copyOf2_10 rfl ?_
  refine lv_astore_n (lv' := [(3, .ref q7), (0, .ref o0), (1, .int (nI N)), (2, .ref mi)]) hx hb d_Y_copyOf2_24 rfl hl (by decide) rfl (fun ls hl => ?_)
  refine lv_aload_n hx hb d_Y_copyOf2_25 rfl (lv_at hl 1 rfl) ?_
  refine lv_iconst (v := 0) hx hb d_Y_copyOf2_26 (by decide) ?_
  refine lv_aload_n hx hb d_Y_copyOf2_27 rfl (lv_at hl 0 rfl) ?_
  refine lv_iconst (v := 0) hx hb d_Y_copyOf2_28 (by decide) ?_
  refine lv_aload_n hx hb d_Y_copyOf2_29 rfl (lv_at hl 1 rfl) ?_
  refine va_alen (v := Int32.ofNat cap) hx hb hK hP 0 0 rfl rfl rfl d_Y_copyOf2_30 ?_
  refine lv_iload_n hx hb d_Y_copyOf2_31 rfl (lv_at hl 2 rfl) ?_
  refine va_mmin hx hb (hml.trans hl.1.symm) hown (hts _ tw_170) (hts _ tw_24) (hts _ tw_2) (hts _ tw_25) (by rw [← hR]; exact Nat.le_of_ble_eq_true rfl) (by rw [← hR]; exact Nat.le_of_ble_eq_true rfl) (by rw [← hR]; exact Nat.le_refl _) (by rw [← hR]; show 0 + N ≤ N; omega) d_Y_copyOf2_32 ?_
  have emin : (if nI N < Int32.ofNat cap then nI N else Int32.ofNat cap) = nI cap := if_neg (show ¬ nI N < nI cap from nI_nlt hcap (by omega))
  rw [emin]
  refine va_copyM hx hb (hml.trans hl.1.symm) hown (hts _ tw_171) (hts _ tw_173) (hts _ tw_172) (hts _ tw_10) hK hP hD hS 0 1 0 1 rfl rfl rfl rfl (by decide) (by decide) (nI_pos (by omega)) (by rw [nI_clamp (by omega), sb_cl0]; omega) (by rw [nI_clamp (by omega), sb_cl0]; omega) (fun i9 hi9 y9 hy9 => by rw [nI_clamp (by omega)] at hi9; rw [sb_cl0, Nat.zero_add] at hy9; obtain ⟨n9, fs9, he9⟩ := hall i9 hi9 y9 hy9; exact va_rAny (r := (R_A, F_A, 6)) hK hP (pl_at (X := [(o0, .inl (cO, cap, .inr (.inr (.inr (.inr g))))), (q7, .inl (cN7, N, .inr (.inr (.inr (.inr (fun _ => none))))))]) he9) rfl (xk_asg hxk)) (by rw [← hR]; exact Nat.le_of_ble_eq_true rfl) (by rw [← hR]; exact Nat.le_of_ble_eq_true rfl) d_Y_copyOf2_35 (fun H locs hP hD hS => ?_)
  rw [nI_clamp (by omega), sb_cl0] at hP hD
  have hP : va_P (dC, dI) cls9 ([(o0, .inl (cO, cap, .inr (.inr (.inr (.inr g))))), (q7, .inl (cN7, N, .inr (.inr (.inr (.inr (va_cpy g (fun _ => none) 0 0 cap))))))] ++ pl) H := hP
  have hD : va_D A ([(o0, .inl (cO, cap, .inr (.inr (.inr (.inr g))))), (q7, .inl (cN7, N, .inr (.inr (.inr (.inr (va_cpy g (fun _ => none) 0 0 cap))))))] ++ pl) := hD
  refine lv_aload_n hx hb d_Y_copyOf2_38 rfl (lv_at hl 0 rfl) ?_
  refine W.widen (k := 1) (n := N) (by first | exact Nat.le_refl _ | omega | (show (0 + 1) ≤ 1; omega)) (by first | exact Nat.le_refl _ | omega | (show (0 + N) ≤ N; omega)) ?_
  rw [hQ]
  exact W.aret (v := .ref q7) hx hb hr (Or.inr ⟨_, rfl⟩) (Or.inr ⟨_, rfl⟩) (fun t ht hW => ⟨⟨cN7, q7, rfl, trivial, by rw [ht]; exact hP, va_K.moved hW.alike hK, hD⟩, hS.F ht⟩) hS.2.2 d_Y_copyOf2_39
set_option maxHeartbeats 4000000 in
set_option maxRecDepth 100000 in
theorem c_copy2 (l : Launch) (dC : Nat → ClassId) (dI : Nat → Nat → Nat) (o0 mi cap N : Nat) (cO : ClassId) (g : Nat → Option Nat) (pl : va_W) (hcap : cap ≤ N) (hN : N ≤ 1000) (hall : ∀ i : Nat, i < cap → ∀ y : Nat, g i = some y → ∃ (n : Nat) (fs : List Value), pl[n]? = some (y, .inr (1, fs))) : al_r l y_Y_copyOf1 w_Y_copyOf1 { frames := 2, cells := 1, slots := N, locals := 55 } (dC, dI) cls9 ([(o0, .inl (cO, cap, .inr (.inr (.inr (.inr g)))))] ++ pl) (fun u a => ([(o0, .inl (cO, cap, .inr (.inr (.inr (.inr g))))), (a, .inl (u, N, .inr (.inr (.inr (.inr (va_cpy g (fun _ => none) 0 0 cap))))))] ++ pl)) [(cO, (.object "java/lang/Object"))] [.ref o0, .int (nI N)] mi 1 N := by
  intro sz
  refine Met.ofW (cc := b_Y_copyOf1) (maxL := 2) (ret := (some (.array (.object "java/lang/Object")))) (by decide) rfl ?_
  intro p e s m args below meth c s₁ B hml hv
  obtain ⟨hargs, hsz, hP, hK, hD0, hxk⟩ := hv
  have hx := B.exec
  have hb := B.bytes
  have hr := B.returns
  have hts : ∀ w ∈ lw_w, w.before args s = true := fun w h => atoms_spec (ws := w_Y_copyOf1) B.pre w (List.mem_cons_of_mem _ h)
  have hown : s.vm.findClass R_Y = some m.cls := findClass_of_methodNamed B.named
  have hlocks := B.notSynchronized
  subst hsz
  have hD := hD0.self (sz := s.heap.size)
  generalize hR : (headSpec w_Y_copyOf1 { frames := 2, cells := 1, slots := N, locals := 55 }).room = R
  generalize hAe : va_A ([(o0, .inl (cO, cap, .inr (.inr (.inr (.inr g)))))] ++ pl) s.heap.size = A at hD ⊢
  have hA : ∀ q : Nat, s.heap.size ≤ q → A q := fun q h => by rw [← hAe]; exact Or.inr h
  have hS : va_S A s.heap s.heap [] := va_S.rf
  have hl := lv_entry [.ref o0, .int (nI N)] (n := 2) (Nat.le_of_ble_eq_true rfl)
  have hent : entryFrame m args 2 = F0 m 0 (lg_sl [.ref o0, .int (nI N)] ++ List.replicate (2 - (lg_sl [.ref o0, .int (nI N)]).length) Slot.unset).toArray [] := by rw [hargs]; exact lg_entry_eq m [.ref o0, .int (nI N)] 2
  rw [hent]
  clear hent
  generalize (lg_sl [.ref o0, .int (nI N)] ++ List.replicate (2 - (lg_sl [.ref o0, .int (nI N)]).length) Slot.unset).toArray = ls at hl ⊢
  have hl : lv_has ls 2 [(0, .ref o0), (1, .int (nI N))] := hl
  have hP : va_P (dC, dI) cls9 ([(o0, .inl (cO, cap, .inr (.inr (.inr (.inr g)))))] ++ pl) s.heap := hP
  have hD : va_D A ([(o0, .inl (cO, cap, .inr (.inr (.inr (.inr g)))))] ++ pl) := hD
  generalize hQ : MQ below (va_Qr (fun (_ : ClassId) => True) (fun u a t => va_P (dC, dI) cls9 ([(o0, .inl (cO, cap, .inr (.inr (.inr (.inr g))))), (a, .inl (u, N, .inr (.inr (.inr (.inr (va_cpy g (fun _ => none) 0 0 cap))))))] ++ pl) t.heap ∧ va_K (dC, dI) cls9 ([(cO, (.object "java/lang/Object"))] ++ [(u, (.object "java/lang/Object"))]) t ∧ va_D A ([(o0, .inl (cO, cap, .inr (.inr (.inr (.inr g))))), (a, .inl (u, N, .inr (.inr (.inr (.inr (va_cpy g (fun _ => none) 0 0 cap))))))] ++ pl)) A) args s 1 N A = Q
  replace hQ := hQ.symm
  refine lv_aload_n hx hb d_Y_copyOf1_0 rfl (lv_at hl 0 rfl) ?_
  refine lv_iload_n hx hb d_Y_copyOf1_1 rfl (lv_at hl 1 rfl) ?_
  refine lv_aload_n hx hb d_Y_copyOf1_2 rfl (lv_at hl 0 rfl) ?_
  refine va_getC hx hb (hml.trans hl.1.symm) hown (hts _ tw_156) (va_Dc.use hxk.2.2.1) (hts _ tw_400) (hts _ tw_157) (hts _ tw_163) hxk.2.1 ⟨_, hP 0 _ rfl, rfl, va_nmO (hK.2 0 _ rfl).2 rfl⟩ (by rw [← hR]; exact Nat.le_of_ble_eq_true rfl) (by rw [← hR]; exact Nat.le_of_ble_eq_true rfl) d_Y_copyOf1_3 ?_
  refine cal_r (cx := [(o0, .inl (cO, cap, .inr (.inr (.inr (.inr g)))))]) (wr := []) (pl := pl) (rx := fun u a => [(o0, .inl (cO, cap, .inr (.inr (.inr (.inr g))))), (a, .inl (u, N, .inr (.inr (.inr (.inr (va_cpy g (fun _ => none) 0 0 cap))))))]) (va_runS (g := F0 m 6 ls [.ref mi, .int (nI N), .ref o0]) (As := [.ref o0, .int (nI N), .ref mi]) (rest := []) ⟨hx, hb, hml, hown, hts⟩ (c_copy3 l dC dI o0 mi cap N cO g pl hcap hN hall _) (va_cwS 3 hts (gi_S tw_164 tw_165 tw_9 tw_166) rfl rfl rfl (by decide +kernel) ⟨(by rw [← hR]; exact Nat.le_of_ble_eq_true rfl), (by rw [← hR]; exact Nat.le_of_ble_eq_true rfl)⟩) ⟨al_blind, al_pre (hP.part [0] rfl) hK (hD.part [0] (by decide) rfl) hxk⟩ rfl rfl hl.1 rfl (lv_room (Nat.le_of_ble_eq_true rfl)) d_Y_copyOf1_6 ⟨by rw [← hR]; show 0 + 1 ≤ 1; omega, by rw [← hR]; show 0 + N ≤ N; omega⟩) hP hD hS hA [0] [] rfl rfl (by decide) (by decide) (fun u6 a6 H locs hK hP hD hS => ?_)
  have hP : va_P (dC, dI) cls9 ([(o0, .inl (cO, cap, .inr (.inr (.inr (.inr g))))), (a6, .inl (u6, N, .inr (.inr (.inr (.inr (va_cpy g (fun _ => none) 0 0 cap))))))] ++ pl) H := hP
  have hD : va_D A ([(o0, .inl (cO, cap, .inr (.inr (.inr (.inr g))))), (a6, .inl (u6, N, .inr (.inr (.inr (.inr (va_cpy g (fun _ => none) 0 0 cap))))))] ++ pl) := hD
  have hK : va_K (dC, dI) cls9 [(cO, (.object "java/lang/Object")), (u6, (.object "java/lang/Object"))] s := hK
  refine W.widen (k := 1) (n := N) (by first | exact Nat.le_refl _ | omega | (show (0 + 1) ≤ 1; omega)) (by first | exact Nat.le_refl _ | omega | (show (0 + N) ≤ N; omega)) ?_
  rw [hQ]
  exact W.aret (v := .ref a6) hx hb hr (Or.inr ⟨_, rfl⟩) (Or.inr ⟨_, rfl⟩) (fun t ht hW => ⟨⟨u6, a6, rfl, trivial, by rw [ht]; exact hP, va_K.moved hW.alike hK, hD⟩, hS.F ht⟩) hS.2.2 d_Y_copyOf1_9
set_option maxHeartbeats 4000000 in
set_option maxRecDepth 100000 in
theorem c_growB1 (l : Launch) (dC : Nat → ClassId) (dI : Nat → Nat → Nat) (h0 ed mi cap : Nat) (mc : Int32) (cO : ClassId) (g : Nat → Option Nat) (pl : va_W) (h2 : 2 ≤ cap) (hc : cap ≤ 600) (hall : ∀ i : Nat, i < cap → ∀ y : Nat, g i = some y → ∃ (n : Nat) (fs : List Value), pl[n]? = some (y, .inr (1, fs))) : al_r l y_T_grow2 w_T_grow2 { frames := 3, cells := 1, slots := (cap + cap / 2), locals := 76 } (dC, dI) cls9 ([(h0, .inr (3, [.int mc, .ref ed, .int (nI cap)])), (ed, .inl (cO, cap, .inr (.inr (.inr (.inr g)))))] ++ pl) (fun u a => ([(h0, .inr (3, [.int mc, .ref a, .int (nI cap)])), (a, .inl (u, (cap + cap / 2), .inr (.inr (.inr (.inr (va_cpy g (fun _ => none) 0 0 cap))))))] ++ pl)) [(cO, (.object "java/lang/Object"))] [.ref h0, .int (nI (cap + 1))] mi 1 (cap + cap / 2) := by
  intro sz
  refine Met.ofW (cc := b_T_grow2) (maxL := 4) (ret := (some (.array (.object "java/lang/Object")))) (by decide) rfl ?_
  intro p e s m args below meth c s₁ B hml hv
  obtain ⟨hargs, hsz, hP, hK, hD0, hxk⟩ := hv
  have hx := B.exec
  have hb := B.bytes
  have hr := B.returns
  have hts : ∀ w ∈ lw_w, w.before args s = true := fun w h => atoms_spec (ws := w_T_grow2) B.pre w (List.mem_cons_of_mem _ h)
  have hown : s.vm.findClass R_T = some m.cls := findClass_of_methodNamed B.named
  have hlocks := B.notSynchronized
  subst hsz
  have hD := hD0.self (sz := s.heap.size)
  generalize hR : (headSpec w_T_grow2 { frames := 3, cells := 1, slots := (cap + cap / 2), locals := 76 }).room = R
  generalize hAe : va_A ([(h0, .inr (3, [.int mc, .ref ed, .int (nI cap)])), (ed, .inl (cO, cap, .inr (.inr (.inr (.inr g)))))] ++ pl) s.heap.size = A at hD ⊢
  have hA : ∀ q : Nat, s.heap.size ≤ q → A q := fun q h => by rw [← hAe]; exact Or.inr h
  have hS : va_S A s.heap s.heap [] := va_S.rf
  have hl := lv_entry [.ref h0, .int (nI (cap + 1))] (n := 4) (Nat.le_of_ble_eq_true rfl)
  have hent : entryFrame m args 4 = F0 m 0 (lg_sl [.ref h0, .int (nI (cap + 1))] ++ List.replicate (4 - (lg_sl [.ref h0, .int (nI (cap + 1))]).length) Slot.unset).toArray [] := by rw [hargs]; exact lg_entry_eq m [.ref h0, .int (nI (cap + 1))] 4
  rw [hent]
  clear hent
  generalize (lg_sl [.ref h0, .int (nI (cap + 1))] ++ List.replicate (4 - (lg_sl [.ref h0, .int (nI (cap + 1))]).length) Slot.unset).toArray = ls at hl ⊢
  have hl : lv_has ls 4 [(0, .ref h0), (1, .int (nI (cap + 1)))] := hl
  have hP : va_P (dC, dI) cls9 ([(h0, .inr (3, [.int mc, .ref ed, .int (nI cap)])), (ed, .inl (cO, cap, .inr (.inr (.inr (.inr g)))))] ++ pl) s.heap := hP
  have hD : va_D A ([(h0, .inr (3, [.int mc, .ref ed, .int (nI cap)])), (ed, .inl (cO, cap, .inr (.inr (.inr (.inr g)))))] ++ pl) := hD
  generalize hQ : MQ below (va_Qr (fun (_ : ClassId) => True) (fun u a t => va_P (dC, dI) cls9 ([(h0, .inr (3, [.int mc, .ref a, .int (nI cap)])), (a, .inl (u, (cap + cap / 2), .inr (.inr (.inr (.inr (va_cpy g (fun _ => none) 0 0 cap))))))] ++ pl) t.heap ∧ va_K (dC, dI) cls9 ([(cO, (.object "java/lang/Object"))] ++ [(u, (.object "java/lang/Object"))]) t ∧ va_D A ([(h0, .inr (3, [.int mc, .ref a, .int (nI cap)])), (a, .inl (u, (cap + cap / 2), .inr (.inr (.inr (.inr (va_cpy g (fun _ => none) 0 0 cap))))))] ++ pl)) A) args s 1 (cap + cap / 2) A = Q
  replace hQ := hQ.symm
  refine lv_aload_n hx hb d_T_grow2_0 rfl (lv_at hl 0 rfl) ?_
  refine va_get (D := (dC, dI)) (ci := 3) (v := .ref ed) (C := R_T) (T := F_T) (N := 3) hx hb hts in_T hown hK hP 0 rfl rfl 1 (by decide) (hts _ tw_43) (fun _ h9 => h9) rfl d_T_grow2_1 ?_
  refine va_alen (v := Int32.ofNat cap) hx hb hK hP 1 0 rfl rfl rfl d_T_grow2_4 ?_
  refine lv_istore_n (lv' := [(2, .int (Int32.ofNat cap)), (0, .ref h0), (1, .int (nI (cap + 1)))]) hx hb d_T_grow2_5 rfl hl (by decide) rfl (fun ls hl => ?_)
  refine lv_iload_n hx hb d_T_grow2_6 rfl (lv_at hl 0 rfl) ?_
  refine lv_if_gt (tgt := 20) hx hb d_T_grow2_7 rfl (fun h7 => ?_) (fun h7 => ?_)
  · refine lv_iload_n hx hb d_T_grow2_20 rfl (lv_at hl 0 rfl) ?_
    refine lv_iload_n hx hb d_T_grow2_21 rfl (lv_at hl 2 rfl) ?_
    refine lv_iload_n hx hb d_T_grow2_22 rfl (lv_at hl 0 rfl) ?_
    refine lv_isub hx hb d_T_grow2_23 ?_
    refine lv_iload_n hx hb d_T_grow2_24 rfl (lv_at hl 0 rfl) ?_
    refine lv_iconst (v := 1) hx hb d_T_grow2_25 (by decide) ?_
    refine lv_ishr hx hb d_T_grow2_26 ?_
    refine cr_Si (As := [.int (Int32.ofNat cap), .int ((nI (cap + 1)) - (Int32.ofNat cap)), .int ((Int32.ofNat cap) >>> (1 &&& 31))]) (rest := []) (w1 := []) (tys := []) ⟨hx, hb, hml, hown, hts⟩ (c_kj_newlen l dC dI (Int32.ofNat cap) ((nI (cap + 1)) - (Int32.ofNat cap)) ((Int32.ofNat cap) >>> (1 &&& 31)) (by rw [nl_v h2 (by omega)]; exact nI_nle (by omega) (by omega)) (by rw [nl_v h2 (by omega)]; exact (show ¬ nI 2147483639 < nI (cap + cap / 2) from nI_nlt (by omega) (by decide)))) (va_cwS 3 hts (gi_S tw_145 tw_146 tw_8 tw_147) rfl rfl rfl (by decide +kernel) ⟨(by rw [← hR]; exact Nat.le_of_ble_eq_true rfl), (by rw [← hR]; exact Nat.le_of_ble_eq_true rfl)⟩) (hP.sub [] rfl) (hK.sub [] rfl) rfl rfl hl.1 (Nat.le_of_ble_eq_true rfl) d_T_grow2_27 ⟨Nat.zero_le _, Nat.zero_le _⟩ hP hS hA (fun H locs hP hS => ?_)
    have enl : kj_newlen (Int32.ofNat cap) ((nI (cap + 1)) - (Int32.ofNat cap)) ((Int32.ofNat cap) >>> (1 &&& 31)) = nI (cap + cap / 2) := nl_v h2 (by omega)
    rw [enl]
    refine lv_istore_n (lv' := [(3, .int (nI (cap + cap / 2))), (2, .int (Int32.ofNat cap)), (0, .ref h0), (1, .int (nI (cap + 1)))]) hx hb d_T_grow2_30 rfl hl (by decide) rfl (fun ls hl => ?_)
    refine lv_aload_n hx hb d_T_grow2_31 rfl (lv_at hl 2 rfl) ?_
    refine lv_aload_n hx hb d_T_grow2_32 rfl (lv_at hl 2 rfl) ?_
    refine va_get (D := (dC, dI)) (ci := 3) (v := .ref ed) (C := R_T) (T := F_T) (N := 3) hx hb hts in_T hown hK hP 0 rfl rfl 1 (by decide) (hts _ tw_43) (fun _ h9 => h9) rfl d_T_grow2_33 ?_
    refine lv_iload_n hx hb d_T_grow2_36 rfl (lv_at hl 0 rfl) ?_
    refine cal_r (cx := [(ed, .inl (cO, cap, .inr (.inr (.inr (.inr g)))))]) (wr := [(h0, .inr (3, [.int mc, .ref ed, .int (nI cap)]))]) (pl := pl) (rx := fun u a => [(ed, .inl (cO, cap, .inr (.inr (.inr (.inr g))))), (a, .inl (u, (cap + cap / 2), .inr (.inr (.inr (.inr (va_cpy g (fun _ => none) 0 0 cap))))))]) (va_runS (g := F0 m 37 ls [.int (nI (cap + cap / 2)), .ref ed, .ref h0]) (As := [.ref ed, .int (nI (cap + cap / 2))]) (rest := [.ref h0]) ⟨hx, hb, hml, hown, hts⟩ (c_copy2 l dC dI ed mi cap (cap + cap / 2) cO g pl (by omega) (by omega) hall _) (va_cwS 2 hts (gi_S tw_153 tw_154 tw_9 tw_155) rfl rfl rfl (by decide +kernel) ⟨(by rw [← hR]; exact Nat.le_of_ble_eq_true rfl), (by rw [← hR]; exact Nat.le_of_ble_eq_true rfl)⟩) ⟨al_blind, al_pre (hP.part [1] rfl) hK (hD.part [1] (by decide) rfl) hxk⟩ rfl rfl hl.1 rfl (lv_room (Nat.le_of_ble_eq_true rfl)) d_T_grow2_37 ⟨by rw [← hR]; show 0 + 1 ≤ 1; omega, by rw [← hR]; show 0 + (cap + cap / 2) ≤ (cap + cap / 2); omega⟩) hP hD hS hA [1] [0] rfl rfl (by decide) (by decide) (fun u37 a37 H locs hK hP hD hS => ?_)
    have hP : va_P (dC, dI) cls9 ([(h0, .inr (3, [.int mc, .ref ed, .int (nI cap)])), (ed, .inl (cO, cap, .inr (.inr (.inr (.inr g))))), (a37, .inl (u37, (cap + cap / 2), .inr (.inr (.inr (.inr (va_cpy g (fun _ => none) 0 0 cap))))))] ++ pl) H := hP
    have hD : va_D A ([(h0, .inr (3, [.int mc, .ref ed, .int (nI cap)])), (ed, .inl (cO, cap, .inr (.inr (.inr (.inr g))))), (a37, .inl (u37, (cap + cap / 2), .inr (.inr (.inr (.inr (va_cpy g (fun _ => none) 0 0 cap))))))] ++ pl) := hD
    have hK : va_K (dC, dI) cls9 [(cO, (.object "java/lang/Object")), (u37, (.object "java/lang/Object"))] s := hK
    refine lv_dup_x1 hx hb d_T_grow2_40 rfl rfl ?_
    refine va_put (D := (dC, dI)) (ci := 3) (v := .ref a37) (ty := (.array (.object "java/lang/Object"))) (C := R_T) (T := F_T) (N := 3) hx hb hts in_T tf_T tok_T n_T hown hK hP hD hS 0 rfl rfl 1 (by decide) (hts _ tw_43) (fun _ h9 => h9) rfl (by decide +kernel) (by rfl) (by rfl) (Nat.le_of_ble_eq_true rfl) d_T_grow2_41 (fun H locs hP hD hS => ?_)
    have hP : va_P (dC, dI) cls9 ([(h0, .inr (3, [.int mc, .ref a37, .int (nI cap)])), (ed, .inl (cO, cap, .inr (.inr (.inr (.inr g))))), (a37, .inl (u37, (cap + cap / 2), .inr (.inr (.inr (.inr (va_cpy g (fun _ => none) 0 0 cap))))))] ++ pl) H := hP
    have hD : va_D A ([(h0, .inr (3, [.int mc, .ref a37, .int (nI cap)])), (ed, .inl (cO, cap, .inr (.inr (.inr (.inr g))))), (a37, .inl (u37, (cap + cap / 2), .inr (.inr (.inr (.inr (va_cpy g (fun _ => none) 0 0 cap))))))] ++ pl) := hD
    refine W.widen (k := 1) (n := (cap + cap / 2)) (by first | exact Nat.le_refl _ | omega | (show (0 + 1) ≤ 1; omega)) (by first | exact Nat.le_refl _ | omega | (show (0 + (cap + cap / 2)) ≤ (cap + cap / 2); omega)) ?_
    rw [hQ]
    exact W.aret (v := .ref a37) hx hb hr (Or.inr ⟨_, rfl⟩) (Or.inr ⟨_, rfl⟩) (fun t ht hW => ⟨⟨u37, a37, rfl, trivial, by rw [ht]; exact hP.part [0, 2] rfl, va_K.moved hW.alike hK, hD.part [0, 2] (by decide) rfl⟩, hS.F ht⟩) hS.2.2 d_T_grow2_44
  · exact absurd h7 (by exact fun z => z (show nI 0 < nI cap from nI_lt (by omega) (by omega)))
set_option maxHeartbeats 4000000 in
set_option maxRecDepth 100000 in
theorem c_growB0 (l : Launch) (dC : Nat → ClassId) (dI : Nat → Nat → Nat) (h0 ed mi cap : Nat) (mc : Int32) (cO : ClassId) (g : Nat → Option Nat) (pl : va_W) (h2 : 2 ≤ cap) (hc : cap ≤ 600) (hall : ∀ i : Nat, i < cap → ∀ y : Nat, g i = some y → ∃ (n : Nat) (fs : List Value), pl[n]? = some (y, .inr (1, fs))) : al_r l y_T_grow1 w_T_grow1 { frames := 4, cells := 1, slots := (cap + cap / 2), locals := 99 } (dC, dI) cls9 ([(h0, .inr (3, [.int mc, .ref ed, .int (nI cap)])), (ed, .inl (cO, cap, .inr (.inr (.inr (.inr g)))))] ++ pl) (fun u a => ([(h0, .inr (3, [.int mc, .ref a, .int (nI cap)])), (a, .inl (u, (cap + cap / 2), .inr (.inr (.inr (.inr (va_cpy g (fun _ => none) 0 0 cap))))))] ++ pl)) [(cO, (.object "java/lang/Object"))] [.ref h0] mi 1 (cap + cap / 2) := by
  intro sz
  refine Met.ofW (cc := b_T_grow1) (maxL := 1) (ret := (some (.array (.object "java/lang/Object")))) (by decide) rfl ?_
  intro p e s m args below meth c s₁ B hml hv
  obtain ⟨hargs, hsz, hP, hK, hD0, hxk⟩ := hv
  have hx := B.exec
  have hb := B.bytes
  have hr := B.returns
  have hts : ∀ w ∈ lw_w, w.before args s = true := fun w h => atoms_spec (ws := w_T_grow1) B.pre w (List.mem_cons_of_mem _ h)
  have hown : s.vm.findClass R_T = some m.cls := findClass_of_methodNamed B.named
  have hlocks := B.notSynchronized
  subst hsz
  have hD := hD0.self (sz := s.heap.size)
  generalize hR : (headSpec w_T_grow1 { frames := 4, cells := 1, slots := (cap + cap / 2), locals := 99 }).room = R
  generalize hAe : va_A ([(h0, .inr (3, [.int mc, .ref ed, .int (nI cap)])), (ed, .inl (cO, cap, .inr (.inr (.inr (.inr g)))))] ++ pl) s.heap.size = A at hD ⊢
  have hA : ∀ q : Nat, s.heap.size ≤ q → A q := fun q h => by rw [← hAe]; exact Or.inr h
  have hS : va_S A s.heap s.heap [] := va_S.rf
  have hl := lv_entry [.ref h0] (n := 1) (Nat.le_of_ble_eq_true rfl)
  have hent : entryFrame m args 1 = F0 m 0 (lg_sl [.ref h0] ++ List.replicate (1 - (lg_sl [.ref h0]).length) Slot.unset).toArray [] := by rw [hargs]; exact lg_entry_eq m [.ref h0] 1
  rw [hent]
  clear hent
  generalize (lg_sl [.ref h0] ++ List.replicate (1 - (lg_sl [.ref h0]).length) Slot.unset).toArray = ls at hl ⊢
  have hl : lv_has ls 1 [(0, .ref h0)] := hl
  have hP : va_P (dC, dI) cls9 ([(h0, .inr (3, [.int mc, .ref ed, .int (nI cap)])), (ed, .inl (cO, cap, .inr (.inr (.inr (.inr g)))))] ++ pl) s.heap := hP
  have hD : va_D A ([(h0, .inr (3, [.int mc, .ref ed, .int (nI cap)])), (ed, .inl (cO, cap, .inr (.inr (.inr (.inr g)))))] ++ pl) := hD
  generalize hQ : MQ below (va_Qr (fun (_ : ClassId) => True) (fun u a t => va_P (dC, dI) cls9 ([(h0, .inr (3, [.int mc, .ref a, .int (nI cap)])), (a, .inl (u, (cap + cap / 2), .inr (.inr (.inr (.inr (va_cpy g (fun _ => none) 0 0 cap))))))] ++ pl) t.heap ∧ va_K (dC, dI) cls9 ([(cO, (.object "java/lang/Object"))] ++ [(u, (.object "java/lang/Object"))]) t ∧ va_D A ([(h0, .inr (3, [.int mc, .ref a, .int (nI cap)])), (a, .inl (u, (cap + cap / 2), .inr (.inr (.inr (.inr (va_cpy g (fun _ => none) 0 0 cap))))))] ++ pl)) A) args s 1 (cap + cap / 2) A = Q
  replace hQ := hQ.symm
  refine lv_aload_n hx hb d_T_grow1_0 rfl (lv_at hl 0 rfl) ?_
  refine lv_aload_n hx hb d_T_grow1_1 rfl (lv_at hl 0 rfl) ?_
  refine va_get (D := (dC, dI)) (ci := 3) (v := .int (nI cap)) (C := R_T) (T := F_T) (N := 3) hx hb hts in_T hown hK hP 0 rfl rfl 2 (by decide) (hts _ tw_44) (fun _ h9 => h9) rfl d_T_grow1_2 ?_
  refine lv_iconst (v := 1) hx hb d_T_grow1_5 (by decide) ?_
  refine lv_iadd hx hb d_T_grow1_6 ?_
  rw [nI_1]
  refine cal_r (cx := [(h0, .inr (3, [.int mc, .ref ed, .int (nI cap)])), (ed, .inl (cO, cap, .inr (.inr (.inr (.inr g)))))]) (wr := []) (pl := pl) (rx := fun u a => [(h0, .inr (3, [.int mc, .ref a, .int (nI cap)])), (a, .inl (u, (cap + cap / 2), .inr (.inr (.inr (.inr (va_cpy g (fun _ => none) 0 0 cap))))))]) (va_runV (g := F0 m 7 ls [.int (nI (cap + 1)), .ref h0]) (As := [.int (nI (cap + 1))]) (rest := []) ⟨hx, hb, hml, hown, hts⟩ (c_growB1 l dC dI h0 ed mi cap mc cO g pl h2 hc hall _) (cwV 1 hts (gi_V tw_141 tw_143 ts_4 tw_5 tw_144) rfl rfl rfl (by decide +kernel) ⟨(by rw [← hR]; exact Nat.le_of_ble_eq_true rfl), (by rw [← hR]; exact Nat.le_of_ble_eq_true rfl)⟩) ⟨al_blind, va_recv (ci := 3) (q := (R_T, F_T, 3)) hK hP rfl (q0 := 0) rfl, al_pre (hP.part [0, 1] rfl) hK (hD.part [0, 1] (by decide) rfl) hxk⟩ rfl rfl hl.1 rfl (lv_room (Nat.le_of_ble_eq_true rfl)) d_T_grow1_7 ⟨by rw [← hR]; show 0 + 1 ≤ 1; omega, by rw [← hR]; show 0 + (cap + cap / 2) ≤ (cap + cap / 2); omega⟩) hP hD hS hA [0, 1] [] rfl rfl (by decide) (by decide) (fun u7 a7 H locs hK hP hD hS => ?_)
  have hP : va_P (dC, dI) cls9 ([(h0, .inr (3, [.int mc, .ref a7, .int (nI cap)])), (a7, .inl (u7, (cap + cap / 2), .inr (.inr (.inr (.inr (va_cpy g (fun _ => none) 0 0 cap))))))] ++ pl) H := hP
  have hD : va_D A ([(h0, .inr (3, [.int mc, .ref a7, .int (nI cap)])), (a7, .inl (u7, (cap + cap / 2), .inr (.inr (.inr (.inr (va_cpy g (fun _ => none) 0 0 cap))))))] ++ pl) := hD
  have hK : va_K (dC, dI) cls9 [(cO, (.object "java/lang/Object")), (u7, (.object "java/lang/Object"))] s := hK
  refine W.widen (k := 1) (n := (cap + cap / 2)) (by first | exact Nat.le_refl _ | omega | (show (0 + 1) ≤ 1; omega)) (by first | exact Nat.le_refl _ | omega | (show (0 + (cap + cap / 2)) ≤ (cap + cap / 2); omega)) ?_
  rw [hQ]
  exact W.aret (v := .ref a7) hx hb hr (Or.inr ⟨_, rfl⟩) (Or.inr ⟨_, rfl⟩) (fun t ht hW => ⟨⟨u7, a7, rfl, trivial, by rw [ht]; exact hP.part [0, 1] rfl, va_K.moved hW.alike hK, hD.part [0, 1] (by decide) rfl⟩, hS.F ht⟩) hS.2.2 d_T_grow1_10
set_option maxHeartbeats 4000000 in
set_option maxRecDepth 100000 in
theorem c_growA1 (l : Launch) (dC : Nat → ClassId) (dI : Nat → Nat → Nat) (h0 t0 mi : Nat) (mc : Int32) (pl : va_W)  : az_r l y_T_grow2 w_T_grow2 { frames := 3, cells := 1, slots := 10, locals := 76 } (dC, dI) cls9 ([(h0, .inr (3, [.int mc, .ref t0, .int 0]))] ++ pl) (fun u a => ([(h0, .inr (3, [.int mc, .ref a, .int 0])), (a, .inl (u, 10, .inr (.inr (.inr (.inr (fun _ => none))))))] ++ pl)) [] [.ref h0, .int 1] mi t0 1 10 := by
  intro sz
  refine Met.ofW (cc := b_T_grow2) (maxL := 4) (ret := (some (.array (.object "java/lang/Object")))) (by decide) rfl ?_
  intro p e s m args below meth c s₁ B hml hv
  obtain ⟨hargs, hsz, hP, hK, hD0, hxk, hxz⟩ := hv
  have hx := B.exec
  have hb := B.bytes
  have hr := B.returns
  have hts : ∀ w ∈ lw_w, w.before args s = true := fun w h => atoms_spec (ws := w_T_grow2) B.pre w (List.mem_cons_of_mem _ h)
  have hown : s.vm.findClass R_T = some m.cls := findClass_of_methodNamed B.named
  have hlocks := B.notSynchronized
  subst hsz
  have hD := hD0.self (sz := s.heap.size)
  generalize hR : (headSpec w_T_grow2 { frames := 3, cells := 1, slots := 10, locals := 76 }).room = R
  generalize hAe : va_A ([(h0, .inr (3, [.int mc, .ref t0, .int 0]))] ++ pl) s.heap.size = A at hD hxz ⊢
  have hA : ∀ q : Nat, s.heap.size ≤ q → A q := fun q h => by rw [← hAe]; exact Or.inr h
  have hS : va_S A s.heap s.heap [] := va_S.rf
  have hl := lv_entry [.ref h0, .int 1] (n := 4) (Nat.le_of_ble_eq_true rfl)
  have hent : entryFrame m args 4 = F0 m 0 (lg_sl [.ref h0, .int 1] ++ List.replicate (4 - (lg_sl [.ref h0, .int 1]).length) Slot.unset).toArray [] := by rw [hargs]; exact lg_entry_eq m [.ref h0, .int 1] 4
  rw [hent]
  clear hent
  generalize (lg_sl [.ref h0, .int 1] ++ List.replicate (4 - (lg_sl [.ref h0, .int 1]).length) Slot.unset).toArray = ls at hl ⊢
  have hl : lv_has ls 4 [(0, .ref h0), (1, .int 1)] := hl
  have hP : va_P (dC, dI) cls9 ([(h0, .inr (3, [.int mc, .ref t0, .int 0]))] ++ pl) s.heap := hP
  have hD : va_D A ([(h0, .inr (3, [.int mc, .ref t0, .int 0]))] ++ pl) := hD
  generalize hQ : MQ below (va_Qr (fun (_ : ClassId) => True) (fun u a t => va_P (dC, dI) cls9 ([(h0, .inr (3, [.int mc, .ref a, .int 0])), (a, .inl (u, 10, .inr (.inr (.inr (.inr (fun _ => none))))))] ++ pl) t.heap ∧ va_K (dC, dI) cls9 ([] ++ [(u, (.object "java/lang/Object"))]) t ∧ va_D A ([(h0, .inr (3, [.int mc, .ref a, .int 0])), (a, .inl (u, 10, .inr (.inr (.inr (.inr (fun _ => none))))))] ++ pl)) A) args s 1 10 A = Q
  replace hQ := hQ.symm
  refine lv_aload_n hx hb d_T_grow2_0 rfl (lv_at hl 0 rfl) ?_
  refine va_get (D := (dC, dI)) (ci := 3) (v := .ref t0) (C := R_T) (T := F_T) (N := 3) hx hb hts in_T hown hK hP 0 rfl rfl 1 (by decide) (hts _ tw_43) (fun _ h9 => h9) rfl d_T_grow2_1 ?_
  refine va_tlen (v := 0) hx hb hxz.2 hS rfl d_T_grow2_4 ?_
  refine lv_istore_n (lv' := [(2, .int 0), (0, .ref h0), (1, .int 1)]) hx hb d_T_grow2_5 rfl hl (by decide) rfl (fun ls hl => ?_)
  refine lv_iload_n hx hb d_T_grow2_6 rfl (lv_at hl 0 rfl) ?_
  refine lv_if_gt (tgt := 20) hx hb d_T_grow2_7 rfl (fun h7 => ?_) (fun h7 => ?_)
  · exact absurd h7 (by decide)
  · refine lv_aload_n hx hb d_T_grow2_10 rfl (lv_at hl 1 rfl) ?_
    refine va_get (D := (dC, dI)) (ci := 3) (v := .ref t0) (C := R_T) (T := F_T) (N := 3) hx hb hts in_T hown hK hP 0 rfl rfl 1 (by decide) (hts _ tw_43) (fun _ h9 => h9) rfl d_T_grow2_11 ?_
    refine va_gets hx hb hxz.1 hS hown (hts _ tw_41) (fun _ h9 => h9) d_T_grow2_14 ?_
    refine lv_acmp_eq (rx := some t0) (ry := some t0) (tgt := 45) hx hb d_T_grow2_17 rfl (fun _ => ?_) (fun h => absurd rfl h)
    refine lv_aload_n hx hb d_T_grow2_45 rfl (lv_at hl 1 rfl) ?_
    refine lv_bipush (v := 10) hx hb d_T_grow2_46 (by decide) ?_
    refine lv_iload_n hx hb d_T_grow2_48 rfl (lv_at hl 2 rfl) ?_
    refine va_mmax hx hb (hml.trans hl.1.symm) hown (hts _ tw_174) (hts _ tw_27) (hts _ tw_2) (hts _ tw_28) (by rw [← hR]; exact Nat.le_of_ble_eq_true rfl) (by rw [← hR]; exact Nat.le_of_ble_eq_true rfl) (Nat.zero_le _) (Nat.zero_le _) d_T_grow2_49 ?_
    refine va_newq (N' := 10) hx hb hown (hts _ tw_175) hxk.1 hK hP hD hS hA (by decide) (by decide) (by omega) (by rw [← hR]; exact Nat.le_refl _) (by rw [← hR]; show 0 + 10 ≤ 10; omega) d_T_grow2_52 (fun q52 cN52 H hK hP hD hS => ?_)
    have hP : va_P (dC, dI) cls9 ([(h0, .inr (3, [.int mc, .ref t0, .int 0])), (q52, .inl (cN52, 10, .inr (.inr (.inr (.inr (fun _ => none))))))] ++ pl) H := vp_perm pm_in hP
    have hD : va_D A ([(h0, .inr (3, [.int mc, .ref t0, .int 0])), (q52, .inl (cN52, 10, .inr (.inr (.inr (.inr (fun _ => none))))))] ++ pl) := vd_perm pm_in hD
    have hK : va_K (dC, dI) cls9 [(cN52, (.object "java/lang/Object"))] s := hK
    refine lv_dup_x1 hx hb d_T_grow2_55 rfl rfl ?_
    refine va_put (D := (dC, dI)) (ci := 3) (v := .ref q52) (ty := (.array (.object "java/lang/Object"))) (C := R_T) (T := F_T) (N := 3) hx hb hts in_T tf_T tok_T n_T hown hK hP hD hS 0 rfl rfl 1 (by decide) (hts _ tw_43) (fun _ h9 => h9) rfl (by decide +kernel) (by rfl) (by rfl) (Nat.le_of_ble_eq_true rfl) d_T_grow2_56 (fun H locs hP hD hS => ?_)
    have hP : va_P (dC, dI) cls9 ([(h0, .inr (3, [.int mc, .ref q52, .int 0])), (q52, .inl (cN52, 10, .inr (.inr (.inr (.inr (fun _ => none))))))] ++ pl) H := hP
    have hD : va_D A ([(h0, .inr (3, [.int mc, .ref q52, .int 0])), (q52, .inl (cN52, 10, .inr (.inr (.inr (.inr (fun _ => none))))))] ++ pl) := hD
    refine W.widen (k := 1) (n := 10) (by first | exact Nat.le_refl _ | omega | (show (0 + 1) ≤ 1; omega)) (by first | exact Nat.le_refl _ | omega | (show (0 + 10) ≤ 10; omega)) ?_
    rw [hQ]
    exact W.aret (v := .ref q52) hx hb hr (Or.inr ⟨_, rfl⟩) (Or.inr ⟨_, rfl⟩) (fun t ht hW => ⟨⟨cN52, q52, rfl, trivial, by rw [ht]; exact hP, va_K.moved hW.alike hK, hD⟩, hS.F ht⟩) hS.2.2 d_T_grow2_59
set_option maxHeartbeats 4000000 in
set_option maxRecDepth 100000 in
theorem c_growA0 (l : Launch) (dC : Nat → ClassId) (dI : Nat → Nat → Nat) (h0 t0 mi : Nat) (mc : Int32) (pl : va_W)  : az_r l y_T_grow1 w_T_grow1 { frames := 4, cells := 1, slots := 10, locals := 99 } (dC, dI) cls9 ([(h0, .inr (3, [.int mc, .ref t0, .int 0]))] ++ pl) (fun u a => ([(h0, .inr (3, [.int mc, .ref a, .int 0])), (a, .inl (u, 10, .inr (.inr (.inr (.inr (fun _ => none))))))] ++ pl)) [] [.ref h0] mi t0 1 10 := by
  intro sz
  refine Met.ofW (cc := b_T_grow1) (maxL := 1) (ret := (some (.array (.object "java/lang/Object")))) (by decide) rfl ?_
  intro p e s m args below meth c s₁ B hml hv
  obtain ⟨hargs, hsz, hP, hK, hD0, hxk, hxz⟩ := hv
  have hx := B.exec
  have hb := B.bytes
  have hr := B.returns
  have hts : ∀ w ∈ lw_w, w.before args s = true := fun w h => atoms_spec (ws := w_T_grow1) B.pre w (List.mem_cons_of_mem _ h)
  have hown : s.vm.findClass R_T = some m.cls := findClass_of_methodNamed B.named
  have hlocks := B.notSynchronized
  subst hsz
  have hD := hD0.self (sz := s.heap.size)
  generalize hR : (headSpec w_T_grow1 { frames := 4, cells := 1, slots := 10, locals := 99 }).room = R
  generalize hAe : va_A ([(h0, .inr (3, [.int mc, .ref t0, .int 0]))] ++ pl) s.heap.size = A at hD hxz ⊢
  have hA : ∀ q : Nat, s.heap.size ≤ q → A q := fun q h => by rw [← hAe]; exact Or.inr h
  have hS : va_S A s.heap s.heap [] := va_S.rf
  have hl := lv_entry [.ref h0] (n := 1) (Nat.le_of_ble_eq_true rfl)
  have hent : entryFrame m args 1 = F0 m 0 (lg_sl [.ref h0] ++ List.replicate (1 - (lg_sl [.ref h0]).length) Slot.unset).toArray [] := by rw [hargs]; exact lg_entry_eq m [.ref h0] 1
  rw [hent]
  clear hent
  generalize (lg_sl [.ref h0] ++ List.replicate (1 - (lg_sl [.ref h0]).length) Slot.unset).toArray = ls at hl ⊢
  have hl : lv_has ls 1 [(0, .ref h0)] := hl
  have hP : va_P (dC, dI) cls9 ([(h0, .inr (3, [.int mc, .ref t0, .int 0]))] ++ pl) s.heap := hP
  have hD : va_D A ([(h0, .inr (3, [.int mc, .ref t0, .int 0]))] ++ pl) := hD
  generalize hQ : MQ below (va_Qr (fun (_ : ClassId) => True) (fun u a t => va_P (dC, dI) cls9 ([(h0, .inr (3, [.int mc, .ref a, .int 0])), (a, .inl (u, 10, .inr (.inr (.inr (.inr (fun _ => none))))))] ++ pl) t.heap ∧ va_K (dC, dI) cls9 ([] ++ [(u, (.object "java/lang/Object"))]) t ∧ va_D A ([(h0, .inr (3, [.int mc, .ref a, .int 0])), (a, .inl (u, 10, .inr (.inr (.inr (.inr (fun _ => none))))))] ++ pl)) A) args s 1 10 A = Q
  replace hQ := hQ.symm
  refine lv_aload_n hx hb d_T_grow1_0 rfl (lv_at hl 0 rfl) ?_
  refine lv_aload_n hx hb d_T_grow1_1 rfl (lv_at hl 0 rfl) ?_
  refine va_get (D := (dC, dI)) (ci := 3) (v := .int 0) (C := R_T) (T := F_T) (N := 3) hx hb hts in_T hown hK hP 0 rfl rfl 2 (by decide) (hts _ tw_44) (fun _ h9 => h9) rfl d_T_grow1_2 ?_
  refine lv_iconst (v := 1) hx hb d_T_grow1_5 (by decide) ?_
  refine lv_iadd hx hb d_T_grow1_6 ?_
  rw [show (0 : Int32) + 1 = 1 by decide]
  refine cal_r (cx := [(h0, .inr (3, [.int mc, .ref t0, .int 0]))]) (wr := []) (pl := pl) (rx := fun u a => [(h0, .inr (3, [.int mc, .ref a, .int 0])), (a, .inl (u, 10, .inr (.inr (.inr (.inr (fun _ => none))))))]) (va_runV (g := F0 m 7 ls [.int 1, .ref h0]) (As := [.int 1]) (rest := []) ⟨hx, hb, hml, hown, hts⟩ (c_growA1 l dC dI h0 t0 mi mc pl _) (cwV 1 hts (gi_V tw_141 tw_143 ts_4 tw_5 tw_144) rfl rfl rfl (by decide +kernel) ⟨(by rw [← hR]; exact Nat.le_of_ble_eq_true rfl), (by rw [← hR]; exact Nat.le_of_ble_eq_true rfl)⟩) ⟨az_blind, va_recv (ci := 3) (q := (R_T, F_T, 3)) hK hP rfl (q0 := 0) rfl, az_pre (hP.part [0] rfl) hK (hD.part [0] (by decide) rfl) hxk hxz hS (va_freeP hD hS hA [0] rfl)⟩ rfl rfl hl.1 rfl (lv_room (Nat.le_of_ble_eq_true rfl)) d_T_grow1_7 ⟨by rw [← hR]; show 0 + 1 ≤ 1; omega, by rw [← hR]; show 0 + 10 ≤ 10; omega⟩) hP hD hS hA [0] [] rfl rfl (by decide) (by decide) (fun u7 a7 H locs hK hP hD hS => ?_)
  have hP : va_P (dC, dI) cls9 ([(h0, .inr (3, [.int mc, .ref a7, .int 0])), (a7, .inl (u7, 10, .inr (.inr (.inr (.inr (fun _ => none))))))] ++ pl) H := hP
  have hD : va_D A ([(h0, .inr (3, [.int mc, .ref a7, .int 0])), (a7, .inl (u7, 10, .inr (.inr (.inr (.inr (fun _ => none))))))] ++ pl) := hD
  have hK : va_K (dC, dI) cls9 [(u7, (.object "java/lang/Object"))] s := hK
  refine W.widen (k := 1) (n := 10) (by first | exact Nat.le_refl _ | omega | (show (0 + 1) ≤ 1; omega)) (by first | exact Nat.le_refl _ | omega | (show (0 + 10) ≤ 10; omega)) ?_
  rw [hQ]
  exact W.aret (v := .ref a7) hx hb hr (Or.inr ⟨_, rfl⟩) (Or.inr ⟨_, rfl⟩) (fun t ht hW => ⟨⟨u7, a7, rfl, trivial, by rw [ht]; exact hP, va_K.moved hW.alike hK, hD⟩, hS.F ht⟩) hS.2.2 d_T_grow1_10
