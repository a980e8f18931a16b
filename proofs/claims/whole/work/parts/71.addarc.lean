set_option maxHeartbeats 4000000 in
set_option maxRecDepth 100000 in
theorem c_arcInit (l : Launch) (dC : Nat → ClassId) (dI : Nat → Nat → Nat) (h0 : Nat) (a1 a2 a3 a4 a5 a6 : Int32)  : mc_v l y_A_init w_A_init { frames := 1, cells := 0, slots := 0, locals := 32 } (dC, dI) cls9 [(h0, .inr (1, [.int 0, .int 0, .int 0, .int 0, .int 0, .int 0]))] [(h0, .inr (1, [.int a1, .int a2, .int a3, .int a4, .int a5, .int a6]))] [] [.ref h0, .int a1, .int a2, .int a3, .int a4, .int a5, .int a6] := by
  intro sz
  refine Met.ofW (cc := b_A_init) (maxL := 7) (ret := none) (by decide) rfl ?_
  intro p e s m args below meth c s₁ B hml hv
  obtain ⟨hargs, hsz, hP, hK, hD0⟩ := hv
  have hx := B.exec
  have hb := B.bytes
  have hr := B.returns
  have hts : ∀ w ∈ lw_w, w.before args s = true := fun w h => atoms_spec (ws := w_A_init) B.pre w (List.mem_cons_of_mem _ h)
  have hown : s.vm.findClass R_A = some m.cls := findClass_of_methodNamed B.named
  have hlocks := B.notSynchronized
  have hin : meth.name = "<init>" := (name_of_methodNamed B.named B.method).1
  subst hsz
  have hD := hD0.self (sz := s.heap.size)
  generalize hR : (headSpec w_A_init { frames := 1, cells := 0, slots := 0, locals := 32 }).room = R
  generalize hAe : va_A [(h0, .inr (1, [.int 0, .int 0, .int 0, .int 0, .int 0, .int 0]))] s.heap.size = A at hD ⊢
  have hA : ∀ q : Nat, s.heap.size ≤ q → A q := fun q h => by rw [← hAe]; exact Or.inr h
  have hS : va_S A s.heap s.heap [] := va_S.rf
  have hl := lv_entry [.ref h0, .int a1, .int a2, .int a3, .int a4, .int a5, .int a6] (n := 7) (Nat.le_of_ble_eq_true rfl)
  have hent : entryFrame m args 7 = F0 m 0 (lg_sl [.ref h0, .int a1, .int a2, .int a3, .int a4, .int a5, .int a6] ++ List.replicate (7 - (lg_sl [.ref h0, .int a1, .int a2, .int a3, .int a4, .int a5, .int a6]).length) Slot.unset).toArray [] := by rw [hargs]; exact lg_entry_eq m [.ref h0, .int a1, .int a2, .int a3, .int a4, .int a5, .int a6] 7
  rw [hent]
  clear hent
  generalize (lg_sl [.ref h0, .int a1, .int a2, .int a3, .int a4, .int a5, .int a6] ++ List.replicate (7 - (lg_sl [.ref h0, .int a1, .int a2, .int a3, .int a4, .int a5, .int a6]).length) Slot.unset).toArray = ls at hl ⊢
  have hl : lv_has ls 7 [(0, .ref h0), (1, .int a1), (2, .int a2), (3, .int a3), (4, .int a4), (5, .int a5), (6, .int a6)] := hl
  have hP : va_P (dC, dI) cls9 [(h0, .inr (1, [.int 0, .int 0, .int 0, .int 0, .int 0, .int 0]))] s.heap := hP
  have hD : va_D A [(h0, .inr (1, [.int 0, .int 0, .int 0, .int 0, .int 0, .int 0]))] := hD
  generalize hQ : MQ below (va_Qv (fun (_ : Unit) => True) (fun _ t => va_P (dC, dI) cls9 [(h0, .inr (1, [.int a1, .int a2, .int a3, .int a4, .int a5, .int a6]))] t.heap ∧ va_K (dC, dI) cls9 [] t ∧ va_D A [(h0, .inr (1, [.int a1, .int a2, .int a3, .int a4, .int a5, .int a6]))]) A) args s 0 0 A = Q
  replace hQ := hQ.symm
  refine lv_aload_n hx hb d_A_init_0 rfl (lv_at hl 0 rfl) ?_
  refine W.objInit hx hb hown (hts _ tw_109) (hts _ tw_21) (hts _ tw_22) rfl (by rw [hml]; exact hl.1) rfl d_A_init_1 (by rw [← hR]; exact Nat.le_of_ble_eq_true rfl) (by rw [← hR]; exact Nat.le_of_ble_eq_true rfl) ?_
  refine W.eq (g2 := F0 m 4 ls []) rfl ?_
  refine lv_aload_n hx hb d_A_init_4 rfl (lv_at hl 0 rfl) ?_
  refine lv_iload_n hx hb d_A_init_5 rfl (lv_at hl 1 rfl) ?_
  refine va_putF (D := (dC, dI)) (ci := 1) (v := .int a1) (ty := .int) (C := R_A) (T := F_A) (N := 6) hx hb hts in_A tf_A tok_A n_A hown hK hP hD hS 0 rfl rfl 0 (by decide) (hts _ tw_110) (fun _ h9 => h9) rfl hin rfl (by decide +kernel) (by rfl) (by rfl) (Nat.le_of_ble_eq_true rfl) d_A_init_6 (fun H locs hP hD hS => ?_)
  have hP : va_P (dC, dI) cls9 [(h0, .inr (1, [.int a1, .int 0, .int 0, .int 0, .int 0, .int 0]))] H := hP
  have hD : va_D A [(h0, .inr (1, [.int a1, .int 0, .int 0, .int 0, .int 0, .int 0]))] := hD
  refine lv_aload_n hx hb d_A_init_9 rfl (lv_at hl 0 rfl) ?_
  refine lv_iload_n hx hb d_A_init_10 rfl (lv_at hl 2 rfl) ?_
  refine va_putF (D := (dC, dI)) (ci := 1) (v := .int a2) (ty := .int) (C := R_A) (T := F_A) (N := 6) hx hb hts in_A tf_A tok_A n_A hown hK hP hD hS 0 rfl rfl 1 (by decide) (hts _ tw_111) (fun _ h9 => h9) rfl hin rfl (by decide +kernel) (by rfl) (by rfl) (Nat.le_of_ble_eq_true rfl) d_A_init_11 (fun H locs hP hD hS => ?_)
  have hP : va_P (dC, dI) cls9 [(h0, .inr (1, [.int a1, .int a2, .int 0, .int 0, .int 0, .int 0]))] H := hP
  have hD : va_D A [(h0, .inr (1, [.int a1, .int a2, .int 0, .int 0, .int 0, .int 0]))] := hD
  refine lv_aload_n hx hb d_A_init_14 rfl (lv_at hl 0 rfl) ?_
  refine lv_iload_n hx hb d_A_init_15 rfl (lv_at hl 3 rfl) ?_
  refine va_putF (D := (dC, dI)) (ci := 1) (v := .int a3) (ty := .int) (C := R_A) (T := F_A) (N := 6) hx hb hts in_A tf_A tok_A n_A hown hK hP hD hS 0 rfl rfl 2 (by decide) (hts _ tw_112) (fun _ h9 => h9) rfl hin rfl (by decide +kernel) (by rfl) (by rfl) (Nat.le_of_ble_eq_true rfl) d_A_init_16 (fun H locs hP hD hS => ?_)
  have hP : va_P (dC, dI) cls9 [(h0, .inr (1, [.int a1, .int a2, .int a3, .int 0, .int 0, .int 0]))] H := hP
  have hD : va_D A [(h0, .inr (1, [.int a1, .int a2, .int a3, .int 0, .int 0, .int 0]))] := hD
  refine lv_aload_n hx hb d_A_init_19 rfl (lv_at hl 0 rfl) ?_
  refine lv_iload hx hb d_A_init_20 (lv_at hl 4 rfl) ?_
  refine va_putF (D := (dC, dI)) (ci := 1) (v := .int a4) (ty := .int) (C := R_A) (T := F_A) (N := 6) hx hb hts in_A tf_A tok_A n_A hown hK hP hD hS 0 rfl rfl 3 (by decide) (hts _ tw_113) (fun _ h9 => h9) rfl hin rfl (by decide +kernel) (by rfl) (by rfl) (Nat.le_of_ble_eq_true rfl) d_A_init_22 (fun H locs hP hD hS => ?_)
  have hP : va_P (dC, dI) cls9 [(h0, .inr (1, [.int a1, .int a2, .int a3, .int a4, .int 0, .int 0]))] H := hP
  have hD : va_D A [(h0, .inr (1, [.int a1, .int a2, .int a3, .int a4, .int 0, .int 0]))] := hD
  refine lv_aload_n hx hb d_A_init_25 rfl (lv_at hl 0 rfl) ?_
  refine lv_iload hx hb d_A_init_26 (lv_at hl 5 rfl) ?_
  refine va_putF (D := (dC, dI)) (ci := 1) (v := .int a5) (ty := .int) (C := R_A) (T := F_A) (N := 6) hx hb hts in_A tf_A tok_A n_A hown hK hP hD hS 0 rfl rfl 4 (by decide) (hts _ tw_114) (fun _ h9 => h9) rfl hin rfl (by decide +kernel) (by rfl) (by rfl) (Nat.le_of_ble_eq_true rfl) d_A_init_28 (fun H locs hP hD hS => ?_)
  have hP : va_P (dC, dI) cls9 [(h0, .inr (1, [.int a1, .int a2, .int a3, .int a4, .int a5, .int 0]))] H := hP
  have hD : va_D A [(h0, .inr (1, [.int a1, .int a2, .int a3, .int a4, .int a5, .int 0]))] := hD
  refine lv_aload_n hx hb d_A_init_31 rfl (lv_at hl 0 rfl) ?_
  refine lv_iload hx hb d_A_init_32 (lv_at hl 6 rfl) ?_
  refine va_putF (D := (dC, dI)) (ci := 1) (v := .int a6) (ty := .int) (C := R_A) (T := F_A) (N := 6) hx hb hts in_A tf_A tok_A n_A hown hK hP hD hS 0 rfl rfl 5 (by decide) (hts _ tw_115) (fun _ h9 => h9) rfl hin rfl (by decide +kernel) (by rfl) (by rfl) (Nat.le_of_ble_eq_true rfl) d_A_init_34 (fun H locs hP hD hS => ?_)
  have hP : va_P (dC, dI) cls9 [(h0, .inr (1, [.int a1, .int a2, .int a3, .int a4, .int a5, .int a6]))] H := hP
  have hD : va_D A [(h0, .inr (1, [.int a1, .int a2, .int a3, .int a4, .int a5, .int a6]))] := hD
  refine W.widen (k := 0) (n := 0) (by first | exact Nat.le_refl _ | omega | (show 0 ≤ 0; omega)) (by first | exact Nat.le_refl _ | omega | (show 0 ≤ 0; omega)) ?_
  rw [hQ]
  exact W.vret hx hb hr (fun t ht hW => ⟨⟨(), rfl, trivial, by rw [ht]; exact hP, va_K.moved hW.alike hK, hD⟩, hS.F ht⟩) hS.2.2 d_A_init_37
theorem lwd_hd {t0 li : Nat} {L : LSt} : ∃ (fs : List Value) (r : va_W), lwd t0 li L = (li, .inr (3, fs)) :: r := by
  obtain ⟨mc, n, o⟩ := L
  cases o with
  | none => exact ⟨_, _, rfl⟩
  | some x => obtain ⟨ed, cO, cap, g⟩ := x; exact ⟨_, _, rfl⟩
theorem aa_b0 {k n : Nat} (h : nI k = 0) (hk : k < n) (hn : n ≤ 256) : nI n - 1 = nI (bk k n) := by
  have h0 : k = 0 := (nI_eq (show k < 2 ^ 31 by omega) (show 0 < 2 ^ 31 by omega)).mp h
  unfold bk
  rw [if_pos h0]
  have := pk_sub (a := n) (b := 1) (by omega)
  exact this
theorem aa_b1 {k n : Nat} (h : ¬ nI k = 0) (hk : k < n) (hn : n ≤ 256) : nI k - 1 = nI (bk k n) := by
  have h0 : ¬ k = 0 := fun e => h (by rw [e]; rfl)
  unfold bk
  rw [if_neg h0]
  have := pk_sub (a := k) (b := 1) (by omega)
  exact this
theorem aa_a0 {k n : Nat} (h : nI k + 1 = nI n) (hk : k < n) (hn : n ≤ 256) : (0 : Int32) = nI (ak k n) := by
  rw [nI_1] at h
  have h0 := (nI_eq (show k + 1 < 2 ^ 31 by omega) (show n < 2 ^ 31 by omega)).mp h
  unfold ak
  rw [if_pos h0]
  rfl
theorem aa_a1 {k n : Nat} (h : ¬ nI k + 1 = nI n) (hk : k < n) (hn : n ≤ 256) : nI k + 1 = nI (ak k n) := by
  have h0 : ¬ k + 1 = n := fun e => h (by rw [nI_1, e])
  unfold ak
  rw [if_neg h0, nI_1]
set_option maxHeartbeats 4000000 in
set_option maxRecDepth 100000 in
theorem c_aaOff (l : Launch) (dC : Nat → ClassId) (dI : Nat → Nat → Nat) (h0 qx qy qo qr ql t0 mi k n : Nat) (wd cp cc : Int32) (cI cZ : ClassId) (X Y O : Nat → Int32) (L : LSt) (as : Nat → Nat) (pl : va_W) (ar : List T6) (G : AS → Prop) (hk : k < n) (hn : n ≤ 256) (hu : hld ar (L, as, pl)) (har : ar.length < 256) (hO : O k = 0) (hG : ∀ (L' : LSt) (v : Nat), lnext as v L L' → G (L', va_up as L.2.1 v, pl ++ [(v, .inr (1, t6 (ks_joint X O (nI (bk k n)) (nI k), ks_joint Y O (nI (bk k n)) (nI k), 2 * X k, 2 * Y k, ks_joint X O (nI (ak k n)) (nI k), ks_joint Y O (nI (ak k n)) (nI k))))])) : aa_v l y_S_addArcOf w_S_addArcOf { frames := 7, cells := (1 + lgc L), slots := (6 + lgs L), locals := 163 } (dC, dI) ([(h0, .inr (0, [.int wd, .ref qx, .ref qy, .ref qo, .ref qr, .ref ql, .int (nI n), .int cp, .int cc])), (qx, .inl (cI, 256, .inl X)), (qy, .inl (cI, 256, .inl Y)), (qo, .inl (cZ, 256, .inl O))] ++ (lwd t0 ql L ++ pl)) ([(cI, .int), (cZ, .boolean)] ++ lty L) [.ref h0, .int (nI k)] mi t0 (1 + lgc L) (6 + lgs L) G (fun u : AS => [(h0, .inr (0, [.int wd, .ref qx, .ref qy, .ref qo, .ref qr, .ref ql, .int (nI n), .int cp, .int cc])), (qx, .inl (cI, 256, .inl X)), (qy, .inl (cI, 256, .inl Y)), (qo, .inl (cZ, 256, .inl O))] ++ (lwd t0 ql u.1 ++ u.2.2)) (fun u : AS => [(cI, .int), (cZ, .boolean)] ++ lty u.1) := by
  intro sz
  refine Met.ofW (cc := b_S_addArcOf) (maxL := 4) (ret := none) (by decide) rfl ?_
  intro p e s m args below meth c s₁ B hml hv
  obtain ⟨hargs, hsz, hP, hK, hD0, hxk, hxz⟩ := hv
  have hx := B.exec
  have hb := B.bytes
  have hr := B.returns
  have hts : ∀ w ∈ lw_w, w.before args s = true := fun w h => atoms_spec (ws := w_S_addArcOf) B.pre w (List.mem_cons_of_mem _ h)
  have hown : s.vm.findClass R_S = some m.cls := findClass_of_methodNamed B.named
  have hlocks := B.notSynchronized
  subst hsz
  have hD := hD0.self (sz := s.heap.size)
  generalize hR : (headSpec w_S_addArcOf { frames := 7, cells := (1 + lgc L), slots := (6 + lgs L), locals := 163 }).room = R
  generalize hAe : va_A ([(h0, .inr (0, [.int wd, .ref qx, .ref qy, .ref qo, .ref qr, .ref ql, .int (nI n), .int cp, .int cc])), (qx, .inl (cI, 256, .inl X)), (qy, .inl (cI, 256, .inl Y)), (qo, .inl (cZ, 256, .inl O))] ++ (lwd t0 ql L ++ pl)) s.heap.size = A at hD hxz ⊢
  have hA : ∀ q : Nat, s.heap.size ≤ q → A q := fun q h => by rw [← hAe]; exact Or.inr h
  have hS : va_S A s.heap s.heap [] := va_S.rf
  have hl := lv_entry [.ref h0, .int (nI k)] (n := 4) (Nat.le_of_ble_eq_true rfl)
  have hent : entryFrame m args 4 = F0 m 0 (lg_sl [.ref h0, .int (nI k)] ++ List.replicate (4 - (lg_sl [.ref h0, .int (nI k)]).length) Slot.unset).toArray [] := by rw [hargs]; exact lg_entry_eq m [.ref h0, .int (nI k)] 4
  rw [hent]
  clear hent
  generalize (lg_sl [.ref h0, .int (nI k)] ++ List.replicate (4 - (lg_sl [.ref h0, .int (nI k)]).length) Slot.unset).toArray = ls at hl ⊢
  have hl : lv_has ls 4 [(0, .ref h0), (1, .int (nI k))] := hl
  have hP : va_P (dC, dI) cls9 ([(h0, .inr (0, [.int wd, .ref qx, .ref qy, .ref qo, .ref qr, .ref ql, .int (nI n), .int cp, .int cc])), (qx, .inl (cI, 256, .inl X)), (qy, .inl (cI, 256, .inl Y)), (qo, .inl (cZ, 256, .inl O))] ++ (lwd t0 ql L ++ pl)) s.heap := hP
  have hD : va_D A ([(h0, .inr (0, [.int wd, .ref qx, .ref qy, .ref qo, .ref qr, .ref ql, .int (nI n), .int cp, .int cc])), (qx, .inl (cI, 256, .inl X)), (qy, .inl (cI, 256, .inl Y)), (qo, .inl (cZ, 256, .inl O))] ++ (lwd t0 ql L ++ pl)) := hD
  have ek : Int32.toNatClampNeg (nI k) = k := nI_clamp (by omega)
  have hbk := bk_lt hk
  have hak := ak_lt hk
  have ea : Int32.toNatClampNeg (nI (ak k n)) = ak k n := nI_clamp (by omega)
  have hink : vp_in (nI k) 256 := vp_in_nI (by omega) (by decide)
  have hinb : vp_in (nI (bk k n)) 256 := vp_in_nI (by omega) (by decide)
  have hina : vp_in (nI (ak k n)) 256 := vp_in_nI (by omega) (by decide)
  generalize hQ : MQ below (va_Qv (fun u : AS => G u) (fun u t => va_P (dC, dI) cls9 ([(h0, .inr (0, [.int wd, .ref qx, .ref qy, .ref qo, .ref qr, .ref ql, .int (nI n), .int cp, .int cc])), (qx, .inl (cI, 256, .inl X)), (qy, .inl (cI, 256, .inl Y)), (qo, .inl (cZ, 256, .inl O))] ++ (lwd t0 ql u.1 ++ u.2.2)) t.heap ∧ va_K (dC, dI) cls9 ([(cI, .int), (cZ, .boolean)] ++ lty u.1) t ∧ va_D A ([(h0, .inr (0, [.int wd, .ref qx, .ref qy, .ref qo, .ref qr, .ref ql, .int (nI n), .int cp, .int cc])), (qx, .inl (cI, 256, .inl X)), (qy, .inl (cI, 256, .inl Y)), (qo, .inl (cZ, 256, .inl O))] ++ (lwd t0 ql u.1 ++ u.2.2))) A) args s (1 + lgc L) (6 + lgs L) A = Q
  replace hQ := hQ.symm
  have J17 : ∀ (ls : Array Slot) (H : Heap) (locs : List Loc), lv_has ls 4 [(2, .int (nI (bk k n))), (0, .ref h0), (1, .int (nI k))] → va_P (dC, dI) cls9 ([(h0, .inr (0, [.int wd, .ref qx, .ref qy, .ref qo, .ref qr, .ref ql, .int (nI n), .int cp, .int cc])), (qx, .inl (cI, 256, .inl X)), (qy, .inl (cI, 256, .inl Y)), (qo, .inl (cZ, 256, .inl O))] ++ (lwd t0 ql L ++ pl)) H → va_D A ([(h0, .inr (0, [.int wd, .ref qx, .ref qy, .ref qo, .ref qr, .ref ql, .int (nI n), .int cp, .int cc])), (qx, .inl (cI, 256, .inl X)), (qy, .inl (cI, 256, .inl Y)), (qo, .inl (cZ, 256, .inl O))] ++ (lwd t0 ql L ++ pl)) → va_S A s.heap H locs → W p l e R s m args below meth c H locs 0 0 Q (F0 m 17 ls []) := by
    intro ls H locs hl hP hD hS
    have J35 : ∀ (ls : Array Slot) (H : Heap) (locs : List Loc), lv_has ls 4 [(3, .int (nI (ak k n))), (2, .int (nI (bk k n))), (0, .ref h0), (1, .int (nI k))] → va_P (dC, dI) cls9 ([(h0, .inr (0, [.int wd, .ref qx, .ref qy, .ref qo, .ref qr, .ref ql, .int (nI n), .int cp, .int cc])), (qx, .inl (cI, 256, .inl X)), (qy, .inl (cI, 256, .inl Y)), (qo, .inl (cZ, 256, .inl O))] ++ (lwd t0 ql L ++ pl)) H → va_D A ([(h0, .inr (0, [.int wd, .ref qx, .ref qy, .ref qo, .ref qr, .ref ql, .int (nI n), .int cp, .int cc])), (qx, .inl (cI, 256, .inl X)), (qy, .inl (cI, 256, .inl Y)), (qo, .inl (cZ, 256, .inl O))] ++ (lwd t0 ql L ++ pl)) → va_S A s.heap H locs → W p l e R s m args below meth c H locs 0 0 Q (F0 m 35 ls []) := by
      intro ls H locs hl hP hD hS
      refine lv_aload_n hx hb d_S_addArcOf_35 rfl (lv_at hl 2 rfl) ?_
      refine va_get (D := (dC, dI)) (ci := 0) (v := .ref qo) (C := R_S) (T := F_S) (N := 9) hx hb hts in_S hown hK hP 0 rfl rfl 3 (by decide) (hts _ tw_60) (fun _ h9 => h9) rfl d_S_addArcOf_36 ?_
      refine lv_iload_n hx hb d_S_addArcOf_39 rfl (lv_at hl 3 rfl) ?_
      refine va_zald hx hb hK hP 3 1 rfl rfl (by exact hink) d_S_addArcOf_40 ?_
      rw [ek]
      refine lv_if_ne (tgt := 118) hx hb d_S_addArcOf_41 rfl (fun h41 => ?_) (fun h41 => ?_)
      · exact absurd h41 (by exact fun z => z hO)
      · refine lv_aload_n hx hb d_S_addArcOf_44 rfl (lv_at hl 2 rfl) ?_
        refine va_get (D := (dC, dI)) (ci := 0) (v := .ref ql) (C := R_S) (T := F_S) (N := 9) hx hb hts in_S hown hK hP 0 rfl rfl 5 (by decide) (hts _ tw_62) (fun _ h9 => h9) rfl d_S_addArcOf_45 ?_
        refine va_new (ci := 1) (fs := [.int 0, .int 0, .int 0, .int 0, .int 0, .int 0]) (C := R_A) (T := F_A) (N := 6) hx hb hts in_A tf_A tok_A hown (hts _ tw_100) (hts _ tw_101) (hts _ tw_7) hK hP hD hS hA rfl (fun j hj => by rcases (show j = 0 ∨ j = 1 ∨ j = 2 ∨ j = 3 ∨ j = 4 ∨ j = 5 by omega) with rfl | rfl | rfl | rfl | rfl | rfl <;> rfl) (by rw [← hR]; show 0 + 1 ≤ (1 + lgc L); omega) (by rw [← hR]; show 0 + 6 ≤ (6 + lgs L); omega) d_S_addArcOf_48 (fun v H hP hD hS => ?_)
        have hP : va_P (dC, dI) cls9 ([(h0, .inr (0, [.int wd, .ref qx, .ref qy, .ref qo, .ref qr, .ref ql, .int (nI n), .int cp, .int cc])), (qx, .inl (cI, 256, .inl X)), (qy, .inl (cI, 256, .inl Y)), (qo, .inl (cZ, 256, .inl O)), (v, .inr (1, [.int 0, .int 0, .int 0, .int 0, .int 0, .int 0]))] ++ (lwd t0 ql L ++ pl)) H := vp_perm pm_in hP
        have hD : va_D A ([(h0, .inr (0, [.int wd, .ref qx, .ref qy, .ref qo, .ref qr, .ref ql, .int (nI n), .int cp, .int cc])), (qx, .inl (cI, 256, .inl X)), (qy, .inl (cI, 256, .inl Y)), (qo, .inl (cZ, 256, .inl O)), (v, .inr (1, [.int 0, .int 0, .int 0, .int 0, .int 0, .int 0]))] ++ (lwd t0 ql L ++ pl)) := vd_perm pm_in hD
        refine lv_dup hx hb d_S_addArcOf_51 rfl ?_
        refine lv_aload_n hx hb d_S_addArcOf_52 rfl (lv_at hl 2 rfl) ?_
        refine lv_aload_n hx hb d_S_addArcOf_53 rfl (lv_at hl 2 rfl) ?_
        refine va_get (D := (dC, dI)) (ci := 0) (v := .ref qx) (C := R_S) (T := F_S) (N := 9) hx hb hts in_S hown hK hP 0 rfl rfl 1 (by decide) (hts _ tw_58) (fun _ h9 => h9) rfl d_S_addArcOf_54 ?_
        refine lv_iload_n hx hb d_S_addArcOf_57 rfl (lv_at hl 1 rfl) ?_
        refine lv_iload_n hx hb d_S_addArcOf_58 rfl (lv_at hl 3 rfl) ?_
        refine cq_Vi (C := R_S) (T := F_S) (N := 9) (ci := 0) (As := [.ref qx, .int (nI (bk k n)), .int (nI k)]) (rest := [.ref v, .ref v, .ref ql]) (w1 := [(h0, .inr (0, [.int wd, .ref qx, .ref qy, .ref qo, .ref qr, .ref ql, .int (nI n), .int cp, .int cc])), (qx, .inl (cI, 256, .inl X)), (qo, .inl (cZ, 256, .inl O))]) (tys := [(cI, .int), (cZ, .boolean)]) ⟨hx, hb, hml, hown, hts⟩ (c_ks_joint l dC dI h0 qx qo cI cZ wd qx qy qr ql (nI n) cp cc X O (nI (bk k n)) (nI k) (by exact hinb) (by exact hink)) (cwV 3 hts (gi_V tw_102 tw_104 ts_1 tw_1 tw_105) rfl rfl rfl (by decide +kernel) ⟨(by rw [← hR]; exact Nat.le_of_ble_eq_true rfl), (by rw [← hR]; exact Nat.le_of_ble_eq_true rfl)⟩) hK (hP.sub [0, 1, 3] rfl) (hK.sub [0, 1] rfl) 0 rfl rfl rfl rfl hl.1 (Nat.le_of_ble_eq_true rfl) d_S_addArcOf_59 (by rw [← hR]; exact ⟨show 0 + 1 ≤ 1 + lgc L by omega, show 0 + 6 ≤ 6 + lgs L by omega⟩) hP hS hA (fun H locs hP hS => ?_)
        refine lv_aload_n hx hb d_S_addArcOf_62 rfl (lv_at hl 2 rfl) ?_
        refine lv_aload_n hx hb d_S_addArcOf_63 rfl (lv_at hl 2 rfl) ?_
        refine va_get (D := (dC, dI)) (ci := 0) (v := .ref qy) (C := R_S) (T := F_S) (N := 9) hx hb hts in_S hown hK hP 0 rfl rfl 2 (by decide) (hts _ tw_59) (fun _ h9 => h9) rfl d_S_addArcOf_64 ?_
        refine lv_iload_n hx hb d_S_addArcOf_67 rfl (lv_at hl 1 rfl) ?_
        refine lv_iload_n hx hb d_S_addArcOf_68 rfl (lv_at hl 3 rfl) ?_
        refine cq_Vi (C := R_S) (T := F_S) (N := 9) (ci := 0) (As := [.ref qy, .int (nI (bk k n)), .int (nI k)]) (rest := [.int (ks_joint X O (nI (bk k n)) (nI k)), .ref v, .ref v, .ref ql]) (w1 := [(h0, .inr (0, [.int wd, .ref qx, .ref qy, .ref qo, .ref qr, .ref ql, .int (nI n), .int cp, .int cc])), (qy, .inl (cI, 256, .inl Y)), (qo, .inl (cZ, 256, .inl O))]) (tys := [(cI, .int), (cZ, .boolean)]) ⟨hx, hb, hml, hown, hts⟩ (c_ks_joint l dC dI h0 qy qo cI cZ wd qx qy qr ql (nI n) cp cc Y O (nI (bk k n)) (nI k) (by exact hinb) (by exact hink)) (cwV 3 hts (gi_V tw_102 tw_104 ts_1 tw_1 tw_105) rfl rfl rfl (by decide +kernel) ⟨(by rw [← hR]; exact Nat.le_of_ble_eq_true rfl), (by rw [← hR]; exact Nat.le_of_ble_eq_true rfl)⟩) hK (hP.sub [0, 2, 3] rfl) (hK.sub [0, 1] rfl) 0 rfl rfl rfl rfl hl.1 (Nat.le_of_ble_eq_true rfl) d_S_addArcOf_69 (by rw [← hR]; exact ⟨show 0 + 1 ≤ 1 + lgc L by omega, show 0 + 6 ≤ 6 + lgs L by omega⟩) hP hS hA (fun H locs hP hS => ?_)
        refine lv_iconst (v := 2) hx hb d_S_addArcOf_72 (by decide) ?_
        refine lv_aload_n hx hb d_S_addArcOf_73 rfl (lv_at hl 2 rfl) ?_
        refine va_get (D := (dC, dI)) (ci := 0) (v := .ref qx) (C := R_S) (T := F_S) (N := 9) hx hb hts in_S hown hK hP 0 rfl rfl 1 (by decide) (hts _ tw_58) (fun _ h9 => h9) rfl d_S_addArcOf_74 ?_
        refine lv_iload_n hx hb d_S_addArcOf_77 rfl (lv_at hl 3 rfl) ?_
        refine va_iald hx hb hK hP 1 0 rfl rfl (by exact hink) d_S_addArcOf_78 ?_
        rw [ek]
        refine lv_imul hx hb d_S_addArcOf_79 ?_
        refine lv_iconst (v := 2) hx hb d_S_addArcOf_80 (by decide) ?_
        refine lv_aload_n hx hb d_S_addArcOf_81 rfl (lv_at hl 2 rfl) ?_
        refine va_get (D := (dC, dI)) (ci := 0) (v := .ref qy) (C := R_S) (T := F_S) (N := 9) hx hb hts in_S hown hK hP 0 rfl rfl 2 (by decide) (hts _ tw_59) (fun _ h9 => h9) rfl d_S_addArcOf_82 ?_
        refine lv_iload_n hx hb d_S_addArcOf_85 rfl (lv_at hl 3 rfl) ?_
        refine va_iald hx hb hK hP 2 0 rfl rfl (by exact hink) d_S_addArcOf_86 ?_
        rw [ek]
        refine lv_imul hx hb d_S_addArcOf_87 ?_
        refine lv_aload_n hx hb d_S_addArcOf_88 rfl (lv_at hl 2 rfl) ?_
        refine lv_aload_n hx hb d_S_addArcOf_89 rfl (lv_at hl 2 rfl) ?_
        refine va_get (D := (dC, dI)) (ci := 0) (v := .ref qx) (C := R_S) (T := F_S) (N := 9) hx hb hts in_S hown hK hP 0 rfl rfl 1 (by decide) (hts _ tw_58) (fun _ h9 => h9) rfl d_S_addArcOf_90 ?_
        refine lv_iload_n hx hb d_S_addArcOf_93 rfl (lv_at hl 0 rfl) ?_
        refine lv_iload_n hx hb d_S_addArcOf_94 rfl (lv_at hl 3 rfl) ?_
        refine cq_Vi (C := R_S) (T := F_S) (N := 9) (ci := 0) (As := [.ref qx, .int (nI (ak k n)), .int (nI k)]) (rest := [.int (2 * (Y k)), .int (2 * (X k)), .int (ks_joint Y O (nI (bk k n)) (nI k)), .int (ks_joint X O (nI (bk k n)) (nI k)), .ref v, .ref v, .ref ql]) (w1 := [(h0, .inr (0, [.int wd, .ref qx, .ref qy, .ref qo, .ref qr, .ref ql, .int (nI n), .int cp, .int cc])), (qx, .inl (cI, 256, .inl X)), (qo, .inl (cZ, 256, .inl O))]) (tys := [(cI, .int), (cZ, .boolean)]) ⟨hx, hb, hml, hown, hts⟩ (c_ks_joint l dC dI h0 qx qo cI cZ wd qx qy qr ql (nI n) cp cc X O (nI (ak k n)) (nI k) (by exact hina) (by exact hink)) (cwV 3 hts (gi_V tw_102 tw_104 ts_1 tw_1 tw_105) rfl rfl rfl (by decide +kernel) ⟨(by rw [← hR]; exact Nat.le_of_ble_eq_true rfl), (by rw [← hR]; exact Nat.le_of_ble_eq_true rfl)⟩) hK (hP.sub [0, 1, 3] rfl) (hK.sub [0, 1] rfl) 0 rfl rfl rfl rfl hl.1 (Nat.le_of_ble_eq_true rfl) d_S_addArcOf_95 (by rw [← hR]; exact ⟨show 0 + 1 ≤ 1 + lgc L by omega, show 0 + 6 ≤ 6 + lgs L by omega⟩) hP hS hA (fun H locs hP hS => ?_)
        refine lv_aload_n hx hb d_S_addArcOf_98 rfl (lv_at hl 2 rfl) ?_
        refine lv_aload_n hx hb d_S_addArcOf_99 rfl (lv_at hl 2 rfl) ?_
        refine va_get (D := (dC, dI)) (ci := 0) (v := .ref qy) (C := R_S) (T := F_S) (N := 9) hx hb hts in_S hown hK hP 0 rfl rfl 2 (by decide) (hts _ tw_59) (fun _ h9 => h9) rfl d_S_addArcOf_100 ?_
        refine lv_iload_n hx hb d_S_addArcOf_103 rfl (lv_at hl 0 rfl) ?_
        refine lv_iload_n hx hb d_S_addArcOf_104 rfl (lv_at hl 3 rfl) ?_
        refine cq_Vi (C := R_S) (T := F_S) (N := 9) (ci := 0) (As := [.ref qy, .int (nI (ak k n)), .int (nI k)]) (rest := [.int (ks_joint X O (nI (ak k n)) (nI k)), .int (2 * (Y k)), .int (2 * (X k)), .int (ks_joint Y O (nI (bk k n)) (nI k)), .int (ks_joint X O (nI (bk k n)) (nI k)), .ref v, .ref v, .ref ql]) (w1 := [(h0, .inr (0, [.int wd, .ref qx, .ref qy, .ref qo, .ref qr, .ref ql, .int (nI n), .int cp, .int cc])), (qy, .inl (cI, 256, .inl Y)), (qo, .inl (cZ, 256, .inl O))]) (tys := [(cI, .int), (cZ, .boolean)]) ⟨hx, hb, hml, hown, hts⟩ (c_ks_joint l dC dI h0 qy qo cI cZ wd qx qy qr ql (nI n) cp cc Y O (nI (ak k n)) (nI k) (by exact hina) (by exact hink)) (cwV 3 hts (gi_V tw_102 tw_104 ts_1 tw_1 tw_105) rfl rfl rfl (by decide +kernel) ⟨(by rw [← hR]; exact Nat.le_of_ble_eq_true rfl), (by rw [← hR]; exact Nat.le_of_ble_eq_true rfl)⟩) hK (hP.sub [0, 2, 3] rfl) (hK.sub [0, 1] rfl) 0 rfl rfl rfl rfl hl.1 (Nat.le_of_ble_eq_true rfl) d_S_addArcOf_105 (by rw [← hR]; exact ⟨show 0 + 1 ≤ 1 + lgc L by omega, show 0 + 6 ≤ 6 + lgs L by omega⟩) hP hS hA (fun H locs hP hS => ?_)
        refine cm_vQ (wc := [(v, .inr (1, [.int 0, .int 0, .int 0, .int 0, .int 0, .int 0]))]) (wr := [(h0, .inr (0, [.int wd, .ref qx, .ref qy, .ref qo, .ref qr, .ref ql, .int (nI n), .int cp, .int cc])), (qx, .inl (cI, 256, .inl X)), (qy, .inl (cI, 256, .inl Y)), (qo, .inl (cZ, 256, .inl O))]) (W1 := [(v, .inr (1, [.int (ks_joint X O (nI (bk k n)) (nI k)), .int (ks_joint Y O (nI (bk k n)) (nI k)), .int (2 * (X k)), .int (2 * (Y k)), .int (ks_joint X O (nI (ak k n)) (nI k)), .int (ks_joint Y O (nI (ak k n)) (nI k))]))]) (X2 := [(h0, .inr (0, [.int wd, .ref qx, .ref qy, .ref qo, .ref qr, .ref ql, .int (nI n), .int cp, .int cc])), (qx, .inl (cI, 256, .inl X)), (qy, .inl (cI, 256, .inl Y)), (qo, .inl (cZ, 256, .inl O)), (v, .inr (1, [.int (ks_joint X O (nI (bk k n)) (nI k)), .int (ks_joint Y O (nI (bk k n)) (nI k)), .int (2 * (X k)), .int (2 * (Y k)), .int (ks_joint X O (nI (ak k n)) (nI k)), .int (ks_joint Y O (nI (ak k n)) (nI k))]))]) (pl := (lwd t0 ql L ++ pl)) (va_runI (g := F0 m 108 ls [.int (ks_joint Y O (nI (ak k n)) (nI k)), .int (ks_joint X O (nI (ak k n)) (nI k)), .int (2 * (Y k)), .int (2 * (X k)), .int (ks_joint Y O (nI (bk k n)) (nI k)), .int (ks_joint X O (nI (bk k n)) (nI k)), .ref v, .ref v, .ref ql]) (As := [.int (ks_joint X O (nI (bk k n)) (nI k)), .int (ks_joint Y O (nI (bk k n)) (nI k)), .int (2 * (X k)), .int (2 * (Y k)), .int (ks_joint X O (nI (ak k n)) (nI k)), .int (ks_joint Y O (nI (ak k n)) (nI k))]) (rest := [.ref v, .ref ql]) ⟨hx, hb, hml, hown, hts⟩ (c_arcInit l dC dI v (ks_joint X O (nI (bk k n)) (nI k)) (ks_joint Y O (nI (bk k n)) (nI k)) (2 * (X k)) (2 * (Y k)) (ks_joint X O (nI (ak k n)) (nI k)) (ks_joint Y O (nI (ak k n)) (nI k)) _) (cwI 6 hts (gi_c tw_108) rfl rfl rfl (hts _ tw_7) (hts _ tw_106) (hts _ tw_107) rfl (by decide +kernel) ⟨(by rw [← hR]; exact Nat.le_of_ble_eq_true rfl), (by rw [← hR]; exact Nat.le_of_ble_eq_true rfl)⟩) ⟨mc_blind, mc_pre (hP.sub [4] rfl) (hK.sub [] rfl) (hD.sub [4] (by decide) rfl)⟩ rfl rfl hl.1 rfl (lv_room (Nat.le_of_ble_eq_true rfl)) d_S_addArcOf_108 (by rw [← hR]; exact ⟨show 0 + 1 ≤ 1 + lgc L by omega, show 0 + 6 ≤ 6 + lgs L by omega⟩)) hP hD hS hA [4] [0, 1, 2, 3] [0, 1, 2, 3, 4] rfl rfl rfl (by decide) (by decide) rfl (by decide) (fun H locs hP hD hS => ?_)
        have hP : va_P (dC, dI) cls9 ([(h0, .inr (0, [.int wd, .ref qx, .ref qy, .ref qo, .ref qr, .ref ql, .int (nI n), .int cp, .int cc])), (qx, .inl (cI, 256, .inl X)), (qy, .inl (cI, 256, .inl Y)), (qo, .inl (cZ, 256, .inl O))] ++ (lwd t0 ql L ++ (pl ++ [(v, .inr (1, t6 (ks_joint X O (nI (bk k n)) (nI k), ks_joint Y O (nI (bk k n)) (nI k), 2 * (X k), 2 * (Y k), ks_joint X O (nI (ak k n)) (nI k), ks_joint Y O (nI (ak k n)) (nI k))))]))) H := vp_perm pm_out hP
        have hD : va_D A ([(h0, .inr (0, [.int wd, .ref qx, .ref qy, .ref qo, .ref qr, .ref ql, .int (nI n), .int cp, .int cc])), (qx, .inl (cI, 256, .inl X)), (qy, .inl (cI, 256, .inl Y)), (qo, .inl (cZ, 256, .inl O))] ++ (lwd t0 ql L ++ (pl ++ [(v, .inr (1, t6 (ks_joint X O (nI (bk k n)) (nI k), ks_joint Y O (nI (bk k n)) (nI k), 2 * (X k), 2 * (Y k), ks_joint X O (nI (ak k n)) (nI k), ks_joint Y O (nI (ak k n)) (nI k))))]))) := vd_perm pm_out hD
        have hev : (pl ++ [(v, .inr (1, t6 (ks_joint X O (nI (bk k n)) (nI k), ks_joint Y O (nI (bk k n)) (nI k), 2 * (X k), 2 * (Y k), ks_joint X O (nI (ak k n)) (nI k), ks_joint Y O (nI (ak k n)) (nI k))))])[pl.length]? = some (v, .inr (1, t6 (ks_joint X O (nI (bk k n)) (nI k), ks_joint Y O (nI (bk k n)) (nI k), 2 * (X k), 2 * (Y k), ks_joint X O (nI (ak k n)) (nI k), ks_joint Y O (nI (ak k n)) (nI k)))) := by rw [List.getElem?_append_right (Nat.le_refl _), Nat.sub_self]; rfl
        have hall : ∀ j, j < L.2.1 → ∃ (k8 : Nat) (fs : List Value), (pl ++ [(v, .inr (1, t6 (ks_joint X O (nI (bk k n)) (nI k), ks_joint Y O (nI (bk k n)) (nI k), 2 * (X k), 2 * (Y k), ks_joint X O (nI (ak k n)) (nI k), ks_joint Y O (nI (ak k n)) (nI k))))])[k8]? = some (as j, .inr (1, fs)) := fun j hj => by obtain ⟨k9, fs9, h9⟩ := hld_all hu j hj; exact ⟨k9, fs9, by rw [List.getElem?_append_left (List.getElem?_eq_some_iff.mp h9).1]; exact h9⟩
        obtain ⟨lf, lrest, hlw⟩ : ∃ (fs : List Value) (r : va_W), lwd t0 ql L = (ql, .inr (3, fs)) :: r := lwd_hd
        have hrc : ([(h0, .inr (0, [.int wd, .ref qx, .ref qy, .ref qo, .ref qr, .ref ql, .int (nI n), .int cp, .int cc])), (qx, .inl (cI, 256, .inl X)), (qy, .inl (cI, 256, .inl Y)), (qo, .inl (cZ, 256, .inl O))] ++ (lwd t0 ql L ++ (pl ++ [(v, .inr (1, t6 (ks_joint X O (nI (bk k n)) (nI k), ks_joint Y O (nI (bk k n)) (nI k), 2 * (X k), 2 * (Y k), ks_joint X O (nI (ak k n)) (nI k), ks_joint Y O (nI (ak k n)) (nI k))))])))[4]? = some (ql, .inr (3, lf)) := by rw [hlw]; rfl
        refine jw_i (X := [(h0, .inr (0, [.int wd, .ref qx, .ref qy, .ref qo, .ref qr, .ref ql, .int (nI n), .int cp, .int cc])), (qx, .inl (cI, 256, .inl X)), (qy, .inl (cI, 256, .inl Y)), (qo, .inl (cZ, 256, .inl O))]) (W0 := lwd t0 ql L ++ (pl ++ [(v, .inr (1, t6 (ks_joint X O (nI (bk k n)) (nI k), ks_joint Y O (nI (bk k n)) (nI k), 2 * (X k), 2 * (Y k), ks_joint X O (nI (ak k n)) (nI k), ks_joint Y O (nI (ak k n)) (nI k))))])) (pw := fun u => lwd t0 ql u ++ (pl ++ [(v, .inr (1, t6 (ks_joint X O (nI (bk k n)) (nI k), ks_joint Y O (nI (bk k n)) (nI k), 2 * (X k), 2 * (Y k), ks_joint X O (nI (ak k n)) (nI k), ks_joint Y O (nI (ak k n)) (nI k))))])) (pt := lty) (va_runV (g := F0 m 111 ls [.ref v, .ref ql]) (As := [.ref v]) (rest := []) ⟨hx, hb, hml, hown, hts⟩ (c_add l dC dI ql t0 mi v pl.length L as (t6 (ks_joint X O (nI (bk k n)) (nI k), ks_joint Y O (nI (bk k n)) (nI k), 2 * (X k), 2 * (Y k), ks_joint X O (nI (ak k n)) (nI k), ks_joint Y O (nI (ak k n)) (nI k))) (pl ++ [(v, .inr (1, t6 (ks_joint X O (nI (bk k n)) (nI k), ks_joint Y O (nI (bk k n)) (nI k), 2 * (X k), 2 * (Y k), ks_joint X O (nI (ak k n)) (nI k), ks_joint Y O (nI (ak k n)) (nI k))))]) hu.1 (by rw [hu.2.1]; exact har) hev hall _) (cwV 1 hts (gi_V tw_129 tw_130 tw_131 tw_5 tw_132) rfl rfl rfl (by decide +kernel) ⟨(by rw [← hR]; exact Nat.le_of_ble_eq_true rfl), (by rw [← hR]; exact Nat.le_of_ble_eq_true rfl)⟩) ⟨az_blind, va_recv (ci := 3) (q := (R_T, F_T, 3)) hK hP rfl (q0 := 4) hrc, az_pre (vp_r hP) (vk_r hK) (vd_r hD) hxk hxz hS (jw_free hD hS hA)⟩ rfl rfl hl.1 rfl (lv_room (Nat.le_of_ble_eq_true rfl)) d_S_addArcOf_111 ⟨by rw [← hR]; show 0 + 1 + lgc L ≤ 1 + lgc L; omega, by rw [← hR]; show 0 + 6 + lgs L ≤ 6 + lgs L; omega⟩) hP hD hS hA (fun r9 L9 H locs hG9 hK9 hP hD hS => ?_)
        have hK := (vk_l hK).app hK9
        refine lv_pop hx hb d_S_addArcOf_114 rfl ?_
        refine lv_goto (tgt := 190) hx hb d_S_addArcOf_115 rfl ?_
        refine W.widen (k := (1 + lgc L)) (n := (6 + lgs L)) (by first | exact Nat.le_refl _ | omega | (show (0 + 1 + lgc L) ≤ (1 + lgc L); omega)) (by first | exact Nat.le_refl _ | omega | (show (0 + 6 + lgs L) ≤ (6 + lgs L); omega)) ?_
        rw [hQ]
        exact W.vret hx hb hr (fun t ht hW => ⟨⟨(L9, va_up as L.2.1 v, pl ++ [(v, .inr (1, t6 (ks_joint X O (nI (bk k n)) (nI k), ks_joint Y O (nI (bk k n)) (nI k), 2 * X k, 2 * Y k, ks_joint X O (nI (ak k n)) (nI k), ks_joint Y O (nI (ak k n)) (nI k))))]), rfl, hG L9 v hG9, by rw [ht]; exact hP, va_K.moved hW.alike hK, hD⟩, hS.F ht⟩) hS.2.2 d_S_addArcOf_190
    refine lv_iload_n hx hb d_S_addArcOf_17 rfl (lv_at hl 2 rfl) ?_
    refine lv_iconst (v := 1) hx hb d_S_addArcOf_18 (by decide) ?_
    refine lv_iadd hx hb d_S_addArcOf_19 ?_
    refine lv_aload_n hx hb d_S_addArcOf_20 rfl (lv_at hl 1 rfl) ?_
    refine va_get (D := (dC, dI)) (ci := 0) (v := .int (nI n)) (C := R_S) (T := F_S) (N := 9) hx hb hts in_S hown hK hP 0 rfl rfl 6 (by decide) (hts _ tw_63) (fun _ h9 => h9) rfl d_S_addArcOf_21 ?_
    refine lv_icmp_ne (tgt := 31) hx hb d_S_addArcOf_24 rfl (fun h => ?_) (fun h => ?_)
    · refine lv_iload_n hx hb d_S_addArcOf_31 rfl (lv_at hl 2 rfl) ?_
      refine lv_iconst (v := 1) hx hb d_S_addArcOf_32 (by decide) ?_
      refine lv_iadd hx hb d_S_addArcOf_33 ?_
      rw [aa_a1 h hk hn]
      refine lv_istore_n (lv' := [(3, .int (nI (ak k n))), (2, .int (nI (bk k n))), (0, .ref h0), (1, .int (nI k))]) hx hb d_S_addArcOf_34 rfl hl (by decide) rfl (fun ls hl => ?_)
      exact J35 ls _ _ (lv_sub hl [0, 1, 2, 3] rfl) hP hD hS
    · refine lv_iconst (v := 0) hx hb d_S_addArcOf_27 (by decide) ?_
      refine lv_goto (tgt := 34) hx hb d_S_addArcOf_28 rfl ?_
      rw [aa_a0 h hk hn]
      refine lv_istore_n (lv' := [(3, .int (nI (ak k n))), (2, .int (nI (bk k n))), (0, .ref h0), (1, .int (nI k))]) hx hb d_S_addArcOf_34 rfl hl (by decide) rfl (fun ls hl => ?_)
      exact J35 ls _ _ (lv_sub hl [0, 1, 2, 3] rfl) hP hD hS
  refine lv_iload_n hx hb d_S_addArcOf_0 rfl (lv_at hl 1 rfl) ?_
  refine lv_if_ne (tgt := 13) hx hb d_S_addArcOf_1 rfl (fun h => ?_) (fun h => ?_)
  · refine lv_iload_n hx hb d_S_addArcOf_13 rfl (lv_at hl 1 rfl) ?_
    refine lv_iconst (v := 1) hx hb d_S_addArcOf_14 (by decide) ?_
    refine lv_isub hx hb d_S_addArcOf_15 ?_
    rw [aa_b1 h hk hn]
    refine lv_istore_n (lv' := [(2, .int (nI (bk k n))), (0, .ref h0), (1, .int (nI k))]) hx hb d_S_addArcOf_16 rfl hl (by decide) rfl (fun ls hl => ?_)
    exact J17 ls _ _ (lv_sub hl [0, 1, 2] rfl) hP hD hS
  · refine lv_aload_n hx hb d_S_addArcOf_4 rfl (lv_at hl 0 rfl) ?_
    refine va_get (D := (dC, dI)) (ci := 0) (v := .int (nI n)) (C := R_S) (T := F_S) (N := 9) hx hb hts in_S hown hK hP 0 rfl rfl 6 (by decide) (hts _ tw_63) (fun _ h9 => h9) rfl d_S_addArcOf_5 ?_
    refine lv_iconst (v := 1) hx hb d_S_addArcOf_8 (by decide) ?_
    refine lv_isub hx hb d_S_addArcOf_9 ?_
    refine lv_goto (tgt := 16) hx hb d_S_addArcOf_10 rfl ?_
    rw [aa_b0 h hk hn]
    refine lv_istore_n (lv' := [(2, .int (nI (bk k n))), (0, .ref h0), (1, .int (nI k))]) hx hb d_S_addArcOf_16 rfl hl (by decide) rfl (fun ls hl => ?_)
    exact J17 ls _ _ (lv_sub hl [0, 1, 2] rfl) hP hD hS
set_option maxHeartbeats 4000000 in
set_option maxRecDepth 100000 in
theorem c_aaLine (l : Launch) (dC : Nat → ClassId) (dI : Nat → Nat → Nat) (h0 qx qy qo qr ql t0 mi k n : Nat) (wd cp cc : Int32) (cI cZ : ClassId) (X Y O : Nat → Int32) (L : LSt) (as : Nat → Nat) (pl : va_W) (ar : List T6) (G : AS → Prop) (hk : k < n) (hn : n ≤ 256) (hu : hld ar (L, as, pl)) (har : ar.length < 256) (hO : ¬ O k = 0) (hN : ¬ O (ak k n) = 0) (hG : ∀ (L' : LSt) (v : Nat), lnext as v L L' → G (L', va_up as L.2.1 v, pl ++ [(v, .inr (1, t6 (2 * X k, 2 * Y k, 2 * X k, 2 * Y k, 2 * X (ak k n), 2 * Y (ak k n))))])) : aa_v l y_S_addArcOf w_S_addArcOf { frames := 7, cells := (1 + lgc L), slots := (6 + lgs L), locals := 163 } (dC, dI) ([(h0, .inr (0, [.int wd, .ref qx, .ref qy, .ref qo, .ref qr, .ref ql, .int (nI n), .int cp, .int cc])), (qx, .inl (cI, 256, .inl X)), (qy, .inl (cI, 256, .inl Y)), (qo, .inl (cZ, 256, .inl O))] ++ (lwd t0 ql L ++ pl)) ([(cI, .int), (cZ, .boolean)] ++ lty L) [.ref h0, .int (nI k)] mi t0 (1 + lgc L) (6 + lgs L) G (fun u : AS => [(h0, .inr (0, [.int wd, .ref qx, .ref qy, .ref qo, .ref qr, .ref ql, .int (nI n), .int cp, .int cc])), (qx, .inl (cI, 256, .inl X)), (qy, .inl (cI, 256, .inl Y)), (qo, .inl (cZ, 256, .inl O))] ++ (lwd t0 ql u.1 ++ u.2.2)) (fun u : AS => [(cI, .int), (cZ, .boolean)] ++ lty u.1) := by
  intro sz
  refine Met.ofW (cc := b_S_addArcOf) (maxL := 4) (ret := none) (by decide) rfl ?_
  intro p e s m args below meth c s₁ B hml hv
  obtain ⟨hargs, hsz, hP, hK, hD0, hxk, hxz⟩ := hv
  have hx := B.exec
  have hb := B.bytes
  have hr := B.returns
  have hts : ∀ w ∈ lw_w, w.before args s = true := fun w h => atoms_spec (ws := w_S_addArcOf) B.pre w (List.mem_cons_of_mem _ h)
  have hown : s.vm.findClass R_S = some m.cls := findClass_of_methodNamed B.named
  have hlocks := B.notSynchronized
  subst hsz
  have hD := hD0.self (sz := s.heap.size)
  generalize hR : (headSpec w_S_addArcOf { frames := 7, cells := (1 + lgc L), slots := (6 + lgs L), locals := 163 }).room = R
  generalize hAe : va_A ([(h0, .inr (0, [.int wd, .ref qx, .ref qy, .ref qo, .ref qr, .ref ql, .int (nI n), .int cp, .int cc])), (qx, .inl (cI, 256, .inl X)), (qy, .inl (cI, 256, .inl Y)), (qo, .inl (cZ, 256, .inl O))] ++ (lwd t0 ql L ++ pl)) s.heap.size = A at hD hxz ⊢
  have hA : ∀ q : Nat, s.heap.size ≤ q → A q := fun q h => by rw [← hAe]; exact Or.inr h
  have hS : va_S A s.heap s.heap [] := va_S.rf
  have hl := lv_entry [.ref h0, .int (nI k)] (n := 4) (Nat.le_of_ble_eq_true rfl)
  have hent : entryFrame m args 4 = F0 m 0 (lg_sl [.ref h0, .int (nI k)] ++ List.replicate (4 - (lg_sl [.ref h0, .int (nI k)]).length) Slot.unset).toArray [] := by rw [hargs]; exact lg_entry_eq m [.ref h0, .int (nI k)] 4
  rw [hent]
  clear hent
  generalize (lg_sl [.ref h0, .int (nI k)] ++ List.replicate (4 - (lg_sl [.ref h0, .int (nI k)]).length) Slot.unset).toArray = ls at hl ⊢
  have hl : lv_has ls 4 [(0, .ref h0), (1, .int (nI k))] := hl
  have hP : va_P (dC, dI) cls9 ([(h0, .inr (0, [.int wd, .ref qx, .ref qy, .ref qo, .ref qr, .ref ql, .int (nI n), .int cp, .int cc])), (qx, .inl (cI, 256, .inl X)), (qy, .inl (cI, 256, .inl Y)), (qo, .inl (cZ, 256, .inl O))] ++ (lwd t0 ql L ++ pl)) s.heap := hP
  have hD : va_D A ([(h0, .inr (0, [.int wd, .ref qx, .ref qy, .ref qo, .ref qr, .ref ql, .int (nI n), .int cp, .int cc])), (qx, .inl (cI, 256, .inl X)), (qy, .inl (cI, 256, .inl Y)), (qo, .inl (cZ, 256, .inl O))] ++ (lwd t0 ql L ++ pl)) := hD
  have ek : Int32.toNatClampNeg (nI k) = k := nI_clamp (by omega)
  have hbk := bk_lt hk
  have hak := ak_lt hk
  have ea : Int32.toNatClampNeg (nI (ak k n)) = ak k n := nI_clamp (by omega)
  have hink : vp_in (nI k) 256 := vp_in_nI (by omega) (by decide)
  have hinb : vp_in (nI (bk k n)) 256 := vp_in_nI (by omega) (by decide)
  have hina : vp_in (nI (ak k n)) 256 := vp_in_nI (by omega) (by decide)
  generalize hQ : MQ below (va_Qv (fun u : AS => G u) (fun u t => va_P (dC, dI) cls9 ([(h0, .inr (0, [.int wd, .ref qx, .ref qy, .ref qo, .ref qr, .ref ql, .int (nI n), .int cp, .int cc])), (qx, .inl (cI, 256, .inl X)), (qy, .inl (cI, 256, .inl Y)), (qo, .inl (cZ, 256, .inl O))] ++ (lwd t0 ql u.1 ++ u.2.2)) t.heap ∧ va_K (dC, dI) cls9 ([(cI, .int), (cZ, .boolean)] ++ lty u.1) t ∧ va_D A ([(h0, .inr (0, [.int wd, .ref qx, .ref qy, .ref qo, .ref qr, .ref ql, .int (nI n), .int cp, .int cc])), (qx, .inl (cI, 256, .inl X)), (qy, .inl (cI, 256, .inl Y)), (qo, .inl (cZ, 256, .inl O))] ++ (lwd t0 ql u.1 ++ u.2.2))) A) args s (1 + lgc L) (6 + lgs L) A = Q
  replace hQ := hQ.symm
  have J17 : ∀ (ls : Array Slot) (H : Heap) (locs : List Loc), lv_has ls 4 [(2, .int (nI (bk k n))), (0, .ref h0), (1, .int (nI k))] → va_P (dC, dI) cls9 ([(h0, .inr (0, [.int wd, .ref qx, .ref qy, .ref qo, .ref qr, .ref ql, .int (nI n), .int cp, .int cc])), (qx, .inl (cI, 256, .inl X)), (qy, .inl (cI, 256, .inl Y)), (qo, .inl (cZ, 256, .inl O))] ++ (lwd t0 ql L ++ pl)) H → va_D A ([(h0, .inr (0, [.int wd, .ref qx, .ref qy, .ref qo, .ref qr, .ref ql, .int (nI n), .int cp, .int cc])), (qx, .inl (cI, 256, .inl X)), (qy, .inl (cI, 256, .inl Y)), (qo, .inl (cZ, 256, .inl O))] ++ (lwd t0 ql L ++ pl)) → va_S A s.heap H locs → W p l e R s m args below meth c H locs 0 0 Q (F0 m 17 ls []) := by
    intro ls H locs hl hP hD hS
    have J35 : ∀ (ls : Array Slot) (H : Heap) (locs : List Loc), lv_has ls 4 [(3, .int (nI (ak k n))), (2, .int (nI (bk k n))), (0, .ref h0), (1, .int (nI k))] → va_P (dC, dI) cls9 ([(h0, .inr (0, [.int wd, .ref qx, .ref qy, .ref qo, .ref qr, .ref ql, .int (nI n), .int cp, .int cc])), (qx, .inl (cI, 256, .inl X)), (qy, .inl (cI, 256, .inl Y)), (qo, .inl (cZ, 256, .inl O))] ++ (lwd t0 ql L ++ pl)) H → va_D A ([(h0, .inr (0, [.int wd, .ref qx, .ref qy, .ref qo, .ref qr, .ref ql, .int (nI n), .int cp, .int cc])), (qx, .inl (cI, 256, .inl X)), (qy, .inl (cI, 256, .inl Y)), (qo, .inl (cZ, 256, .inl O))] ++ (lwd t0 ql L ++ pl)) → va_S A s.heap H locs → W p l e R s m args below meth c H locs 0 0 Q (F0 m 35 ls []) := by
      intro ls H locs hl hP hD hS
      refine lv_aload_n hx hb d_S_addArcOf_35 rfl (lv_at hl 2 rfl) ?_
      refine va_get (D := (dC, dI)) (ci := 0) (v := .ref qo) (C := R_S) (T := F_S) (N := 9) hx hb hts in_S hown hK hP 0 rfl rfl 3 (by decide) (hts _ tw_60) (fun _ h9 => h9) rfl d_S_addArcOf_36 ?_
      refine lv_iload_n hx hb d_S_addArcOf_39 rfl (lv_at hl 3 rfl) ?_
      refine va_zald hx hb hK hP 3 1 rfl rfl (by exact hink) d_S_addArcOf_40 ?_
      rw [ek]
      refine lv_if_ne (tgt := 118) hx hb d_S_addArcOf_41 rfl (fun h41 => ?_) (fun h41 => ?_)
      · refine lv_aload_n hx hb d_S_addArcOf_118 rfl (lv_at hl 2 rfl) ?_
        refine va_get (D := (dC, dI)) (ci := 0) (v := .ref qo) (C := R_S) (T := F_S) (N := 9) hx hb hts in_S hown hK hP 0 rfl rfl 3 (by decide) (hts _ tw_60) (fun _ h9 => h9) rfl d_S_addArcOf_119 ?_
        refine lv_iload_n hx hb d_S_addArcOf_122 rfl (lv_at hl 0 rfl) ?_
        refine va_zald hx hb hK hP 3 1 rfl rfl (by exact hina) d_S_addArcOf_123 ?_
        rw [ea]
        refine lv_if_eq (tgt := 190) hx hb d_S_addArcOf_124 rfl (fun h124 => ?_) (fun h124 => ?_)
        · exact absurd h124 (by exact hN)
        · refine lv_aload_n hx hb d_S_addArcOf_127 rfl (lv_at hl 2 rfl) ?_
          refine va_get (D := (dC, dI)) (ci := 0) (v := .ref ql) (C := R_S) (T := F_S) (N := 9) hx hb hts in_S hown hK hP 0 rfl rfl 5 (by decide) (hts _ tw_62) (fun _ h9 => h9) rfl d_S_addArcOf_128 ?_
          refine va_new (ci := 1) (fs := [.int 0, .int 0, .int 0, .int 0, .int 0, .int 0]) (C := R_A) (T := F_A) (N := 6) hx hb hts in_A tf_A tok_A hown (hts _ tw_100) (hts _ tw_101) (hts _ tw_7) hK hP hD hS hA rfl (fun j hj => by rcases (show j = 0 ∨ j = 1 ∨ j = 2 ∨ j = 3 ∨ j = 4 ∨ j = 5 by omega) with rfl | rfl | rfl | rfl | rfl | rfl <;> rfl) (by rw [← hR]; show 0 + 1 ≤ (1 + lgc L); omega) (by rw [← hR]; show 0 + 6 ≤ (6 + lgs L); omega) d_S_addArcOf_131 (fun v H hP hD hS => ?_)
          have hP : va_P (dC, dI) cls9 ([(h0, .inr (0, [.int wd, .ref qx, .ref qy, .ref qo, .ref qr, .ref ql, .int (nI n), .int cp, .int cc])), (qx, .inl (cI, 256, .inl X)), (qy, .inl (cI, 256, .inl Y)), (qo, .inl (cZ, 256, .inl O)), (v, .inr (1, [.int 0, .int 0, .int 0, .int 0, .int 0, .int 0]))] ++ (lwd t0 ql L ++ pl)) H := vp_perm pm_in hP
          have hD : va_D A ([(h0, .inr (0, [.int wd, .ref qx, .ref qy, .ref qo, .ref qr, .ref ql, .int (nI n), .int cp, .int cc])), (qx, .inl (cI, 256, .inl X)), (qy, .inl (cI, 256, .inl Y)), (qo, .inl (cZ, 256, .inl O)), (v, .inr (1, [.int 0, .int 0, .int 0, .int 0, .int 0, .int 0]))] ++ (lwd t0 ql L ++ pl)) := vd_perm pm_in hD
          refine lv_dup hx hb d_S_addArcOf_134 rfl ?_
          refine lv_iconst (v := 2) hx hb d_S_addArcOf_135 (by decide) ?_
          refine lv_aload_n hx hb d_S_addArcOf_136 rfl (lv_at hl 2 rfl) ?_
          refine va_get (D := (dC, dI)) (ci := 0) (v := .ref qx) (C := R_S) (T := F_S) (N := 9) hx hb hts in_S hown hK hP 0 rfl rfl 1 (by decide) (hts _ tw_58) (fun _ h9 => h9) rfl d_S_addArcOf_137 ?_
          refine lv_iload_n hx hb d_S_addArcOf_140 rfl (lv_at hl 3 rfl) ?_
          refine va_iald hx hb hK hP 1 0 rfl rfl (by exact hink) d_S_addArcOf_141 ?_
          rw [ek]
          refine lv_imul hx hb d_S_addArcOf_142 ?_
          refine lv_iconst (v := 2) hx hb d_S_addArcOf_143 (by decide) ?_
          refine lv_aload_n hx hb d_S_addArcOf_144 rfl (lv_at hl 2 rfl) ?_
          refine va_get (D := (dC, dI)) (ci := 0) (v := .ref qy) (C := R_S) (T := F_S) (N := 9) hx hb hts in_S hown hK hP 0 rfl rfl 2 (by decide) (hts _ tw_59) (fun _ h9 => h9) rfl d_S_addArcOf_145 ?_
          refine lv_iload_n hx hb d_S_addArcOf_148 rfl (lv_at hl 3 rfl) ?_
          refine va_iald hx hb hK hP 2 0 rfl rfl (by exact hink) d_S_addArcOf_149 ?_
          rw [ek]
          refine lv_imul hx hb d_S_addArcOf_150 ?_
          refine lv_iconst (v := 2) hx hb d_S_addArcOf_151 (by decide) ?_
          refine lv_aload_n hx hb d_S_addArcOf_152 rfl (lv_at hl 2 rfl) ?_
          refine va_get (D := (dC, dI)) (ci := 0) (v := .ref qx) (C := R_S) (T := F_S) (N := 9) hx hb hts in_S hown hK hP 0 rfl rfl 1 (by decide) (hts _ tw_58) (fun _ h9 => h9) rfl d_S_addArcOf_153 ?_
          refine lv_iload_n hx hb d_S_addArcOf_156 rfl (lv_at hl 3 rfl) ?_
          refine va_iald hx hb hK hP 1 0 rfl rfl (by exact hink) d_S_addArcOf_157 ?_
          rw [ek]
          refine lv_imul hx hb d_S_addArcOf_158 ?_
          refine lv_iconst (v := 2) hx hb d_S_addArcOf_159 (by decide) ?_
          refine lv_aload_n hx hb d_S_addArcOf_160 rfl (lv_at hl 2 rfl) ?_
          refine va_get (D := (dC, dI)) (ci := 0) (v := .ref qy) (C := R_S) (T := F_S) (N := 9) hx hb hts in_S hown hK hP 0 rfl rfl 2 (by decide) (hts _ tw_59) (fun _ h9 => h9) rfl d_S_addArcOf_161 ?_
          refine lv_iload_n hx hb d_S_addArcOf_164 rfl (lv_at hl 3 rfl) ?_
          refine va_iald hx hb hK hP 2 0 rfl rfl (by exact hink) d_S_addArcOf_165 ?_
          rw [ek]
          refine lv_imul hx hb d_S_addArcOf_166 ?_
          refine lv_iconst (v := 2) hx hb d_S_addArcOf_167 (by decide) ?_
          refine lv_aload_n hx hb d_S_addArcOf_168 rfl (lv_at hl 2 rfl) ?_
          refine va_get (D := (dC, dI)) (ci := 0) (v := .ref qx) (C := R_S) (T := F_S) (N := 9) hx hb hts in_S hown hK hP 0 rfl rfl 1 (by decide) (hts _ tw_58) (fun _ h9 => h9) rfl d_S_addArcOf_169 ?_
          refine lv_iload_n hx hb d_S_addArcOf_172 rfl (lv_at hl 0 rfl) ?_
          refine va_iald hx hb hK hP 1 0 rfl rfl (by exact hina) d_S_addArcOf_173 ?_
          rw [ea]
          refine lv_imul hx hb d_S_addArcOf_174 ?_
          refine lv_iconst (v := 2) hx hb d_S_addArcOf_175 (by decide) ?_
          refine lv_aload_n hx hb d_S_addArcOf_176 rfl (lv_at hl 2 rfl) ?_
          refine va_get (D := (dC, dI)) (ci := 0) (v := .ref qy) (C := R_S) (T := F_S) (N := 9) hx hb hts in_S hown hK hP 0 rfl rfl 2 (by decide) (hts _ tw_59) (fun _ h9 => h9) rfl d_S_addArcOf_177 ?_
          refine lv_iload_n hx hb d_S_addArcOf_180 rfl (lv_at hl 0 rfl) ?_
          refine va_iald hx hb hK hP 2 0 rfl rfl (by exact hina) d_S_addArcOf_181 ?_
          rw [ea]
          refine lv_imul hx hb d_S_addArcOf_182 ?_
          refine cm_vQ (wc := [(v, .inr (1, [.int 0, .int 0, .int 0, .int 0, .int 0, .int 0]))]) (wr := [(h0, .inr (0, [.int wd, .ref qx, .ref qy, .ref qo, .ref qr, .ref ql, .int (nI n), .int cp, .int cc])), (qx, .inl (cI, 256, .inl X)), (qy, .inl (cI, 256, .inl Y)), (qo, .inl (cZ, 256, .inl O))]) (W1 := [(v, .inr (1, [.int (2 * (X k)), .int (2 * (Y k)), .int (2 * (X k)), .int (2 * (Y k)), .int (2 * (X (ak k n))), .int (2 * (Y (ak k n)))]))]) (X2 := [(h0, .inr (0, [.int wd, .ref qx, .ref qy, .ref qo, .ref qr, .ref ql, .int (nI n), .int cp, .int cc])), (qx, .inl (cI, 256, .inl X)), (qy, .inl (cI, 256, .inl Y)), (qo, .inl (cZ, 256, .inl O)), (v, .inr (1, [.int (2 * (X k)), .int (2 * (Y k)), .int (2 * (X k)), .int (2 * (Y k)), .int (2 * (X (ak k n))), .int (2 * (Y (ak k n)))]))]) (pl := (lwd t0 ql L ++ pl)) (va_runI (g := F0 m 183 ls [.int (2 * (Y (ak k n))), .int (2 * (X (ak k n))), .int (2 * (Y k)), .int (2 * (X k)), .int (2 * (Y k)), .int (2 * (X k)), .ref v, .ref v, .ref ql]) (As := [.int (2 * (X k)), .int (2 * (Y k)), .int (2 * (X k)), .int (2 * (Y k)), .int (2 * (X (ak k n))), .int (2 * (Y (ak k n)))]) (rest := [.ref v, .ref ql]) ⟨hx, hb, hml, hown, hts⟩ (c_arcInit l dC dI v (2 * (X k)) (2 * (Y k)) (2 * (X k)) (2 * (Y k)) (2 * (X (ak k n))) (2 * (Y (ak k n))) _) (cwI 6 hts (gi_c tw_108) rfl rfl rfl (hts _ tw_7) (hts _ tw_106) (hts _ tw_107) rfl (by decide +kernel) ⟨(by rw [← hR]; exact Nat.le_of_ble_eq_true rfl), (by rw [← hR]; exact Nat.le_of_ble_eq_true rfl)⟩) ⟨mc_blind, mc_pre (hP.sub [4] rfl) (hK.sub [] rfl) (hD.sub [4] (by decide) rfl)⟩ rfl rfl hl.1 rfl (lv_room (Nat.le_of_ble_eq_true rfl)) d_S_addArcOf_183 (by rw [← hR]; exact ⟨show 0 + 1 ≤ 1 + lgc L by omega, show 0 + 6 ≤ 6 + lgs L by omega⟩)) hP hD hS hA [4] [0, 1, 2, 3] [0, 1, 2, 3, 4] rfl rfl rfl (by decide) (by decide) rfl (by decide) (fun H locs hP hD hS => ?_)
          have hP : va_P (dC, dI) cls9 ([(h0, .inr (0, [.int wd, .ref qx, .ref qy, .ref qo, .ref qr, .ref ql, .int (nI n), .int cp, .int cc])), (qx, .inl (cI, 256, .inl X)), (qy, .inl (cI, 256, .inl Y)), (qo, .inl (cZ, 256, .inl O))] ++ (lwd t0 ql L ++ (pl ++ [(v, .inr (1, t6 (2 * (X k), 2 * (Y k), 2 * (X k), 2 * (Y k), 2 * (X (ak k n)), 2 * (Y (ak k n)))))]))) H := vp_perm pm_out hP
          have hD : va_D A ([(h0, .inr (0, [.int wd, .ref qx, .ref qy, .ref qo, .ref qr, .ref ql, .int (nI n), .int cp, .int cc])), (qx, .inl (cI, 256, .inl X)), (qy, .inl (cI, 256, .inl Y)), (qo, .inl (cZ, 256, .inl O))] ++ (lwd t0 ql L ++ (pl ++ [(v, .inr (1, t6 (2 * (X k), 2 * (Y k), 2 * (X k), 2 * (Y k), 2 * (X (ak k n)), 2 * (Y (ak k n)))))]))) := vd_perm pm_out hD
          have hev : (pl ++ [(v, .inr (1, t6 (2 * (X k), 2 * (Y k), 2 * (X k), 2 * (Y k), 2 * (X (ak k n)), 2 * (Y (ak k n)))))])[pl.length]? = some (v, .inr (1, t6 (2 * (X k), 2 * (Y k), 2 * (X k), 2 * (Y k), 2 * (X (ak k n)), 2 * (Y (ak k n))))) := by rw [List.getElem?_append_right (Nat.le_refl _), Nat.sub_self]; rfl
          have hall : ∀ j, j < L.2.1 → ∃ (k8 : Nat) (fs : List Value), (pl ++ [(v, .inr (1, t6 (2 * (X k), 2 * (Y k), 2 * (X k), 2 * (Y k), 2 * (X (ak k n)), 2 * (Y (ak k n)))))])[k8]? = some (as j, .inr (1, fs)) := fun j hj => by obtain ⟨k9, fs9, h9⟩ := hld_all hu j hj; exact ⟨k9, fs9, by rw [List.getElem?_append_left (List.getElem?_eq_some_iff.mp h9).1]; exact h9⟩
          obtain ⟨lf, lrest, hlw⟩ : ∃ (fs : List Value) (r : va_W), lwd t0 ql L = (ql, .inr (3, fs)) :: r := lwd_hd
          have hrc : ([(h0, .inr (0, [.int wd, .ref qx, .ref qy, .ref qo, .ref qr, .ref ql, .int (nI n), .int cp, .int cc])), (qx, .inl (cI, 256, .inl X)), (qy, .inl (cI, 256, .inl Y)), (qo, .inl (cZ, 256, .inl O))] ++ (lwd t0 ql L ++ (pl ++ [(v, .inr (1, t6 (2 * (X k), 2 * (Y k), 2 * (X k), 2 * (Y k), 2 * (X (ak k n)), 2 * (Y (ak k n)))))])))[4]? = some (ql, .inr (3, lf)) := by rw [hlw]; rfl
          refine jw_i (X := [(h0, .inr (0, [.int wd, .ref qx, .ref qy, .ref qo, .ref qr, .ref ql, .int (nI n), .int cp, .int cc])), (qx, .inl (cI, 256, .inl X)), (qy, .inl (cI, 256, .inl Y)), (qo, .inl (cZ, 256, .inl O))]) (W0 := lwd t0 ql L ++ (pl ++ [(v, .inr (1, t6 (2 * (X k), 2 * (Y k), 2 * (X k), 2 * (Y k), 2 * (X (ak k n)), 2 * (Y (ak k n)))))])) (pw := fun u => lwd t0 ql u ++ (pl ++ [(v, .inr (1, t6 (2 * (X k), 2 * (Y k), 2 * (X k), 2 * (Y k), 2 * (X (ak k n)), 2 * (Y (ak k n)))))])) (pt := lty) (va_runV (g := F0 m 186 ls [.ref v, .ref ql]) (As := [.ref v]) (rest := []) ⟨hx, hb, hml, hown, hts⟩ (c_add l dC dI ql t0 mi v pl.length L as (t6 (2 * (X k), 2 * (Y k), 2 * (X k), 2 * (Y k), 2 * (X (ak k n)), 2 * (Y (ak k n)))) (pl ++ [(v, .inr (1, t6 (2 * (X k), 2 * (Y k), 2 * (X k), 2 * (Y k), 2 * (X (ak k n)), 2 * (Y (ak k n)))))]) hu.1 (by rw [hu.2.1]; exact har) hev hall _) (cwV 1 hts (gi_V tw_129 tw_130 tw_131 tw_5 tw_132) rfl rfl rfl (by decide +kernel) ⟨(by rw [← hR]; exact Nat.le_of_ble_eq_true rfl), (by rw [← hR]; exact Nat.le_of_ble_eq_true rfl)⟩) ⟨az_blind, va_recv (ci := 3) (q := (R_T, F_T, 3)) hK hP rfl (q0 := 4) hrc, az_pre (vp_r hP) (vk_r hK) (vd_r hD) hxk hxz hS (jw_free hD hS hA)⟩ rfl rfl hl.1 rfl (lv_room (Nat.le_of_ble_eq_true rfl)) d_S_addArcOf_186 ⟨by rw [← hR]; show 0 + 1 + lgc L ≤ 1 + lgc L; omega, by rw [← hR]; show 0 + 6 + lgs L ≤ 6 + lgs L; omega⟩) hP hD hS hA (fun r9 L9 H locs hG9 hK9 hP hD hS => ?_)
          have hK := (vk_l hK).app hK9
          refine lv_pop hx hb d_S_addArcOf_189 rfl ?_
          refine W.widen (k := (1 + lgc L)) (n := (6 + lgs L)) (by first | exact Nat.le_refl _ | omega | (show (0 + 1 + lgc L) ≤ (1 + lgc L); omega)) (by first | exact Nat.le_refl _ | omega | (show (0 + 6 + lgs L) ≤ (6 + lgs L); omega)) ?_
          rw [hQ]
          exact W.vret hx hb hr (fun t ht hW => ⟨⟨(L9, va_up as L.2.1 v, pl ++ [(v, .inr (1, t6 (2 * X k, 2 * Y k, 2 * X k, 2 * Y k, 2 * X (ak k n), 2 * Y (ak k n))))]), rfl, hG L9 v hG9, by rw [ht]; exact hP, va_K.moved hW.alike hK, hD⟩, hS.F ht⟩) hS.2.2 d_S_addArcOf_190
      · exact absurd h41 (by exact hO)
    refine lv_iload_n hx hb d_S_addArcOf_17 rfl (lv_at hl 2 rfl) ?_
    refine lv_iconst (v := 1) hx hb d_S_addArcOf_18 (by decide) ?_
    refine lv_iadd hx hb d_S_addArcOf_19 ?_
    refine lv_aload_n hx hb d_S_addArcOf_20 rfl (lv_at hl 1 rfl) ?_
    refine va_get (D := (dC, dI)) (ci := 0) (v := .int (nI n)) (C := R_S) (T := F_S) (N := 9) hx hb hts in_S hown hK hP 0 rfl rfl 6 (by decide) (hts _ tw_63) (fun _ h9 => h9) rfl d_S_addArcOf_21 ?_
    refine lv_icmp_ne (tgt := 31) hx hb d_S_addArcOf_24 rfl (fun h => ?_) (fun h => ?_)
    · refine lv_iload_n hx hb d_S_addArcOf_31 rfl (lv_at hl 2 rfl) ?_
      refine lv_iconst (v := 1) hx hb d_S_addArcOf_32 (by decide) ?_
      refine lv_iadd hx hb d_S_addArcOf_33 ?_
      rw [aa_a1 h hk hn]
      refine lv_istore_n (lv' := [(3, .int (nI (ak k n))), (2, .int (nI (bk k n))), (0, .ref h0), (1, .int (nI k))]) hx hb d_S_addArcOf_34 rfl hl (by decide) rfl (fun ls hl => ?_)
      exact J35 ls _ _ (lv_sub hl [0, 1, 2, 3] rfl) hP hD hS
    · refine lv_iconst (v := 0) hx hb d_S_addArcOf_27 (by decide) ?_
      refine lv_goto (tgt := 34) hx hb d_S_addArcOf_28 rfl ?_
      rw [aa_a0 h hk hn]
      refine lv_istore_n (lv' := [(3, .int (nI (ak k n))), (2, .int (nI (bk k n))), (0, .ref h0), (1, .int (nI k))]) hx hb d_S_addArcOf_34 rfl hl (by decide) rfl (fun ls hl => ?_)
      exact J35 ls _ _ (lv_sub hl [0, 1, 2, 3] rfl) hP hD hS
  refine lv_iload_n hx hb d_S_addArcOf_0 rfl (lv_at hl 1 rfl) ?_
  refine lv_if_ne (tgt := 13) hx hb d_S_addArcOf_1 rfl (fun h => ?_) (fun h => ?_)
  · refine lv_iload_n hx hb d_S_addArcOf_13 rfl (lv_at hl 1 rfl) ?_
    refine lv_iconst (v := 1) hx hb d_S_addArcOf_14 (by decide) ?_
    refine lv_isub hx hb d_S_addArcOf_15 ?_
    rw [aa_b1 h hk hn]
    refine lv_istore_n (lv' := [(2, .int (nI (bk k n))), (0, .ref h0), (1, .int (nI k))]) hx hb d_S_addArcOf_16 rfl hl (by decide) rfl (fun ls hl => ?_)
    exact J17 ls _ _ (lv_sub hl [0, 1, 2] rfl) hP hD hS
  · refine lv_aload_n hx hb d_S_addArcOf_4 rfl (lv_at hl 0 rfl) ?_
    refine va_get (D := (dC, dI)) (ci := 0) (v := .int (nI n)) (C := R_S) (T := F_S) (N := 9) hx hb hts in_S hown hK hP 0 rfl rfl 6 (by decide) (hts _ tw_63) (fun _ h9 => h9) rfl d_S_addArcOf_5 ?_
    refine lv_iconst (v := 1) hx hb d_S_addArcOf_8 (by decide) ?_
    refine lv_isub hx hb d_S_addArcOf_9 ?_
    refine lv_goto (tgt := 16) hx hb d_S_addArcOf_10 rfl ?_
    rw [aa_b0 h hk hn]
    refine lv_istore_n (lv' := [(2, .int (nI (bk k n))), (0, .ref h0), (1, .int (nI k))]) hx hb d_S_addArcOf_16 rfl hl (by decide) rfl (fun ls hl => ?_)
    exact J17 ls _ _ (lv_sub hl [0, 1, 2] rfl) hP hD hS
set_option maxHeartbeats 4000000 in
set_option maxRecDepth 100000 in
theorem c_aaNone (l : Launch) (dC : Nat → ClassId) (dI : Nat → Nat → Nat) (h0 qx qy qo qr ql t0 mi k n : Nat) (wd cp cc : Int32) (cI cZ : ClassId) (X Y O : Nat → Int32) (L : LSt) (as : Nat → Nat) (pl : va_W) (ar : List T6) (G : AS → Prop) (hk : k < n) (hn : n ≤ 256) (hu : hld ar (L, as, pl)) (har : ar.length < 256) (hO : ¬ O k = 0) (hN : O (ak k n) = 0) (hG : G (L, as, pl)) : aa_v l y_S_addArcOf w_S_addArcOf { frames := 7, cells := 0, slots := 0, locals := 163 } (dC, dI) ([(h0, .inr (0, [.int wd, .ref qx, .ref qy, .ref qo, .ref qr, .ref ql, .int (nI n), .int cp, .int cc])), (qx, .inl (cI, 256, .inl X)), (qy, .inl (cI, 256, .inl Y)), (qo, .inl (cZ, 256, .inl O))] ++ (lwd t0 ql L ++ pl)) ([(cI, .int), (cZ, .boolean)] ++ lty L) [.ref h0, .int (nI k)] mi t0 0 0 G (fun u : AS => [(h0, .inr (0, [.int wd, .ref qx, .ref qy, .ref qo, .ref qr, .ref ql, .int (nI n), .int cp, .int cc])), (qx, .inl (cI, 256, .inl X)), (qy, .inl (cI, 256, .inl Y)), (qo, .inl (cZ, 256, .inl O))] ++ (lwd t0 ql u.1 ++ u.2.2)) (fun u : AS => [(cI, .int), (cZ, .boolean)] ++ lty u.1) := by
  intro sz
  refine Met.ofW (cc := b_S_addArcOf) (maxL := 4) (ret := none) (by decide) rfl ?_
  intro p e s m args below meth c s₁ B hml hv
  obtain ⟨hargs, hsz, hP, hK, hD0, hxk, hxz⟩ := hv
  have hx := B.exec
  have hb := B.bytes
  have hr := B.returns
  have hts : ∀ w ∈ lw_w, w.before args s = true := fun w h => atoms_spec (ws := w_S_addArcOf) B.pre w (List.mem_cons_of_mem _ h)
  have hown : s.vm.findClass R_S = some m.cls := findClass_of_methodNamed B.named
  have hlocks := B.notSynchronized
  subst hsz
  have hD := hD0.self (sz := s.heap.size)
  generalize hR : (headSpec w_S_addArcOf { frames := 7, cells := 0, slots := 0, locals := 163 }).room = R
  generalize hAe : va_A ([(h0, .inr (0, [.int wd, .ref qx, .ref qy, .ref qo, .ref qr, .ref ql, .int (nI n), .int cp, .int cc])), (qx, .inl (cI, 256, .inl X)), (qy, .inl (cI, 256, .inl Y)), (qo, .inl (cZ, 256, .inl O))] ++ (lwd t0 ql L ++ pl)) s.heap.size = A at hD hxz ⊢
  have hA : ∀ q : Nat, s.heap.size ≤ q → A q := fun q h => by rw [← hAe]; exact Or.inr h
  have hS : va_S A s.heap s.heap [] := va_S.rf
  have hl := lv_entry [.ref h0, .int (nI k)] (n := 4) (Nat.le_of_ble_eq_true rfl)
  have hent : entryFrame m args 4 = F0 m 0 (lg_sl [.ref h0, .int (nI k)] ++ List.replicate (4 - (lg_sl [.ref h0, .int (nI k)]).length) Slot.unset).toArray [] := by rw [hargs]; exact lg_entry_eq m [.ref h0, .int (nI k)] 4
  rw [hent]
  clear hent
  generalize (lg_sl [.ref h0, .int (nI k)] ++ List.replicate (4 - (lg_sl [.ref h0, .int (nI k)]).length) Slot.unset).toArray = ls at hl ⊢
  have hl : lv_has ls 4 [(0, .ref h0), (1, .int (nI k))] := hl
  have hP : va_P (dC, dI) cls9 ([(h0, .inr (0, [.int wd, .ref qx, .ref qy, .ref qo, .ref qr, .ref ql, .int (nI n), .int cp, .int cc])), (qx, .inl (cI, 256, .inl X)), (qy, .inl (cI, 256, .inl Y)), (qo, .inl (cZ, 256, .inl O))] ++ (lwd t0 ql L ++ pl)) s.heap := hP
  have hD : va_D A ([(h0, .inr (0, [.int wd, .ref qx, .ref qy, .ref qo, .ref qr, .ref ql, .int (nI n), .int cp, .int cc])), (qx, .inl (cI, 256, .inl X)), (qy, .inl (cI, 256, .inl Y)), (qo, .inl (cZ, 256, .inl O))] ++ (lwd t0 ql L ++ pl)) := hD
  have ek : Int32.toNatClampNeg (nI k) = k := nI_clamp (by omega)
  have hbk := bk_lt hk
  have hak := ak_lt hk
  have ea : Int32.toNatClampNeg (nI (ak k n)) = ak k n := nI_clamp (by omega)
  have hink : vp_in (nI k) 256 := vp_in_nI (by omega) (by decide)
  have hinb : vp_in (nI (bk k n)) 256 := vp_in_nI (by omega) (by decide)
  have hina : vp_in (nI (ak k n)) 256 := vp_in_nI (by omega) (by decide)
  generalize hQ : MQ below (va_Qv (fun u : AS => G u) (fun u t => va_P (dC, dI) cls9 ([(h0, .inr (0, [.int wd, .ref qx, .ref qy, .ref qo, .ref qr, .ref ql, .int (nI n), .int cp, .int cc])), (qx, .inl (cI, 256, .inl X)), (qy, .inl (cI, 256, .inl Y)), (qo, .inl (cZ, 256, .inl O))] ++ (lwd t0 ql u.1 ++ u.2.2)) t.heap ∧ va_K (dC, dI) cls9 ([(cI, .int), (cZ, .boolean)] ++ lty u.1) t ∧ va_D A ([(h0, .inr (0, [.int wd, .ref qx, .ref qy, .ref qo, .ref qr, .ref ql, .int (nI n), .int cp, .int cc])), (qx, .inl (cI, 256, .inl X)), (qy, .inl (cI, 256, .inl Y)), (qo, .inl (cZ, 256, .inl O))] ++ (lwd t0 ql u.1 ++ u.2.2))) A) args s 0 0 A = Q
  replace hQ := hQ.symm
  have J17 : ∀ (ls : Array Slot) (H : Heap) (locs : List Loc), lv_has ls 4 [(2, .int (nI (bk k n))), (0, .ref h0), (1, .int (nI k))] → va_P (dC, dI) cls9 ([(h0, .inr (0, [.int wd, .ref qx, .ref qy, .ref qo, .ref qr, .ref ql, .int (nI n), .int cp, .int cc])), (qx, .inl (cI, 256, .inl X)), (qy, .inl (cI, 256, .inl Y)), (qo, .inl (cZ, 256, .inl O))] ++ (lwd t0 ql L ++ pl)) H → va_D A ([(h0, .inr (0, [.int wd, .ref qx, .ref qy, .ref qo, .ref qr, .ref ql, .int (nI n), .int cp, .int cc])), (qx, .inl (cI, 256, .inl X)), (qy, .inl (cI, 256, .inl Y)), (qo, .inl (cZ, 256, .inl O))] ++ (lwd t0 ql L ++ pl)) → va_S A s.heap H locs → W p l e R s m args below meth c H locs 0 0 Q (F0 m 17 ls []) := by
    intro ls H locs hl hP hD hS
    have J35 : ∀ (ls : Array Slot) (H : Heap) (locs : List Loc), lv_has ls 4 [(3, .int (nI (ak k n))), (2, .int (nI (bk k n))), (0, .ref h0), (1, .int (nI k))] → va_P (dC, dI) cls9 ([(h0, .inr (0, [.int wd, .ref qx, .ref qy, .ref qo, .ref qr, .ref ql, .int (nI n), .int cp, .int cc])), (qx, .inl (cI, 256, .inl X)), (qy, .inl (cI, 256, .inl Y)), (qo, .inl (cZ, 256, .inl O))] ++ (lwd t0 ql L ++ pl)) H → va_D A ([(h0, .inr (0, [.int wd, .ref qx, .ref qy, .ref qo, .ref qr, .ref ql, .int (nI n), .int cp, .int cc])), (qx, .inl (cI, 256, .inl X)), (qy, .inl (cI, 256, .inl Y)), (qo, .inl (cZ, 256, .inl O))] ++ (lwd t0 ql L ++ pl)) → va_S A s.heap H locs → W p l e R s m args below meth c H locs 0 0 Q (F0 m 35 ls []) := by
      intro ls H locs hl hP hD hS
      refine lv_aload_n hx hb d_S_addArcOf_35 rfl (lv_at hl 2 rfl) ?_
      refine va_get (D := (dC, dI)) (ci := 0) (v := .ref qo) (C := R_S) (T := F_S) (N := 9) hx hb hts in_S hown hK hP 0 rfl rfl 3 (by decide) (hts _ tw_60) (fun _ h9 => h9) rfl d_S_addArcOf_36 ?_
      refine lv_iload_n hx hb d_S_addArcOf_39 rfl (lv_at hl 3 rfl) ?_
      refine va_zald hx hb hK hP 3 1 rfl rfl (by exact hink) d_S_addArcOf_40 ?_
      rw [ek]
      refine lv_if_ne (tgt := 118) hx hb d_S_addArcOf_41 rfl (fun h41 => ?_) (fun h41 => ?_)
      · refine lv_aload_n hx hb d_S_addArcOf_118 rfl (lv_at hl 2 rfl) ?_
        refine va_get (D := (dC, dI)) (ci := 0) (v := .ref qo) (C := R_S) (T := F_S) (N := 9) hx hb hts in_S hown hK hP 0 rfl rfl 3 (by decide) (hts _ tw_60) (fun _ h9 => h9) rfl d_S_addArcOf_119 ?_
        refine lv_iload_n hx hb d_S_addArcOf_122 rfl (lv_at hl 0 rfl) ?_
        refine va_zald hx hb hK hP 3 1 rfl rfl (by exact hina) d_S_addArcOf_123 ?_
        rw [ea]
        refine lv_if_eq (tgt := 190) hx hb d_S_addArcOf_124 rfl (fun h124 => ?_) (fun h124 => ?_)
        · refine W.widen (k := 0) (n := 0) (by first | exact Nat.le_refl _ | omega | (show 0 ≤ 0; omega)) (by first | exact Nat.le_refl _ | omega | (show 0 ≤ 0; omega)) ?_
          rw [hQ]
          exact W.vret hx hb hr (fun t ht hW => ⟨⟨(L, as, pl), rfl, hG, by rw [ht]; exact hP, va_K.moved hW.alike hK, hD⟩, hS.F ht⟩) hS.2.2 d_S_addArcOf_190
        · exact absurd h124 (by exact fun z => z hN)
      · exact absurd h41 (by exact hO)
    refine lv_iload_n hx hb d_S_addArcOf_17 rfl (lv_at hl 2 rfl) ?_
    refine lv_iconst (v := 1) hx hb d_S_addArcOf_18 (by decide) ?_
    refine lv_iadd hx hb d_S_addArcOf_19 ?_
    refine lv_aload_n hx hb d_S_addArcOf_20 rfl (lv_at hl 1 rfl) ?_
    refine va_get (D := (dC, dI)) (ci := 0) (v := .int (nI n)) (C := R_S) (T := F_S) (N := 9) hx hb hts in_S hown hK hP 0 rfl rfl 6 (by decide) (hts _ tw_63) (fun _ h9 => h9) rfl d_S_addArcOf_21 ?_
    refine lv_icmp_ne (tgt := 31) hx hb d_S_addArcOf_24 rfl (fun h => ?_) (fun h => ?_)
    · refine lv_iload_n hx hb d_S_addArcOf_31 rfl (lv_at hl 2 rfl) ?_
      refine lv_iconst (v := 1) hx hb d_S_addArcOf_32 (by decide) ?_
      refine lv_iadd hx hb d_S_addArcOf_33 ?_
      rw [aa_a1 h hk hn]
      refine lv_istore_n (lv' := [(3, .int (nI (ak k n))), (2, .int (nI (bk k n))), (0, .ref h0), (1, .int (nI k))]) hx hb d_S_addArcOf_34 rfl hl (by decide) rfl (fun ls hl => ?_)
      exact J35 ls _ _ (lv_sub hl [0, 1, 2, 3] rfl) hP hD hS
    · refine lv_iconst (v := 0) hx hb d_S_addArcOf_27 (by decide) ?_
      refine lv_goto (tgt := 34) hx hb d_S_addArcOf_28 rfl ?_
      rw [aa_a0 h hk hn]
      refine lv_istore_n (lv' := [(3, .int (nI (ak k n))), (2, .int (nI (bk k n))), (0, .ref h0), (1, .int (nI k))]) hx hb d_S_addArcOf_34 rfl hl (by decide) rfl (fun ls hl => ?_)
      exact J35 ls _ _ (lv_sub hl [0, 1, 2, 3] rfl) hP hD hS
  refine lv_iload_n hx hb d_S_addArcOf_0 rfl (lv_at hl 1 rfl) ?_
  refine lv_if_ne (tgt := 13) hx hb d_S_addArcOf_1 rfl (fun h => ?_) (fun h => ?_)
  · refine lv_iload_n hx hb d_S_addArcOf_13 rfl (lv_at hl 1 rfl) ?_
    refine lv_iconst (v := 1) hx hb d_S_addArcOf_14 (by decide) ?_
    refine lv_isub hx hb d_S_addArcOf_15 ?_
    rw [aa_b1 h hk hn]
    refine lv_istore_n (lv' := [(2, .int (nI (bk k n))), (0, .ref h0), (1, .int (nI k))]) hx hb d_S_addArcOf_16 rfl hl (by decide) rfl (fun ls hl => ?_)
    exact J17 ls _ _ (lv_sub hl [0, 1, 2] rfl) hP hD hS
  · refine lv_aload_n hx hb d_S_addArcOf_4 rfl (lv_at hl 0 rfl) ?_
    refine va_get (D := (dC, dI)) (ci := 0) (v := .int (nI n)) (C := R_S) (T := F_S) (N := 9) hx hb hts in_S hown hK hP 0 rfl rfl 6 (by decide) (hts _ tw_63) (fun _ h9 => h9) rfl d_S_addArcOf_5 ?_
    refine lv_iconst (v := 1) hx hb d_S_addArcOf_8 (by decide) ?_
    refine lv_isub hx hb d_S_addArcOf_9 ?_
    refine lv_goto (tgt := 16) hx hb d_S_addArcOf_10 rfl ?_
    rw [aa_b0 h hk hn]
    refine lv_istore_n (lv' := [(2, .int (nI (bk k n))), (0, .ref h0), (1, .int (nI k))]) hx hb d_S_addArcOf_16 rfl hl (by decide) rfl (fun ls hl => ?_)
    exact J17 ls _ _ (lv_sub hl [0, 1, 2] rfl) hP hD hS
theorem c_addArc (l : Launch) (dC : Nat → ClassId) (dI : Nat → Nat → Nat) (h0 qx qy qo qr ql t0 mi k n : Nat) (wd cp cc : Int32) (cI cZ : ClassId) (X Y O : Nat → Int32) (L : LSt) (as : Nat → Nat) (pl : va_W) (ar : List T6) (hk : k < n) (hn : n ≤ 256) (hu : hld ar (L, as, pl)) (har : ar.length < 256) :
    aa_v l y_S_addArcOf w_S_addArcOf { frames := 7, cells := (kd X Y O n k).length * (1 + lgc L), slots := (kd X Y O n k).length * (6 + lgs L), locals := 163 } (dC, dI) ([(h0, .inr (0, [.int wd, .ref qx, .ref qy, .ref qo, .ref qr, .ref ql, .int (nI n), .int cp, .int cc])), (qx, .inl (cI, 256, .inl X)), (qy, .inl (cI, 256, .inl Y)), (qo, .inl (cZ, 256, .inl O))] ++ (lwd t0 ql L ++ pl)) ([(cI, .int), (cZ, .boolean)] ++ lty L) [.ref h0, .int (nI k)] mi t0 ((kd X Y O n k).length * (1 + lgc L)) ((kd X Y O n k).length * (6 + lgs L)) (fun u => hld (ar ++ kd X Y O n k) u ∧ potc u.1 = potc L + (kd X Y O n k).length * lgc L ∧ pots u.1 = pots L + (kd X Y O n k).length * lgs L) (fun u : AS => [(h0, .inr (0, [.int wd, .ref qx, .ref qy, .ref qo, .ref qr, .ref ql, .int (nI n), .int cp, .int cc])), (qx, .inl (cI, 256, .inl X)), (qy, .inl (cI, 256, .inl Y)), (qo, .inl (cZ, 256, .inl O))] ++ (lwd t0 ql u.1 ++ u.2.2)) (fun u : AS => [(cI, .int), (cZ, .boolean)] ++ lty u.1) := by
  by_cases hO : O k = 0
  · have e : kd X Y O n k = [(ks_joint X O (nI (bk k n)) (nI k), ks_joint Y O (nI (bk k n)) (nI k), 2 * X k, 2 * Y k, ks_joint X O (nI (ak k n)) (nI k), ks_joint Y O (nI (ak k n)) (nI k))] := if_pos hO
    rw [e, List.length_singleton, Nat.one_mul, Nat.one_mul, Nat.one_mul, Nat.one_mul]
    exact c_aaOff l dC dI h0 qx qy qo qr ql t0 mi k n wd cp cc cI cZ X Y O L as pl ar _ hk hn hu har hO (fun L' v h => ⟨hld_next hu h, h.2.2.2, h.2.2.1⟩)
  · by_cases hN : O (ak k n) = 0
    · have e : kd X Y O n k = [] := by unfold kd; rw [if_neg hO, if_pos hN]
      rw [e, List.length_nil, Nat.zero_mul, Nat.zero_mul, Nat.zero_mul, Nat.zero_mul, List.append_nil]
      exact c_aaNone l dC dI h0 qx qy qo qr ql t0 mi k n wd cp cc cI cZ X Y O L as pl ar _ hk hn hu har hO hN ⟨hu, rfl, rfl⟩
    · have e : kd X Y O n k = [(2 * X k, 2 * Y k, 2 * X k, 2 * Y k, 2 * X (ak k n), 2 * Y (ak k n))] := by unfold kd; rw [if_neg hO, if_neg hN]
      rw [e, List.length_singleton, Nat.one_mul, Nat.one_mul, Nat.one_mul, Nat.one_mul]
      exact c_aaLine l dC dI h0 qx qy qo qr ql t0 mi k n wd cp cc cI cZ X Y O L as pl ar _ hk hn hu har hO hN (fun L' v h => ⟨hld_next hu h, h.2.2.2, h.2.2.1⟩)
