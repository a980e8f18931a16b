def ks_wind_L23 (ar : Nat → Int32 × Int32 × Int32 × Int32 × Int32 × Int32) (sz : Int32) (x : Int32) (y : Int32) : Nat → (Int32) → (Int32) → Int32
  | 0, _, _ => 0
  | n+1, k, tr => (if (kl_size sz) ≤ k then tr else (if (ka_turns ((ar (Int32.toNatClampNeg k)).1) ((ar (Int32.toNatClampNeg k)).2.1) ((ar (Int32.toNatClampNeg k)).2.2.1) ((ar (Int32.toNatClampNeg k)).2.2.2.1) ((ar (Int32.toNatClampNeg k)).2.2.2.2.1) ((ar (Int32.toNatClampNeg k)).2.2.2.2.2) (2 * x) (2 * y)) = 1000 then 1000 else ((ks_wind_L23 ar sz x y n) (k + 1) (tr + (ka_turns ((ar (Int32.toNatClampNeg k)).1) ((ar (Int32.toNatClampNeg k)).2.1) ((ar (Int32.toNatClampNeg k)).2.2.1) ((ar (Int32.toNatClampNeg k)).2.2.2.1) ((ar (Int32.toNatClampNeg k)).2.2.2.2.1) ((ar (Int32.toNatClampNeg k)).2.2.2.2.2) (2 * x) (2 * y))))))
def ks_wind (ar : Nat → Int32 × Int32 × Int32 × Int32 × Int32 × Int32) (sz : Int32) (cap : Nat) (x : Int32) (y : Int32) : Int32 := (if (ks_in x) = 0 then 2000 else (if (ks_in y) = 0 then 2000 else (ks_wind_L23 ar sz x y (cap + 1) 0 0)))
set_option maxHeartbeats 4000000 in
set_option maxRecDepth 100000 in
theorem c_ks_wind (l : Launch) (dC : Nat → ClassId) (dI : Nat → Nat → Nat) (h0 : Nat) (ql : Nat) (ed : Nat) (cO : ClassId) (wd : Int32) (qx : Nat) (qy : Nat) (qo : Nat) (qr : Nat) (md : Int32) (cp : Int32) (cc : Int32) (mc : Int32) (g : Nat → Option Nat) (pl : va_W) (ar : Nat → Int32 × Int32 × Int32 × Int32 × Int32 × Int32) (sz : Int32) (cap : Nat) (x : Int32) (y : Int32) (hsz9 : lsz cap sz) (hpl : ∀ j : Nat, j < sz.toNatClampNeg → ∃ a n : Nat, g j = some a ∧ pl[n]? = some (a, .inr (1, [.int (ar j).1, .int (ar j).2.1, .int (ar j).2.2.1, .int (ar j).2.2.2.1, .int (ar j).2.2.2.2.1, .int (ar j).2.2.2.2.2]))) : pr_i l y_S_winding w_S_winding { frames := 4, cells := 0, slots := 0, locals := 103 } (dC, dI) cls9 ([(h0, .inr (0, [.int wd, .ref qx, .ref qy, .ref qo, .ref qr, .ref ql, .int md, .int cp, .int cc])), (ql, .inr (3, [.int mc, .ref ed, .int sz])), (ed, .inl (cO, cap, .inr (.inr (.inr (.inr g)))))] ++ pl) [(cO, (.object "java/lang/Object"))] [.ref h0, .int x, .int y] (ks_wind ar sz cap x y) := by
  intro sz
  refine Met.ofW (cc := b_S_winding) (maxL := 6) (ret := (some .int)) (by decide) rfl ?_
  intro p e s m args below meth c s₁ B hml hv
  obtain ⟨hargs, hsz, hP, hK⟩ := hv
  have hx := B.exec
  have hb := B.bytes
  have hr := B.returns
  have hts : ∀ w ∈ lw_w, w.before args s = true := fun w h => atoms_spec (ws := w_S_winding) B.pre w (List.mem_cons_of_mem _ h)
  have hown : s.vm.findClass R_S = some m.cls := findClass_of_methodNamed B.named
  have hlocks := B.notSynchronized
  subst hsz
  generalize hR : (headSpec w_S_winding { frames := 4, cells := 0, slots := 0, locals := 103 }).room = R
  generalize hAe : (fun q : Nat => s.heap.size ≤ q) = A
  have hA : ∀ q : Nat, s.heap.size ≤ q → A q := fun q h => by rw [← hAe]; exact h
  have hS : va_S A s.heap s.heap [] := va_S.rf
  generalize hRES : ks_wind ar sz cap x y = RES
  have hres := hRES
  have hl := lv_entry [.ref h0, .int x, .int y] (n := 6) (Nat.le_of_ble_eq_true rfl)
  have hent : entryFrame m args 6 = F0 m 0 (lg_sl [.ref h0, .int x, .int y] ++ List.replicate (6 - (lg_sl [.ref h0, .int x, .int y]).length) Slot.unset).toArray [] := by rw [hargs]; exact lg_entry_eq m [.ref h0, .int x, .int y] 6
  rw [hent]
  clear hent
  generalize (lg_sl [.ref h0, .int x, .int y] ++ List.replicate (6 - (lg_sl [.ref h0, .int x, .int y]).length) Slot.unset).toArray = ls at hl ⊢
  have hl : lv_has ls 6 [(0, .ref h0), (1, .int x), (2, .int y)] := hl
  have hP : va_P (dC, dI) cls9 ([(h0, .inr (0, [.int wd, .ref qx, .ref qy, .ref qo, .ref qr, .ref ql, .int md, .int cp, .int cc])), (ql, .inr (3, [.int mc, .ref ed, .int sz])), (ed, .inl (cO, cap, .inr (.inr (.inr (.inr g)))))] ++ pl) s.heap := hP
  unfold ks_wind at hres
  generalize hQ : MQ below (va_Qi (fun x (_ : Unit) => x = RES) (fun _ _ => True) A) args s 0 0 A = Q
  replace hQ := hQ.symm
  refine lv_iload_n hx hb d_S_winding_0 rfl (lv_at hl 1 rfl) ?_
  refine cq_Si (As := [.int x]) (rest := []) ⟨hx, hb, hml, hown, hts⟩ (c_ks_in l dC dI x) (va_cwS 1 hts (gi_S tw_89 tw_90 tw_1 tw_91) rfl rfl rfl (by decide +kernel) ⟨(by rw [← hR]; exact Nat.le_of_ble_eq_true rfl), (by rw [← hR]; exact Nat.le_of_ble_eq_true rfl)⟩) rfl rfl hl.1 (Nat.le_of_ble_eq_true rfl) d_S_winding_1 ⟨Nat.zero_le _, Nat.zero_le _⟩ hP hS hA (fun H locs hP hS => ?_)
  refine lv_if_eq (tgt := 14) hx hb d_S_winding_4 rfl (fun h4 => ?_) (fun h4 => ?_)
  · rw [if_pos h4] at hres
    refine lv_sipush (v := 2000) hx hb d_S_winding_14 (by decide) ?_
    rw [hQ]
    exact W.iret (v := 2000) hx hb hr (fun t ht hW => ⟨⟨_, (), rfl, hres, trivial⟩, hS.F ht⟩) hS.2.2 d_S_winding_17
  · rw [if_neg h4] at hres
    refine lv_iload_n hx hb d_S_winding_7 rfl (lv_at hl 2 rfl) ?_
    refine cq_Si (As := [.int y]) (rest := []) ⟨hx, hb, hml, hown, hts⟩ (c_ks_in l dC dI y) (va_cwS 1 hts (gi_S tw_89 tw_90 tw_1 tw_91) rfl rfl rfl (by decide +kernel) ⟨(by rw [← hR]; exact Nat.le_of_ble_eq_true rfl), (by rw [← hR]; exact Nat.le_of_ble_eq_true rfl)⟩) rfl rfl hl.1 (Nat.le_of_ble_eq_true rfl) d_S_winding_8 ⟨Nat.zero_le _, Nat.zero_le _⟩ hP hS hA (fun H locs hP hS => ?_)
    refine lv_if_ne (tgt := 18) hx hb d_S_winding_11 rfl (fun h11 => ?_) (fun h11 => ?_)
    · rw [if_neg h11] at hres
      refine lv_iconst (v := 0) hx hb d_S_winding_18 (by decide) ?_
      refine lv_istore_n (lv' := [(3, .int 0), (0, .ref h0), (1, .int x), (2, .int y)]) hx hb d_S_winding_19 rfl hl (by decide) rfl (fun ls hl => ?_)
      refine lv_iconst (v := 0) hx hb d_S_winding_20 (by decide) ?_
      refine lv_istore (lv' := [(4, .int 0), (3, .int 0), (0, .ref h0), (1, .int x), (2, .int y)]) hx hb d_S_winding_21 hl (by decide) rfl (fun ls hl => ?_)
      have L23 : ∀ (n : Nat) (k : Int32) (tr : Int32), (∃ j : Nat, j ≤ cap ∧ k = nI j) → cap - k.toNatClampNeg < n → ks_wind_L23 ar sz x y n k tr = RES → ∀ (ls : Array Slot) (H : Heap) (locs : List Loc), lv_has ls 6 [(4, .int k), (3, .int tr), (0, .ref h0), (1, .int x), (2, .int y)] → va_P (dC, dI) cls9 ([(h0, .inr (0, [.int wd, .ref qx, .ref qy, .ref qo, .ref qr, .ref ql, .int md, .int cp, .int cc])), (ql, .inr (3, [.int mc, .ref ed, .int sz])), (ed, .inl (cO, cap, .inr (.inr (.inr (.inr g)))))] ++ pl) H → va_S A s.heap H locs → W p l e R s m args below meth c H locs 0 0 Q (F0 m 23 ls []) := by
        intro n
        induction n with
        | zero => intro k tr hinv hmu; exact absurd hmu (Nat.not_lt_zero _)
        | succ n ih =>
          intro k tr hinv hmu hres ls H locs hl hP hS
          rw [ks_wind_L23] at hres
          refine lv_iload hx hb d_S_winding_23 (lv_at hl 0 rfl) ?_
          refine lv_aload_n hx hb d_S_winding_25 rfl (lv_at hl 2 rfl) ?_
          refine va_get (D := (dC, dI)) (ci := 0) (v := .ref ql) (C := R_S) (T := F_S) (N := 9) hx hb hts in_S hown hK hP 0 rfl rfl 5 (by decide) (hts _ tw_62) (fun _ h9 => h9) rfl d_S_winding_26 ?_
          refine cq_Vi (C := R_T) (T := F_T) (N := 3) (ci := 3) (As := []) (rest := [.int k]) (w1 := [(ql, .inr (3, [.int mc, .ref ed, .int sz]))]) (tys := []) ⟨hx, hb, hml, hown, hts⟩ (c_kl_size l dC dI ql mc ed sz ) (cwV 0 hts (gi_V tw_188 tw_189 tw_190 tw_5 tw_191) rfl rfl rfl (by decide +kernel) ⟨(by rw [← hR]; exact Nat.le_of_ble_eq_true rfl), (by rw [← hR]; exact Nat.le_of_ble_eq_true rfl)⟩) hK (hP.sub [1] rfl) (hK.sub [] rfl) 1 rfl rfl rfl rfl hl.1 (Nat.le_of_ble_eq_true rfl) d_S_winding_29 ⟨Nat.zero_le _, Nat.zero_le _⟩ hP hS hA (fun H locs hP hS => ?_)
          refine lv_icmp_ge (tgt := 81) hx hb d_S_winding_32 rfl (fun h32 => ?_) (fun h32 => ?_)
          · rw [if_pos h32] at hres
            refine lv_iload_n hx hb d_S_winding_81 rfl (lv_at hl 1 rfl) ?_
            rw [hQ]
            exact W.iret (v := tr) hx hb hr (fun t ht hW => ⟨⟨_, (), rfl, hres, trivial⟩, hS.F ht⟩) hS.2.2 d_S_winding_82
          · rw [if_neg h32] at hres
            refine lv_aload_n hx hb d_S_winding_35 rfl (lv_at hl 2 rfl) ?_
            refine va_get (D := (dC, dI)) (ci := 0) (v := .ref ql) (C := R_S) (T := F_S) (N := 9) hx hb hts in_S hown hK hP 0 rfl rfl 5 (by decide) (hts _ tw_62) (fun _ h9 => h9) rfl d_S_winding_36 ?_
            refine lv_iload hx hb d_S_winding_39 (lv_at hl 0 rfl) ?_
            refine cq_Vq (C := R_T) (T := F_T) (N := 3) (ci := 3) (As := [.int k]) (rest := []) (w1 := [(ql, .inr (3, [.int mc, .ref ed, .int sz])), (ed, .inl (cO, cap, .inr (.inr (.inr (.inr g)))))]) (tys := [(cO, (.object "java/lang/Object"))]) ⟨hx, hb, hml, hown, hts⟩ (c_kl_get l dC dI ql ed cO mc sz cap g k (by obtain ⟨z9, y1, y2, y3⟩ := hsz9; obtain ⟨j, g1, g2⟩ := hinv; have g3 : j < z9 := nI_nle_lt (by omega) (by unfold kl_size at h32; rw [y1, g2] at h32; exact h32); exact ⟨z9, j, g2, y1, g3, y2, y3⟩)) (cwV 1 hts (gi_V tw_192 tw_193 tw_194 tw_5 tw_195) rfl rfl rfl (by decide +kernel) ⟨(by rw [← hR]; exact Nat.le_of_ble_eq_true rfl), (by rw [← hR]; exact Nat.le_of_ble_eq_true rfl)⟩) hK (hP.sub [1, 2] rfl) (hK.sub [0] rfl) 1 rfl rfl rfl rfl hl.1 (Nat.le_of_ble_eq_true rfl) d_S_winding_41 ⟨Nat.zero_le _, Nat.zero_le _⟩ hP hS hA (fun H locs hP hS => ?_)
            obtain ⟨a9, n9, ea9, he9⟩ := hpl (Int32.toNatClampNeg k) (by obtain ⟨z9, y1, y2, y3⟩ := hsz9; obtain ⟨j, g1, g2⟩ := hinv; have g3 : j < z9 := nI_nle_lt (by omega) (by unfold kl_size at h32; rw [y1, g2] at h32; exact h32); rw [y1, g2, nI_clamp (by omega), nI_clamp (by omega)]; exact g3)
            have eg9 : kl_get g k = some a9 := ea9
            rw [eg9]
            refine va_castS (a := a9) hx hb hown (hts _ tw_100) (hK.1 1 (R_A, F_A, 6) rfl).2 (va_recv (ci := 1) (q := (R_A, F_A, 6)) hK hP rfl (pl_at (X := [(h0, .inr (0, [.int wd, .ref qx, .ref qy, .ref qo, .ref qr, .ref ql, .int md, .int cp, .int cc])), (ql, .inr (3, [.int mc, .ref ed, .int sz])), (ed, .inl (cO, cap, .inr (.inr (.inr (.inr g)))))]) he9)) d_S_winding_44 ?_
            refine lv_iconst (v := 2) hx hb d_S_winding_47 (by decide) ?_
            refine lv_iload_n hx hb d_S_winding_48 rfl (lv_at hl 3 rfl) ?_
            refine lv_imul hx hb d_S_winding_49 ?_
            refine lv_iconst (v := 2) hx hb d_S_winding_50 (by decide) ?_
            refine lv_iload_n hx hb d_S_winding_51 rfl (lv_at hl 4 rfl) ?_
            refine lv_imul hx hb d_S_winding_52 ?_
            refine cq_Vi (C := R_A) (T := F_A) (N := 6) (ci := 1) (As := [.int (2 * x), .int (2 * y)]) (rest := []) (w1 := [(a9, .inr (1, [.int ((ar (Int32.toNatClampNeg k)).1), .int ((ar (Int32.toNatClampNeg k)).2.1), .int ((ar (Int32.toNatClampNeg k)).2.2.1), .int ((ar (Int32.toNatClampNeg k)).2.2.2.1), .int ((ar (Int32.toNatClampNeg k)).2.2.2.2.1), .int ((ar (Int32.toNatClampNeg k)).2.2.2.2.2)]))]) (tys := []) ⟨hx, hb, hml, hown, hts⟩ (c_ka_turns l dC dI a9 ((ar (Int32.toNatClampNeg k)).1) ((ar (Int32.toNatClampNeg k)).2.1) ((ar (Int32.toNatClampNeg k)).2.2.1) ((ar (Int32.toNatClampNeg k)).2.2.2.1) ((ar (Int32.toNatClampNeg k)).2.2.2.2.1) ((ar (Int32.toNatClampNeg k)).2.2.2.2.2) (2 * x) (2 * y)) (cwV 2 hts (gi_V tw_206 tw_207 tw_208 tw_7 tw_209) rfl rfl rfl (by decide +kernel) ⟨(by rw [← hR]; exact Nat.le_of_ble_eq_true rfl), (by rw [← hR]; exact Nat.le_of_ble_eq_true rfl)⟩) hK (vp_one hP (pl_at (X := [(h0, .inr (0, [.int wd, .ref qx, .ref qy, .ref qo, .ref qr, .ref ql, .int md, .int cp, .int cc])), (ql, .inr (3, [.int mc, .ref ed, .int sz])), (ed, .inl (cO, cap, .inr (.inr (.inr (.inr g)))))]) he9)) (hK.sub [] rfl) _ (pl_at (X := [(h0, .inr (0, [.int wd, .ref qx, .ref qy, .ref qo, .ref qr, .ref ql, .int md, .int cp, .int cc])), (ql, .inr (3, [.int mc, .ref ed, .int sz])), (ed, .inl (cO, cap, .inr (.inr (.inr (.inr g)))))]) he9) rfl rfl rfl hl.1 (Nat.le_of_ble_eq_true rfl) d_S_winding_53 ⟨Nat.zero_le _, Nat.zero_le _⟩ hP hS hA (fun H locs hP hS => ?_)
            refine lv_istore (lv' := [(5, .int (ka_turns ((ar (Int32.toNatClampNeg k)).1) ((ar (Int32.toNatClampNeg k)).2.1) ((ar (Int32.toNatClampNeg k)).2.2.1) ((ar (Int32.toNatClampNeg k)).2.2.2.1) ((ar (Int32.toNatClampNeg k)).2.2.2.2.1) ((ar (Int32.toNatClampNeg k)).2.2.2.2.2) (2 * x) (2 * y))), (4, .int k), (3, .int tr), (0, .ref h0), (1, .int x), (2, .int y)]) hx hb d_S_winding_56 hl (by decide) rfl (fun ls hl => ?_)
            refine lv_iload hx hb d_S_winding_58 (lv_at hl 0 rfl) ?_
            refine lv_sipush (v := 1000) hx hb d_S_winding_60 (by decide) ?_
            refine lv_icmp_ne (tgt := 70) hx hb d_S_winding_63 rfl (fun h63 => ?_) (fun h63 => ?_)
            · rw [if_neg h63] at hres
              refine lv_iload_n hx hb d_S_winding_70 rfl (lv_at hl 2 rfl) ?_
              refine lv_iload hx hb d_S_winding_71 (lv_at hl 0 rfl) ?_
              refine lv_iadd hx hb d_S_winding_73 ?_
              refine lv_istore_n (lv' := [(3, .int (tr + (ka_turns ((ar (Int32.toNatClampNeg k)).1) ((ar (Int32.toNatClampNeg k)).2.1) ((ar (Int32.toNatClampNeg k)).2.2.1) ((ar (Int32.toNatClampNeg k)).2.2.2.1) ((ar (Int32.toNatClampNeg k)).2.2.2.2.1) ((ar (Int32.toNatClampNeg k)).2.2.2.2.2) (2 * x) (2 * y)))), (5, .int (ka_turns ((ar (Int32.toNatClampNeg k)).1) ((ar (Int32.toNatClampNeg k)).2.1) ((ar (Int32.toNatClampNeg k)).2.2.1) ((ar (Int32.toNatClampNeg k)).2.2.2.1) ((ar (Int32.toNatClampNeg k)).2.2.2.2.1) ((ar (Int32.toNatClampNeg k)).2.2.2.2.2) (2 * x) (2 * y))), (4, .int k), (0, .ref h0), (1, .int x), (2, .int y)]) hx hb d_S_winding_74 rfl hl (by decide) rfl (fun ls hl => ?_)
              refine lv_iinc (k := 2) (v := k + 1) (lv' := [(4, .int (k + 1)), (3, .int (tr + (ka_turns ((ar (Int32.toNatClampNeg k)).1) ((ar (Int32.toNatClampNeg k)).2.1) ((ar (Int32.toNatClampNeg k)).2.2.1) ((ar (Int32.toNatClampNeg k)).2.2.2.1) ((ar (Int32.toNatClampNeg k)).2.2.2.2.1) ((ar (Int32.toNatClampNeg k)).2.2.2.2.2) (2 * x) (2 * y)))), (5, .int (ka_turns ((ar (Int32.toNatClampNeg k)).1) ((ar (Int32.toNatClampNeg k)).2.1) ((ar (Int32.toNatClampNeg k)).2.2.1) ((ar (Int32.toNatClampNeg k)).2.2.2.1) ((ar (Int32.toNatClampNeg k)).2.2.2.2.1) ((ar (Int32.toNatClampNeg k)).2.2.2.2.2) (2 * x) (2 * y))), (0, .ref h0), (1, .int x), (2, .int y)]) hx hb d_S_winding_75 hl rfl rfl (by decide) rfl (fun ls hl => ?_)
              refine lv_goto (tgt := 23) hx hb d_S_winding_78 rfl ?_
              exact ih (k + 1) (tr + (ka_turns ((ar (Int32.toNatClampNeg k)).1) ((ar (Int32.toNatClampNeg k)).2.1) ((ar (Int32.toNatClampNeg k)).2.2.1) ((ar (Int32.toNatClampNeg k)).2.2.2.1) ((ar (Int32.toNatClampNeg k)).2.2.2.2.1) ((ar (Int32.toNatClampNeg k)).2.2.2.2.2) (2 * x) (2 * y))) (by obtain ⟨z9, y1, y2, y3⟩ := hsz9; obtain ⟨j, g1, g2⟩ := hinv; have g3 : j < z9 := nI_nle_lt (by omega) (by unfold kl_size at h32; rw [y1, g2] at h32; exact h32); exact ⟨j + 1, by omega, by rw [g2, nI_1]⟩) (by obtain ⟨z9, y1, y2, y3⟩ := hsz9; obtain ⟨j, g1, g2⟩ := hinv; have g3 : j < z9 := nI_nle_lt (by omega) (by unfold kl_size at h32; rw [y1, g2] at h32; exact h32); rw [g2, nI_clamp (by omega)] at hmu; rw [g2, nI_1, nI_clamp (by omega)]; omega) hres ls _ _ (lv_sub hl [0, 1, 3, 4, 5] rfl) hP hS
            · rw [if_pos h63] at hres
              refine lv_sipush (v := 1000) hx hb d_S_winding_66 (by decide) ?_
              rw [hQ]
              exact W.iret (v := 1000) hx hb hr (fun t ht hW => ⟨⟨_, (), rfl, hres, trivial⟩, hS.F ht⟩) hS.2.2 d_S_winding_69
      exact L23 (cap + 1) 0 0 (by exact ⟨0, Nat.zero_le _, rfl⟩) (by omega) hres ls _ _ (lv_sub hl [0, 1, 2, 3, 4] rfl) hP hS
    · rw [if_pos h11] at hres
      refine lv_sipush (v := 2000) hx hb d_S_winding_14 (by decide) ?_
      rw [hQ]
      exact W.iret (v := 2000) hx hb hr (fun t ht hW => ⟨⟨_, (), rfl, hres, trivial⟩, hS.F ht⟩) hS.2.2 d_S_winding_17
