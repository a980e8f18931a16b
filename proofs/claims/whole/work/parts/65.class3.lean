def ks_art_j60 (i1 : Int32) (kL5 : (Int32) → (Int64) → (Nat → Int32) → Int64 × (Nat → Int32)) (t60_0 : Nat → Int32) (t60_1 : Int64) : Int64 × (Nat → Int32) := (kL5 (i1 + 1) t60_1 t60_0)
def ks_art_L5 (wd : Int32) (sx : Int32) (sy : Int32) (bx : Int32) (b2 : Int32) (ex : Int32) (ey : Int32) (y : Int32) : Nat → (Int32) → (Int64) → (Nat → Int32) → Int64 × (Nat → Int32)
  | 0, _, _, _ => (0, fun _ => 0)
  | n+1, i1, on1, rt1 => (if wd ≤ i1 then (on1, rt1) else (if (ka_turns sx sy bx b2 ex ey ((128 * i1) + 64) y) = 1000 then (ks_art_j60 i1 (ks_art_L5 wd sx sy bx b2 ex ey y n) rt1 (on1 ||| (jv_lshl 1 i1))) else (ks_art_j60 i1 (ks_art_L5 wd sx sy bx b2 ex ey y n) (upd rt1 (Int32.toNatClampNeg i1) ((rt1 (Int32.toNatClampNeg i1)) + (ka_turns sx sy bx b2 ex ey ((128 * i1) + 64) y))) on1)))
def ks_art (wd : Int32) (rt : Nat → Int32) (sx : Int32) (sy : Int32) (bx : Int32) (b2 : Int32) (ex : Int32) (ey : Int32) (y : Int32) : Int64 × (Nat → Int32) := (ks_art_L5 wd sx sy bx b2 ex ey y 65 0 0 rt)
set_option maxHeartbeats 4000000 in
set_option maxRecDepth 100000 in
theorem c_ks_art (l : Launch) (dC : Nat → ClassId) (dI : Nat → Nat → Nat) (h0 : Nat) (qr : Nat) (ac : Nat) (cI : ClassId) (qx : Nat) (qy : Nat) (qo : Nat) (ql : Nat) (md : Int32) (cp : Int32) (cc : Int32) (wd : Int32) (rt : Nat → Int32) (sx : Int32) (sy : Int32) (bx : Int32) (b2 : Int32) (ex : Int32) (ey : Int32) (y : Int32) (hwd : wok wd) : mc_l l y_S_addRowTurns w_S_addRowTurns { frames := 4, cells := 0, slots := 0, locals := 103 } (dC, dI) cls9 [(h0, .inr (0, [.int wd, .ref qx, .ref qy, .ref qo, .ref qr, .ref ql, .int md, .int cp, .int cc])), (qr, .inl (cI, 64, .inl rt)), (ac, .inr (1, [.int sx, .int sy, .int bx, .int b2, .int ex, .int ey]))] [(h0, .inr (0, [.int wd, .ref qx, .ref qy, .ref qo, .ref qr, .ref ql, .int md, .int cp, .int cc])), (qr, .inl (cI, 64, .inl ((ks_art wd rt sx sy bx b2 ex ey y).2))), (ac, .inr (1, [.int sx, .int sy, .int bx, .int b2, .int ex, .int ey]))] [(cI, .int)] [.ref h0, .ref ac, .int y] ((ks_art wd rt sx sy bx b2 ex ey y).1) := by
  intro sz
  refine Met.ofW (cc := b_S_addRowTurns) (maxL := 7) (ret := (some .long)) (by decide) rfl ?_
  intro p e s m args below meth c s₁ B hml hv
  obtain ⟨hargs, hsz, hP, hK, hD0⟩ := hv
  have hx := B.exec
  have hb := B.bytes
  have hr := B.returns
  have hts : ∀ w ∈ lw_w, w.before args s = true := fun w h => atoms_spec (ws := w_S_addRowTurns) B.pre w (List.mem_cons_of_mem _ h)
  have hown : s.vm.findClass R_S = some m.cls := findClass_of_methodNamed B.named
  have hlocks := B.notSynchronized
  subst hsz
  have hD := hD0.self (sz := s.heap.size)
  generalize hR : (headSpec w_S_addRowTurns { frames := 4, cells := 0, slots := 0, locals := 103 }).room = R
  generalize hAe : va_A [(h0, .inr (0, [.int wd, .ref qx, .ref qy, .ref qo, .ref qr, .ref ql, .int md, .int cp, .int cc])), (qr, .inl (cI, 64, .inl rt)), (ac, .inr (1, [.int sx, .int sy, .int bx, .int b2, .int ex, .int ey]))] s.heap.size = A at hD ⊢
  have hA : ∀ q : Nat, s.heap.size ≤ q → A q := fun q h => by rw [← hAe]; exact Or.inr h
  have hS : va_S A s.heap s.heap [] := va_S.rf
  generalize hRES : ks_art wd rt sx sy bx b2 ex ey y = RES
  have hres := hRES
  have hl := lv_entry [.ref h0, .ref ac, .int y] (n := 7) (Nat.le_of_ble_eq_true rfl)
  have hent : entryFrame m args 7 = F0 m 0 (lg_sl [.ref h0, .ref ac, .int y] ++ List.replicate (7 - (lg_sl [.ref h0, .ref ac, .int y]).length) Slot.unset).toArray [] := by rw [hargs]; exact lg_entry_eq m [.ref h0, .ref ac, .int y] 7
  rw [hent]
  clear hent
  generalize (lg_sl [.ref h0, .ref ac, .int y] ++ List.replicate (7 - (lg_sl [.ref h0, .ref ac, .int y]).length) Slot.unset).toArray = ls at hl ⊢
  have hl : lv_has ls 7 [(0, .ref h0), (1, .ref ac), (2, .int y)] := hl
  have hP : va_P (dC, dI) cls9 [(h0, .inr (0, [.int wd, .ref qx, .ref qy, .ref qo, .ref qr, .ref ql, .int md, .int cp, .int cc])), (qr, .inl (cI, 64, .inl rt)), (ac, .inr (1, [.int sx, .int sy, .int bx, .int b2, .int ex, .int ey]))] s.heap := hP
  have hD : va_D A [(h0, .inr (0, [.int wd, .ref qx, .ref qy, .ref qo, .ref qr, .ref ql, .int md, .int cp, .int cc])), (qr, .inl (cI, 64, .inl rt)), (ac, .inr (1, [.int sx, .int sy, .int bx, .int b2, .int ex, .int ey]))] := hD
  clear hD0 hRES hAe
  unfold ks_art at hres
  generalize hQ : MQ below (va_Ql (fun x (_ : Unit) => x = RES.1) (fun _ t => va_P (dC, dI) cls9 [(h0, .inr (0, [.int wd, .ref qx, .ref qy, .ref qo, .ref qr, .ref ql, .int md, .int cp, .int cc])), (qr, .inl (cI, 64, .inl RES.2)), (ac, .inr (1, [.int sx, .int sy, .int bx, .int b2, .int ex, .int ey]))] t.heap ∧ va_K (dC, dI) cls9 [(cI, .int)] t ∧ va_D A [(h0, .inr (0, [.int wd, .ref qx, .ref qy, .ref qo, .ref qr, .ref ql, .int md, .int cp, .int cc])), (qr, .inl (cI, 64, .inl RES.2)), (ac, .inr (1, [.int sx, .int sy, .int bx, .int b2, .int ex, .int ey]))]) A) args s 0 0 A = Q
  replace hQ := hQ.symm
  refine lv_lconst (v := 0) hx hb d_S_addRowTurns_0 (by decide) ?_
  refine lv_lstore_n (lv' := [(3, .long 0), (0, .ref h0), (1, .ref ac), (2, .int y)]) hx hb d_S_addRowTurns_1 rfl hl (by decide) rfl (fun ls hl => ?_)
  refine lv_iconst (v := 0) hx hb d_S_addRowTurns_2 (by decide) ?_
  refine lv_istore (lv' := [(5, .int 0), (3, .long 0), (0, .ref h0), (1, .ref ac), (2, .int y)]) hx hb d_S_addRowTurns_3 hl (by decide) rfl (fun ls hl => ?_)
  have L5 : ∀ (n : Nat) (i1 : Int32) (on1 : Int64) (rt1 : Nat → Int32), (∃ j : Nat, j ≤ 64 ∧ i1 = nI j) → 64 - i1.toNatClampNeg < n → ks_art_L5 wd sx sy bx b2 ex ey y n i1 on1 rt1 = RES → ∀ (ls : Array Slot) (H : Heap) (locs : List Loc), lv_has ls 7 [(5, .int i1), (3, .long on1), (0, .ref h0), (1, .ref ac), (2, .int y)] → va_P (dC, dI) cls9 [(h0, .inr (0, [.int wd, .ref qx, .ref qy, .ref qo, .ref qr, .ref ql, .int md, .int cp, .int cc])), (qr, .inl (cI, 64, .inl rt1)), (ac, .inr (1, [.int sx, .int sy, .int bx, .int b2, .int ex, .int ey]))] H → va_D A [(h0, .inr (0, [.int wd, .ref qx, .ref qy, .ref qo, .ref qr, .ref ql, .int md, .int cp, .int cc])), (qr, .inl (cI, 64, .inl rt1)), (ac, .inr (1, [.int sx, .int sy, .int bx, .int b2, .int ex, .int ey]))] → va_S A s.heap H locs → W p l e R s m args below meth c H locs 0 0 Q (F0 m 5 ls []) := by
    intro n
    induction n with
    | zero => intro i1 on1 rt1 hinv hmu; exact absurd hmu (Nat.not_lt_zero _)
    | succ n ih =>
      intro i1 on1 rt1 hinv hmu hres ls H locs hl hP hD hS
      rw [ks_art_L5] at hres
      refine lv_iload hx hb d_S_addRowTurns_5 (lv_at hl 0 rfl) ?_
      refine lv_aload_n hx hb d_S_addRowTurns_7 rfl (lv_at hl 2 rfl) ?_
      refine va_get (D := (dC, dI)) (ci := 0) (v := .int wd) (C := R_S) (T := F_S) (N := 9) hx hb hts in_S hown hK hP 0 rfl rfl 0 (by decide) (hts _ tw_57) (fun _ h9 => h9) rfl d_S_addRowTurns_8 ?_
      refine lv_icmp_ge (tgt := 66) hx hb d_S_addRowTurns_11 rfl (fun h11 => ?_) (fun h11 => ?_)
      · rw [if_pos h11] at hres
        refine lv_lload_n hx hb d_S_addRowTurns_66 rfl (lv_at hl 1 rfl) ?_
        rw [hQ]
        subst hres
        exact W.lret (v := on1) hx hb hr (fun t ht hW => ⟨⟨_, (), rfl, rfl, ⟨by rw [ht]; exact hP, va_K.moved hW.alike hK, hD⟩⟩, hS.F ht⟩) hS.2.2 d_S_addRowTurns_67
      · rw [if_neg h11] at hres
        refine lv_aload_n hx hb d_S_addRowTurns_14 rfl (lv_at hl 3 rfl) ?_
        refine lv_sipush (v := 128) hx hb d_S_addRowTurns_15 (by decide) ?_
        refine lv_iload hx hb d_S_addRowTurns_18 (lv_at hl 0 rfl) ?_
        refine lv_imul hx hb d_S_addRowTurns_20 ?_
        refine lv_bipush (v := 64) hx hb d_S_addRowTurns_21 (by decide) ?_
        refine lv_iadd hx hb d_S_addRowTurns_23 ?_
        refine lv_iload_n hx hb d_S_addRowTurns_24 rfl (lv_at hl 4 rfl) ?_
        refine cq_Vi (C := R_A) (T := F_A) (N := 6) (ci := 1) (As := [.int ((128 * i1) + 64), .int y]) (rest := []) (w1 := [(ac, .inr (1, [.int sx, .int sy, .int bx, .int b2, .int ex, .int ey]))]) (tys := []) ⟨hx, hb, hml, hown, hts⟩ (c_ka_turns l dC dI ac sx sy bx b2 ex ey ((128 * i1) + 64) y) (cwV 2 hts (gi_V tw_206 tw_207 tw_208 tw_7 tw_209) rfl rfl rfl (by decide +kernel) ⟨(by rw [← hR]; exact Nat.le_of_ble_eq_true rfl), (by rw [← hR]; exact Nat.le_of_ble_eq_true rfl)⟩) hK (hP.sub [2] rfl) (hK.sub [] rfl) 2 rfl rfl rfl rfl hl.1 (Nat.le_of_ble_eq_true rfl) d_S_addRowTurns_25 ⟨Nat.zero_le _, Nat.zero_le _⟩ hP hS hA (fun H locs hP hS => ?_)
        refine lv_istore (lv' := [(6, .int (ka_turns sx sy bx b2 ex ey ((128 * i1) + 64) y)), (5, .int i1), (3, .long on1), (0, .ref h0), (1, .ref ac), (2, .int y)]) hx hb d_S_addRowTurns_28 hl (by decide) rfl (fun ls hl => ?_)
        refine lv_iload hx hb d_S_addRowTurns_30 (lv_at hl 0 rfl) ?_
        refine lv_sipush (v := 1000) hx hb d_S_addRowTurns_32 (by decide) ?_
        have J60 : ∀ (t60_0 : Nat → Int32) (t60_1 : Int64), ks_art_j60 i1 (ks_art_L5 wd sx sy bx b2 ex ey y n) t60_0 t60_1 = RES → ∀ (ls : Array Slot) (H : Heap) (locs : List Loc), lv_has ls 7 [(5, .int i1), (3, .long t60_1), (0, .ref h0), (1, .ref ac), (2, .int y)] → va_P (dC, dI) cls9 [(h0, .inr (0, [.int wd, .ref qx, .ref qy, .ref qo, .ref qr, .ref ql, .int md, .int cp, .int cc])), (qr, .inl (cI, 64, .inl t60_0)), (ac, .inr (1, [.int sx, .int sy, .int bx, .int b2, .int ex, .int ey]))] H → va_D A [(h0, .inr (0, [.int wd, .ref qx, .ref qy, .ref qo, .ref qr, .ref ql, .int md, .int cp, .int cc])), (qr, .inl (cI, 64, .inl t60_0)), (ac, .inr (1, [.int sx, .int sy, .int bx, .int b2, .int ex, .int ey]))] → va_S A s.heap H locs → W p l e R s m args below meth c H locs 0 0 Q (F0 m 60 ls []) := by
          intro t60_0 t60_1 hres ls H locs hl hP hD hS
          unfold ks_art_j60 at hres
          refine lv_iinc (k := 0) (v := i1 + 1) (lv' := [(5, .int (i1 + 1)), (3, .long t60_1), (0, .ref h0), (1, .ref ac), (2, .int y)]) hx hb d_S_addRowTurns_60 hl rfl rfl (by decide) rfl (fun ls hl => ?_)
          refine lv_goto (tgt := 5) hx hb d_S_addRowTurns_63 rfl ?_
          exact ih (i1 + 1) t60_1 t60_0 (by obtain ⟨w9, hw9, ew⟩ := hwd; obtain ⟨j, g1, g2⟩ := hinv; have g4 : j < w9 := nI_nle_lt (by omega) (by rw [ew, g2] at h11; exact h11); exact ⟨j + 1, by omega, by rw [g2, nI_1]⟩) (by obtain ⟨w9, hw9, ew⟩ := hwd; obtain ⟨j, g1, g2⟩ := hinv; have g4 : j < w9 := nI_nle_lt (by omega) (by rw [ew, g2] at h11; exact h11); rw [g2, nI_clamp (by omega)] at hmu; rw [g2, nI_1, nI_clamp (by omega)]; omega) hres ls _ _ (lv_sub hl [0, 1, 2, 3, 4] rfl) hP hD hS
        refine lv_icmp_ne (tgt := 48) hx hb d_S_addRowTurns_35 rfl (fun h35 => ?_) (fun h35 => ?_)
        · rw [if_neg h35] at hres
          refine lv_aload_n hx hb d_S_addRowTurns_48 rfl (lv_at hl 3 rfl) ?_
          refine va_get (D := (dC, dI)) (ci := 0) (v := .ref qr) (C := R_S) (T := F_S) (N := 9) hx hb hts in_S hown hK hP 0 rfl rfl 4 (by decide) (hts _ tw_61) (fun _ h9 => h9) rfl d_S_addRowTurns_49 ?_
          refine lv_iload hx hb d_S_addRowTurns_52 (lv_at hl 1 rfl) ?_
          refine lv_dup2_11 hx hb d_S_addRowTurns_54 rfl rfl ?_
          refine va_iald hx hb hK hP 1 0 rfl rfl (by obtain ⟨w9, hw9, ew⟩ := hwd; obtain ⟨j, g1, g2⟩ := hinv; have g4 : j < w9 := nI_nle_lt (by omega) (by rw [ew, g2] at h11; exact h11); rw [g2]; exact vp_in_nI (by omega) (by decide)) d_S_addRowTurns_55 ?_
          refine lv_iload hx hb d_S_addRowTurns_56 (lv_at hl 0 rfl) ?_
          refine lv_iadd hx hb d_S_addRowTurns_58 ?_
          refine va_iast hx hb hK hP hD hS 1 0 rfl rfl (by obtain ⟨w9, hw9, ew⟩ := hwd; obtain ⟨j, g1, g2⟩ := hinv; have g4 : j < w9 := nI_nle_lt (by omega) (by rw [ew, g2] at h11; exact h11); rw [g2]; exact vp_in_nI (by omega) (by decide)) d_S_addRowTurns_59 (fun H locs hP hD hS => ?_)
          have hP : va_P (dC, dI) cls9 [(h0, .inr (0, [.int wd, .ref qx, .ref qy, .ref qo, .ref qr, .ref ql, .int md, .int cp, .int cc])), (qr, .inl (cI, 64, .inl (upd rt1 (Int32.toNatClampNeg i1) ((rt1 (Int32.toNatClampNeg i1)) + (ka_turns sx sy bx b2 ex ey ((128 * i1) + 64) y))))), (ac, .inr (1, [.int sx, .int sy, .int bx, .int b2, .int ex, .int ey]))] H := hP
          have hD : va_D A [(h0, .inr (0, [.int wd, .ref qx, .ref qy, .ref qo, .ref qr, .ref ql, .int md, .int cp, .int cc])), (qr, .inl (cI, 64, .inl (upd rt1 (Int32.toNatClampNeg i1) ((rt1 (Int32.toNatClampNeg i1)) + (ka_turns sx sy bx b2 ex ey ((128 * i1) + 64) y))))), (ac, .inr (1, [.int sx, .int sy, .int bx, .int b2, .int ex, .int ey]))] := hD
          exact J60 (upd rt1 (Int32.toNatClampNeg i1) ((rt1 (Int32.toNatClampNeg i1)) + (ka_turns sx sy bx b2 ex ey ((128 * i1) + 64) y))) on1 hres ls _ _ (lv_sub hl [1, 2, 3, 4, 5] rfl) hP hD hS
        · rw [if_pos h35] at hres
          refine lv_lload_n hx hb d_S_addRowTurns_38 rfl (lv_at hl 2 rfl) ?_
          refine lv_lconst (v := 1) hx hb d_S_addRowTurns_39 (by decide) ?_
          refine lv_iload hx hb d_S_addRowTurns_40 (lv_at hl 1 rfl) ?_
          refine lv_lshl (v := jv_lshl 1 i1) hx hb d_S_addRowTurns_42 rfl ?_
          refine lv_lor hx hb d_S_addRowTurns_43 ?_
          refine lv_lstore_n (lv' := [(3, .long (on1 ||| (jv_lshl 1 i1))), (6, .int (ka_turns sx sy bx b2 ex ey ((128 * i1) + 64) y)), (5, .int i1), (0, .ref h0), (1, .ref ac), (2, .int y)]) hx hb d_S_addRowTurns_44 rfl hl (by decide) rfl (fun ls hl => ?_)
          refine lv_goto (tgt := 60) hx hb d_S_addRowTurns_45 rfl ?_
          exact J60 rt1 (on1 ||| (jv_lshl 1 i1)) hres ls _ _ (lv_sub hl [2, 0, 3, 4, 5] rfl) hP hD hS
  exact L5 65 0 0 rt (by exact ⟨0, by omega, rfl⟩) (by decide) hres ls _ _ (lv_sub hl [0, 1, 2, 3, 4] rfl) hP hD hS
def ks_row_j118 (i2 : Int32) (kL92 : (Int32) → (Int64) → Int64 × (Nat → Int32)) (t118_0 : Int64) : Int64 × (Nat → Int32) := (kL92 (i2 + 1) t118_0)
def ks_row_L92 (wd : Int32) (rt1 : Nat → Int32) : Nat → (Int32) → (Int64) → Int64 × (Nat → Int32)
  | 0, _, _ => (0, fun _ => 0)
  | n+1, i2, in2 => (if wd ≤ i2 then (in2, rt1) else (if (rt1 (Int32.toNatClampNeg i2)) = 0 then (ks_row_j118 i2 (ks_row_L92 wd rt1 n) in2) else (ks_row_j118 i2 (ks_row_L92 wd rt1 n) (in2 ||| (jv_lshl 1 i2)))))
def ks_row_j83 (k : Int32) (kL38 : (Int32) → (Int64) → (Nat → Int32) → Int64 × (Nat → Int32)) (t83_0 : Nat → Int32) (t83_1 : Int64) : Int64 × (Nat → Int32) := (kL38 (k + 1) t83_1 t83_0)
def ks_row_k81 (k : Int32) (in1 : Int64) (kL38 : (Int32) → (Int64) → (Nat → Int32) → Int64 × (Nat → Int32)) (x78 : Int64 × (Nat → Int32)) : Int64 × (Nat → Int32) := (ks_row_j83 k kL38 x78.2 (in1 ||| x78.1))
def ks_row_L38 (wd : Int32) (ar : Nat → Int32 × Int32 × Int32 × Int32 × Int32 × Int32) (sz : Int32) (jj : Int32) : Nat → (Int32) → (Int64) → (Nat → Int32) → Int64 × (Nat → Int32)
  | 0, _, _, _ => (0, fun _ => 0)
  | n+1, k, in1, rt1 => (if (kl_size sz) ≤ k then (ks_row_L92 wd rt1 65 0 in1) else (if (ka_may ((ar (Int32.toNatClampNeg k)).1) ((ar (Int32.toNatClampNeg k)).2.1) ((ar (Int32.toNatClampNeg k)).2.2.1) ((ar (Int32.toNatClampNeg k)).2.2.2.1) ((ar (Int32.toNatClampNeg k)).2.2.2.2.1) ((ar (Int32.toNatClampNeg k)).2.2.2.2.2) ((128 * jj) + 64)) = 0 then (ks_row_j83 k (ks_row_L38 wd ar sz jj n) rt1 in1) else (ks_row_k81 k in1 (ks_row_L38 wd ar sz jj n) (ks_art wd rt1 ((ar (Int32.toNatClampNeg k)).1) ((ar (Int32.toNatClampNeg k)).2.1) ((ar (Int32.toNatClampNeg k)).2.2.1) ((ar (Int32.toNatClampNeg k)).2.2.2.1) ((ar (Int32.toNatClampNeg k)).2.2.2.2.1) ((ar (Int32.toNatClampNeg k)).2.2.2.2.2) ((128 * jj) + 64)))))
def ks_row (wd : Int32) (rt : Nat → Int32) (ar : Nat → Int32 × Int32 × Int32 × Int32 × Int32 × Int32) (sz : Int32) (cap : Nat) (jj : Int32) : Int64 × (Nat → Int32) := (if jj < (-300) then (0, rt) else (if jj ≤ 300 then (ks_row_L38 wd ar sz jj (cap + 1) 0 0 (kj_fill rt 0)) else (0, rt)))
set_option maxHeartbeats 4000000 in
set_option maxRecDepth 100000 in
theorem c_ks_row (l : Launch) (dC : Nat → ClassId) (dI : Nat → Nat → Nat) (h0 : Nat) (qr : Nat) (ql : Nat) (ed : Nat) (cI : ClassId) (cO : ClassId) (qx : Nat) (qy : Nat) (qo : Nat) (md : Int32) (cp : Int32) (cc : Int32) (mc : Int32) (g : Nat → Option Nat) (pl : va_W) (wd : Int32) (rt : Nat → Int32) (ar : Nat → Int32 × Int32 × Int32 × Int32 × Int32 × Int32) (sz : Int32) (cap : Nat) (jj : Int32) (hsz9 : lsz cap sz) (hpl : ∀ j : Nat, j < sz.toNatClampNeg → ∃ a n : Nat, g j = some a ∧ pl[n]? = some (a, .inr (1, [.int (ar j).1, .int (ar j).2.1, .int (ar j).2.2.1, .int (ar j).2.2.2.1, .int (ar j).2.2.2.2.1, .int (ar j).2.2.2.2.2]))) (hwd : wok wd) : mc_l l y_S_row w_S_row { frames := 5, cells := 0, slots := 0, locals := 129 } (dC, dI) cls9 ([(h0, .inr (0, [.int wd, .ref qx, .ref qy, .ref qo, .ref qr, .ref ql, .int md, .int cp, .int cc])), (qr, .inl (cI, 64, .inl rt)), (ql, .inr (3, [.int mc, .ref ed, .int sz])), (ed, .inl (cO, cap, .inr (.inr (.inr (.inr g)))))] ++ pl) ([(h0, .inr (0, [.int wd, .ref qx, .ref qy, .ref qo, .ref qr, .ref ql, .int md, .int cp, .int cc])), (qr, .inl (cI, 64, .inl ((ks_row wd rt ar sz cap jj).2))), (ql, .inr (3, [.int mc, .ref ed, .int sz])), (ed, .inl (cO, cap, .inr (.inr (.inr (.inr g)))))] ++ pl) [(cI, .int), (cO, (.object "java/lang/Object"))] [.ref h0, .int jj] ((ks_row wd rt ar sz cap jj).1) := by
  intro sz
  refine Met.ofW (cc := b_S_row) (maxL := 7) (ret := (some .long)) (by decide) rfl ?_
  intro p e s m args below meth c s₁ B hml hv
  obtain ⟨hargs, hsz, hP, hK, hD0⟩ := hv
  have hx := B.exec
  have hb := B.bytes
  have hr := B.returns
  have hts : ∀ w ∈ lw_w, w.before args s = true := fun w h => atoms_spec (ws := w_S_row) B.pre w (List.mem_cons_of_mem _ h)
  have hown : s.vm.findClass R_S = some m.cls := findClass_of_methodNamed B.named
  have hlocks := B.notSynchronized
  subst hsz
  have hD := hD0.self (sz := s.heap.size)
  generalize hR : (headSpec w_S_row { frames := 5, cells := 0, slots := 0, locals := 129 }).room = R
  generalize hAe : va_A ([(h0, .inr (0, [.int wd, .ref qx, .ref qy, .ref qo, .ref qr, .ref ql, .int md, .int cp, .int cc])), (qr, .inl (cI, 64, .inl rt)), (ql, .inr (3, [.int mc, .ref ed, .int sz])), (ed, .inl (cO, cap, .inr (.inr (.inr (.inr g)))))] ++ pl) s.heap.size = A at hD ⊢
  have hA : ∀ q : Nat, s.heap.size ≤ q → A q := fun q h => by rw [← hAe]; exact Or.inr h
  have hS : va_S A s.heap s.heap [] := va_S.rf
  generalize hRES : ks_row wd rt ar sz cap jj = RES
  have hres := hRES
  have hl := lv_entry [.ref h0, .int jj] (n := 7) (Nat.le_of_ble_eq_true rfl)
  have hent : entryFrame m args 7 = F0 m 0 (lg_sl [.ref h0, .int jj] ++ List.replicate (7 - (lg_sl [.ref h0, .int jj]).length) Slot.unset).toArray [] := by rw [hargs]; exact lg_entry_eq m [.ref h0, .int jj] 7
  rw [hent]
  clear hent
  generalize (lg_sl [.ref h0, .int jj] ++ List.replicate (7 - (lg_sl [.ref h0, .int jj]).length) Slot.unset).toArray = ls at hl ⊢
  have hl : lv_has ls 7 [(0, .ref h0), (1, .int jj)] := hl
  have hP : va_P (dC, dI) cls9 ([(h0, .inr (0, [.int wd, .ref qx, .ref qy, .ref qo, .ref qr, .ref ql, .int md, .int cp, .int cc])), (qr, .inl (cI, 64, .inl rt)), (ql, .inr (3, [.int mc, .ref ed, .int sz])), (ed, .inl (cO, cap, .inr (.inr (.inr (.inr g)))))] ++ pl) s.heap := hP
  have hD : va_D A ([(h0, .inr (0, [.int wd, .ref qx, .ref qy, .ref qo, .ref qr, .ref ql, .int md, .int cp, .int cc])), (qr, .inl (cI, 64, .inl rt)), (ql, .inr (3, [.int mc, .ref ed, .int sz])), (ed, .inl (cO, cap, .inr (.inr (.inr (.inr g)))))] ++ pl) := hD
  clear hD0 hRES hAe
  unfold ks_row at hres
  generalize hQ : MQ below (va_Ql (fun x (_ : Unit) => x = RES.1) (fun _ t => va_P (dC, dI) cls9 ([(h0, .inr (0, [.int wd, .ref qx, .ref qy, .ref qo, .ref qr, .ref ql, .int md, .int cp, .int cc])), (qr, .inl (cI, 64, .inl RES.2)), (ql, .inr (3, [.int mc, .ref ed, .int sz])), (ed, .inl (cO, cap, .inr (.inr (.inr (.inr g)))))] ++ pl) t.heap ∧ va_K (dC, dI) cls9 [(cI, .int), (cO, (.object "java/lang/Object"))] t ∧ va_D A ([(h0, .inr (0, [.int wd, .ref qx, .ref qy, .ref qo, .ref qr, .ref ql, .int md, .int cp, .int cc])), (qr, .inl (cI, 64, .inl RES.2)), (ql, .inr (3, [.int mc, .ref ed, .int sz])), (ed, .inl (cO, cap, .inr (.inr (.inr (.inr g)))))] ++ pl)) A) args s 0 0 A = Q
  replace hQ := hQ.symm
  refine lv_iload_n hx hb d_S_row_0 rfl (lv_at hl 1 rfl) ?_
  refine lv_sipush (v := (-300)) hx hb d_S_row_1 (by decide) ?_
  refine lv_icmp_lt (tgt := 14) hx hb d_S_row_4 rfl (fun h4 => ?_) (fun h4 => ?_)
  · rw [if_pos h4] at hres
    refine lv_lconst (v := 0) hx hb d_S_row_14 (by decide) ?_
    rw [hQ]
    subst hres
    exact W.lret (v := 0) hx hb hr (fun t ht hW => ⟨⟨_, (), rfl, rfl, ⟨by rw [ht]; exact hP, va_K.moved hW.alike hK, hD⟩⟩, hS.F ht⟩) hS.2.2 d_S_row_15
  · rw [if_neg h4] at hres
    refine lv_iload_n hx hb d_S_row_7 rfl (lv_at hl 1 rfl) ?_
    refine lv_sipush (v := 300) hx hb d_S_row_8 (by decide) ?_
    refine lv_icmp_le (tgt := 16) hx hb d_S_row_11 rfl (fun h11 => ?_) (fun h11 => ?_)
    · rw [if_pos h11] at hres
      refine lv_sipush (v := 128) hx hb d_S_row_16 (by decide) ?_
      refine lv_iload_n hx hb d_S_row_19 rfl (lv_at hl 1 rfl) ?_
      refine lv_imul hx hb d_S_row_20 ?_
      refine lv_bipush (v := 64) hx hb d_S_row_21 (by decide) ?_
      refine lv_iadd hx hb d_S_row_23 ?_
      refine lv_istore_n (lv' := [(2, .int ((128 * jj) + 64)), (0, .ref h0), (1, .int jj)]) hx hb d_S_row_24 rfl hl (by decide) rfl (fun ls hl => ?_)
      refine lv_lconst (v := 0) hx hb d_S_row_25 (by decide) ?_
      refine lv_lstore_n (lv' := [(3, .long 0), (2, .int ((128 * jj) + 64)), (0, .ref h0), (1, .int jj)]) hx hb d_S_row_26 rfl hl (by decide) rfl (fun ls hl => ?_)
      refine lv_aload_n hx hb d_S_row_27 rfl (lv_at hl 2 rfl) ?_
      refine va_get (D := (dC, dI)) (ci := 0) (v := .ref qr) (C := R_S) (T := F_S) (N := 9) hx hb hts in_S hown hK hP 0 rfl rfl 4 (by decide) (hts _ tw_61) (fun _ h9 => h9) rfl d_S_row_28 ?_
      refine lv_iconst (v := 0) hx hb d_S_row_31 (by decide) ?_
      refine cm_vQ (wc := [(qr, .inl (cI, 64, .inl rt))]) (wr := [(h0, .inr (0, [.int wd, .ref qx, .ref qy, .ref qo, .ref qr, .ref ql, .int md, .int cp, .int cc])), (ql, .inr (3, [.int mc, .ref ed, .int sz])), (ed, .inl (cO, cap, .inr (.inr (.inr (.inr g)))))]) (W1 := [(qr, .inl (cI, 64, .inl (kj_fill rt 0)))]) (X2 := [(h0, .inr (0, [.int wd, .ref qx, .ref qy, .ref qo, .ref qr, .ref ql, .int md, .int cp, .int cc])), (qr, .inl (cI, 64, .inl (kj_fill rt 0))), (ql, .inr (3, [.int mc, .ref ed, .int sz])), (ed, .inl (cO, cap, .inr (.inr (.inr (.inr g)))))]) (pl := pl) (va_runS (g := F0 m 32 ls [.int 0, .ref qr]) (As := [.ref qr, .int 0]) (rest := []) ⟨hx, hb, hml, hown, hts⟩ (c_kj_fill l dC dI qr cI rt 0  _) (va_cwS 2 hts (gi_S tw_258 tw_259 tw_9 tw_260) rfl rfl rfl (by decide +kernel) ⟨(by rw [← hR]; exact Nat.le_of_ble_eq_true rfl), (by rw [← hR]; exact Nat.le_of_ble_eq_true rfl)⟩) ⟨mc_blind, mc_pre (hP.sub [1] rfl) (hK.sub [0] rfl) (hD.sub [1] (by decide) rfl)⟩ rfl rfl hl.1 rfl (lv_room (Nat.le_of_ble_eq_true rfl)) d_S_row_32 ⟨Nat.zero_le _, Nat.zero_le _⟩) hP hD hS hA [1] [0, 2, 3] [0, 3, 1, 2] rfl rfl rfl (by decide) (by decide) rfl (by decide) (fun H locs hP hD hS => ?_)
      refine lv_iconst (v := 0) hx hb d_S_row_35 (by decide) ?_
      refine lv_istore (lv' := [(5, .int 0), (3, .long 0), (2, .int ((128 * jj) + 64)), (0, .ref h0), (1, .int jj)]) hx hb d_S_row_36 hl (by decide) rfl (fun ls hl => ?_)
      have L38 : ∀ (n : Nat) (k : Int32) (in1 : Int64) (rt1 : Nat → Int32), (∃ j : Nat, j ≤ cap ∧ k = nI j) → cap - k.toNatClampNeg < n → ks_row_L38 wd ar sz jj n k in1 rt1 = RES → ∀ (ls : Array Slot) (H : Heap) (locs : List Loc), lv_has ls 7 [(5, .int k), (3, .long in1), (2, .int ((128 * jj) + 64)), (0, .ref h0)] → va_P (dC, dI) cls9 ([(h0, .inr (0, [.int wd, .ref qx, .ref qy, .ref qo, .ref qr, .ref ql, .int md, .int cp, .int cc])), (qr, .inl (cI, 64, .inl rt1)), (ql, .inr (3, [.int mc, .ref ed, .int sz])), (ed, .inl (cO, cap, .inr (.inr (.inr (.inr g)))))] ++ pl) H → va_D A ([(h0, .inr (0, [.int wd, .ref qx, .ref qy, .ref qo, .ref qr, .ref ql, .int md, .int cp, .int cc])), (qr, .inl (cI, 64, .inl rt1)), (ql, .inr (3, [.int mc, .ref ed, .int sz])), (ed, .inl (cO, cap, .inr (.inr (.inr (.inr g)))))] ++ pl) → va_S A s.heap H locs → W p l e R s m args below meth c H locs 0 0 Q (F0 m 38 ls []) := by
        intro n
        induction n with
        | zero => intro k in1 rt1 hinv hmu; exact absurd hmu (Nat.not_lt_zero _)
        | succ n ih =>
          intro k in1 rt1 hinv hmu hres ls H locs hl hP hD hS
          rw [ks_row_L38] at hres
          refine lv_iload hx hb d_S_row_38 (lv_at hl 0 rfl) ?_
          refine lv_aload_n hx hb d_S_row_40 rfl (lv_at hl 3 rfl) ?_
          refine va_get (D := (dC, dI)) (ci := 0) (v := .ref ql) (C := R_S) (T := F_S) (N := 9) hx hb hts in_S hown hK hP 0 rfl rfl 5 (by decide) (hts _ tw_62) (fun _ h9 => h9) rfl d_S_row_41 ?_
          refine cq_Vi (C := R_T) (T := F_T) (N := 3) (ci := 3) (As := []) (rest := [.int k]) (w1 := [(ql, .inr (3, [.int mc, .ref ed, .int sz]))]) (tys := []) ⟨hx, hb, hml, hown, hts⟩ (c_kl_size l dC dI ql mc ed sz ) (cwV 0 hts (gi_V tw_188 tw_189 tw_190 tw_5 tw_191) rfl rfl rfl (by decide +kernel) ⟨(by rw [← hR]; exact Nat.le_of_ble_eq_true rfl), (by rw [← hR]; exact Nat.le_of_ble_eq_true rfl)⟩) hK (hP.sub [2] rfl) (hK.sub [] rfl) 2 rfl rfl rfl rfl hl.1 (Nat.le_of_ble_eq_true rfl) d_S_row_44 ⟨Nat.zero_le _, Nat.zero_le _⟩ hP hS hA (fun H locs hP hS => ?_)
          refine lv_icmp_ge (tgt := 89) hx hb d_S_row_47 rfl (fun h47 => ?_) (fun h47 => ?_)
          · rw [if_pos h47] at hres
            refine lv_iconst (v := 0) hx hb d_S_row_89 (by decide) ?_
            refine lv_istore (lv' := [(5, .int 0), (3, .long in1), (2, .int ((128 * jj) + 64)), (0, .ref h0)]) hx hb d_S_row_90 hl (by decide) rfl (fun ls hl => ?_)
            have L92 : ∀ (n : Nat) (i2 : Int32) (in2 : Int64), (∃ j : Nat, j ≤ 64 ∧ i2 = nI j) → 64 - i2.toNatClampNeg < n → ks_row_L92 wd rt1 n i2 in2 = RES → ∀ (ls : Array Slot) (H : Heap) (locs : List Loc), lv_has ls 7 [(5, .int i2), (3, .long in2), (0, .ref h0)] → va_P (dC, dI) cls9 ([(h0, .inr (0, [.int wd, .ref qx, .ref qy, .ref qo, .ref qr, .ref ql, .int md, .int cp, .int cc])), (qr, .inl (cI, 64, .inl rt1)), (ql, .inr (3, [.int mc, .ref ed, .int sz])), (ed, .inl (cO, cap, .inr (.inr (.inr (.inr g)))))] ++ pl) H → va_D A ([(h0, .inr (0, [.int wd, .ref qx, .ref qy, .ref qo, .ref qr, .ref ql, .int md, .int cp, .int cc])), (qr, .inl (cI, 64, .inl rt1)), (ql, .inr (3, [.int mc, .ref ed, .int sz])), (ed, .inl (cO, cap, .inr (.inr (.inr (.inr g)))))] ++ pl) → va_S A s.heap H locs → W p l e R s m args below meth c H locs 0 0 Q (F0 m 92 ls []) := by
              intro n
              induction n with
              | zero => intro i2 in2 hinv hmu; exact absurd hmu (Nat.not_lt_zero _)
              | succ n ih =>
                intro i2 in2 hinv hmu hres ls H locs hl hP hD hS
                rw [ks_row_L92] at hres
                refine lv_iload hx hb d_S_row_92 (lv_at hl 0 rfl) ?_
                refine lv_aload_n hx hb d_S_row_94 rfl (lv_at hl 2 rfl) ?_
                refine va_get (D := (dC, dI)) (ci := 0) (v := .int wd) (C := R_S) (T := F_S) (N := 9) hx hb hts in_S hown hK hP 0 rfl rfl 0 (by decide) (hts _ tw_57) (fun _ h9 => h9) rfl d_S_row_95 ?_
                refine lv_icmp_ge (tgt := 124) hx hb d_S_row_98 rfl (fun h98 => ?_) (fun h98 => ?_)
                · rw [if_pos h98] at hres
                  refine lv_lload_n hx hb d_S_row_124 rfl (lv_at hl 1 rfl) ?_
                  rw [hQ]
                  subst hres
                  exact W.lret (v := in2) hx hb hr (fun t ht hW => ⟨⟨_, (), rfl, rfl, ⟨by rw [ht]; exact hP, va_K.moved hW.alike hK, hD⟩⟩, hS.F ht⟩) hS.2.2 d_S_row_125
                · rw [if_neg h98] at hres
                  refine lv_aload_n hx hb d_S_row_101 rfl (lv_at hl 2 rfl) ?_
                  refine va_get (D := (dC, dI)) (ci := 0) (v := .ref qr) (C := R_S) (T := F_S) (N := 9) hx hb hts in_S hown hK hP 0 rfl rfl 4 (by decide) (hts _ tw_61) (fun _ h9 => h9) rfl d_S_row_102 ?_
                  refine lv_iload hx hb d_S_row_105 (lv_at hl 0 rfl) ?_
                  refine va_iald hx hb hK hP 1 0 rfl rfl (by obtain ⟨w9, hw9, ew⟩ := hwd; obtain ⟨j, g1, g2⟩ := hinv; have g4 : j < w9 := nI_nle_lt (by omega) (by rw [ew, g2] at h98; exact h98); rw [g2]; exact vp_in_nI (by omega) (by decide)) d_S_row_107 ?_
                  have J118 : ∀ (t118_0 : Int64), ks_row_j118 i2 (ks_row_L92 wd rt1 n) t118_0 = RES → ∀ (ls : Array Slot) (H : Heap) (locs : List Loc), lv_has ls 7 [(5, .int i2), (3, .long t118_0), (0, .ref h0)] → va_P (dC, dI) cls9 ([(h0, .inr (0, [.int wd, .ref qx, .ref qy, .ref qo, .ref qr, .ref ql, .int md, .int cp, .int cc])), (qr, .inl (cI, 64, .inl rt1)), (ql, .inr (3, [.int mc, .ref ed, .int sz])), (ed, .inl (cO, cap, .inr (.inr (.inr (.inr g)))))] ++ pl) H → va_D A ([(h0, .inr (0, [.int wd, .ref qx, .ref qy, .ref qo, .ref qr, .ref ql, .int md, .int cp, .int cc])), (qr, .inl (cI, 64, .inl rt1)), (ql, .inr (3, [.int mc, .ref ed, .int sz])), (ed, .inl (cO, cap, .inr (.inr (.inr (.inr g)))))] ++ pl) → va_S A s.heap H locs → W p l e R s m args below meth c H locs 0 0 Q (F0 m 118 ls []) := by
                    intro t118_0 hres ls H locs hl hP hD hS
                    unfold ks_row_j118 at hres
                    refine lv_iinc (k := 0) (v := i2 + 1) (lv' := [(5, .int (i2 + 1)), (3, .long t118_0), (0, .ref h0)]) hx hb d_S_row_118 hl rfl rfl (by decide) rfl (fun ls hl => ?_)
                    refine lv_goto (tgt := 92) hx hb d_S_row_121 rfl ?_
                    exact ih (i2 + 1) t118_0 (by obtain ⟨w9, hw9, ew⟩ := hwd; obtain ⟨j, g1, g2⟩ := hinv; have g4 : j < w9 := nI_nle_lt (by omega) (by rw [ew, g2] at h98; exact h98); exact ⟨j + 1, by omega, by rw [g2, nI_1]⟩) (by obtain ⟨w9, hw9, ew⟩ := hwd; obtain ⟨j, g1, g2⟩ := hinv; have g4 : j < w9 := nI_nle_lt (by omega) (by rw [ew, g2] at h98; exact h98); rw [g2, nI_clamp (by omega)] at hmu; rw [g2, nI_1, nI_clamp (by omega)]; omega) hres ls _ _ (lv_sub hl [0, 1, 2] rfl) hP hD hS
                  refine lv_if_eq (tgt := 118) hx hb d_S_row_108 rfl (fun h108 => ?_) (fun h108 => ?_)
                  · rw [if_pos h108] at hres
                    exact J118 in2 hres ls _ _ (lv_sub hl [0, 1, 2] rfl) hP hD hS
                  · rw [if_neg h108] at hres
                    refine lv_lload_n hx hb d_S_row_111 rfl (lv_at hl 1 rfl) ?_
                    refine lv_lconst (v := 1) hx hb d_S_row_112 (by decide) ?_
                    refine lv_iload hx hb d_S_row_113 (lv_at hl 0 rfl) ?_
                    refine lv_lshl (v := jv_lshl 1 i2) hx hb d_S_row_115 rfl ?_
                    refine lv_lor hx hb d_S_row_116 ?_
                    refine lv_lstore_n (lv' := [(3, .long (in2 ||| (jv_lshl 1 i2))), (5, .int i2), (0, .ref h0)]) hx hb d_S_row_117 rfl hl (by decide) rfl (fun ls hl => ?_)
                    exact J118 (in2 ||| (jv_lshl 1 i2)) hres ls _ _ (lv_sub hl [1, 0, 2] rfl) hP hD hS
            exact L92 65 0 in1 (by exact ⟨0, by omega, rfl⟩) (by decide) hres ls _ _ (lv_sub hl [0, 1, 3] rfl) hP hD hS
          · rw [if_neg h47] at hres
            refine lv_aload_n hx hb d_S_row_50 rfl (lv_at hl 3 rfl) ?_
            refine va_get (D := (dC, dI)) (ci := 0) (v := .ref ql) (C := R_S) (T := F_S) (N := 9) hx hb hts in_S hown hK hP 0 rfl rfl 5 (by decide) (hts _ tw_62) (fun _ h9 => h9) rfl d_S_row_51 ?_
            refine lv_iload hx hb d_S_row_54 (lv_at hl 0 rfl) ?_
            refine cq_Vq (C := R_T) (T := F_T) (N := 3) (ci := 3) (As := [.int k]) (rest := []) (w1 := [(ql, .inr (3, [.int mc, .ref ed, .int sz])), (ed, .inl (cO, cap, .inr (.inr (.inr (.inr g)))))]) (tys := [(cO, (.object "java/lang/Object"))]) ⟨hx, hb, hml, hown, hts⟩ (c_kl_get l dC dI ql ed cO mc sz cap g k (by obtain ⟨z9, y1, y2, y3⟩ := hsz9; obtain ⟨j, g1, g2⟩ := hinv; have g3 : j < z9 := nI_nle_lt (by omega) (by unfold kl_size at h47; rw [y1, g2] at h47; exact h47); exact ⟨z9, j, g2, y1, g3, y2, y3⟩)) (cwV 1 hts (gi_V tw_192 tw_193 tw_194 tw_5 tw_195) rfl rfl rfl (by decide +kernel) ⟨(by rw [← hR]; exact Nat.le_of_ble_eq_true rfl), (by rw [← hR]; exact Nat.le_of_ble_eq_true rfl)⟩) hK (hP.sub [2, 3] rfl) (hK.sub [1] rfl) 2 rfl rfl rfl rfl hl.1 (Nat.le_of_ble_eq_true rfl) d_S_row_56 ⟨Nat.zero_le _, Nat.zero_le _⟩ hP hS hA (fun H locs hP hS => ?_)
            obtain ⟨a9, n9, ea9, he9⟩ := hpl (Int32.toNatClampNeg k) (by obtain ⟨z9, y1, y2, y3⟩ := hsz9; obtain ⟨j, g1, g2⟩ := hinv; have g3 : j < z9 := nI_nle_lt (by omega) (by unfold kl_size at h47; rw [y1, g2] at h47; exact h47); rw [y1, g2, nI_clamp (by omega), nI_clamp (by omega)]; exact g3)
            have eg9 : kl_get g k = some a9 := ea9
            rw [eg9]
            refine va_castS (a := a9) hx hb hown (hts _ tw_100) (hK.1 1 (R_A, F_A, 6) rfl).2 (va_recv (ci := 1) (q := (R_A, F_A, 6)) hK hP rfl (pl_at (X := [(h0, .inr (0, [.int wd, .ref qx, .ref qy, .ref qo, .ref qr, .ref ql, .int md, .int cp, .int cc])), (qr, .inl (cI, 64, .inl rt1)), (ql, .inr (3, [.int mc, .ref ed, .int sz])), (ed, .inl (cO, cap, .inr (.inr (.inr (.inr g)))))]) he9)) d_S_row_59 ?_
            refine lv_astore (lv' := [(6, .ref a9), (5, .int k), (3, .long in1), (2, .int ((128 * jj) + 64)), (0, .ref h0)]) hx hb d_S_row_62 hl (by decide) rfl (fun ls hl => ?_)
            refine lv_aload hx hb d_S_row_64 (lv_at hl 0 rfl) ?_
            refine lv_iload_n hx hb d_S_row_66 rfl (lv_at hl 3 rfl) ?_
            refine cq_Vi (C := R_A) (T := F_A) (N := 6) (ci := 1) (As := [.int ((128 * jj) + 64)]) (rest := []) (w1 := [(a9, .inr (1, [.int ((ar (Int32.toNatClampNeg k)).1), .int ((ar (Int32.toNatClampNeg k)).2.1), .int ((ar (Int32.toNatClampNeg k)).2.2.1), .int ((ar (Int32.toNatClampNeg k)).2.2.2.1), .int ((ar (Int32.toNatClampNeg k)).2.2.2.2.1), .int ((ar (Int32.toNatClampNeg k)).2.2.2.2.2)]))]) (tys := []) ⟨hx, hb, hml, hown, hts⟩ (c_ka_may l dC dI a9 ((ar (Int32.toNatClampNeg k)).1) ((ar (Int32.toNatClampNeg k)).2.1) ((ar (Int32.toNatClampNeg k)).2.2.1) ((ar (Int32.toNatClampNeg k)).2.2.2.1) ((ar (Int32.toNatClampNeg k)).2.2.2.2.1) ((ar (Int32.toNatClampNeg k)).2.2.2.2.2) ((128 * jj) + 64)) (cwV 1 hts (gi_V tw_261 tw_211 tw_212 tw_7 tw_213) rfl rfl rfl (by decide +kernel) ⟨(by rw [← hR]; exact Nat.le_of_ble_eq_true rfl), (by rw [← hR]; exact Nat.le_of_ble_eq_true rfl)⟩) hK (vp_one hP (pl_at (X := [(h0, .inr (0, [.int wd, .ref qx, .ref qy, .ref qo, .ref qr, .ref ql, .int md, .int cp, .int cc])), (qr, .inl (cI, 64, .inl rt1)), (ql, .inr (3, [.int mc, .ref ed, .int sz])), (ed, .inl (cO, cap, .inr (.inr (.inr (.inr g)))))]) he9)) (hK.sub [] rfl) _ (pl_at (X := [(h0, .inr (0, [.int wd, .ref qx, .ref qy, .ref qo, .ref qr, .ref ql, .int md, .int cp, .int cc])), (qr, .inl (cI, 64, .inl rt1)), (ql, .inr (3, [.int mc, .ref ed, .int sz])), (ed, .inl (cO, cap, .inr (.inr (.inr (.inr g)))))]) he9) rfl rfl rfl hl.1 (Nat.le_of_ble_eq_true rfl) d_S_row_67 ⟨Nat.zero_le _, Nat.zero_le _⟩ hP hS hA (fun H locs hP hS => ?_)
            have J83 : ∀ (t83_0 : Nat → Int32) (t83_1 : Int64), ks_row_j83 k (ks_row_L38 wd ar sz jj n) t83_0 t83_1 = RES → ∀ (ls : Array Slot) (H : Heap) (locs : List Loc), lv_has ls 7 [(5, .int k), (3, .long t83_1), (2, .int ((128 * jj) + 64)), (0, .ref h0)] → va_P (dC, dI) cls9 ([(h0, .inr (0, [.int wd, .ref qx, .ref qy, .ref qo, .ref qr, .ref ql, .int md, .int cp, .int cc])), (qr, .inl (cI, 64, .inl t83_0)), (ql, .inr (3, [.int mc, .ref ed, .int sz])), (ed, .inl (cO, cap, .inr (.inr (.inr (.inr g)))))] ++ pl) H → va_D A ([(h0, .inr (0, [.int wd, .ref qx, .ref qy, .ref qo, .ref qr, .ref ql, .int md, .int cp, .int cc])), (qr, .inl (cI, 64, .inl t83_0)), (ql, .inr (3, [.int mc, .ref ed, .int sz])), (ed, .inl (cO, cap, .inr (.inr (.inr (.inr g)))))] ++ pl) → va_S A s.heap H locs → W p l e R s m args below meth c H locs 0 0 Q (F0 m 83 ls []) := by
              intro t83_0 t83_1 hres ls H locs hl hP hD hS
              unfold ks_row_j83 at hres
              refine lv_iinc (k := 0) (v := k + 1) (lv' := [(5, .int (k + 1)), (3, .long t83_1), (2, .int ((128 * jj) + 64)), (0, .ref h0)]) hx hb d_S_row_83 hl rfl rfl (by decide) rfl (fun ls hl => ?_)
              refine lv_goto (tgt := 38) hx hb d_S_row_86 rfl ?_
              exact ih (k + 1) t83_1 t83_0 (by obtain ⟨z9, y1, y2, y3⟩ := hsz9; obtain ⟨j, g1, g2⟩ := hinv; have g3 : j < z9 := nI_nle_lt (by omega) (by unfold kl_size at h47; rw [y1, g2] at h47; exact h47); exact ⟨j + 1, by omega, by rw [g2, nI_1]⟩) (by obtain ⟨z9, y1, y2, y3⟩ := hsz9; obtain ⟨j, g1, g2⟩ := hinv; have g3 : j < z9 := nI_nle_lt (by omega) (by unfold kl_size at h47; rw [y1, g2] at h47; exact h47); rw [g2, nI_clamp (by omega)] at hmu; rw [g2, nI_1, nI_clamp (by omega)]; omega) hres ls _ _ (lv_sub hl [0, 1, 2, 3] rfl) hP hD hS
            refine lv_if_eq (tgt := 83) hx hb d_S_row_70 rfl (fun h70 => ?_) (fun h70 => ?_)
            · rw [if_pos h70] at hres
              exact J83 rt1 in1 hres ls _ _ (lv_sub hl [1, 2, 3, 4] rfl) hP hD hS
            · rw [if_neg h70] at hres
              refine lv_lload_n hx hb d_S_row_73 rfl (lv_at hl 2 rfl) ?_
              refine lv_aload_n hx hb d_S_row_74 rfl (lv_at hl 4 rfl) ?_
              refine lv_aload hx hb d_S_row_75 (lv_at hl 0 rfl) ?_
              refine lv_iload_n hx hb d_S_row_77 rfl (lv_at hl 3 rfl) ?_
              obtain ⟨pl9, hpm9⟩ := pl_out he9
              refine cm_lP (w0 := ([(h0, .inr (0, [.int wd, .ref qx, .ref qy, .ref qo, .ref qr, .ref ql, .int md, .int cp, .int cc])), (qr, .inl (cI, 64, .inl rt1)), (ql, .inr (3, [.int mc, .ref ed, .int sz])), (ed, .inl (cO, cap, .inr (.inr (.inr (.inr g)))))] ++ pl)) (wc := [(h0, .inr (0, [.int wd, .ref qx, .ref qy, .ref qo, .ref qr, .ref ql, .int md, .int cp, .int cc])), (qr, .inl (cI, 64, .inl rt1)), (a9, .inr (1, [.int ((ar (Int32.toNatClampNeg k)).1), .int ((ar (Int32.toNatClampNeg k)).2.1), .int ((ar (Int32.toNatClampNeg k)).2.2.1), .int ((ar (Int32.toNatClampNeg k)).2.2.2.1), .int ((ar (Int32.toNatClampNeg k)).2.2.2.2.1), .int ((ar (Int32.toNatClampNeg k)).2.2.2.2.2)]))]) (rem := ([(ql, .inr (3, [.int mc, .ref ed, .int sz])), (ed, .inl (cO, cap, .inr (.inr (.inr (.inr g)))))] ++ pl9)) (W1 := [(h0, .inr (0, [.int wd, .ref qx, .ref qy, .ref qo, .ref qr, .ref ql, .int md, .int cp, .int cc])), (qr, .inl (cI, 64, .inl ((ks_art wd rt1 ((ar (Int32.toNatClampNeg k)).1) ((ar (Int32.toNatClampNeg k)).2.1) ((ar (Int32.toNatClampNeg k)).2.2.1) ((ar (Int32.toNatClampNeg k)).2.2.2.1) ((ar (Int32.toNatClampNeg k)).2.2.2.2.1) ((ar (Int32.toNatClampNeg k)).2.2.2.2.2) ((128 * jj) + 64)).2))), (a9, .inr (1, [.int ((ar (Int32.toNatClampNeg k)).1), .int ((ar (Int32.toNatClampNeg k)).2.1), .int ((ar (Int32.toNatClampNeg k)).2.2.1), .int ((ar (Int32.toNatClampNeg k)).2.2.2.1), .int ((ar (Int32.toNatClampNeg k)).2.2.2.2.1), .int ((ar (Int32.toNatClampNeg k)).2.2.2.2.2)]))]) (w2 := ([(h0, .inr (0, [.int wd, .ref qx, .ref qy, .ref qo, .ref qr, .ref ql, .int md, .int cp, .int cc])), (qr, .inl (cI, 64, .inl ((ks_art wd rt1 ((ar (Int32.toNatClampNeg k)).1) ((ar (Int32.toNatClampNeg k)).2.1) ((ar (Int32.toNatClampNeg k)).2.2.1) ((ar (Int32.toNatClampNeg k)).2.2.2.1) ((ar (Int32.toNatClampNeg k)).2.2.2.2.1) ((ar (Int32.toNatClampNeg k)).2.2.2.2.2) ((128 * jj) + 64)).2))), (ql, .inr (3, [.int mc, .ref ed, .int sz])), (ed, .inl (cO, cap, .inr (.inr (.inr (.inr g)))))] ++ pl)) (va_runV (g := F0 m 78 ls [.int ((128 * jj) + 64), .ref a9, .ref h0, .long in1]) (As := [.ref a9, .int ((128 * jj) + 64)]) (rest := [.long in1]) ⟨hx, hb, hml, hown, hts⟩ (c_ks_art l dC dI h0 qr a9 cI qx qy qo ql md cp cc wd rt1 ((ar (Int32.toNatClampNeg k)).1) ((ar (Int32.toNatClampNeg k)).2.1) ((ar (Int32.toNatClampNeg k)).2.2.1) ((ar (Int32.toNatClampNeg k)).2.2.2.1) ((ar (Int32.toNatClampNeg k)).2.2.2.2.1) ((ar (Int32.toNatClampNeg k)).2.2.2.2.2) ((128 * jj) + 64) (by exact hwd) _) (cwV 2 hts (gi_V tw_262 tw_264 ts_8 tw_1 tw_265) rfl rfl rfl (by decide +kernel) ⟨(by rw [← hR]; exact Nat.le_of_ble_eq_true rfl), (by rw [← hR]; exact Nat.le_of_ble_eq_true rfl)⟩) ⟨mc_blind, va_recv (ci := 0) (q := (R_S, F_S, 9)) hK hP rfl (q0 := 0) rfl, mc_pre ((vp_perm (pl_move hpm9) hP).sub [0, 1, 2] rfl) (hK.sub [0] rfl) ((vd_perm (pl_move hpm9) hD).sub [0, 1, 2] (by decide) rfl)⟩ rfl rfl hl.1 rfl (lv_room (Nat.le_of_ble_eq_true rfl)) d_S_row_78 ⟨Nat.zero_le _, Nat.zero_le _⟩) hP hD hS hA [0, 1, 2] rfl (pl_move hpm9) (pl_move hpm9).symm (fun H locs hP hD hS => ?_)
              have K81 : ∀ (x78 : Int64 × (Nat → Int32)), ks_row_k81 k in1 (ks_row_L38 wd ar sz jj n) x78 = RES → ∀ (ls : Array Slot) (H : Heap) (locs : List Loc), lv_has ls 7 [(6, .ref a9), (5, .int k), (3, .long in1), (2, .int ((128 * jj) + 64)), (0, .ref h0)] → va_P (dC, dI) cls9 ([(h0, .inr (0, [.int wd, .ref qx, .ref qy, .ref qo, .ref qr, .ref ql, .int md, .int cp, .int cc])), (qr, .inl (cI, 64, .inl x78.2)), (ql, .inr (3, [.int mc, .ref ed, .int sz])), (ed, .inl (cO, cap, .inr (.inr (.inr (.inr g)))))] ++ pl) H → va_D A ([(h0, .inr (0, [.int wd, .ref qx, .ref qy, .ref qo, .ref qr, .ref ql, .int md, .int cp, .int cc])), (qr, .inl (cI, 64, .inl x78.2)), (ql, .inr (3, [.int mc, .ref ed, .int sz])), (ed, .inl (cO, cap, .inr (.inr (.inr (.inr g)))))] ++ pl) → va_S A s.heap H locs → W p l e R s m args below meth c H locs 0 0 Q (F0 m 81 ls [.long x78.1, .long in1]) := by
                intro x78 hres ls H locs hl hP hD hS
                unfold ks_row_k81 at hres
                refine lv_lor hx hb d_S_row_81 ?_
                refine lv_lstore_n (lv' := [(3, .long (in1 ||| x78.1)), (6, .ref a9), (5, .int k), (2, .int ((128 * jj) + 64)), (0, .ref h0)]) hx hb d_S_row_82 rfl hl (by decide) rfl (fun ls hl => ?_)
                exact J83 x78.2 (in1 ||| x78.1) hres ls _ _ (lv_sub hl [2, 0, 3, 4] rfl) hP hD hS
              exact K81 (ks_art wd rt1 ((ar (Int32.toNatClampNeg k)).1) ((ar (Int32.toNatClampNeg k)).2.1) ((ar (Int32.toNatClampNeg k)).2.2.1) ((ar (Int32.toNatClampNeg k)).2.2.2.1) ((ar (Int32.toNatClampNeg k)).2.2.2.2.1) ((ar (Int32.toNatClampNeg k)).2.2.2.2.2) ((128 * jj) + 64)) hres ls _ _ (lv_sub hl [0, 1, 2, 3, 4] rfl) hP hD hS
      exact L38 (cap + 1) 0 0 (kj_fill rt 0) (by exact ⟨0, Nat.zero_le _, rfl⟩) (by omega) hres ls _ _ (lv_sub hl [0, 1, 2, 3] rfl) hP hD hS
    · rw [if_neg h11] at hres
      refine lv_lconst (v := 0) hx hb d_S_row_14 (by decide) ?_
      rw [hQ]
      subst hres
      exact W.lret (v := 0) hx hb hr (fun t ht hW => ⟨⟨_, (), rfl, rfl, ⟨by rw [ht]; exact hP, va_K.moved hW.alike hK, hD⟩⟩, hS.F ht⟩) hS.2.2 d_S_row_15
def ks_wind0 (x : Int32) (y : Int32) : Int32 := (if (ks_in x) = 0 then 2000 else (if (ks_in y) = 0 then 2000 else 0))
set_option maxHeartbeats 4000000 in
set_option maxRecDepth 100000 in
theorem c_ks_wind0 (l : Launch) (dC : Nat → ClassId) (dI : Nat → Nat → Nat) (h0 : Nat) (ql : Nat) (wd : Int32) (qx : Nat) (qy : Nat) (qo : Nat) (qr : Nat) (md : Int32) (cp : Int32) (cc : Int32) (mc : Int32) (ed : Nat) (pl : va_W) (x : Int32) (y : Int32)  : pr_i l y_S_winding w_S_winding { frames := 4, cells := 0, slots := 0, locals := 103 } (dC, dI) cls9 ([(h0, .inr (0, [.int wd, .ref qx, .ref qy, .ref qo, .ref qr, .ref ql, .int md, .int cp, .int cc])), (ql, .inr (3, [.int mc, .ref ed, .int 0]))] ++ pl) [] [.ref h0, .int x, .int y] (ks_wind0 x y) := by
  intro sz
  refine Met.ofW (cc := b_S_winding) (maxL := 6) (ret := (some .int)) (by decide) rfl ?_
  intro p e s m args below meth c s₁ B hml hv
  obtain ⟨hargs, hsz, hP, hK⟩ := hv
  have hx := B.exec
  have hb := B.bytes
  have hr := B.returns
  have hts : ∀ w ∈ lw_w, w.before args s = true := fun w h => atoms_spec (ws := w_S_winding) B.pre w (List.mem_cons_of_mem _ h)
  have hown : s.vm.findClass R_S = some m.cls := findClass_of_methodNamed B.named
  have hlocks := B.notSynchronized
  subst hsz
  generalize hR : (headSpec w_S_winding { frames := 4, cells := 0, slots := 0, locals := 103 }).room = R
  generalize hAe : (fun q : Nat => s.heap.size ≤ q) = A
  have hA : ∀ q : Nat, s.heap.size ≤ q → A q := fun q h => by rw [← hAe]; exact h
  have hS : va_S A s.heap s.heap [] := va_S.rf
  generalize hRES : ks_wind0 x y = RES
  have hres := hRES
  have hl := lv_entry [.ref h0, .int x, .int y] (n := 6) (Nat.le_of_ble_eq_true rfl)
  have hent : entryFrame m args 6 = F0 m 0 (lg_sl [.ref h0, .int x, .int y] ++ List.replicate (6 - (lg_sl [.ref h0, .int x, .int y]).length) Slot.unset).toArray [] := by rw [hargs]; exact lg_entry_eq m [.ref h0, .int x, .int y] 6
  rw [hent]
  clear hent
  generalize (lg_sl [.ref h0, .int x, .int y] ++ List.replicate (6 - (lg_sl [.ref h0, .int x, .int y]).length) Slot.unset).toArray = ls at hl ⊢
  have hl : lv_has ls 6 [(0, .ref h0), (1, .int x), (2, .int y)] := hl
  have hP : va_P (dC, dI) cls9 ([(h0, .inr (0, [.int wd, .ref qx, .ref qy, .ref qo, .ref qr, .ref ql, .int md, .int cp, .int cc])), (ql, .inr (3, [.int mc, .ref ed, .int 0]))] ++ pl) s.heap := hP
  unfold ks_wind0 at hres
  generalize hQ : MQ below (va_Qi (fun x (_ : Unit) => x = RES) (fun _ _ => True) A) args s 0 0 A = Q
  replace hQ := hQ.symm
  refine lv_iload_n hx hb d_S_winding_0 rfl (lv_at hl 1 rfl) ?_
  refine cq_Si (As := [.int x]) (rest := []) ⟨hx, hb, hml, hown, hts⟩ (c_ks_in l dC dI x) (va_cwS 1 hts (gi_S tw_89 tw_90 tw_1 tw_91) rfl rfl rfl (by decide +kernel) ⟨(by rw [← hR]; exact Nat.le_of_ble_eq_true rfl), (by rw [← hR]; exact Nat.le_of_ble_eq_true rfl)⟩) rfl rfl hl.1 (Nat.le_of_ble_eq_true rfl) d_S_winding_1 ⟨Nat.zero_le _, Nat.zero_le _⟩ hP hS hA (fun H locs hP hS => ?_)
  refine lv_if_eq (tgt := 14) hx hb d_S_winding_4 rfl (fun h4 => ?_) (fun h4 => ?_)
  · rw [if_pos h4] at hres
    refine lv_sipush (v := 2000) hx hb d_S_winding_14 (by decide) ?_
    rw [hQ]
    exact W.iret (v := 2000) hx hb hr (fun t ht hW => ⟨⟨_, (), rfl, hres, trivial⟩, hS.F ht⟩) hS.2.2 d_S_winding_17
  · rw [if_neg h4] at hres
    refine lv_iload_n hx hb d_S_winding_7 rfl (lv_at hl 2 rfl) ?_
    refine cq_Si (As := [.int y]) (rest := []) ⟨hx, hb, hml, hown, hts⟩ (c_ks_in l dC dI y) (va_cwS 1 hts (gi_S tw_89 tw_90 tw_1 tw_91) rfl rfl rfl (by decide +kernel) ⟨(by rw [← hR]; exact Nat.le_of_ble_eq_true rfl), (by rw [← hR]; exact Nat.le_of_ble_eq_true rfl)⟩) rfl rfl hl.1 (Nat.le_of_ble_eq_true rfl) d_S_winding_8 ⟨Nat.zero_le _, Nat.zero_le _⟩ hP hS hA (fun H locs hP hS => ?_)
    refine lv_if_ne (tgt := 18) hx hb d_S_winding_11 rfl (fun h11 => ?_) (fun h11 => ?_)
    · rw [if_neg h11] at hres
      refine lv_iconst (v := 0) hx hb d_S_winding_18 (by decide) ?_
      refine lv_istore_n (lv' := [(3, .int 0), (0, .ref h0), (1, .int x), (2, .int y)]) hx hb d_S_winding_19 rfl hl (by decide) rfl (fun ls hl => ?_)
      refine lv_iconst (v := 0) hx hb d_S_winding_20 (by decide) ?_
      refine lv_istore (lv' := [(4, .int 0), (3, .int 0), (0, .ref h0), (1, .int x), (2, .int y)]) hx hb d_S_winding_21 hl (by decide) rfl (fun ls hl => ?_)
      refine lv_iload hx hb d_S_winding_23 (lv_at hl 0 rfl) ?_
      refine lv_aload_n hx hb d_S_winding_25 rfl (lv_at hl 2 rfl) ?_
      refine va_get (D := (dC, dI)) (ci := 0) (v := .ref ql) (C := R_S) (T := F_S) (N := 9) hx hb hts in_S hown hK hP 0 rfl rfl 5 (by decide) (hts _ tw_62) (fun _ h9 => h9) rfl d_S_winding_26 ?_
      refine cq_Vi (C := R_T) (T := F_T) (N := 3) (ci := 3) (As := []) (rest := [.int 0]) (w1 := [(ql, .inr (3, [.int mc, .ref ed, .int 0]))]) (tys := []) ⟨hx, hb, hml, hown, hts⟩ (c_kl_size l dC dI ql mc ed 0 ) (cwV 0 hts (gi_V tw_188 tw_189 tw_190 tw_5 tw_191) rfl rfl rfl (by decide +kernel) ⟨(by rw [← hR]; exact Nat.le_of_ble_eq_true rfl), (by rw [← hR]; exact Nat.le_of_ble_eq_true rfl)⟩) hK (hP.sub [1] rfl) (hK.sub [] rfl) 1 rfl rfl rfl rfl hl.1 (Nat.le_of_ble_eq_true rfl) d_S_winding_29 ⟨Nat.zero_le _, Nat.zero_le _⟩ hP hS hA (fun H locs hP hS => ?_)
      refine lv_icmp_ge (tgt := 81) hx hb d_S_winding_32 rfl (fun h32 => ?_) (fun h32 => ?_)
      · refine lv_iload_n hx hb d_S_winding_81 rfl (lv_at hl 1 rfl) ?_
        rw [hQ]
        exact W.iret (v := 0) hx hb hr (fun t ht hW => ⟨⟨_, (), rfl, hres, trivial⟩, hS.F ht⟩) hS.2.2 d_S_winding_82
      · exact absurd h32 (by decide)
    · rw [if_pos h11] at hres
      refine lv_sipush (v := 2000) hx hb d_S_winding_14 (by decide) ?_
      rw [hQ]
      exact W.iret (v := 2000) hx hb hr (fun t ht hW => ⟨⟨_, (), rfl, hres, trivial⟩, hS.F ht⟩) hS.2.2 d_S_winding_17
def ks_row0_j118 (i2 : Int32) (kL92 : (Int32) → (Int64) → Int64 × (Nat → Int32)) (t118_0 : Int64) : Int64 × (Nat → Int32) := (kL92 (i2 + 1) t118_0)
def ks_row0_L92 (wd : Int32) (rt : Nat → Int32) : Nat → (Int32) → (Int64) → Int64 × (Nat → Int32)
  | 0, _, _ => (0, fun _ => 0)
  | n+1, i2, in2 => (if wd ≤ i2 then (in2, (kj_fill rt 0)) else (if ((kj_fill rt 0) (Int32.toNatClampNeg i2)) = 0 then (ks_row0_j118 i2 (ks_row0_L92 wd rt n) in2) else (ks_row0_j118 i2 (ks_row0_L92 wd rt n) (in2 ||| (jv_lshl 1 i2)))))
def ks_row0 (wd : Int32) (rt : Nat → Int32) (jj : Int32) : Int64 × (Nat → Int32) := (if jj < (-300) then (0, rt) else (if jj ≤ 300 then (ks_row0_L92 wd rt 65 0 0) else (0, rt)))
set_option maxHeartbeats 4000000 in
set_option maxRecDepth 100000 in
theorem c_ks_row0 (l : Launch) (dC : Nat → ClassId) (dI : Nat → Nat → Nat) (h0 : Nat) (qr : Nat) (ql : Nat) (cI : ClassId) (qx : Nat) (qy : Nat) (qo : Nat) (md : Int32) (cp : Int32) (cc : Int32) (mc : Int32) (ed : Nat) (pl : va_W) (wd : Int32) (rt : Nat → Int32) (jj : Int32) (hwd : wok wd) : mc_l l y_S_row w_S_row { frames := 5, cells := 0, slots := 0, locals := 129 } (dC, dI) cls9 ([(h0, .inr (0, [.int wd, .ref qx, .ref qy, .ref qo, .ref qr, .ref ql, .int md, .int cp, .int cc])), (qr, .inl (cI, 64, .inl rt)), (ql, .inr (3, [.int mc, .ref ed, .int 0]))] ++ pl) ([(h0, .inr (0, [.int wd, .ref qx, .ref qy, .ref qo, .ref qr, .ref ql, .int md, .int cp, .int cc])), (qr, .inl (cI, 64, .inl ((ks_row0 wd rt jj).2))), (ql, .inr (3, [.int mc, .ref ed, .int 0]))] ++ pl) [(cI, .int)] [.ref h0, .int jj] ((ks_row0 wd rt jj).1) := by
  intro sz
  refine Met.ofW (cc := b_S_row) (maxL := 7) (ret := (some .long)) (by decide) rfl ?_
  intro p e s m args below meth c s₁ B hml hv
  obtain ⟨hargs, hsz, hP, hK, hD0⟩ := hv
  have hx := B.exec
  have hb := B.bytes
  have hr := B.returns
  have hts : ∀ w ∈ lw_w, w.before args s = true := fun w h => atoms_spec (ws := w_S_row) B.pre w (List.mem_cons_of_mem _ h)
  have hown : s.vm.findClass R_S = some m.cls := findClass_of_methodNamed B.named
  have hlocks := B.notSynchronized
  subst hsz
  have hD := hD0.self (sz := s.heap.size)
  generalize hR : (headSpec w_S_row { frames := 5, cells := 0, slots := 0, locals := 129 }).room = R
  generalize hAe : va_A ([(h0, .inr (0, [.int wd, .ref qx, .ref qy, .ref qo, .ref qr, .ref ql, .int md, .int cp, .int cc])), (qr, .inl (cI, 64, .inl rt)), (ql, .inr (3, [.int mc, .ref ed, .int 0]))] ++ pl) s.heap.size = A at hD ⊢
  have hA : ∀ q : Nat, s.heap.size ≤ q → A q := fun q h => by rw [← hAe]; exact Or.inr h
  have hS : va_S A s.heap s.heap [] := va_S.rf
  generalize hRES : ks_row0 wd rt jj = RES
  have hres := hRES
  have hl := lv_entry [.ref h0, .int jj] (n := 7) (Nat.le_of_ble_eq_true rfl)
  have hent : entryFrame m args 7 = F0 m 0 (lg_sl [.ref h0, .int jj] ++ List.replicate (7 - (lg_sl [.ref h0, .int jj]).length) Slot.unset).toArray [] := by rw [hargs]; exact lg_entry_eq m [.ref h0, .int jj] 7
  rw [hent]
  clear hent
  generalize (lg_sl [.ref h0, .int jj] ++ List.replicate (7 - (lg_sl [.ref h0, .int jj]).length) Slot.unset).toArray = ls at hl ⊢
  have hl : lv_has ls 7 [(0, .ref h0), (1, .int jj)] := hl
  have hP : va_P (dC, dI) cls9 ([(h0, .inr (0, [.int wd, .ref qx, .ref qy, .ref qo, .ref qr, .ref ql, .int md, .int cp, .int cc])), (qr, .inl (cI, 64, .inl rt)), (ql, .inr (3, [.int mc, .ref ed, .int 0]))] ++ pl) s.heap := hP
  have hD : va_D A ([(h0, .inr (0, [.int wd, .ref qx, .ref qy, .ref qo, .ref qr, .ref ql, .int md, .int cp, .int cc])), (qr, .inl (cI, 64, .inl rt)), (ql, .inr (3, [.int mc, .ref ed, .int 0]))] ++ pl) := hD
  clear hD0 hRES hAe
  unfold ks_row0 at hres
  generalize hQ : MQ below (va_Ql (fun x (_ : Unit) => x = RES.1) (fun _ t => va_P (dC, dI) cls9 ([(h0, .inr (0, [.int wd, .ref qx, .ref qy, .ref qo, .ref qr, .ref ql, .int md, .int cp, .int cc])), (qr, .inl (cI, 64, .inl RES.2)), (ql, .inr (3, [.int mc, .ref ed, .int 0]))] ++ pl) t.heap ∧ va_K (dC, dI) cls9 [(cI, .int)] t ∧ va_D A ([(h0, .inr (0, [.int wd, .ref qx, .ref qy, .ref qo, .ref qr, .ref ql, .int md, .int cp, .int cc])), (qr, .inl (cI, 64, .inl RES.2)), (ql, .inr (3, [.int mc, .ref ed, .int 0]))] ++ pl)) A) args s 0 0 A = Q
  replace hQ := hQ.symm
  refine lv_iload_n hx hb d_S_row_0 rfl (lv_at hl 1 rfl) ?_
  refine lv_sipush (v := (-300)) hx hb d_S_row_1 (by decide) ?_
  refine lv_icmp_lt (tgt := 14) hx hb d_S_row_4 rfl (fun h4 => ?_) (fun h4 => ?_)
  · rw [if_pos h4] at hres
    refine lv_lconst (v := 0) hx hb d_S_row_14 (by decide) ?_
    rw [hQ]
    subst hres
    exact W.lret (v := 0) hx hb hr (fun t ht hW => ⟨⟨_, (), rfl, rfl, ⟨by rw [ht]; exact hP, va_K.moved hW.alike hK, hD⟩⟩, hS.F ht⟩) hS.2.2 d_S_row_15
  · rw [if_neg h4] at hres
    refine lv_iload_n hx hb d_S_row_7 rfl (lv_at hl 1 rfl) ?_
    refine lv_sipush (v := 300) hx hb d_S_row_8 (by decide) ?_
    refine lv_icmp_le (tgt := 16) hx hb d_S_row_11 rfl (fun h11 => ?_) (fun h11 => ?_)
    · rw [if_pos h11] at hres
      refine lv_sipush (v := 128) hx hb d_S_row_16 (by decide) ?_
      refine lv_iload_n hx hb d_S_row_19 rfl (lv_at hl 1 rfl) ?_
      refine lv_imul hx hb d_S_row_20 ?_
      refine lv_bipush (v := 64) hx hb d_S_row_21 (by decide) ?_
      refine lv_iadd hx hb d_S_row_23 ?_
      refine lv_istore_n (lv' := [(2, .int ((128 * jj) + 64)), (0, .ref h0), (1, .int jj)]) hx hb d_S_row_24 rfl hl (by decide) rfl (fun ls hl => ?_)
      refine lv_lconst (v := 0) hx hb d_S_row_25 (by decide) ?_
      refine lv_lstore_n (lv' := [(3, .long 0), (2, .int ((128 * jj) + 64)), (0, .ref h0), (1, .int jj)]) hx hb d_S_row_26 rfl hl (by decide) rfl (fun ls hl => ?_)
      refine lv_aload_n hx hb d_S_row_27 rfl (lv_at hl 2 rfl) ?_
      refine va_get (D := (dC, dI)) (ci := 0) (v := .ref qr) (C := R_S) (T := F_S) (N := 9) hx hb hts in_S hown hK hP 0 rfl rfl 4 (by decide) (hts _ tw_61) (fun _ h9 => h9) rfl d_S_row_28 ?_
      refine lv_iconst (v := 0) hx hb d_S_row_31 (by decide) ?_
      refine cm_vQ (wc := [(qr, .inl (cI, 64, .inl rt))]) (wr := [(h0, .inr (0, [.int wd, .ref qx, .ref qy, .ref qo, .ref qr, .ref ql, .int md, .int cp, .int cc])), (ql, .inr (3, [.int mc, .ref ed, .int 0]))]) (W1 := [(qr, .inl (cI, 64, .inl (kj_fill rt 0)))]) (X2 := [(h0, .inr (0, [.int wd, .ref qx, .ref qy, .ref qo, .ref qr, .ref ql, .int md, .int cp, .int cc])), (qr, .inl (cI, 64, .inl (kj_fill rt 0))), (ql, .inr (3, [.int mc, .ref ed, .int 0]))]) (pl := pl) (va_runS (g := F0 m 32 ls [.int 0, .ref qr]) (As := [.ref qr, .int 0]) (rest := []) ⟨hx, hb, hml, hown, hts⟩ (c_kj_fill l dC dI qr cI rt 0  _) (va_cwS 2 hts (gi_S tw_258 tw_259 tw_9 tw_260) rfl rfl rfl (by decide +kernel) ⟨(by rw [← hR]; exact Nat.le_of_ble_eq_true rfl), (by rw [← hR]; exact Nat.le_of_ble_eq_true rfl)⟩) ⟨mc_blind, mc_pre (hP.sub [1] rfl) (hK.sub [0] rfl) (hD.sub [1] (by decide) rfl)⟩ rfl rfl hl.1 rfl (lv_room (Nat.le_of_ble_eq_true rfl)) d_S_row_32 ⟨Nat.zero_le _, Nat.zero_le _⟩) hP hD hS hA [1] [0, 2] [0, 2, 1] rfl rfl rfl (by decide) (by decide) rfl (by decide) (fun H locs hP hD hS => ?_)
      refine lv_iconst (v := 0) hx hb d_S_row_35 (by decide) ?_
      refine lv_istore (lv' := [(5, .int 0), (3, .long 0), (2, .int ((128 * jj) + 64)), (0, .ref h0), (1, .int jj)]) hx hb d_S_row_36 hl (by decide) rfl (fun ls hl => ?_)
      refine lv_iload hx hb d_S_row_38 (lv_at hl 0 rfl) ?_
      refine lv_aload_n hx hb d_S_row_40 rfl (lv_at hl 3 rfl) ?_
      refine va_get (D := (dC, dI)) (ci := 0) (v := .ref ql) (C := R_S) (T := F_S) (N := 9) hx hb hts in_S hown hK hP 0 rfl rfl 5 (by decide) (hts _ tw_62) (fun _ h9 => h9) rfl d_S_row_41 ?_
      refine cq_Vi (C := R_T) (T := F_T) (N := 3) (ci := 3) (As := []) (rest := [.int 0]) (w1 := [(ql, .inr (3, [.int mc, .ref ed, .int 0]))]) (tys := []) ⟨hx, hb, hml, hown, hts⟩ (c_kl_size l dC dI ql mc ed 0 ) (cwV 0 hts (gi_V tw_188 tw_189 tw_190 tw_5 tw_191) rfl rfl rfl (by decide +kernel) ⟨(by rw [← hR]; exact Nat.le_of_ble_eq_true rfl), (by rw [← hR]; exact Nat.le_of_ble_eq_true rfl)⟩) hK (hP.sub [2] rfl) (hK.sub [] rfl) 2 rfl rfl rfl rfl hl.1 (Nat.le_of_ble_eq_true rfl) d_S_row_44 ⟨Nat.zero_le _, Nat.zero_le _⟩ hP hS hA (fun H locs hP hS => ?_)
      refine lv_icmp_ge (tgt := 89) hx hb d_S_row_47 rfl (fun h47 => ?_) (fun h47 => ?_)
      · refine lv_iconst (v := 0) hx hb d_S_row_89 (by decide) ?_
        refine lv_istore (lv' := [(5, .int 0), (3, .long 0), (2, .int ((128 * jj) + 64)), (0, .ref h0), (1, .int jj)]) hx hb d_S_row_90 hl (by decide) rfl (fun ls hl => ?_)
        have L92 : ∀ (n : Nat) (i2 : Int32) (in2 : Int64), (∃ j : Nat, j ≤ 64 ∧ i2 = nI j) → 64 - i2.toNatClampNeg < n → ks_row0_L92 wd rt n i2 in2 = RES → ∀ (ls : Array Slot) (H : Heap) (locs : List Loc), lv_has ls 7 [(5, .int i2), (3, .long in2), (0, .ref h0)] → va_P (dC, dI) cls9 ([(h0, .inr (0, [.int wd, .ref qx, .ref qy, .ref qo, .ref qr, .ref ql, .int md, .int cp, .int cc])), (qr, .inl (cI, 64, .inl (kj_fill rt 0))), (ql, .inr (3, [.int mc, .ref ed, .int 0]))] ++ pl) H → va_D A ([(h0, .inr (0, [.int wd, .ref qx, .ref qy, .ref qo, .ref qr, .ref ql, .int md, .int cp, .int cc])), (qr, .inl (cI, 64, .inl (kj_fill rt 0))), (ql, .inr (3, [.int mc, .ref ed, .int 0]))] ++ pl) → va_S A s.heap H locs → W p l e R s m args below meth c H locs 0 0 Q (F0 m 92 ls []) := by
          intro n
          induction n with
          | zero => intro i2 in2 hinv hmu; exact absurd hmu (Nat.not_lt_zero _)
          | succ n ih =>
            intro i2 in2 hinv hmu hres ls H locs hl hP hD hS
            rw [ks_row0_L92] at hres
            refine lv_iload hx hb d_S_row_92 (lv_at hl 0 rfl) ?_
            refine lv_aload_n hx hb d_S_row_94 rfl (lv_at hl 2 rfl) ?_
            refine va_get (D := (dC, dI)) (ci := 0) (v := .int wd) (C := R_S) (T := F_S) (N := 9) hx hb hts in_S hown hK hP 0 rfl rfl 0 (by decide) (hts _ tw_57) (fun _ h9 => h9) rfl d_S_row_95 ?_
            refine lv_icmp_ge (tgt := 124) hx hb d_S_row_98 rfl (fun h98 => ?_) (fun h98 => ?_)
            · rw [if_pos h98] at hres
              refine lv_lload_n hx hb d_S_row_124 rfl (lv_at hl 1 rfl) ?_
              rw [hQ]
              subst hres
              exact W.lret (v := in2) hx hb hr (fun t ht hW => ⟨⟨_, (), rfl, rfl, ⟨by rw [ht]; exact hP, va_K.moved hW.alike hK, hD⟩⟩, hS.F ht⟩) hS.2.2 d_S_row_125
            · rw [if_neg h98] at hres
              refine lv_aload_n hx hb d_S_row_101 rfl (lv_at hl 2 rfl) ?_
              refine va_get (D := (dC, dI)) (ci := 0) (v := .ref qr) (C := R_S) (T := F_S) (N := 9) hx hb hts in_S hown hK hP 0 rfl rfl 4 (by decide) (hts _ tw_61) (fun _ h9 => h9) rfl d_S_row_102 ?_
              refine lv_iload hx hb d_S_row_105 (lv_at hl 0 rfl) ?_
              refine va_iald hx hb hK hP 1 0 rfl rfl (by obtain ⟨w9, hw9, ew⟩ := hwd; obtain ⟨j, g1, g2⟩ := hinv; have g4 : j < w9 := nI_nle_lt (by omega) (by rw [ew, g2] at h98; exact h98); rw [g2]; exact vp_in_nI (by omega) (by decide)) d_S_row_107 ?_
              have J118 : ∀ (t118_0 : Int64), ks_row0_j118 i2 (ks_row0_L92 wd rt n) t118_0 = RES → ∀ (ls : Array Slot) (H : Heap) (locs : List Loc), lv_has ls 7 [(5, .int i2), (3, .long t118_0), (0, .ref h0)] → va_P (dC, dI) cls9 ([(h0, .inr (0, [.int wd, .ref qx, .ref qy, .ref qo, .ref qr, .ref ql, .int md, .int cp, .int cc])), (qr, .inl (cI, 64, .inl (kj_fill rt 0))), (ql, .inr (3, [.int mc, .ref ed, .int 0]))] ++ pl) H → va_D A ([(h0, .inr (0, [.int wd, .ref qx, .ref qy, .ref qo, .ref qr, .ref ql, .int md, .int cp, .int cc])), (qr, .inl (cI, 64, .inl (kj_fill rt 0))), (ql, .inr (3, [.int mc, .ref ed, .int 0]))] ++ pl) → va_S A s.heap H locs → W p l e R s m args below meth c H locs 0 0 Q (F0 m 118 ls []) := by
                intro t118_0 hres ls H locs hl hP hD hS
                unfold ks_row0_j118 at hres
                refine lv_iinc (k := 0) (v := i2 + 1) (lv' := [(5, .int (i2 + 1)), (3, .long t118_0), (0, .ref h0)]) hx hb d_S_row_118 hl rfl rfl (by decide) rfl (fun ls hl => ?_)
                refine lv_goto (tgt := 92) hx hb d_S_row_121 rfl ?_
                exact ih (i2 + 1) t118_0 (by obtain ⟨w9, hw9, ew⟩ := hwd; obtain ⟨j, g1, g2⟩ := hinv; have g4 : j < w9 := nI_nle_lt (by omega) (by rw [ew, g2] at h98; exact h98); exact ⟨j + 1, by omega, by rw [g2, nI_1]⟩) (by obtain ⟨w9, hw9, ew⟩ := hwd; obtain ⟨j, g1, g2⟩ := hinv; have g4 : j < w9 := nI_nle_lt (by omega) (by rw [ew, g2] at h98; exact h98); rw [g2, nI_clamp (by omega)] at hmu; rw [g2, nI_1, nI_clamp (by omega)]; omega) hres ls _ _ (lv_sub hl [0, 1, 2] rfl) hP hD hS
              refine lv_if_eq (tgt := 118) hx hb d_S_row_108 rfl (fun h108 => ?_) (fun h108 => ?_)
              · rw [if_pos h108] at hres
                exact J118 in2 hres ls _ _ (lv_sub hl [0, 1, 2] rfl) hP hD hS
              · rw [if_neg h108] at hres
                refine lv_lload_n hx hb d_S_row_111 rfl (lv_at hl 1 rfl) ?_
                refine lv_lconst (v := 1) hx hb d_S_row_112 (by decide) ?_
                refine lv_iload hx hb d_S_row_113 (lv_at hl 0 rfl) ?_
                refine lv_lshl (v := jv_lshl 1 i2) hx hb d_S_row_115 rfl ?_
                refine lv_lor hx hb d_S_row_116 ?_
                refine lv_lstore_n (lv' := [(3, .long (in2 ||| (jv_lshl 1 i2))), (5, .int i2), (0, .ref h0)]) hx hb d_S_row_117 rfl hl (by decide) rfl (fun ls hl => ?_)
                exact J118 (in2 ||| (jv_lshl 1 i2)) hres ls _ _ (lv_sub hl [1, 0, 2] rfl) hP hD hS
        exact L92 65 0 0 (by exact ⟨0, by omega, rfl⟩) (by decide) hres ls _ _ (lv_sub hl [0, 1, 3] rfl) hP hD hS
      · exact absurd h47 (by decide)
    · rw [if_neg h11] at hres
      refine lv_lconst (v := 0) hx hb d_S_row_14 (by decide) ?_
      rw [hQ]
      subst hres
      exact W.lret (v := 0) hx hb hr (fun t ht hW => ⟨⟨_, (), rfl, rfl, ⟨by rw [ht]; exact hP, va_K.moved hW.alike hK, hD⟩⟩, hS.F ht⟩) hS.2.2 d_S_row_15
def ks_clear_k12 (cc : Int32) (x9 : Int32 × Int32 × (Nat → Option Nat)) : Int32 × Int32 × Int32 × Int32 × Int32 × Int32 × (Nat → Option Nat) := (cc, 0, 0, 0, x9.1, x9.2.1, x9.2.2)
def ks_clear (md : Int32) (cp : Int32) (cc : Int32) (mc : Int32) (sz : Int32) (g : Nat → Option Nat) (cap : Nat) : Int32 × Int32 × Int32 × Int32 × Int32 × Int32 × (Nat → Option Nat) := (ks_clear_k12 cc (kl_clear mc sz g cap))
set_option maxHeartbeats 4000000 in
set_option maxRecDepth 100000 in
theorem c_ks_clear (l : Launch) (dC : Nat → ClassId) (dI : Nat → Nat → Nat) (h0 : Nat) (ql : Nat) (ed : Nat) (cO : ClassId) (wd : Int32) (qx : Nat) (qy : Nat) (qo : Nat) (qr : Nat) (pl : va_W) (md : Int32) (cp : Int32) (cc : Int32) (mc : Int32) (sz : Int32) (g : Nat → Option Nat) (cap : Nat) (hsz9 : lsz cap sz) : mc_i l y_S_clear w_S_clear { frames := 1, cells := 0, slots := 0, locals := 23 } (dC, dI) cls9 ([(h0, .inr (0, [.int wd, .ref qx, .ref qy, .ref qo, .ref qr, .ref ql, .int md, .int cp, .int cc])), (ql, .inr (3, [.int mc, .ref ed, .int sz])), (ed, .inl (cO, cap, .inr (.inr (.inr (.inr g)))))] ++ pl) ([(h0, .inr (0, [.int wd, .ref qx, .ref qy, .ref qo, .ref qr, .ref ql, .int ((ks_clear md cp cc mc sz g cap).2.1), .int ((ks_clear md cp cc mc sz g cap).2.2.1), .int ((ks_clear md cp cc mc sz g cap).2.2.2.1)])), (ql, .inr (3, [.int ((ks_clear md cp cc mc sz g cap).2.2.2.2.1), .ref ed, .int ((ks_clear md cp cc mc sz g cap).2.2.2.2.2.1)])), (ed, .inl (cO, cap, .inr (.inr (.inr (.inr ((ks_clear md cp cc mc sz g cap).2.2.2.2.2.2))))))] ++ pl) [(cO, (.object "java/lang/Object"))] [.ref h0] ((ks_clear md cp cc mc sz g cap).1) := by
  intro sz
  refine Met.ofW (cc := b_S_clear) (maxL := 2) (ret := (some .int)) (by decide) rfl ?_
  intro p e s m args below meth c s₁ B hml hv
  obtain ⟨hargs, hsz, hP, hK, hD0⟩ := hv
  have hx := B.exec
  have hb := B.bytes
  have hr := B.returns
  have hts : ∀ w ∈ lw_w, w.before args s = true := fun w h => atoms_spec (ws := w_S_clear) B.pre w (List.mem_cons_of_mem _ h)
  have hown : s.vm.findClass R_S = some m.cls := findClass_of_methodNamed B.named
  have hlocks := B.notSynchronized
  subst hsz
  have hD := hD0.self (sz := s.heap.size)
  generalize hR : (headSpec w_S_clear { frames := 1, cells := 0, slots := 0, locals := 23 }).room = R
  generalize hAe : va_A ([(h0, .inr (0, [.int wd, .ref qx, .ref qy, .ref qo, .ref qr, .ref ql, .int md, .int cp, .int cc])), (ql, .inr (3, [.int mc, .ref ed, .int sz])), (ed, .inl (cO, cap, .inr (.inr (.inr (.inr g)))))] ++ pl) s.heap.size = A at hD ⊢
  have hA : ∀ q : Nat, s.heap.size ≤ q → A q := fun q h => by rw [← hAe]; exact Or.inr h
  have hS : va_S A s.heap s.heap [] := va_S.rf
  generalize hRES : ks_clear md cp cc mc sz g cap = RES
  have hres := hRES
  have hl := lv_entry [.ref h0] (n := 2) (Nat.le_of_ble_eq_true rfl)
  have hent : entryFrame m args 2 = F0 m 0 (lg_sl [.ref h0] ++ List.replicate (2 - (lg_sl [.ref h0]).length) Slot.unset).toArray [] := by rw [hargs]; exact lg_entry_eq m [.ref h0] 2
  rw [hent]
  clear hent
  generalize (lg_sl [.ref h0] ++ List.replicate (2 - (lg_sl [.ref h0]).length) Slot.unset).toArray = ls at hl ⊢
  have hl : lv_has ls 2 [(0, .ref h0)] := hl
  have hP : va_P (dC, dI) cls9 ([(h0, .inr (0, [.int wd, .ref qx, .ref qy, .ref qo, .ref qr, .ref ql, .int md, .int cp, .int cc])), (ql, .inr (3, [.int mc, .ref ed, .int sz])), (ed, .inl (cO, cap, .inr (.inr (.inr (.inr g)))))] ++ pl) s.heap := hP
  have hD : va_D A ([(h0, .inr (0, [.int wd, .ref qx, .ref qy, .ref qo, .ref qr, .ref ql, .int md, .int cp, .int cc])), (ql, .inr (3, [.int mc, .ref ed, .int sz])), (ed, .inl (cO, cap, .inr (.inr (.inr (.inr g)))))] ++ pl) := hD
  clear hD0 hRES hAe
  unfold ks_clear at hres
  generalize hQ : MQ below (va_Qi (fun x (_ : Unit) => x = RES.1) (fun _ t => va_P (dC, dI) cls9 ([(h0, .inr (0, [.int wd, .ref qx, .ref qy, .ref qo, .ref qr, .ref ql, .int RES.2.1, .int RES.2.2.1, .int RES.2.2.2.1])), (ql, .inr (3, [.int RES.2.2.2.2.1, .ref ed, .int RES.2.2.2.2.2.1])), (ed, .inl (cO, cap, .inr (.inr (.inr (.inr RES.2.2.2.2.2.2)))))] ++ pl) t.heap ∧ va_K (dC, dI) cls9 [(cO, (.object "java/lang/Object"))] t ∧ va_D A ([(h0, .inr (0, [.int wd, .ref qx, .ref qy, .ref qo, .ref qr, .ref ql, .int RES.2.1, .int RES.2.2.1, .int RES.2.2.2.1])), (ql, .inr (3, [.int RES.2.2.2.2.1, .ref ed, .int RES.2.2.2.2.2.1])), (ed, .inl (cO, cap, .inr (.inr (.inr (.inr RES.2.2.2.2.2.2)))))] ++ pl)) A) args s 0 0 A = Q
  replace hQ := hQ.symm
  refine lv_aload_n hx hb d_S_clear_0 rfl (lv_at hl 0 rfl) ?_
  refine va_get (D := (dC, dI)) (ci := 0) (v := .int cc) (C := R_S) (T := F_S) (N := 9) hx hb hts in_S hown hK hP 0 rfl rfl 8 (by decide) (hts _ tw_65) (fun _ h9 => h9) rfl d_S_clear_1 ?_
  refine lv_istore_n (lv' := [(1, .int cc), (0, .ref h0)]) hx hb d_S_clear_4 rfl hl (by decide) rfl (fun ls hl => ?_)
  refine lv_aload_n hx hb d_S_clear_5 rfl (lv_at hl 1 rfl) ?_
  refine va_get (D := (dC, dI)) (ci := 0) (v := .ref ql) (C := R_S) (T := F_S) (N := 9) hx hb hts in_S hown hK hP 0 rfl rfl 5 (by decide) (hts _ tw_62) (fun _ h9 => h9) rfl d_S_clear_6 ?_
  refine cm_vQ (wc := [(ql, .inr (3, [.int mc, .ref ed, .int sz])), (ed, .inl (cO, cap, .inr (.inr (.inr (.inr g)))))]) (wr := [(h0, .inr (0, [.int wd, .ref qx, .ref qy, .ref qo, .ref qr, .ref ql, .int md, .int cp, .int cc]))]) (W1 := [(ql, .inr (3, [.int ((kl_clear mc sz g cap).1), .ref ed, .int ((kl_clear mc sz g cap).2.1)])), (ed, .inl (cO, cap, .inr (.inr (.inr (.inr ((kl_clear mc sz g cap).2.2))))))]) (X2 := [(h0, .inr (0, [.int wd, .ref qx, .ref qy, .ref qo, .ref qr, .ref ql, .int md, .int cp, .int cc])), (ql, .inr (3, [.int ((kl_clear mc sz g cap).1), .ref ed, .int ((kl_clear mc sz g cap).2.1)])), (ed, .inl (cO, cap, .inr (.inr (.inr (.inr ((kl_clear mc sz g cap).2.2))))))]) (pl := pl) (va_runV (g := F0 m 9 ls [.ref ql]) (As := []) (rest := []) ⟨hx, hb, hml, hown, hts⟩ (c_kl_clear l dC dI ql ed cO mc sz g cap (by exact hsz9) _) (cwV 0 hts (gi_V tw_180 tw_181 tw_182 tw_5 tw_183) rfl rfl rfl (by decide +kernel) ⟨(by rw [← hR]; exact Nat.le_of_ble_eq_true rfl), (by rw [← hR]; exact Nat.le_of_ble_eq_true rfl)⟩) ⟨mc_blind, va_recv (ci := 3) (q := (R_T, F_T, 3)) hK hP rfl (q0 := 1) rfl, mc_pre (hP.sub [1, 2] rfl) (hK.sub [0] rfl) (hD.sub [1, 2] (by decide) rfl)⟩ rfl rfl hl.1 rfl (lv_room (Nat.le_of_ble_eq_true rfl)) d_S_clear_9 ⟨Nat.zero_le _, Nat.zero_le _⟩) hP hD hS hA [1, 2] [0] [0, 1, 2] rfl rfl rfl (by decide) (by decide) rfl (by decide) (fun H locs hP hD hS => ?_)
  have K12 : ∀ (x9 : Int32 × Int32 × (Nat → Option Nat)), ks_clear_k12 cc x9 = RES → ∀ (ls : Array Slot) (H : Heap) (locs : List Loc), lv_has ls 2 [(1, .int cc), (0, .ref h0)] → va_P (dC, dI) cls9 ([(h0, .inr (0, [.int wd, .ref qx, .ref qy, .ref qo, .ref qr, .ref ql, .int md, .int cp, .int cc])), (ql, .inr (3, [.int x9.1, .ref ed, .int x9.2.1])), (ed, .inl (cO, cap, .inr (.inr (.inr (.inr x9.2.2)))))] ++ pl) H → va_D A ([(h0, .inr (0, [.int wd, .ref qx, .ref qy, .ref qo, .ref qr, .ref ql, .int md, .int cp, .int cc])), (ql, .inr (3, [.int x9.1, .ref ed, .int x9.2.1])), (ed, .inl (cO, cap, .inr (.inr (.inr (.inr x9.2.2)))))] ++ pl) → va_S A s.heap H locs → W p l e R s m args below meth c H locs 0 0 Q (F0 m 12 ls []) := by
    intro x9 hres ls H locs hl hP hD hS
    unfold ks_clear_k12 at hres
    refine lv_aload_n hx hb d_S_clear_12 rfl (lv_at hl 1 rfl) ?_
    refine lv_iconst (v := 0) hx hb d_S_clear_13 (by decide) ?_
    refine va_put (D := (dC, dI)) (ci := 0) (v := .int 0) (ty := .int) (C := R_S) (T := F_S) (N := 9) hx hb hts in_S tf_S tok_S n_S hown hK hP hD hS 0 rfl rfl 6 (by decide) (hts _ tw_63) (fun _ h9 => h9) rfl (by decide +kernel) (by rfl) (by rfl) (Nat.le_of_ble_eq_true rfl) d_S_clear_14 (fun H locs hP hD hS => ?_)
    have hP : va_P (dC, dI) cls9 ([(h0, .inr (0, [.int wd, .ref qx, .ref qy, .ref qo, .ref qr, .ref ql, .int 0, .int cp, .int cc])), (ql, .inr (3, [.int x9.1, .ref ed, .int x9.2.1])), (ed, .inl (cO, cap, .inr (.inr (.inr (.inr x9.2.2)))))] ++ pl) H := hP
    have hD : va_D A ([(h0, .inr (0, [.int wd, .ref qx, .ref qy, .ref qo, .ref qr, .ref ql, .int 0, .int cp, .int cc])), (ql, .inr (3, [.int x9.1, .ref ed, .int x9.2.1])), (ed, .inl (cO, cap, .inr (.inr (.inr (.inr x9.2.2)))))] ++ pl) := hD
    refine lv_aload_n hx hb d_S_clear_17 rfl (lv_at hl 1 rfl) ?_
    refine lv_iconst (v := 0) hx hb d_S_clear_18 (by decide) ?_
    refine va_put (D := (dC, dI)) (ci := 0) (v := .int 0) (ty := .int) (C := R_S) (T := F_S) (N := 9) hx hb hts in_S tf_S tok_S n_S hown hK hP hD hS 0 rfl rfl 7 (by decide) (hts _ tw_64) (fun _ h9 => h9) rfl (by decide +kernel) (by rfl) (by rfl) (Nat.le_of_ble_eq_true rfl) d_S_clear_19 (fun H locs hP hD hS => ?_)
    have hP : va_P (dC, dI) cls9 ([(h0, .inr (0, [.int wd, .ref qx, .ref qy, .ref qo, .ref qr, .ref ql, .int 0, .int 0, .int cc])), (ql, .inr (3, [.int x9.1, .ref ed, .int x9.2.1])), (ed, .inl (cO, cap, .inr (.inr (.inr (.inr x9.2.2)))))] ++ pl) H := hP
    have hD : va_D A ([(h0, .inr (0, [.int wd, .ref qx, .ref qy, .ref qo, .ref qr, .ref ql, .int 0, .int 0, .int cc])), (ql, .inr (3, [.int x9.1, .ref ed, .int x9.2.1])), (ed, .inl (cO, cap, .inr (.inr (.inr (.inr x9.2.2)))))] ++ pl) := hD
    refine lv_aload_n hx hb d_S_clear_22 rfl (lv_at hl 1 rfl) ?_
    refine lv_iconst (v := 0) hx hb d_S_clear_23 (by decide) ?_
    refine va_put (D := (dC, dI)) (ci := 0) (v := .int 0) (ty := .int) (C := R_S) (T := F_S) (N := 9) hx hb hts in_S tf_S tok_S n_S hown hK hP hD hS 0 rfl rfl 8 (by decide) (hts _ tw_65) (fun _ h9 => h9) rfl (by decide +kernel) (by rfl) (by rfl) (Nat.le_of_ble_eq_true rfl) d_S_clear_24 (fun H locs hP hD hS => ?_)
    have hP : va_P (dC, dI) cls9 ([(h0, .inr (0, [.int wd, .ref qx, .ref qy, .ref qo, .ref qr, .ref ql, .int 0, .int 0, .int 0])), (ql, .inr (3, [.int x9.1, .ref ed, .int x9.2.1])), (ed, .inl (cO, cap, .inr (.inr (.inr (.inr x9.2.2)))))] ++ pl) H := hP
    have hD : va_D A ([(h0, .inr (0, [.int wd, .ref qx, .ref qy, .ref qo, .ref qr, .ref ql, .int 0, .int 0, .int 0])), (ql, .inr (3, [.int x9.1, .ref ed, .int x9.2.1])), (ed, .inl (cO, cap, .inr (.inr (.inr (.inr x9.2.2)))))] ++ pl) := hD
    refine lv_iload_n hx hb d_S_clear_27 rfl (lv_at hl 0 rfl) ?_
    rw [hQ]
    subst hres
    exact W.iret (v := cc) hx hb hr (fun t ht hW => ⟨⟨_, (), rfl, rfl, ⟨by rw [ht]; exact hP, va_K.moved hW.alike hK, hD⟩⟩, hS.F ht⟩) hS.2.2 d_S_clear_28
  exact K12 (kl_clear mc sz g cap) hres ls _ _ (lv_sub hl [0, 1] rfl) hP hD hS
def kl_clear0 (mc : Int32) : Int32 := (mc + 1)
set_option maxHeartbeats 4000000 in
set_option maxRecDepth 100000 in
theorem c_kl_clear0 (l : Launch) (dC : Nat → ClassId) (dI : Nat → Nat → Nat) (h0 : Nat) (ed : Nat) (mc : Int32)  : mc_v l y_T_clear w_T_clear { frames := 0, cells := 0, slots := 0, locals := 0 } (dC, dI) cls9 [(h0, .inr (3, [.int mc, .ref ed, .int 0]))] [(h0, .inr (3, [.int (kl_clear0 mc), .ref ed, .int 0]))] [] [.ref h0] := by
  intro sz
  refine Met.ofW (cc := b_T_clear) (maxL := 4) (ret := none) (by decide) rfl ?_
  intro p e s m args below meth c s₁ B hml hv
  obtain ⟨hargs, hsz, hP, hK, hD0⟩ := hv
  have hx := B.exec
  have hb := B.bytes
  have hr := B.returns
  have hts : ∀ w ∈ lw_w, w.before args s = true := fun w h => atoms_spec (ws := w_T_clear) B.pre w (List.mem_cons_of_mem _ h)
  have hown : s.vm.findClass R_T = some m.cls := findClass_of_methodNamed B.named
  have hlocks := B.notSynchronized
  subst hsz
  have hD := hD0.self (sz := s.heap.size)
  generalize hR : (headSpec w_T_clear { frames := 0, cells := 0, slots := 0, locals := 0 }).room = R
  generalize hAe : va_A [(h0, .inr (3, [.int mc, .ref ed, .int 0]))] s.heap.size = A at hD ⊢
  have hA : ∀ q : Nat, s.heap.size ≤ q → A q := fun q h => by rw [← hAe]; exact Or.inr h
  have hS : va_S A s.heap s.heap [] := va_S.rf
  generalize hRES : kl_clear0 mc = RES
  have hres := hRES
  have hl := lv_entry [.ref h0] (n := 4) (Nat.le_of_ble_eq_true rfl)
  have hent : entryFrame m args 4 = F0 m 0 (lg_sl [.ref h0] ++ List.replicate (4 - (lg_sl [.ref h0]).length) Slot.unset).toArray [] := by rw [hargs]; exact lg_entry_eq m [.ref h0] 4
  rw [hent]
  clear hent
  generalize (lg_sl [.ref h0] ++ List.replicate (4 - (lg_sl [.ref h0]).length) Slot.unset).toArray = ls at hl ⊢
  have hl : lv_has ls 4 [(0, .ref h0)] := hl
  have hP : va_P (dC, dI) cls9 [(h0, .inr (3, [.int mc, .ref ed, .int 0]))] s.heap := hP
  have hD : va_D A [(h0, .inr (3, [.int mc, .ref ed, .int 0]))] := hD
  clear hD0 hRES hAe
  unfold kl_clear0 at hres
  generalize hQ : MQ below (va_Qv (fun (_ : Unit) => True) (fun _ t => va_P (dC, dI) cls9 [(h0, .inr (3, [.int RES, .ref ed, .int 0]))] t.heap ∧ va_K (dC, dI) cls9 [] t ∧ va_D A [(h0, .inr (3, [.int RES, .ref ed, .int 0]))]) A) args s 0 0 A = Q
  replace hQ := hQ.symm
  refine lv_aload_n hx hb d_T_clear_0 rfl (lv_at hl 0 rfl) ?_
  refine lv_dup hx hb d_T_clear_1 rfl ?_
  refine va_get (D := (dC, dI)) (ci := 3) (v := .int mc) (C := R_T) (T := F_T) (N := 3) hx hb hts in_T hown hK hP 0 rfl rfl 0 (by decide) (hts _ tw_46) (fun x9 h9 => u_same (hts _ tw_47) x9 h9) rfl d_T_clear_2 ?_
  refine lv_iconst (v := 1) hx hb d_T_clear_5 (by decide) ?_
  refine lv_iadd hx hb d_T_clear_6 ?_
  refine va_put (D := (dC, dI)) (ci := 3) (v := .int (mc + 1)) (ty := .int) (C := R_T) (T := F_T) (N := 3) hx hb hts in_T tf_T tok_T n_T hown hK hP hD hS 0 rfl rfl 0 (by decide) (hts _ tw_46) (fun x9 h9 => u_same (hts _ tw_47) x9 h9) rfl (by decide +kernel) (by rfl) (by rfl) (Nat.le_of_ble_eq_true rfl) d_T_clear_7 (fun H locs hP hD hS => ?_)
  have hP : va_P (dC, dI) cls9 [(h0, .inr (3, [.int (mc + 1), .ref ed, .int 0]))] H := hP
  have hD : va_D A [(h0, .inr (3, [.int (mc + 1), .ref ed, .int 0]))] := hD
  refine lv_aload_n hx hb d_T_clear_10 rfl (lv_at hl 0 rfl) ?_
  refine va_get (D := (dC, dI)) (ci := 3) (v := .ref ed) (C := R_T) (T := F_T) (N := 3) hx hb hts in_T hown hK hP 0 rfl rfl 1 (by decide) (hts _ tw_43) (fun _ h9 => h9) rfl d_T_clear_11 ?_
  refine lv_astore_n (lv' := [(1, .ref ed), (0, .ref h0)]) hx hb d_T_clear_14 rfl hl (by decide) rfl (fun ls hl => ?_)
  refine lv_aload_n hx hb d_T_clear_15 rfl (lv_at hl 1 rfl) ?_
  refine va_get (D := (dC, dI)) (ci := 3) (v := .int 0) (C := R_T) (T := F_T) (N := 3) hx hb hts in_T hown hK hP 0 rfl rfl 2 (by decide) (hts _ tw_44) (fun _ h9 => h9) rfl d_T_clear_16 ?_
  refine lv_istore_n (lv' := [(2, .int 0), (1, .ref ed), (0, .ref h0)]) hx hb d_T_clear_19 rfl hl (by decide) rfl (fun ls hl => ?_)
  refine lv_aload_n hx hb d_T_clear_20 rfl (lv_at hl 2 rfl) ?_
  refine lv_iconst (v := 0) hx hb d_T_clear_21 (by decide) ?_
  refine lv_dup_x1 hx hb d_T_clear_22 rfl rfl ?_
  refine va_put (D := (dC, dI)) (ci := 3) (v := .int 0) (ty := .int) (C := R_T) (T := F_T) (N := 3) hx hb hts in_T tf_T tok_T n_T hown hK hP hD hS 0 rfl rfl 2 (by decide) (hts _ tw_44) (fun _ h9 => h9) rfl (by decide +kernel) (by rfl) (by rfl) (Nat.le_of_ble_eq_true rfl) d_T_clear_23 (fun H locs hP hD hS => ?_)
  have hP : va_P (dC, dI) cls9 [(h0, .inr (3, [.int (mc + 1), .ref ed, .int 0]))] H := hP
  have hD : va_D A [(h0, .inr (3, [.int (mc + 1), .ref ed, .int 0]))] := hD
  refine lv_istore_n (lv' := [(3, .int 0), (2, .int 0), (1, .ref ed), (0, .ref h0)]) hx hb d_T_clear_26 rfl hl (by decide) rfl (fun ls hl => ?_)
  refine lv_iload_n hx hb d_T_clear_27 rfl (lv_at hl 0 rfl) ?_
  refine lv_iload_n hx hb d_T_clear_28 rfl (lv_at hl 1 rfl) ?_
  refine lv_icmp_ge (tgt := 42) hx hb d_T_clear_29 rfl (fun h29 => ?_) (fun h29 => ?_)
  · rw [hQ]
    subst hres
    exact W.vret hx hb hr (fun t ht hW => ⟨⟨(), rfl, trivial, ⟨by rw [ht]; exact hP, va_K.moved hW.alike hK, hD⟩⟩, hS.F ht⟩) hS.2.2 d_T_clear_42
  · exact absurd h29 (by decide)
def ks_clear0 (md : Int32) (cp : Int32) (cc : Int32) (mc : Int32) : Int32 × Int32 × Int32 × Int32 × Int32 := (cc, 0, 0, 0, (kl_clear0 mc))
set_option maxHeartbeats 4000000 in
set_option maxRecDepth 100000 in
theorem c_ks_clear0 (l : Launch) (dC : Nat → ClassId) (dI : Nat → Nat → Nat) (h0 : Nat) (ql : Nat) (wd : Int32) (qx : Nat) (qy : Nat) (qo : Nat) (qr : Nat) (ed : Nat) (pl : va_W) (md : Int32) (cp : Int32) (cc : Int32) (mc : Int32)  : mc_i l y_S_clear w_S_clear { frames := 1, cells := 0, slots := 0, locals := 23 } (dC, dI) cls9 ([(h0, .inr (0, [.int wd, .ref qx, .ref qy, .ref qo, .ref qr, .ref ql, .int md, .int cp, .int cc])), (ql, .inr (3, [.int mc, .ref ed, .int 0]))] ++ pl) ([(h0, .inr (0, [.int wd, .ref qx, .ref qy, .ref qo, .ref qr, .ref ql, .int ((ks_clear0 md cp cc mc).2.1), .int ((ks_clear0 md cp cc mc).2.2.1), .int ((ks_clear0 md cp cc mc).2.2.2.1)])), (ql, .inr (3, [.int ((ks_clear0 md cp cc mc).2.2.2.2), .ref ed, .int 0]))] ++ pl) [] [.ref h0] ((ks_clear0 md cp cc mc).1) := by
  intro sz
  refine Met.ofW (cc := b_S_clear) (maxL := 2) (ret := (some .int)) (by decide) rfl ?_
  intro p e s m args below meth c s₁ B hml hv
  obtain ⟨hargs, hsz, hP, hK, hD0⟩ := hv
  have hx := B.exec
  have hb := B.bytes
  have hr := B.returns
  have hts : ∀ w ∈ lw_w, w.before args s = true := fun w h => atoms_spec (ws := w_S_clear) B.pre w (List.mem_cons_of_mem _ h)
  have hown : s.vm.findClass R_S = some m.cls := findClass_of_methodNamed B.named
  have hlocks := B.notSynchronized
  subst hsz
  have hD := hD0.self (sz := s.heap.size)
  generalize hR : (headSpec w_S_clear { frames := 1, cells := 0, slots := 0, locals := 23 }).room = R
  generalize hAe : va_A ([(h0, .inr (0, [.int wd, .ref qx, .ref qy, .ref qo, .ref qr, .ref ql, .int md, .int cp, .int cc])), (ql, .inr (3, [.int mc, .ref ed, .int 0]))] ++ pl) s.heap.size = A at hD ⊢
  have hA : ∀ q : Nat, s.heap.size ≤ q → A q := fun q h => by rw [← hAe]; exact Or.inr h
  have hS : va_S A s.heap s.heap [] := va_S.rf
  generalize hRES : ks_clear0 md cp cc mc = RES
  have hres := hRES
  have hl := lv_entry [.ref h0] (n := 2) (Nat.le_of_ble_eq_true rfl)
  have hent : entryFrame m args 2 = F0 m 0 (lg_sl [.ref h0] ++ List.replicate (2 - (lg_sl [.ref h0]).length) Slot.unset).toArray [] := by rw [hargs]; exact lg_entry_eq m [.ref h0] 2
  rw [hent]
  clear hent
  generalize (lg_sl [.ref h0] ++ List.replicate (2 - (lg_sl [.ref h0]).length) Slot.unset).toArray = ls at hl ⊢
  have hl : lv_has ls 2 [(0, .ref h0)] := hl
  have hP : va_P (dC, dI) cls9 ([(h0, .inr (0, [.int wd, .ref qx, .ref qy, .ref qo, .ref qr, .ref ql, .int md, .int cp, .int cc])), (ql, .inr (3, [.int mc, .ref ed, .int 0]))] ++ pl) s.heap := hP
  have hD : va_D A ([(h0, .inr (0, [.int wd, .ref qx, .ref qy, .ref qo, .ref qr, .ref ql, .int md, .int cp, .int cc])), (ql, .inr (3, [.int mc, .ref ed, .int 0]))] ++ pl) := hD
  clear hD0 hRES hAe
  unfold ks_clear0 at hres
  generalize hQ : MQ below (va_Qi (fun x (_ : Unit) => x = RES.1) (fun _ t => va_P (dC, dI) cls9 ([(h0, .inr (0, [.int wd, .ref qx, .ref qy, .ref qo, .ref qr, .ref ql, .int RES.2.1, .int RES.2.2.1, .int RES.2.2.2.1])), (ql, .inr (3, [.int RES.2.2.2.2, .ref ed, .int 0]))] ++ pl) t.heap ∧ va_K (dC, dI) cls9 [] t ∧ va_D A ([(h0, .inr (0, [.int wd, .ref qx, .ref qy, .ref qo, .ref qr, .ref ql, .int RES.2.1, .int RES.2.2.1, .int RES.2.2.2.1])), (ql, .inr (3, [.int RES.2.2.2.2, .ref ed, .int 0]))] ++ pl)) A) args s 0 0 A = Q
  replace hQ := hQ.symm
  refine lv_aload_n hx hb d_S_clear_0 rfl (lv_at hl 0 rfl) ?_
  refine va_get (D := (dC, dI)) (ci := 0) (v := .int cc) (C := R_S) (T := F_S) (N := 9) hx hb hts in_S hown hK hP 0 rfl rfl 8 (by decide) (hts _ tw_65) (fun _ h9 => h9) rfl d_S_clear_1 ?_
  refine lv_istore_n (lv' := [(1, .int cc), (0, .ref h0)]) hx hb d_S_clear_4 rfl hl (by decide) rfl (fun ls hl => ?_)
  refine lv_aload_n hx hb d_S_clear_5 rfl (lv_at hl 1 rfl) ?_
  refine va_get (D := (dC, dI)) (ci := 0) (v := .ref ql) (C := R_S) (T := F_S) (N := 9) hx hb hts in_S hown hK hP 0 rfl rfl 5 (by decide) (hts _ tw_62) (fun _ h9 => h9) rfl d_S_clear_6 ?_
  refine cm_vQ (wc := [(ql, .inr (3, [.int mc, .ref ed, .int 0]))]) (wr := [(h0, .inr (0, [.int wd, .ref qx, .ref qy, .ref qo, .ref qr, .ref ql, .int md, .int cp, .int cc]))]) (W1 := [(ql, .inr (3, [.int (kl_clear0 mc), .ref ed, .int 0]))]) (X2 := [(h0, .inr (0, [.int wd, .ref qx, .ref qy, .ref qo, .ref qr, .ref ql, .int md, .int cp, .int cc])), (ql, .inr (3, [.int (kl_clear0 mc), .ref ed, .int 0]))]) (pl := pl) (va_runV (g := F0 m 9 ls [.ref ql]) (As := []) (rest := []) ⟨hx, hb, hml, hown, hts⟩ (c_kl_clear0 l dC dI ql ed mc  _) (cwV 0 hts (gi_V tw_180 tw_181 tw_182 tw_5 tw_183) rfl rfl rfl (by decide +kernel) ⟨(by rw [← hR]; exact Nat.le_of_ble_eq_true rfl), (by rw [← hR]; exact Nat.le_of_ble_eq_true rfl)⟩) ⟨mc_blind, va_recv (ci := 3) (q := (R_T, F_T, 3)) hK hP rfl (q0 := 1) rfl, mc_pre (hP.sub [1] rfl) (hK.sub [] rfl) (hD.sub [1] (by decide) rfl)⟩ rfl rfl hl.1 rfl (lv_room (Nat.le_of_ble_eq_true rfl)) d_S_clear_9 ⟨Nat.zero_le _, Nat.zero_le _⟩) hP hD hS hA [1] [0] [0, 1] rfl rfl rfl (by decide) (by decide) rfl (by decide) (fun H locs hP hD hS => ?_)
  refine lv_aload_n hx hb d_S_clear_12 rfl (lv_at hl 1 rfl) ?_
  refine lv_iconst (v := 0) hx hb d_S_clear_13 (by decide) ?_
  refine va_put (D := (dC, dI)) (ci := 0) (v := .int 0) (ty := .int) (C := R_S) (T := F_S) (N := 9) hx hb hts in_S tf_S tok_S n_S hown hK hP hD hS 0 rfl rfl 6 (by decide) (hts _ tw_63) (fun _ h9 => h9) rfl (by decide +kernel) (by rfl) (by rfl) (Nat.le_of_ble_eq_true rfl) d_S_clear_14 (fun H locs hP hD hS => ?_)
  have hP : va_P (dC, dI) cls9 ([(h0, .inr (0, [.int wd, .ref qx, .ref qy, .ref qo, .ref qr, .ref ql, .int 0, .int cp, .int cc])), (ql, .inr (3, [.int (kl_clear0 mc), .ref ed, .int 0]))] ++ pl) H := hP
  have hD : va_D A ([(h0, .inr (0, [.int wd, .ref qx, .ref qy, .ref qo, .ref qr, .ref ql, .int 0, .int cp, .int cc])), (ql, .inr (3, [.int (kl_clear0 mc), .ref ed, .int 0]))] ++ pl) := hD
  refine lv_aload_n hx hb d_S_clear_17 rfl (lv_at hl 1 rfl) ?_
  refine lv_iconst (v := 0) hx hb d_S_clear_18 (by decide) ?_
  refine va_put (D := (dC, dI)) (ci := 0) (v := .int 0) (ty := .int) (C := R_S) (T := F_S) (N := 9) hx hb hts in_S tf_S tok_S n_S hown hK hP hD hS 0 rfl rfl 7 (by decide) (hts _ tw_64) (fun _ h9 => h9) rfl (by decide +kernel) (by rfl) (by rfl) (Nat.le_of_ble_eq_true rfl) d_S_clear_19 (fun H locs hP hD hS => ?_)
  have hP : va_P (dC, dI) cls9 ([(h0, .inr (0, [.int wd, .ref qx, .ref qy, .ref qo, .ref qr, .ref ql, .int 0, .int 0, .int cc])), (ql, .inr (3, [.int (kl_clear0 mc), .ref ed, .int 0]))] ++ pl) H := hP
  have hD : va_D A ([(h0, .inr (0, [.int wd, .ref qx, .ref qy, .ref qo, .ref qr, .ref ql, .int 0, .int 0, .int cc])), (ql, .inr (3, [.int (kl_clear0 mc), .ref ed, .int 0]))] ++ pl) := hD
  refine lv_aload_n hx hb d_S_clear_22 rfl (lv_at hl 1 rfl) ?_
  refine lv_iconst (v := 0) hx hb d_S_clear_23 (by decide) ?_
  refine va_put (D := (dC, dI)) (ci := 0) (v := .int 0) (ty := .int) (C := R_S) (T := F_S) (N := 9) hx hb hts in_S tf_S tok_S n_S hown hK hP hD hS 0 rfl rfl 8 (by decide) (hts _ tw_65) (fun _ h9 => h9) rfl (by decide +kernel) (by rfl) (by rfl) (Nat.le_of_ble_eq_true rfl) d_S_clear_24 (fun H locs hP hD hS => ?_)
  have hP : va_P (dC, dI) cls9 ([(h0, .inr (0, [.int wd, .ref qx, .ref qy, .ref qo, .ref qr, .ref ql, .int 0, .int 0, .int 0])), (ql, .inr (3, [.int (kl_clear0 mc), .ref ed, .int 0]))] ++ pl) H := hP
  have hD : va_D A ([(h0, .inr (0, [.int wd, .ref qx, .ref qy, .ref qo, .ref qr, .ref ql, .int 0, .int 0, .int 0])), (ql, .inr (3, [.int (kl_clear0 mc), .ref ed, .int 0]))] ++ pl) := hD
  refine lv_iload_n hx hb d_S_clear_27 rfl (lv_at hl 0 rfl) ?_
  rw [hQ]
  subst hres
  exact W.iret (v := cc) hx hb hr (fun t ht hW => ⟨⟨_, (), rfl, rfl, ⟨by rw [ht]; exact hP, va_K.moved hW.alike hK, hD⟩⟩, hS.F ht⟩) hS.2.2 d_S_clear_28
