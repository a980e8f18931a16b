-- the law's loop
theorem cnt4 {L k : Nat} (hL : L ≤ 2049) (hk : k ≤ 4000) (h : ¬ Int32.ofNat L - 4 < nI k) : k + 3 < L := by
  rcases Nat.lt_or_ge L 4 with c | c
  · exfalso
    apply h
    rw [i32_lt, nI_toInt (by omega)]
    rcases (show L = 0 ∨ L = 1 ∨ L = 2 ∨ L = 3 by omega) with rfl | rfl | rfl | rfl
    · have e : (Int32.ofNat 0 - 4).toInt = -4 := by decide
      rw [e]; omega
    · have e : (Int32.ofNat 1 - 4).toInt = -3 := by decide
      rw [e]; omega
    · have e : (Int32.ofNat 2 - 4).toInt = -2 := by decide
      rw [e]; omega
    · have e : (Int32.ofNat 3 - 4).toInt = -1 := by decide
      rw [e]; omega
  · have e : Int32.ofNat L - 4 = nI (L - 4) := pk_sub (a := L) (b := 4) c
    rw [e] at h
    rcases Nat.lt_or_ge (k + 3) L with z | z
    · exact z
    · exact absurd (nI_lt (show L - 4 < k by omega) (by omega)) h
set_option maxHeartbeats 4000000 in
set_option maxRecDepth 100000 in
theorem law_head {p : Program} {l : Launch} {e : Env} {R : Room} {s : State} {m : MethodId} {args : Array Value} {below : List Frame} {meth : Method} {c : Code} {Q : State → Prop} {A : Nat → Prop} {h0 h1 b L k : Nat} {xs : Nat → Int32} (hx : p.tables.exec = Jvm.exec) (hb : c.code = code) (hX0 : va_X b L xs s s.heap) (hbl : b < s.heap.size) (hbA : ¬ A b) (hL : L ≤ 2049) (hk : k ≤ 4000) {ls : Array Slot} {H : Heap} {locs : List Loc} {cells slots : Nat} (hl : lv_has ls 4 [(3, .int (nI k)), (2, .ref h1), (1, .ref h0), (0, .ref b)]) (hS : va_S A s.heap H locs) (kt : W p l e R s m args below meth c H locs cells slots Q (F0 m 251 ls [])) (kf : k + 3 < L → W p l e R s m args below meth c H locs cells slots Q (F0 m 36 ls [])) : W p l e R s m args below meth c H locs cells slots Q (F0 m 28 ls []) := by
  refine lv_iload_n hx hb d_L_law_28 rfl (lv_at hl 0 rfl) ?_
  refine lv_aload_n hx hb d_L_law_29 rfl (lv_at hl 3 rfl) ?_
  refine va_slen hx hb hX0 hbl hbA hS d_L_law_30 ?_
  refine lv_iconst (v := 4) hx hb d_L_law_31 (by decide) ?_
  refine lv_isub hx hb d_L_law_32 ?_
  exact lv_icmp_gt (tgt := 251) hx hb d_L_law_33 rfl (fun _ => kt) (fun h => kf (cnt4 hL hk h))
set_option maxHeartbeats 4000000 in
set_option maxRecDepth 100000 in
theorem law_loop {p : Program} {l : Launch} {e : Env} {R : Room} {s : State} {m : MethodId} {args : Array Value} {below : List Frame} {meth : Method} {c : Code} {Q : State → Prop} {A : Nat → Prop} (dC : Nat → ClassId) (dI : Nat → Nat → Nat) (h0 h1 qx qy qo qr ql apx apy aon aen afi ase t0 mi b L : Nat) (xs : Nat → Int32) (cI cZ cJ : ClassId) (wd : Int32) (hx : p.tables.exec = Jvm.exec) (hb : c.code = code) (hml : c.maxLocals = 4) (hR : room_1 = R) (hown : s.vm.findClass R_L = some m.cls) (hts : ∀ w ∈ lw_w, w.before args s = true) (hxk : xk mi s) (hxz : xz t0 A s s.heap) (hX0 : va_X b L xs s s.heap) (hbl : b < s.heap.size) (hbA : ¬ A b) (hA : ∀ q, s.heap.size ≤ q → A q) (hL : L ≤ 2049) (hwd : wok wd)
    (EX : ∀ (ls : Array Slot) (H : Heap) (locs : List Loc) (cells slots : Nat), va_S A s.heap H locs → cells ≤ 600000 → slots ≤ 7302250 → W p l e R s m args below meth c H locs cells slots Q (F0 m 251 ls [])) : ∀ (d t k cells slots : Nat), t + d = 513 → k = 1 + 4 * t → cells = 13 + 266 * t → slots = 1891 + 2620 * t → ∀ (ls : Array Slot) (H : Heap) (locs : List Loc) (X Y O rt : Nat → Int32) (md cp cc : Int32) (u : AS) (px py : Nat → Int64) (on en : Nat → Int32) (fi se : Nat → Int64) (cn pn tc tn : Int32), lv_has ls 4 [(3, .int (nI k)), (2, .ref h1), (1, .ref h0), (0, .ref b)] → INV X Y O md cp cc u px py on en cn pn → va_K (dC, dI) cls9 ([(cJ, .long), (cZ, .boolean), (cI, .int)] ++ lty u.1) s → va_P (dC, dI) cls9 ([(h1, .inr (2, [.int wd, .ref apx, .ref apy, .ref aon, .ref aen, .int cn, .int pn, .int tc, .int tn, .ref afi, .ref ase])), (apx, .inl (cJ, 256, .inr (.inl px))), (apy, .inl (cJ, 256, .inr (.inl py))), (aon, .inl (cZ, 256, .inl on)), (aen, .inl (cI, 256, .inl en)), (afi, .inl (cJ, 6, .inr (.inl fi))), (ase, .inl (cJ, 6, .inr (.inl se)))] ++ ([(h0, .inr (0, [.int wd, .ref qx, .ref qy, .ref qo, .ref qr, .ref ql, .int md, .int cp, .int cc])), (qx, .inl (cI, 256, .inl X)), (qy, .inl (cI, 256, .inl Y)), (qo, .inl (cZ, 256, .inl O)), (qr, .inl (cI, 64, .inl rt))] ++ (lwd t0 ql u.1 ++ u.2.2))) H → va_D A ([(h1, .inr (2, [.int wd, .ref apx, .ref apy, .ref aon, .ref aen, .int cn, .int pn, .int tc, .int tn, .ref afi, .ref ase])), (apx, .inl (cJ, 256, .inr (.inl px))), (apy, .inl (cJ, 256, .inr (.inl py))), (aon, .inl (cZ, 256, .inl on)), (aen, .inl (cI, 256, .inl en)), (afi, .inl (cJ, 6, .inr (.inl fi))), (ase, .inl (cJ, 6, .inr (.inl se)))] ++ ([(h0, .inr (0, [.int wd, .ref qx, .ref qy, .ref qo, .ref qr, .ref ql, .int md, .int cp, .int cc])), (qx, .inl (cI, 256, .inl X)), (qy, .inl (cI, 256, .inl Y)), (qo, .inl (cZ, 256, .inl O)), (qr, .inl (cI, 64, .inl rt))] ++ (lwd t0 ql u.1 ++ u.2.2))) → va_S A s.heap H locs → W p l e R s m args below meth c H locs cells slots Q (F0 m 28 ls []) := by
  intro d
  induction d with
  | zero =>
    intro t k cells slots ht hk hc hs ls H locs X Y O rt md cp cc u px py on en fi se cn pn tc tn hl hI hK hP hD hS
    exact law_head hx hb hX0 hbl hbA hL (by omega) hl hS (EX ls H locs cells slots hS (by omega) (by omega)) (fun z => absurd z (by omega))
  | succ d ih =>
    intro t k cells slots ht hk hc hs ls H locs X Y O rt md cp cc u px py on en fi se cn pn tc tn hl hI hK hP hD hS
    refine law_head hx hb hX0 hbl hbA hL (by omega) hl hS (EX ls H locs cells slots hS (by omega) (by omega)) (fun hkL => ?_)
    have hce : cells + 266 ≤ 600000 := by omega
    have hsl : slots + 2620 ≤ 7302250 := by omega
    have KK : ∀ (ls : Array Slot) (H : Heap) (locs : List Loc) (X Y O rt : Nat → Int32) (md cp cc : Int32) (u : AS) (px py : Nat → Int64) (on en : Nat → Int32) (fi se : Nat → Int64) (cn pn tc tn : Int32), lv_has ls 4 [(3, .int (nI k)), (2, .ref h1), (1, .ref h0), (0, .ref b)] → INV X Y O md cp cc u px py on en cn pn → va_K (dC, dI) cls9 ([(cJ, .long), (cZ, .boolean), (cI, .int)] ++ lty u.1) s → va_P (dC, dI) cls9 ([(h1, .inr (2, [.int wd, .ref apx, .ref apy, .ref aon, .ref aen, .int cn, .int pn, .int tc, .int tn, .ref afi, .ref ase])), (apx, .inl (cJ, 256, .inr (.inl px))), (apy, .inl (cJ, 256, .inr (.inl py))), (aon, .inl (cZ, 256, .inl on)), (aen, .inl (cI, 256, .inl en)), (afi, .inl (cJ, 6, .inr (.inl fi))), (ase, .inl (cJ, 6, .inr (.inl se)))] ++ ([(h0, .inr (0, [.int wd, .ref qx, .ref qy, .ref qo, .ref qr, .ref ql, .int md, .int cp, .int cc])), (qx, .inl (cI, 256, .inl X)), (qy, .inl (cI, 256, .inl Y)), (qo, .inl (cZ, 256, .inl O)), (qr, .inl (cI, 64, .inl rt))] ++ (lwd t0 ql u.1 ++ u.2.2))) H → va_D A ([(h1, .inr (2, [.int wd, .ref apx, .ref apy, .ref aon, .ref aen, .int cn, .int pn, .int tc, .int tn, .ref afi, .ref ase])), (apx, .inl (cJ, 256, .inr (.inl px))), (apy, .inl (cJ, 256, .inr (.inl py))), (aon, .inl (cZ, 256, .inl on)), (aen, .inl (cI, 256, .inl en)), (afi, .inl (cJ, 6, .inr (.inl fi))), (ase, .inl (cJ, 6, .inr (.inl se)))] ++ ([(h0, .inr (0, [.int wd, .ref qx, .ref qy, .ref qo, .ref qr, .ref ql, .int md, .int cp, .int cc])), (qx, .inl (cI, 256, .inl X)), (qy, .inl (cI, 256, .inl Y)), (qo, .inl (cZ, 256, .inl O)), (qr, .inl (cI, 64, .inl rt))] ++ (lwd t0 ql u.1 ++ u.2.2))) → va_S A s.heap H locs → W p l e R s m args below meth c H locs (cells + 266) (slots + 2620) Q (F0 m 245 ls []) := by
      intro ls H locs X Y O rt md cp cc u px py on en fi se cn pn tc tn hl hI hK hP hD hS
      refine lv_iinc (k := 0) (v := nI (k + 4)) (lv' := [(3, .int (nI (k + 4))), (2, .ref h1), (1, .ref h0), (0, .ref b)]) hx hb d_L_law_245 hl rfl (by rw [show (Int32.ofInt 4 : Int32) = nI 4 by decide]; exact nI_add k 4) (by decide) rfl (fun ls hl => ?_)
      refine lv_goto (tgt := 28) hx hb d_L_law_248 rfl ?_
      exact ih (t + 1) (k + 4) (cells + 266) (slots + 2620) (by omega) (by omega) (by omega) (by omega) ls H locs X Y O rt md cp cc u px py on en fi se cn pn tc tn hl hI hK hP hD hS
    refine lv_aload_n hx hb d_L_law_36 rfl (lv_at hl 3 rfl) ?_
    refine lv_iload_n hx hb d_L_law_37 rfl (lv_at hl 0 rfl) ?_
    refine va_sld hx hb hX0 hbl hbA hS (vp_in_nI (n := k) (by omega) (by omega)) d_L_law_38 ?_
    refine lv_bipush (v := 7) hx hb d_L_law_39 (by decide) ?_
    refine lv_iand hx hb d_L_law_41 ?_
    by_cases hv0 : (xs (Int32.toNatClampNeg (nI k)) &&& 7) = 0
    · refine lv_tableIn (off := 38) (tgt := 80) hx hb d_L_law_42 (by rw [hv0]; decide) (by rw [hv0]; decide) (by rw [hv0]; rfl) rfl ?_
      by_cases h3 : xs (Int32.toNatClampNeg (nI k + 3)) = 0
      · exact law_c0a dC dI h0 h1 qx qy qo qr ql apx apy aon aen afi ase t0 mi b L k xs cI cZ cJ wd hx hb hml hR hown hts hxk hxz hX0 hbl hbA hA hkL hL hwd cells slots hce hsl KK ls H locs X Y O rt md cp cc u px py on en fi se cn pn tc tn hl h3 hI hK hP hD hS
      · exact law_c0b dC dI h0 h1 qx qy qo qr ql apx apy aon aen afi ase t0 mi b L k xs cI cZ cJ wd hx hb hml hR hown hts hxk hxz hX0 hbl hbA hA hkL hL hwd cells slots hce hsl KK ls H locs X Y O rt md cp cc u px py on en fi se cn pn tc tn hl h3 hI hK hP hD hS
    by_cases hv1 : (xs (Int32.toNatClampNeg (nI k)) &&& 7) = 1
    · refine lv_tableIn (off := 97) (tgt := 139) hx hb d_L_law_42 (by rw [hv1]; decide) (by rw [hv1]; decide) (by rw [hv1]; rfl) rfl ?_
      rcases inv_close hI with ⟨hmd, hkc⟩ | ⟨n, ar, hmd, hn0, har, hu, hkc, hnx⟩
      · subst hmd
        exact law_c1a dC dI h0 h1 qx qy qo qr ql apx apy aon aen afi ase t0 mi b L k xs cI cZ cJ wd hx hb hml hR hown hts hxk hxz hX0 hbl hbA hA hkL hL hwd cells slots hce hsl KK ls H locs X Y O rt cp cc u px py on en fi se cn pn tc tn hl (inv_mok hI).1 hkc hI hK hP hD hS
      · subst hmd
        exact law_c1b dC dI h0 h1 qx qy qo qr ql apx apy aon aen afi ase t0 mi b L k xs cI cZ cJ wd hx hb hml hR hown hts hxk hxz hX0 hbl hbA hA hkL hL hwd cells slots hce hsl KK ls H locs n ar X Y O rt cp cc u px py on en fi se cn pn tc tn hl (inv_mok hI).1 hn0 har hu hkc hnx hI hK hP hD hS
    by_cases hv2 : (xs (Int32.toNatClampNeg (nI k)) &&& 7) = 2
    · refine lv_tableIn (off := 110) (tgt := 152) hx hb d_L_law_42 (by rw [hv2]; decide) (by rw [hv2]; decide) (by rw [hv2]; rfl) rfl ?_
      obtain ⟨ar, hh, hw, hrw, h0e⟩ := inv_ar hI
      obtain ⟨⟨mc, n, o⟩, as, pl⟩ := u
      cases o with
      | none =>
        obtain ⟨hn, har⟩ := hld_none hh
        subst hn
        subst har
        exact law_c2n dC dI h0 h1 qx qy qo qr ql apx apy aon aen afi ase t0 mi b L k xs cI cZ cJ wd hx hb hml hR hown hts hxk hxz hX0 hbl hbA hA hkL hL hwd cells slots hce hsl KK ls H locs X Y O rt md cp cc mc as pl px py on en fi se cn pn tc tn hl (show hld [] ((mc + 1, 0, none), as, pl) from ⟨hh.1, hh.2⟩) hI hK hP hD hS
      | some w =>
        obtain ⟨ed, cO, cap, g⟩ := w
        obtain ⟨hn, hlc, hcap, hsz9, hpl⟩ := hld_some hh
        subst hn
        exact law_c2s dC dI h0 h1 qx qy qo qr ql apx apy aon aen afi ase t0 mi b L k xs cI cZ cJ wd hx hb hml hR hown hts hxk hxz hX0 hbl hbA hA hkL hL hwd cells slots hce hsl KK ls H locs ar X Y O rt md cp cc mc ar.length ed cap cO g as pl px py on en fi se cn pn tc tn hl hh hsz9 (clear_i mc hlc (by omega) g hh.1.2.2.2) hI hK hP hD hS
    by_cases hv3 : (xs (Int32.toNatClampNeg (nI k)) &&& 7) = 3
    · refine lv_tableIn (off := 123) (tgt := 165) hx hb d_L_law_42 (by rw [hv3]; decide) (by rw [hv3]; decide) (by rw [hv3]; rfl) rfl ?_
      obtain ⟨ar, hh, hw, hrw, h0e⟩ := inv_ar hI
      obtain ⟨⟨mc, n, o⟩, as, pl⟩ := u
      cases o with
      | none =>
        obtain ⟨hn, har⟩ := hld_none hh
        subst hn
        subst har
        exact law_c3n dC dI h0 h1 qx qy qo qr ql apx apy aon aen afi ase t0 mi b L k xs cI cZ cJ wd hx hb hml hR hown hts hxk hxz hX0 hbl hbA hA hkL hL hwd cells slots hce hsl KK ls H locs X Y O rt md cp cc mc as pl px py on en fi se cn pn tc tn hl (inv_mok hI).1 (fun x y => (h0e rfl).1 fi se tc tn x y) hI hK hP hD hS
      | some w =>
        obtain ⟨ed, cO, cap, g⟩ := w
        obtain ⟨hn, hlc, hcap, hsz9, hpl⟩ := hld_some hh
        subst hn
        exact law_c3s dC dI h0 h1 qx qy qo qr ql apx apy aon aen afi ase t0 mi b L k xs cI cZ cJ wd hx hb hml hR hown hts hxk hxz hX0 hbl hbA hA hkL hL hwd cells slots hce hsl KK ls H locs ar X Y O rt md cp cc mc ar.length ed cap cO g as pl px py on en fi se cn pn tc tn hl (inv_mok hI).1 hsz9 hpl (fun x y => hw cap fi se tc tn x y hlc (by omega)) hI hK hP hD hS
    by_cases hv4 : (xs (Int32.toNatClampNeg (nI k)) &&& 7) = 4
    · refine lv_tableIn (off := 156) (tgt := 198) hx hb d_L_law_42 (by rw [hv4]; decide) (by rw [hv4]; decide) (by rw [hv4]; rfl) rfl ?_
      obtain ⟨w9, h9, e9⟩ := hwd
      have hwd : wok wd := ⟨w9, h9, e9⟩
      obtain ⟨ar, hh, hw, hrw, h0e⟩ := inv_ar hI
      obtain ⟨⟨mc, n, o⟩, as, pl⟩ := u
      cases o with
      | none =>
        obtain ⟨hn, har⟩ := hld_none hh
        subst hn
        subst har
        exact law_c4n dC dI h0 h1 qx qy qo qr ql apx apy aon aen afi ase t0 mi b L k xs cI cZ cJ wd hx hb hml hR hown hts hxk hxz hX0 hbl hbA hA hkL hL hwd cells slots hce hsl KK ls H locs X Y O rt md cp cc mc as pl px py on en fi se cn pn tc tn hl (inv_mok hI).1 (fun jj => by rw [e9]; exact (h0e rfl).2 w9 rt fi se tc tn jj h9) hI hK hP hD hS
      | some w =>
        obtain ⟨ed, cO, cap, g⟩ := w
        obtain ⟨hn, hlc, hcap, hsz9, hpl⟩ := hld_some hh
        subst hn
        exact law_c4s dC dI h0 h1 qx qy qo qr ql apx apy aon aen afi ase t0 mi b L k xs cI cZ cJ wd hx hb hml hR hown hts hxk hxz hX0 hbl hbA hA hkL hL hwd cells slots hce hsl KK ls H locs ar X Y O rt md cp cc mc ar.length ed cap cO g as pl px py on en fi se cn pn tc tn hl (inv_mok hI).1 hsz9 hpl (fun jj => by rw [e9]; exact hrw cap w9 rt fi se tc tn jj hlc (by omega) h9) hI hK hP hD hS
    by_cases hv5 : (xs (Int32.toNatClampNeg (nI k)) &&& 7) = 5
    · refine lv_tableIn (off := 180) (tgt := 222) hx hb d_L_law_42 (by rw [hv5]; decide) (by rw [hv5]; decide) (by rw [hv5]; rfl) rfl ?_
      exact law_c5 dC dI h0 h1 qx qy qo qr ql apx apy aon aen afi ase t0 mi b L k xs cI cZ cJ wd hx hb hml hR hown hts hxk hxz hX0 hbl hbA hA hkL hL hwd cells slots hce hsl KK ls H locs X Y O rt md cp cc u px py on en fi se cn pn tc tn hl hI hK hP hD hS
    refine lv_tableOut (tgt := 245) hx hb d_L_law_42 (by have a0 := lv_neT hv0 (show (0 : Int32).toInt = 0 by decide); have a1 := lv_neT hv1 (show (1 : Int32).toInt = 1 by decide); have a2 := lv_neT hv2 (show (2 : Int32).toInt = 2 by decide); have a3 := lv_neT hv3 (show (3 : Int32).toInt = 3 by decide); have a4 := lv_neT hv4 (show (4 : Int32).toInt = 4 by decide); have a5 := lv_neT hv5 (show (5 : Int32).toInt = 5 by decide); omega) rfl ?_
    refine W.widen (k := cells + 266) (n := slots + 2620) (by omega) (by omega) ?_
    exact KK ls H locs X Y O rt md cp cc u px py on en fi se cn pn tc tn hl hI hK hP hD hS
