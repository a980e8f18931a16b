def km_curve_j447 (t447_0 : Nat → Int64) (t447_1 : Nat → Int64) (t447_2 : Int32) (t447_3 : Int32) : Int32 × Int32 × (Nat → Int64) × (Nat → Int64) := (t447_2, t447_3, t447_0, t447_1)
def km_curve_k447 (x441 : Int32 × (Nat → Int64) × (Nat → Int64)) (x444 : Int32 × Int32) : Int32 × Int32 × (Nat → Int64) × (Nat → Int64) := (km_curve_j447 x441.2.1 x441.2.2 x444.1 x444.2)
def km_curve_k444 (t274_0 : Int32) (x404 : Int32 × Int32) (t418_0 : Int32) (x441 : Int32 × (Nat → Int64) × (Nat → Int64)) : Int32 × Int32 × (Nat → Int64) × (Nat → Int64) := (km_curve_k447 x441 (km_cross x404.1 x404.2 t418_0 t274_0 x441.1))
def km_curve_j441 (ax : Int64) (ay : Int64) (bx : Int64) (bz : Int64) (cx : Int64) (cz : Int64) (t274_0 : Int32) (x401 : Int32 × (Nat → Int64) × (Nat → Int64)) (x404 : Int32 × Int32) (t418_0 : Int32) (t441_0 : Int32) : Int32 × Int32 × (Nat → Int64) × (Nat → Int64) := (km_curve_k444 t274_0 x404 t418_0 (km_side x401.2.1 x401.2.2 ax ay bx bz cx cz t441_0))
def km_curve_j418 (ax : Int64) (ay : Int64) (bx : Int64) (bz : Int64) (cx : Int64) (cz : Int64) (t274_0 : Int32) (x401 : Int32 × (Nat → Int64) × (Nat → Int64)) (x404 : Int32 × Int32) (t418_0 : Int32) : Int32 × Int32 × (Nat → Int64) × (Nat → Int64) := (if t274_0 = 0 then (km_curve_j441 ax ay bx bz cx cz t274_0 x401 x404 t418_0 (-1)) else (km_curve_j441 ax ay bx bz cx cz t274_0 x401 x404 t418_0 1))
def km_curve_k407 (ax : Int64) (ay : Int64) (bx : Int64) (bz : Int64) (cx : Int64) (cz : Int64) (t274_0 : Int32) (x401 : Int32 × (Nat → Int64) × (Nat → Int64)) (x404 : Int32 × Int32) : Int32 × Int32 × (Nat → Int64) × (Nat → Int64) := (if t274_0 = 0 then (km_curve_j418 ax ay bx bz cx cz t274_0 x401 x404 1) else (km_curve_j418 ax ay bx bz cx cz t274_0 x401 x404 0))
def km_curve_k404 (tn : Int32) (ax : Int64) (ay : Int64) (bx : Int64) (bz : Int64) (cx : Int64) (cz : Int64) (t255_2 : Int32) (t274_0 : Int32) (t380_0 : Int32) (x401 : Int32 × (Nat → Int64) × (Nat → Int64)) : Int32 × Int32 × (Nat → Int64) × (Nat → Int64) := (km_curve_k407 ax ay bx bz cx cz t274_0 x401 (km_cross t255_2 tn t274_0 t380_0 x401.1))
def km_curve_j401 (tn : Int32) (ax : Int64) (ay : Int64) (bx : Int64) (bz : Int64) (cx : Int64) (cz : Int64) (t255_0 : Nat → Int64) (t255_1 : Nat → Int64) (t255_2 : Int32) (t274_0 : Int32) (t380_0 : Int32) (t401_0 : Int32) : Int32 × Int32 × (Nat → Int64) × (Nat → Int64) := (km_curve_k404 tn ax ay bx bz cx cz t255_2 t274_0 t380_0 (km_side t255_0 t255_1 ax ay bx bz cx cz t401_0))
def km_curve_j380 (tn : Int32) (ax : Int64) (ay : Int64) (bx : Int64) (bz : Int64) (cx : Int64) (cz : Int64) (t255_0 : Nat → Int64) (t255_1 : Nat → Int64) (t255_2 : Int32) (t274_0 : Int32) (t380_0 : Int32) : Int32 × Int32 × (Nat → Int64) × (Nat → Int64) := (if t274_0 = 0 then (km_curve_j401 tn ax ay bx bz cx cz t255_0 t255_1 t255_2 t274_0 t380_0 1) else (km_curve_j401 tn ax ay bx bz cx cz t255_0 t255_1 t255_2 t274_0 t380_0 (-1)))
def km_curve_j354 (tn : Int32) (ax : Int64) (ay : Int64) (bx : Int64) (bz : Int64) (cx : Int64) (cz : Int64) (t255_0 : Nat → Int64) (t255_1 : Nat → Int64) (t255_2 : Int32) (t274_0 : Int32) : Int32 × Int32 × (Nat → Int64) × (Nat → Int64) := (if (lg_cmp (bz * bz) (ay * cz)) ≤ 0 then (km_curve_j447 t255_0 t255_1 t255_2 tn) else (if t274_0 = 0 then (km_curve_j380 tn ax ay bx bz cx cz t255_0 t255_1 t255_2 t274_0 1) else (km_curve_j380 tn ax ay bx bz cx cz t255_0 t255_1 t255_2 t274_0 0)))
def km_curve_k329 (x323 : Int32 × (Nat → Int64) × (Nat → Int64)) (x326 : Int32 × Int32) : Int32 × Int32 × (Nat → Int64) × (Nat → Int64) := (km_curve_j447 x323.2.1 x323.2.2 x326.1 x326.2)
def km_curve_k326 (tn : Int32) (t255_2 : Int32) (t274_0 : Int32) (t288_0 : Int32) (x323 : Int32 × (Nat → Int64) × (Nat → Int64)) : Int32 × Int32 × (Nat → Int64) × (Nat → Int64) := (km_curve_k329 x323 (km_cross t255_2 tn t274_0 t288_0 x323.1))
def km_curve_j323 (tn : Int32) (ax : Int64) (ay : Int64) (bx : Int64) (bz : Int64) (cx : Int64) (cz : Int64) (t255_0 : Nat → Int64) (t255_1 : Nat → Int64) (t255_2 : Int32) (t274_0 : Int32) (t288_0 : Int32) (t323_0 : Int32) : Int32 × Int32 × (Nat → Int64) × (Nat → Int64) := (km_curve_k326 tn t255_2 t274_0 t288_0 (km_side t255_0 t255_1 ax ay bx bz cx cz t323_0))
def km_curve_j288 (tn : Int32) (ax : Int64) (ay : Int64) (bx : Int64) (bz : Int64) (cx : Int64) (cz : Int64) (t255_0 : Nat → Int64) (t255_1 : Nat → Int64) (t255_2 : Int32) (t274_0 : Int32) (t288_0 : Int32) : Int32 × Int32 × (Nat → Int64) × (Nat → Int64) := (if t274_0 = t288_0 then (if t274_0 = 0 then (if (lg_cmp bz 0) ≤ 0 then (km_curve_j447 t255_0 t255_1 t255_2 tn) else (km_curve_j354 tn ax ay bx bz cx cz t255_0 t255_1 t255_2 t274_0)) else (if 0 ≤ (lg_cmp bz 0) then (km_curve_j447 t255_0 t255_1 t255_2 tn) else (km_curve_j354 tn ax ay bx bz cx cz t255_0 t255_1 t255_2 t274_0))) else (if t288_0 = 0 then (km_curve_j323 tn ax ay bx bz cx cz t255_0 t255_1 t255_2 t274_0 t288_0 (-1)) else (km_curve_j323 tn ax ay bx bz cx cz t255_0 t255_1 t255_2 t274_0 t288_0 1)))
def km_curve_j274 (tn : Int32) (ax : Int64) (ay : Int64) (bx : Int64) (bz : Int64) (cx : Int64) (cz : Int64) (t255_0 : Nat → Int64) (t255_1 : Nat → Int64) (t255_2 : Int32) (t274_0 : Int32) : Int32 × Int32 × (Nat → Int64) × (Nat → Int64) := (if (lg_cmp cz 0) < 0 then (km_curve_j288 tn ax ay bx bz cx cz t255_0 t255_1 t255_2 t274_0 0) else (km_curve_j288 tn ax ay bx bz cx cz t255_0 t255_1 t255_2 t274_0 1))
def km_curve_j255 (tn : Int32) (ax : Int64) (ay : Int64) (bx : Int64) (bz : Int64) (cx : Int64) (cz : Int64) (t255_0 : Nat → Int64) (t255_1 : Nat → Int64) (t255_2 : Int32) : Int32 × Int32 × (Nat → Int64) × (Nat → Int64) := (if t255_2 = 0 then (if (lg_cmp ay 0) < 0 then (km_curve_j274 tn ax ay bx bz cx cz t255_0 t255_1 t255_2 0) else (km_curve_j274 tn ax ay bx bz cx cz t255_0 t255_1 t255_2 1)) else (t255_2, tn, t255_0, t255_1))
def km_curve_k247 (tc : Int32) (tn : Int32) (ax : Int64) (ay : Int64) (bx : Int64) (bz : Int64) (cx : Int64) (cz : Int64) (x244 : Int32 × (Nat → Int64) × (Nat → Int64)) : Int32 × Int32 × (Nat → Int64) × (Nat → Int64) := (if x244.1 = 0 then (km_curve_j255 tn ax ay bx bz cx cz x244.2.1 x244.2.2 tc) else (km_curve_j255 tn ax ay bx bz cx cz x244.2.1 x244.2.2 1))
def km_curve_j182 (tn : Int32) (fi : Nat → Int64) (se : Nat → Int64) (ax : Int64) (ay : Int64) (bx : Int64) (bz : Int64) (cx : Int64) (cz : Int64) (t182_0 : Int32) : Int32 × Int32 × (Nat → Int64) × (Nat → Int64) := (km_curve_j255 tn ax ay bx bz cx cz fi se t182_0)
def km_curve_j100 (tc : Int32) (tn : Int32) (fi : Nat → Int64) (se : Nat → Int64) (ax : Int64) (ay : Int64) (bx : Int64) (bz : Int64) (cx : Int64) (cz : Int64) (t72_0 : Int32) (t100_0 : Int32) : Int32 × Int32 × (Nat → Int64) × (Nat → Int64) := (if t72_0 = 0 then (if (lg_cmp ay bz) = 0 then (if (lg_cmp bz cz) = 0 then (if (lg_cmp ax 0) = 0 then (if (lg_cmp ay 0) = 0 then (km_curve_j182 tn fi se ax ay bx bz cx cz 1) else (km_curve_j182 tn fi se ax ay bx bz cx cz tc)) else (km_curve_j182 tn fi se ax ay bx bz cx cz tc)) else (if t100_0 = 0 then (km_curve_j182 tn fi se ax ay bx bz cx cz tc) else (if t72_0 = 0 then (if (km_zero ay bz cz) = 0 then (km_curve_j182 tn fi se ax ay bx bz cx cz tc) else (km_curve_j182 tn fi se ax ay bx bz cx cz 1)) else (if (km_zero ax bx cx) = 0 then (km_curve_j182 tn fi se ax ay bx bz cx cz tc) else (km_curve_j182 tn fi se ax ay bx bz cx cz 1))))) else (if t100_0 = 0 then (km_curve_j182 tn fi se ax ay bx bz cx cz tc) else (if t72_0 = 0 then (if (km_zero ay bz cz) = 0 then (km_curve_j182 tn fi se ax ay bx bz cx cz tc) else (km_curve_j182 tn fi se ax ay bx bz cx cz 1)) else (if (km_zero ax bx cx) = 0 then (km_curve_j182 tn fi se ax ay bx bz cx cz tc) else (km_curve_j182 tn fi se ax ay bx bz cx cz 1))))) else (if t100_0 = 0 then (km_curve_j182 tn fi se ax ay bx bz cx cz tc) else (if t72_0 = 0 then (if (km_zero ay bz cz) = 0 then (km_curve_j182 tn fi se ax ay bx bz cx cz tc) else (km_curve_j182 tn fi se ax ay bx bz cx cz 1)) else (if (km_zero ax bx cx) = 0 then (km_curve_j182 tn fi se ax ay bx bz cx cz tc) else (km_curve_j182 tn fi se ax ay bx bz cx cz 1)))))
def km_curve_j72 (tc : Int32) (tn : Int32) (fi : Nat → Int64) (se : Nat → Int64) (ax : Int64) (ay : Int64) (bx : Int64) (bz : Int64) (cx : Int64) (cz : Int64) (v45_l13 : Int64) (v45_l15 : Int64) (v45_l17 : Int64) (t72_0 : Int32) : Int32 × Int32 × (Nat → Int64) × (Nat → Int64) := (if (lg_cmp v45_l13 0) = 0 then (if (lg_cmp v45_l15 0) = 0 then (if (lg_cmp v45_l17 0) = 0 then (km_curve_j100 tc tn fi se ax ay bx bz cx cz t72_0 1) else (km_curve_j100 tc tn fi se ax ay bx bz cx cz t72_0 0)) else (km_curve_j100 tc tn fi se ax ay bx bz cx cz t72_0 0)) else (km_curve_j100 tc tn fi se ax ay bx bz cx cz t72_0 0))
def km_curve_k45 (tc : Int32) (tn : Int32) (fi : Nat → Int64) (se : Nat → Int64) (ax : Int64) (ay : Int64) (bx : Int64) (bz : Int64) (cx : Int64) (cz : Int64) (v45_l13 : Int64) (v45_l15 : Int64) (v45_l17 : Int64) (v45_l19 : Int64) : Int32 × Int32 × (Nat → Int64) × (Nat → Int64) := (if (lg_cmp v45_l19 0) = 0 then (if (lg_cmp ax bx) = 0 then (if (lg_cmp bx cx) = 0 then (km_curve_j72 tc tn fi se ax ay bx bz cx cz v45_l13 v45_l15 v45_l17 0) else (km_curve_j72 tc tn fi se ax ay bx bz cx cz v45_l13 v45_l15 v45_l17 1)) else (km_curve_j72 tc tn fi se ax ay bx bz cx cz v45_l13 v45_l15 v45_l17 1)) else (if (lg_cmp ((Int32.toInt64 (km_sign v45_l19)) * v45_l13) 0) < 0 then (km_curve_j255 tn ax ay bx bz cx cz fi se tc) else (if (lg_cmp ((Int32.toInt64 (km_sign v45_l19)) * v45_l15) 0) < 0 then (km_curve_j255 tn ax ay bx bz cx cz fi se tc) else (if (lg_cmp ((Int32.toInt64 (km_sign v45_l19)) * v45_l17) 0) < 0 then (km_curve_j255 tn ax ay bx bz cx cz fi se tc) else (km_curve_k247 tc tn ax ay bx bz cx cz (km_thr fi se ((Int32.toInt64 (km_sign v45_l19)) * v45_l13) ((Int32.toInt64 (km_sign v45_l19)) * v45_l15) ((Int32.toInt64 (km_sign v45_l19)) * v45_l17)))))))
def km_curve (tc : Int32) (tn : Int32) (fi : Nat → Int64) (se : Nat → Int64) (ax : Int64) (ay : Int64) (bx : Int64) (bz : Int64) (cx : Int64) (cz : Int64) : Int32 × Int32 × (Nat → Int64) × (Nat → Int64) := (km_curve_k45 tc tn fi se ax ay bx bz cx cz ((bx * cz) - (cx * bz)) ((cx * ay) - (ax * cz)) ((ax * bz) - (bx * ay)) ((((bx * cz) - (cx * bz)) + ((cx * ay) - (ax * cz))) + ((ax * bz) - (bx * ay))))
set_option maxHeartbeats 4000000 in
set_option maxRecDepth 100000 in
theorem c_km_curve (l : Launch) (dC : Nat → ClassId) (dI : Nat → Nat → Nat) (h0 : Nat) (apx : Nat) (apy : Nat) (aon : Nat) (aen : Nat) (afi : Nat) (ase : Nat) (cJ : ClassId) (cZ : ClassId) (cI : ClassId) (wd : Int32) (cn : Int32) (pn : Int32) (px : Nat → Int64) (py : Nat → Int64) (on : Nat → Int32) (en : Nat → Int32) (tc : Int32) (tn : Int32) (fi : Nat → Int64) (se : Nat → Int64) (ax : Int64) (ay : Int64) (bx : Int64) (bz : Int64) (cx : Int64) (cz : Int64)  : mc_v l y_M_curve w_M_curve { frames := 5, cells := 0, slots := 0, locals := 167 } (dC, dI) cls9 [(h0, .inr (2, [.int wd, .ref apx, .ref apy, .ref aon, .ref aen, .int cn, .int pn, .int tc, .int tn, .ref afi, .ref ase])), (apx, .inl (cJ, 256, .inr (.inl px))), (apy, .inl (cJ, 256, .inr (.inl py))), (aon, .inl (cZ, 256, .inl on)), (aen, .inl (cI, 256, .inl en)), (afi, .inl (cJ, 6, .inr (.inl fi))), (ase, .inl (cJ, 6, .inr (.inl se)))] [(h0, .inr (2, [.int wd, .ref apx, .ref apy, .ref aon, .ref aen, .int cn, .int pn, .int ((km_curve tc tn fi se ax ay bx bz cx cz).1), .int ((km_curve tc tn fi se ax ay bx bz cx cz).2.1), .ref afi, .ref ase])), (apx, .inl (cJ, 256, .inr (.inl px))), (apy, .inl (cJ, 256, .inr (.inl py))), (aon, .inl (cZ, 256, .inl on)), (aen, .inl (cI, 256, .inl en)), (afi, .inl (cJ, 6, .inr (.inl ((km_curve tc tn fi se ax ay bx bz cx cz).2.2.1)))), (ase, .inl (cJ, 6, .inr (.inl ((km_curve tc tn fi se ax ay bx bz cx cz).2.2.2))))] [(cJ, .long), (cZ, .boolean), (cI, .int)] [.ref h0, .long ax, .long ay, .long bx, .long bz, .long cx, .long cz] := by
  intro sz
  refine Met.ofW (cc := b_M_curve) (maxL := 23) (ret := none) (by decide) rfl ?_
  intro p e s m args below meth c s₁ B hml hv
  obtain ⟨hargs, hsz, hP, hK, hD0⟩ := hv
  have hx := B.exec
  have hb := B.bytes
  have hr := B.returns
  have hts : ∀ w ∈ lw_w, w.before args s = true := fun w h => atoms_spec (ws := w_M_curve) B.pre w (List.mem_cons_of_mem _ h)
  have hown : s.vm.findClass R_M = some m.cls := findClass_of_methodNamed B.named
  have hlocks := B.notSynchronized
  subst hsz
  have hD := hD0.self (sz := s.heap.size)
  generalize hR : (headSpec w_M_curve { frames := 5, cells := 0, slots := 0, locals := 167 }).room = R
  generalize hAe : va_A [(h0, .inr (2, [.int wd, .ref apx, .ref apy, .ref aon, .ref aen, .int cn, .int pn, .int tc, .int tn, .ref afi, .ref ase])), (apx, .inl (cJ, 256, .inr (.inl px))), (apy, .inl (cJ, 256, .inr (.inl py))), (aon, .inl (cZ, 256, .inl on)), (aen, .inl (cI, 256, .inl en)), (afi, .inl (cJ, 6, .inr (.inl fi))), (ase, .inl (cJ, 6, .inr (.inl se)))] s.heap.size = A at hD ⊢
  have hA : ∀ q : Nat, s.heap.size ≤ q → A q := fun q h => by rw [← hAe]; exact Or.inr h
  have hS : va_S A s.heap s.heap [] := va_S.rf
  generalize hRES : km_curve tc tn fi se ax ay bx bz cx cz = RES
  have hres := hRES
  have hl := lv_entry [.ref h0, .long ax, .long ay, .long bx, .long bz, .long cx, .long cz] (n := 23) (Nat.le_of_ble_eq_true rfl)
  have hent : entryFrame m args 23 = F0 m 0 (lg_sl [.ref h0, .long ax, .long ay, .long bx, .long bz, .long cx, .long cz] ++ List.replicate (23 - (lg_sl [.ref h0, .long ax, .long ay, .long bx, .long bz, .long cx, .long cz]).length) Slot.unset).toArray [] := by rw [hargs]; exact lg_entry_eq m [.ref h0, .long ax, .long ay, .long bx, .long bz, .long cx, .long cz] 23
  rw [hent]
  clear hent
  generalize (lg_sl [.ref h0, .long ax, .long ay, .long bx, .long bz, .long cx, .long cz] ++ List.replicate (23 - (lg_sl [.ref h0, .long ax, .long ay, .long bx, .long bz, .long cx, .long cz]).length) Slot.unset).toArray = ls at hl ⊢
  have hl : lv_has ls 23 [(0, .ref h0), (1, .long ax), (3, .long ay), (5, .long bx), (7, .long bz), (9, .long cx), (11, .long cz)] := hl
  have hP : va_P (dC, dI) cls9 [(h0, .inr (2, [.int wd, .ref apx, .ref apy, .ref aon, .ref aen, .int cn, .int pn, .int tc, .int tn, .ref afi, .ref ase])), (apx, .inl (cJ, 256, .inr (.inl px))), (apy, .inl (cJ, 256, .inr (.inl py))), (aon, .inl (cZ, 256, .inl on)), (aen, .inl (cI, 256, .inl en)), (afi, .inl (cJ, 6, .inr (.inl fi))), (ase, .inl (cJ, 6, .inr (.inl se)))] s.heap := hP
  have hD : va_D A [(h0, .inr (2, [.int wd, .ref apx, .ref apy, .ref aon, .ref aen, .int cn, .int pn, .int tc, .int tn, .ref afi, .ref ase])), (apx, .inl (cJ, 256, .inr (.inl px))), (apy, .inl (cJ, 256, .inr (.inl py))), (aon, .inl (cZ, 256, .inl on)), (aen, .inl (cI, 256, .inl en)), (afi, .inl (cJ, 6, .inr (.inl fi))), (ase, .inl (cJ, 6, .inr (.inl se)))] := hD
  clear hD0 hRES hAe
  unfold km_curve at hres
  generalize hQ : MQ below (va_Qv (fun (_ : Unit) => True) (fun _ t => va_P (dC, dI) cls9 [(h0, .inr (2, [.int wd, .ref apx, .ref apy, .ref aon, .ref aen, .int cn, .int pn, .int RES.1, .int RES.2.1, .ref afi, .ref ase])), (apx, .inl (cJ, 256, .inr (.inl px))), (apy, .inl (cJ, 256, .inr (.inl py))), (aon, .inl (cZ, 256, .inl on)), (aen, .inl (cI, 256, .inl en)), (afi, .inl (cJ, 6, .inr (.inl RES.2.2.1))), (ase, .inl (cJ, 6, .inr (.inl RES.2.2.2)))] t.heap ∧ va_K (dC, dI) cls9 [(cJ, .long), (cZ, .boolean), (cI, .int)] t ∧ va_D A [(h0, .inr (2, [.int wd, .ref apx, .ref apy, .ref aon, .ref aen, .int cn, .int pn, .int RES.1, .int RES.2.1, .ref afi, .ref ase])), (apx, .inl (cJ, 256, .inr (.inl px))), (apy, .inl (cJ, 256, .inr (.inl py))), (aon, .inl (cZ, 256, .inl on)), (aen, .inl (cI, 256, .inl en)), (afi, .inl (cJ, 6, .inr (.inl RES.2.2.1))), (ase, .inl (cJ, 6, .inr (.inl RES.2.2.2)))]) A) args s 0 0 A = Q
  replace hQ := hQ.symm
  refine lv_lload hx hb d_M_curve_0 (lv_at hl 3 rfl) ?_
  refine lv_lload hx hb d_M_curve_2 (lv_at hl 6 rfl) ?_
  refine lv_lmul hx hb d_M_curve_4 ?_
  refine lv_lload hx hb d_M_curve_5 (lv_at hl 5 rfl) ?_
  refine lv_lload hx hb d_M_curve_7 (lv_at hl 4 rfl) ?_
  refine lv_lmul hx hb d_M_curve_9 ?_
  refine lv_lsub hx hb d_M_curve_10 ?_
  refine lv_lstore (lv' := [(13, .long ((bx * cz) - (cx * bz))), (0, .ref h0), (1, .long ax), (3, .long ay), (5, .long bx), (7, .long bz), (9, .long cx), (11, .long cz)]) hx hb d_M_curve_11 hl (by decide) rfl (fun ls hl => ?_)
  refine lv_lload hx hb d_M_curve_13 (lv_at hl 6 rfl) ?_
  refine lv_lload_n hx hb d_M_curve_15 rfl (lv_at hl 3 rfl) ?_
  refine lv_lmul hx hb d_M_curve_16 ?_
  refine lv_lload_n hx hb d_M_curve_17 rfl (lv_at hl 2 rfl) ?_
  refine lv_lload hx hb d_M_curve_18 (lv_at hl 7 rfl) ?_
  refine lv_lmul hx hb d_M_curve_20 ?_
  refine lv_lsub hx hb d_M_curve_21 ?_
  refine lv_lstore (lv' := [(15, .long ((cx * ay) - (ax * cz))), (13, .long ((bx * cz) - (cx * bz))), (0, .ref h0), (1, .long ax), (3, .long ay), (5, .long bx), (7, .long bz), (9, .long cx), (11, .long cz)]) hx hb d_M_curve_22 hl (by decide) rfl (fun ls hl => ?_)
  refine lv_lload_n hx hb d_M_curve_24 rfl (lv_at hl 3 rfl) ?_
  refine lv_lload hx hb d_M_curve_25 (lv_at hl 6 rfl) ?_
  refine lv_lmul hx hb d_M_curve_27 ?_
  refine lv_lload hx hb d_M_curve_28 (lv_at hl 5 rfl) ?_
  refine lv_lload_n hx hb d_M_curve_30 rfl (lv_at hl 4 rfl) ?_
  refine lv_lmul hx hb d_M_curve_31 ?_
  refine lv_lsub hx hb d_M_curve_32 ?_
  refine lv_lstore (lv' := [(17, .long ((ax * bz) - (bx * ay))), (15, .long ((cx * ay) - (ax * cz))), (13, .long ((bx * cz) - (cx * bz))), (0, .ref h0), (1, .long ax), (3, .long ay), (5, .long bx), (7, .long bz), (9, .long cx), (11, .long cz)]) hx hb d_M_curve_33 hl (by decide) rfl (fun ls hl => ?_)
  refine lv_lload hx hb d_M_curve_35 (lv_at hl 2 rfl) ?_
  refine lv_lload hx hb d_M_curve_37 (lv_at hl 1 rfl) ?_
  refine lv_ladd hx hb d_M_curve_39 ?_
  refine lv_lload hx hb d_M_curve_40 (lv_at hl 0 rfl) ?_
  refine lv_ladd hx hb d_M_curve_42 ?_
  refine lv_lstore (lv' := [(19, .long ((((bx * cz) - (cx * bz)) + ((cx * ay) - (ax * cz))) + ((ax * bz) - (bx * ay)))), (17, .long ((ax * bz) - (bx * ay))), (15, .long ((cx * ay) - (ax * cz))), (13, .long ((bx * cz) - (cx * bz))), (0, .ref h0), (1, .long ax), (3, .long ay), (5, .long bx), (7, .long bz), (9, .long cx), (11, .long cz)]) hx hb d_M_curve_43 hl (by decide) rfl (fun ls hl => ?_)
  have K45 : ∀ (v45_l13 : Int64) (v45_l15 : Int64) (v45_l17 : Int64) (v45_l19 : Int64), km_curve_k45 tc tn fi se ax ay bx bz cx cz v45_l13 v45_l15 v45_l17 v45_l19 = RES → ∀ (ls : Array Slot) (H : Heap) (locs : List Loc), lv_has ls 23 [(19, .long v45_l19), (17, .long v45_l17), (15, .long v45_l15), (13, .long v45_l13), (0, .ref h0), (1, .long ax), (3, .long ay), (5, .long bx), (7, .long bz), (9, .long cx), (11, .long cz)] → va_P (dC, dI) cls9 [(h0, .inr (2, [.int wd, .ref apx, .ref apy, .ref aon, .ref aen, .int cn, .int pn, .int tc, .int tn, .ref afi, .ref ase])), (apx, .inl (cJ, 256, .inr (.inl px))), (apy, .inl (cJ, 256, .inr (.inl py))), (aon, .inl (cZ, 256, .inl on)), (aen, .inl (cI, 256, .inl en)), (afi, .inl (cJ, 6, .inr (.inl fi))), (ase, .inl (cJ, 6, .inr (.inl se)))] H → va_D A [(h0, .inr (2, [.int wd, .ref apx, .ref apy, .ref aon, .ref aen, .int cn, .int pn, .int tc, .int tn, .ref afi, .ref ase])), (apx, .inl (cJ, 256, .inr (.inl px))), (apy, .inl (cJ, 256, .inr (.inl py))), (aon, .inl (cZ, 256, .inl on)), (aen, .inl (cI, 256, .inl en)), (afi, .inl (cJ, 6, .inr (.inl fi))), (ase, .inl (cJ, 6, .inr (.inl se)))] → va_S A s.heap H locs → W p l e R s m args below meth c H locs 0 0 Q (F0 m 45 ls []) := by
    intro v45_l13 v45_l15 v45_l17 v45_l19 hres ls H locs hl hP hD hS
    unfold km_curve_k45 at hres
    refine lv_lload hx hb d_M_curve_45 (lv_at hl 0 rfl) ?_
    refine lv_lconst (v := 0) hx hb d_M_curve_47 (by decide) ?_
    refine W.lcmp hx hb d_M_curve_48 ?_
    have J255 : ∀ (t255_0 : Nat → Int64) (t255_1 : Nat → Int64) (t255_2 : Int32), km_curve_j255 tn ax ay bx bz cx cz t255_0 t255_1 t255_2 = RES → ∀ (ls : Array Slot) (H : Heap) (locs : List Loc), lv_has ls 23 [(0, .ref h0), (1, .long ax), (3, .long ay), (5, .long bx), (7, .long bz), (9, .long cx), (11, .long cz)] → va_P (dC, dI) cls9 [(h0, .inr (2, [.int wd, .ref apx, .ref apy, .ref aon, .ref aen, .int cn, .int pn, .int t255_2, .int tn, .ref afi, .ref ase])), (apx, .inl (cJ, 256, .inr (.inl px))), (apy, .inl (cJ, 256, .inr (.inl py))), (aon, .inl (cZ, 256, .inl on)), (aen, .inl (cI, 256, .inl en)), (afi, .inl (cJ, 6, .inr (.inl t255_0))), (ase, .inl (cJ, 6, .inr (.inl t255_1)))] H → va_D A [(h0, .inr (2, [.int wd, .ref apx, .ref apy, .ref aon, .ref aen, .int cn, .int pn, .int t255_2, .int tn, .ref afi, .ref ase])), (apx, .inl (cJ, 256, .inr (.inl px))), (apy, .inl (cJ, 256, .inr (.inl py))), (aon, .inl (cZ, 256, .inl on)), (aen, .inl (cI, 256, .inl en)), (afi, .inl (cJ, 6, .inr (.inl t255_0))), (ase, .inl (cJ, 6, .inr (.inl t255_1)))] → va_S A s.heap H locs → W p l e R s m args below meth c H locs 0 0 Q (F0 m 255 ls []) := by
      intro t255_0 t255_1 t255_2 hres ls H locs hl hP hD hS
      unfold km_curve_j255 at hres
      refine lv_aload_n hx hb d_M_curve_255 rfl (lv_at hl 0 rfl) ?_
      refine va_get (D := (dC, dI)) (ci := 2) (v := .int t255_2) (C := R_M) (T := F_M) (N := 11) hx hb hts in_M hown hK hP 0 rfl rfl 7 (by decide) (hts _ tw_286) (fun _ h9 => h9) rfl d_M_curve_256 ?_
      refine lv_if_eq (tgt := 263) hx hb d_M_curve_259 rfl (fun h259 => ?_) (fun h259 => ?_)
      · rw [if_pos h259] at hres
        refine lv_lload_n hx hb d_M_curve_263 rfl (lv_at hl 2 rfl) ?_
        refine lv_lconst (v := 0) hx hb d_M_curve_264 (by decide) ?_
        refine W.lcmp hx hb d_M_curve_265 ?_
        have J274 : ∀ (t274_0 : Int32), km_curve_j274 tn ax ay bx bz cx cz t255_0 t255_1 t255_2 t274_0 = RES → ∀ (ls : Array Slot) (H : Heap) (locs : List Loc), lv_has ls 23 [(0, .ref h0), (1, .long ax), (3, .long ay), (5, .long bx), (7, .long bz), (9, .long cx), (11, .long cz)] → va_P (dC, dI) cls9 [(h0, .inr (2, [.int wd, .ref apx, .ref apy, .ref aon, .ref aen, .int cn, .int pn, .int t255_2, .int tn, .ref afi, .ref ase])), (apx, .inl (cJ, 256, .inr (.inl px))), (apy, .inl (cJ, 256, .inr (.inl py))), (aon, .inl (cZ, 256, .inl on)), (aen, .inl (cI, 256, .inl en)), (afi, .inl (cJ, 6, .inr (.inl t255_0))), (ase, .inl (cJ, 6, .inr (.inl t255_1)))] H → va_D A [(h0, .inr (2, [.int wd, .ref apx, .ref apy, .ref aon, .ref aen, .int cn, .int pn, .int t255_2, .int tn, .ref afi, .ref ase])), (apx, .inl (cJ, 256, .inr (.inl px))), (apy, .inl (cJ, 256, .inr (.inl py))), (aon, .inl (cZ, 256, .inl on)), (aen, .inl (cI, 256, .inl en)), (afi, .inl (cJ, 6, .inr (.inl t255_0))), (ase, .inl (cJ, 6, .inr (.inl t255_1)))] → va_S A s.heap H locs → W p l e R s m args below meth c H locs 0 0 Q (F0 m 274 ls [.int t274_0]) := by
          intro t274_0 hres ls H locs hl hP hD hS
          unfold km_curve_j274 at hres
          refine lv_istore (lv' := [(21, .int t274_0), (0, .ref h0), (1, .long ax), (3, .long ay), (5, .long bx), (7, .long bz), (9, .long cx), (11, .long cz)]) hx hb d_M_curve_274 hl (by decide) rfl (fun ls hl => ?_)
          refine lv_lload hx hb d_M_curve_276 (lv_at hl 7 rfl) ?_
          refine lv_lconst (v := 0) hx hb d_M_curve_278 (by decide) ?_
          refine W.lcmp hx hb d_M_curve_279 ?_
          have J288 : ∀ (t288_0 : Int32), km_curve_j288 tn ax ay bx bz cx cz t255_0 t255_1 t255_2 t274_0 t288_0 = RES → ∀ (ls : Array Slot) (H : Heap) (locs : List Loc), lv_has ls 23 [(21, .int t274_0), (0, .ref h0), (1, .long ax), (3, .long ay), (5, .long bx), (7, .long bz), (9, .long cx), (11, .long cz)] → va_P (dC, dI) cls9 [(h0, .inr (2, [.int wd, .ref apx, .ref apy, .ref aon, .ref aen, .int cn, .int pn, .int t255_2, .int tn, .ref afi, .ref ase])), (apx, .inl (cJ, 256, .inr (.inl px))), (apy, .inl (cJ, 256, .inr (.inl py))), (aon, .inl (cZ, 256, .inl on)), (aen, .inl (cI, 256, .inl en)), (afi, .inl (cJ, 6, .inr (.inl t255_0))), (ase, .inl (cJ, 6, .inr (.inl t255_1)))] H → va_D A [(h0, .inr (2, [.int wd, .ref apx, .ref apy, .ref aon, .ref aen, .int cn, .int pn, .int t255_2, .int tn, .ref afi, .ref ase])), (apx, .inl (cJ, 256, .inr (.inl px))), (apy, .inl (cJ, 256, .inr (.inl py))), (aon, .inl (cZ, 256, .inl on)), (aen, .inl (cI, 256, .inl en)), (afi, .inl (cJ, 6, .inr (.inl t255_0))), (ase, .inl (cJ, 6, .inr (.inl t255_1)))] → va_S A s.heap H locs → W p l e R s m args below meth c H locs 0 0 Q (F0 m 288 ls [.int t288_0]) := by
            intro t288_0 hres ls H locs hl hP hD hS
            unfold km_curve_j288 at hres
            refine lv_istore (lv' := [(22, .int t288_0), (21, .int t274_0), (0, .ref h0), (1, .long ax), (3, .long ay), (5, .long bx), (7, .long bz), (9, .long cx), (11, .long cz)]) hx hb d_M_curve_288 hl (by decide) rfl (fun ls hl => ?_)
            refine lv_iload hx hb d_M_curve_290 (lv_at hl 1 rfl) ?_
            refine lv_iload hx hb d_M_curve_292 (lv_at hl 0 rfl) ?_
            have J447 : ∀ (t447_0 : Nat → Int64) (t447_1 : Nat → Int64) (t447_2 : Int32) (t447_3 : Int32), km_curve_j447 t447_0 t447_1 t447_2 t447_3 = RES → ∀ (ls : Array Slot) (H : Heap) (locs : List Loc), lv_has ls 23 [] → va_P (dC, dI) cls9 [(h0, .inr (2, [.int wd, .ref apx, .ref apy, .ref aon, .ref aen, .int cn, .int pn, .int t447_2, .int t447_3, .ref afi, .ref ase])), (apx, .inl (cJ, 256, .inr (.inl px))), (apy, .inl (cJ, 256, .inr (.inl py))), (aon, .inl (cZ, 256, .inl on)), (aen, .inl (cI, 256, .inl en)), (afi, .inl (cJ, 6, .inr (.inl t447_0))), (ase, .inl (cJ, 6, .inr (.inl t447_1)))] H → va_D A [(h0, .inr (2, [.int wd, .ref apx, .ref apy, .ref aon, .ref aen, .int cn, .int pn, .int t447_2, .int t447_3, .ref afi, .ref ase])), (apx, .inl (cJ, 256, .inr (.inl px))), (apy, .inl (cJ, 256, .inr (.inl py))), (aon, .inl (cZ, 256, .inl on)), (aen, .inl (cI, 256, .inl en)), (afi, .inl (cJ, 6, .inr (.inl t447_0))), (ase, .inl (cJ, 6, .inr (.inl t447_1)))] → va_S A s.heap H locs → W p l e R s m args below meth c H locs 0 0 Q (F0 m 447 ls []) := by
              intro t447_0 t447_1 t447_2 t447_3 hres ls H locs hl hP hD hS
              unfold km_curve_j447 at hres
              rw [hQ]
              subst hres
              exact W.vret hx hb hr (fun t ht hW => ⟨⟨(), rfl, trivial, ⟨by rw [ht]; exact hP, va_K.moved hW.alike hK, hD⟩⟩, hS.F ht⟩) hS.2.2 d_M_curve_447
            refine lv_icmp_eq (tgt := 332) hx hb d_M_curve_294 rfl (fun h294 => ?_) (fun h294 => ?_)
            · rw [if_pos h294] at hres
              refine lv_iload hx hb d_M_curve_332 (lv_at hl 1 rfl) ?_
              have J354 : km_curve_j354 tn ax ay bx bz cx cz t255_0 t255_1 t255_2 t274_0 = RES → ∀ (ls : Array Slot) (H : Heap) (locs : List Loc), lv_has ls 23 [(21, .int t274_0), (0, .ref h0), (1, .long ax), (3, .long ay), (5, .long bx), (7, .long bz), (9, .long cx), (11, .long cz)] → va_P (dC, dI) cls9 [(h0, .inr (2, [.int wd, .ref apx, .ref apy, .ref aon, .ref aen, .int cn, .int pn, .int t255_2, .int tn, .ref afi, .ref ase])), (apx, .inl (cJ, 256, .inr (.inl px))), (apy, .inl (cJ, 256, .inr (.inl py))), (aon, .inl (cZ, 256, .inl on)), (aen, .inl (cI, 256, .inl en)), (afi, .inl (cJ, 6, .inr (.inl t255_0))), (ase, .inl (cJ, 6, .inr (.inl t255_1)))] H → va_D A [(h0, .inr (2, [.int wd, .ref apx, .ref apy, .ref aon, .ref aen, .int cn, .int pn, .int t255_2, .int tn, .ref afi, .ref ase])), (apx, .inl (cJ, 256, .inr (.inl px))), (apy, .inl (cJ, 256, .inr (.inl py))), (aon, .inl (cZ, 256, .inl on)), (aen, .inl (cI, 256, .inl en)), (afi, .inl (cJ, 6, .inr (.inl t255_0))), (ase, .inl (cJ, 6, .inr (.inl t255_1)))] → va_S A s.heap H locs → W p l e R s m args below meth c H locs 0 0 Q (F0 m 354 ls []) := by
                intro  hres ls H locs hl hP hD hS
                unfold km_curve_j354 at hres
                refine lv_lload hx hb d_M_curve_354 (lv_at hl 5 rfl) ?_
                refine lv_lload hx hb d_M_curve_356 (lv_at hl 5 rfl) ?_
                refine lv_lmul hx hb d_M_curve_358 ?_
                refine lv_lload_n hx hb d_M_curve_359 rfl (lv_at hl 3 rfl) ?_
                refine lv_lload hx hb d_M_curve_360 (lv_at hl 7 rfl) ?_
                refine lv_lmul hx hb d_M_curve_362 ?_
                refine W.lcmp hx hb d_M_curve_363 ?_
                refine lv_if_le (tgt := 447) hx hb d_M_curve_364 rfl (fun h364 => ?_) (fun h364 => ?_)
                · rw [if_pos h364] at hres
                  exact J447 t255_0 t255_1 t255_2 tn hres ls _ _ (lv_sub hl [] rfl) hP hD hS
                · rw [if_neg h364] at hres
                  refine lv_aload_n hx hb d_M_curve_367 rfl (lv_at hl 1 rfl) ?_
                  refine lv_iload hx hb d_M_curve_368 (lv_at hl 0 rfl) ?_
                  refine lv_iload hx hb d_M_curve_370 (lv_at hl 0 rfl) ?_
                  have J380 : ∀ (t380_0 : Int32), km_curve_j380 tn ax ay bx bz cx cz t255_0 t255_1 t255_2 t274_0 t380_0 = RES → ∀ (ls : Array Slot) (H : Heap) (locs : List Loc), lv_has ls 23 [(21, .int t274_0), (0, .ref h0), (1, .long ax), (3, .long ay), (5, .long bx), (7, .long bz), (9, .long cx), (11, .long cz)] → va_P (dC, dI) cls9 [(h0, .inr (2, [.int wd, .ref apx, .ref apy, .ref aon, .ref aen, .int cn, .int pn, .int t255_2, .int tn, .ref afi, .ref ase])), (apx, .inl (cJ, 256, .inr (.inl px))), (apy, .inl (cJ, 256, .inr (.inl py))), (aon, .inl (cZ, 256, .inl on)), (aen, .inl (cI, 256, .inl en)), (afi, .inl (cJ, 6, .inr (.inl t255_0))), (ase, .inl (cJ, 6, .inr (.inl t255_1)))] H → va_D A [(h0, .inr (2, [.int wd, .ref apx, .ref apy, .ref aon, .ref aen, .int cn, .int pn, .int t255_2, .int tn, .ref afi, .ref ase])), (apx, .inl (cJ, 256, .inr (.inl px))), (apy, .inl (cJ, 256, .inr (.inl py))), (aon, .inl (cZ, 256, .inl on)), (aen, .inl (cI, 256, .inl en)), (afi, .inl (cJ, 6, .inr (.inl t255_0))), (ase, .inl (cJ, 6, .inr (.inl t255_1)))] → va_S A s.heap H locs → W p l e R s m args below meth c H locs 0 0 Q (F0 m 380 ls [.int t380_0, .int t274_0, .ref h0]) := by
                    intro t380_0 hres ls H locs hl hP hD hS
                    unfold km_curve_j380 at hres
                    refine lv_aload_n hx hb d_M_curve_380 rfl (lv_at hl 1 rfl) ?_
                    refine lv_lload_n hx hb d_M_curve_381 rfl (lv_at hl 2 rfl) ?_
                    refine lv_lload_n hx hb d_M_curve_382 rfl (lv_at hl 3 rfl) ?_
                    refine lv_lload hx hb d_M_curve_383 (lv_at hl 4 rfl) ?_
                    refine lv_lload hx hb d_M_curve_385 (lv_at hl 5 rfl) ?_
                    refine lv_lload hx hb d_M_curve_387 (lv_at hl 6 rfl) ?_
                    refine lv_lload hx hb d_M_curve_389 (lv_at hl 7 rfl) ?_
                    refine lv_iload hx hb d_M_curve_391 (lv_at hl 0 rfl) ?_
                    have J401 : ∀ (t401_0 : Int32), km_curve_j401 tn ax ay bx bz cx cz t255_0 t255_1 t255_2 t274_0 t380_0 t401_0 = RES → ∀ (ls : Array Slot) (H : Heap) (locs : List Loc), lv_has ls 23 [(21, .int t274_0), (0, .ref h0), (1, .long ax), (3, .long ay), (5, .long bx), (7, .long bz), (9, .long cx), (11, .long cz)] → va_P (dC, dI) cls9 [(h0, .inr (2, [.int wd, .ref apx, .ref apy, .ref aon, .ref aen, .int cn, .int pn, .int t255_2, .int tn, .ref afi, .ref ase])), (apx, .inl (cJ, 256, .inr (.inl px))), (apy, .inl (cJ, 256, .inr (.inl py))), (aon, .inl (cZ, 256, .inl on)), (aen, .inl (cI, 256, .inl en)), (afi, .inl (cJ, 6, .inr (.inl t255_0))), (ase, .inl (cJ, 6, .inr (.inl t255_1)))] H → va_D A [(h0, .inr (2, [.int wd, .ref apx, .ref apy, .ref aon, .ref aen, .int cn, .int pn, .int t255_2, .int tn, .ref afi, .ref ase])), (apx, .inl (cJ, 256, .inr (.inl px))), (apy, .inl (cJ, 256, .inr (.inl py))), (aon, .inl (cZ, 256, .inl on)), (aen, .inl (cI, 256, .inl en)), (afi, .inl (cJ, 6, .inr (.inl t255_0))), (ase, .inl (cJ, 6, .inr (.inl t255_1)))] → va_S A s.heap H locs → W p l e R s m args below meth c H locs 0 0 Q (F0 m 401 ls [.int t401_0, .long cz, .long cx, .long bz, .long bx, .long ay, .long ax, .ref h0, .int t380_0, .int t274_0, .ref h0]) := by
                      intro t401_0 hres ls H locs hl hP hD hS
                      unfold km_curve_j401 at hres
                      refine cm_i (wc := [(h0, .inr (2, [.int wd, .ref apx, .ref apy, .ref aon, .ref aen, .int cn, .int pn, .int t255_2, .int tn, .ref afi, .ref ase])), (apx, .inl (cJ, 256, .inr (.inl px))), (apy, .inl (cJ, 256, .inr (.inl py))), (aon, .inl (cZ, 256, .inl on)), (aen, .inl (cI, 256, .inl en)), (afi, .inl (cJ, 6, .inr (.inl t255_0))), (ase, .inl (cJ, 6, .inr (.inl t255_1)))]) (wr := []) (W1 := [(h0, .inr (2, [.int wd, .ref apx, .ref apy, .ref aon, .ref aen, .int cn, .int pn, .int t255_2, .int tn, .ref afi, .ref ase])), (apx, .inl (cJ, 256, .inr (.inl px))), (apy, .inl (cJ, 256, .inr (.inl py))), (aon, .inl (cZ, 256, .inl on)), (aen, .inl (cI, 256, .inl en)), (afi, .inl (cJ, 6, .inr (.inl ((km_side t255_0 t255_1 ax ay bx bz cx cz t401_0).2.1)))), (ase, .inl (cJ, 6, .inr (.inl ((km_side t255_0 t255_1 ax ay bx bz cx cz t401_0).2.2))))]) (w2 := [(h0, .inr (2, [.int wd, .ref apx, .ref apy, .ref aon, .ref aen, .int cn, .int pn, .int t255_2, .int tn, .ref afi, .ref ase])), (apx, .inl (cJ, 256, .inr (.inl px))), (apy, .inl (cJ, 256, .inr (.inl py))), (aon, .inl (cZ, 256, .inl on)), (aen, .inl (cI, 256, .inl en)), (afi, .inl (cJ, 6, .inr (.inl ((km_side t255_0 t255_1 ax ay bx bz cx cz t401_0).2.1)))), (ase, .inl (cJ, 6, .inr (.inl ((km_side t255_0 t255_1 ax ay bx bz cx cz t401_0).2.2))))]) (va_runV (g := F0 m 401 ls [.int t401_0, .long cz, .long cx, .long bz, .long bx, .long ay, .long ax, .ref h0, .int t380_0, .int t274_0, .ref h0]) (As := [.long ax, .long ay, .long bx, .long bz, .long cx, .long cz, .int t401_0]) (rest := [.int t380_0, .int t274_0, .ref h0]) ⟨hx, hb, hml, hown, hts⟩ (c_km_side l dC dI h0 apx apy aon aen afi ase cJ cZ cI wd cn pn t255_2 tn px py on en t255_0 t255_1 ax ay bx bz cx cz t401_0  _) (cwV 7 hts (gi_V tw_376 tw_378 ts_16 tw_6 tw_379) rfl rfl rfl (by decide +kernel) ⟨(by rw [← hR]; exact Nat.le_of_ble_eq_true rfl), (by rw [← hR]; exact Nat.le_of_ble_eq_true rfl)⟩) ⟨mc_blind, va_recv (ci := 2) (q := (R_M, F_M, 11)) hK hP rfl (q0 := 0) rfl, mc_pre (hP.sub [0, 1, 2, 3, 4, 5, 6] rfl) (hK.sub [0, 1, 2] rfl) (hD.sub [0, 1, 2, 3, 4, 5, 6] (by decide) rfl)⟩ rfl rfl hl.1 rfl (lv_room (Nat.le_of_ble_eq_true rfl)) d_M_curve_401 ⟨Nat.zero_le _, Nat.zero_le _⟩) hP hD hS hA [0, 1, 2, 3, 4, 5, 6] [] [0, 1, 2, 3, 4, 5, 6] rfl rfl (by decide) (by decide) rfl rfl (by decide) (fun H locs hP hD hS => ?_)
                      have K404 : ∀ (x401 : Int32 × (Nat → Int64) × (Nat → Int64)), km_curve_k404 tn ax ay bx bz cx cz t255_2 t274_0 t380_0 x401 = RES → ∀ (ls : Array Slot) (H : Heap) (locs : List Loc), lv_has ls 23 [(21, .int t274_0), (0, .ref h0), (1, .long ax), (3, .long ay), (5, .long bx), (7, .long bz), (9, .long cx), (11, .long cz)] → va_P (dC, dI) cls9 [(h0, .inr (2, [.int wd, .ref apx, .ref apy, .ref aon, .ref aen, .int cn, .int pn, .int t255_2, .int tn, .ref afi, .ref ase])), (apx, .inl (cJ, 256, .inr (.inl px))), (apy, .inl (cJ, 256, .inr (.inl py))), (aon, .inl (cZ, 256, .inl on)), (aen, .inl (cI, 256, .inl en)), (afi, .inl (cJ, 6, .inr (.inl x401.2.1))), (ase, .inl (cJ, 6, .inr (.inl x401.2.2)))] H → va_D A [(h0, .inr (2, [.int wd, .ref apx, .ref apy, .ref aon, .ref aen, .int cn, .int pn, .int t255_2, .int tn, .ref afi, .ref ase])), (apx, .inl (cJ, 256, .inr (.inl px))), (apy, .inl (cJ, 256, .inr (.inl py))), (aon, .inl (cZ, 256, .inl on)), (aen, .inl (cI, 256, .inl en)), (afi, .inl (cJ, 6, .inr (.inl x401.2.1))), (ase, .inl (cJ, 6, .inr (.inl x401.2.2)))] → va_S A s.heap H locs → W p l e R s m args below meth c H locs 0 0 Q (F0 m 404 ls [.int x401.1, .int t380_0, .int t274_0, .ref h0]) := by
                        intro x401 hres ls H locs hl hP hD hS
                        unfold km_curve_k404 at hres
                        refine cm_v (wc := [(h0, .inr (2, [.int wd, .ref apx, .ref apy, .ref aon, .ref aen, .int cn, .int pn, .int t255_2, .int tn, .ref afi, .ref ase])), (apx, .inl (cJ, 256, .inr (.inl px))), (apy, .inl (cJ, 256, .inr (.inl py))), (aon, .inl (cZ, 256, .inl on)), (aen, .inl (cI, 256, .inl en)), (afi, .inl (cJ, 6, .inr (.inl x401.2.1))), (ase, .inl (cJ, 6, .inr (.inl x401.2.2)))]) (wr := []) (W1 := [(h0, .inr (2, [.int wd, .ref apx, .ref apy, .ref aon, .ref aen, .int cn, .int pn, .int ((km_cross t255_2 tn t274_0 t380_0 x401.1).1), .int ((km_cross t255_2 tn t274_0 t380_0 x401.1).2), .ref afi, .ref ase])), (apx, .inl (cJ, 256, .inr (.inl px))), (apy, .inl (cJ, 256, .inr (.inl py))), (aon, .inl (cZ, 256, .inl on)), (aen, .inl (cI, 256, .inl en)), (afi, .inl (cJ, 6, .inr (.inl x401.2.1))), (ase, .inl (cJ, 6, .inr (.inl x401.2.2)))]) (w2 := [(h0, .inr (2, [.int wd, .ref apx, .ref apy, .ref aon, .ref aen, .int cn, .int pn, .int ((km_cross t255_2 tn t274_0 t380_0 x401.1).1), .int ((km_cross t255_2 tn t274_0 t380_0 x401.1).2), .ref afi, .ref ase])), (apx, .inl (cJ, 256, .inr (.inl px))), (apy, .inl (cJ, 256, .inr (.inl py))), (aon, .inl (cZ, 256, .inl on)), (aen, .inl (cI, 256, .inl en)), (afi, .inl (cJ, 6, .inr (.inl x401.2.1))), (ase, .inl (cJ, 6, .inr (.inl x401.2.2)))]) (va_runV (g := F0 m 404 ls [.int x401.1, .int t380_0, .int t274_0, .ref h0]) (As := [.int t274_0, .int t380_0, .int x401.1]) (rest := []) ⟨hx, hb, hml, hown, hts⟩ (c_km_cross l dC dI h0 apx apy aon aen afi ase cJ cZ cI wd cn pn px py on en x401.2.1 x401.2.2 t255_2 tn t274_0 t380_0 x401.1  _) (cwV 3 hts (gi_V tw_353 tw_355 ts_13 tw_6 tw_356) rfl rfl rfl (by decide +kernel) ⟨(by rw [← hR]; exact Nat.le_of_ble_eq_true rfl), (by rw [← hR]; exact Nat.le_of_ble_eq_true rfl)⟩) ⟨mc_blind, va_recv (ci := 2) (q := (R_M, F_M, 11)) hK hP rfl (q0 := 0) rfl, mc_pre (hP.sub [0, 1, 2, 3, 4, 5, 6] rfl) (hK.sub [0, 1, 2] rfl) (hD.sub [0, 1, 2, 3, 4, 5, 6] (by decide) rfl)⟩ rfl rfl hl.1 rfl (lv_room (Nat.le_of_ble_eq_true rfl)) d_M_curve_404 ⟨Nat.zero_le _, Nat.zero_le _⟩) hP hD hS hA [0, 1, 2, 3, 4, 5, 6] [] [0, 1, 2, 3, 4, 5, 6] rfl rfl (by decide) (by decide) rfl rfl (by decide) (fun H locs hP hD hS => ?_)
                        have K407 : ∀ (x404 : Int32 × Int32), km_curve_k407 ax ay bx bz cx cz t274_0 x401 x404 = RES → ∀ (ls : Array Slot) (H : Heap) (locs : List Loc), lv_has ls 23 [(21, .int t274_0), (0, .ref h0), (1, .long ax), (3, .long ay), (5, .long bx), (7, .long bz), (9, .long cx), (11, .long cz)] → va_P (dC, dI) cls9 [(h0, .inr (2, [.int wd, .ref apx, .ref apy, .ref aon, .ref aen, .int cn, .int pn, .int x404.1, .int x404.2, .ref afi, .ref ase])), (apx, .inl (cJ, 256, .inr (.inl px))), (apy, .inl (cJ, 256, .inr (.inl py))), (aon, .inl (cZ, 256, .inl on)), (aen, .inl (cI, 256, .inl en)), (afi, .inl (cJ, 6, .inr (.inl x401.2.1))), (ase, .inl (cJ, 6, .inr (.inl x401.2.2)))] H → va_D A [(h0, .inr (2, [.int wd, .ref apx, .ref apy, .ref aon, .ref aen, .int cn, .int pn, .int x404.1, .int x404.2, .ref afi, .ref ase])), (apx, .inl (cJ, 256, .inr (.inl px))), (apy, .inl (cJ, 256, .inr (.inl py))), (aon, .inl (cZ, 256, .inl on)), (aen, .inl (cI, 256, .inl en)), (afi, .inl (cJ, 6, .inr (.inl x401.2.1))), (ase, .inl (cJ, 6, .inr (.inl x401.2.2)))] → va_S A s.heap H locs → W p l e R s m args below meth c H locs 0 0 Q (F0 m 407 ls []) := by
                          intro x404 hres ls H locs hl hP hD hS
                          unfold km_curve_k407 at hres
                          refine lv_aload_n hx hb d_M_curve_407 rfl (lv_at hl 1 rfl) ?_
                          refine lv_iload hx hb d_M_curve_408 (lv_at hl 0 rfl) ?_
                          have J418 : ∀ (t418_0 : Int32), km_curve_j418 ax ay bx bz cx cz t274_0 x401 x404 t418_0 = RES → ∀ (ls : Array Slot) (H : Heap) (locs : List Loc), lv_has ls 23 [(21, .int t274_0), (0, .ref h0), (1, .long ax), (3, .long ay), (5, .long bx), (7, .long bz), (9, .long cx), (11, .long cz)] → va_P (dC, dI) cls9 [(h0, .inr (2, [.int wd, .ref apx, .ref apy, .ref aon, .ref aen, .int cn, .int pn, .int x404.1, .int x404.2, .ref afi, .ref ase])), (apx, .inl (cJ, 256, .inr (.inl px))), (apy, .inl (cJ, 256, .inr (.inl py))), (aon, .inl (cZ, 256, .inl on)), (aen, .inl (cI, 256, .inl en)), (afi, .inl (cJ, 6, .inr (.inl x401.2.1))), (ase, .inl (cJ, 6, .inr (.inl x401.2.2)))] H → va_D A [(h0, .inr (2, [.int wd, .ref apx, .ref apy, .ref aon, .ref aen, .int cn, .int pn, .int x404.1, .int x404.2, .ref afi, .ref ase])), (apx, .inl (cJ, 256, .inr (.inl px))), (apy, .inl (cJ, 256, .inr (.inl py))), (aon, .inl (cZ, 256, .inl on)), (aen, .inl (cI, 256, .inl en)), (afi, .inl (cJ, 6, .inr (.inl x401.2.1))), (ase, .inl (cJ, 6, .inr (.inl x401.2.2)))] → va_S A s.heap H locs → W p l e R s m args below meth c H locs 0 0 Q (F0 m 418 ls [.int t418_0, .ref h0]) := by
                            intro t418_0 hres ls H locs hl hP hD hS
                            unfold km_curve_j418 at hres
                            refine lv_iload hx hb d_M_curve_418 (lv_at hl 0 rfl) ?_
                            refine lv_aload_n hx hb d_M_curve_420 rfl (lv_at hl 1 rfl) ?_
                            refine lv_lload_n hx hb d_M_curve_421 rfl (lv_at hl 2 rfl) ?_
                            refine lv_lload_n hx hb d_M_curve_422 rfl (lv_at hl 3 rfl) ?_
                            refine lv_lload hx hb d_M_curve_423 (lv_at hl 4 rfl) ?_
                            refine lv_lload hx hb d_M_curve_425 (lv_at hl 5 rfl) ?_
                            refine lv_lload hx hb d_M_curve_427 (lv_at hl 6 rfl) ?_
                            refine lv_lload hx hb d_M_curve_429 (lv_at hl 7 rfl) ?_
                            refine lv_iload hx hb d_M_curve_431 (lv_at hl 0 rfl) ?_
                            have J441 : ∀ (t441_0 : Int32), km_curve_j441 ax ay bx bz cx cz t274_0 x401 x404 t418_0 t441_0 = RES → ∀ (ls : Array Slot) (H : Heap) (locs : List Loc), lv_has ls 23 [] → va_P (dC, dI) cls9 [(h0, .inr (2, [.int wd, .ref apx, .ref apy, .ref aon, .ref aen, .int cn, .int pn, .int x404.1, .int x404.2, .ref afi, .ref ase])), (apx, .inl (cJ, 256, .inr (.inl px))), (apy, .inl (cJ, 256, .inr (.inl py))), (aon, .inl (cZ, 256, .inl on)), (aen, .inl (cI, 256, .inl en)), (afi, .inl (cJ, 6, .inr (.inl x401.2.1))), (ase, .inl (cJ, 6, .inr (.inl x401.2.2)))] H → va_D A [(h0, .inr (2, [.int wd, .ref apx, .ref apy, .ref aon, .ref aen, .int cn, .int pn, .int x404.1, .int x404.2, .ref afi, .ref ase])), (apx, .inl (cJ, 256, .inr (.inl px))), (apy, .inl (cJ, 256, .inr (.inl py))), (aon, .inl (cZ, 256, .inl on)), (aen, .inl (cI, 256, .inl en)), (afi, .inl (cJ, 6, .inr (.inl x401.2.1))), (ase, .inl (cJ, 6, .inr (.inl x401.2.2)))] → va_S A s.heap H locs → W p l e R s m args below meth c H locs 0 0 Q (F0 m 441 ls [.int t441_0, .long cz, .long cx, .long bz, .long bx, .long ay, .long ax, .ref h0, .int t274_0, .int t418_0, .ref h0]) := by
                              intro t441_0 hres ls H locs hl hP hD hS
                              unfold km_curve_j441 at hres
                              refine cm_i (wc := [(h0, .inr (2, [.int wd, .ref apx, .ref apy, .ref aon, .ref aen, .int cn, .int pn, .int x404.1, .int x404.2, .ref afi, .ref ase])), (apx, .inl (cJ, 256, .inr (.inl px))), (apy, .inl (cJ, 256, .inr (.inl py))), (aon, .inl (cZ, 256, .inl on)), (aen, .inl (cI, 256, .inl en)), (afi, .inl (cJ, 6, .inr (.inl x401.2.1))), (ase, .inl (cJ, 6, .inr (.inl x401.2.2)))]) (wr := []) (W1 := [(h0, .inr (2, [.int wd, .ref apx, .ref apy, .ref aon, .ref aen, .int cn, .int pn, .int x404.1, .int x404.2, .ref afi, .ref ase])), (apx, .inl (cJ, 256, .inr (.inl px))), (apy, .inl (cJ, 256, .inr (.inl py))), (aon, .inl (cZ, 256, .inl on)), (aen, .inl (cI, 256, .inl en)), (afi, .inl (cJ, 6, .inr (.inl ((km_side x401.2.1 x401.2.2 ax ay bx bz cx cz t441_0).2.1)))), (ase, .inl (cJ, 6, .inr (.inl ((km_side x401.2.1 x401.2.2 ax ay bx bz cx cz t441_0).2.2))))]) (w2 := [(h0, .inr (2, [.int wd, .ref apx, .ref apy, .ref aon, .ref aen, .int cn, .int pn, .int x404.1, .int x404.2, .ref afi, .ref ase])), (apx, .inl (cJ, 256, .inr (.inl px))), (apy, .inl (cJ, 256, .inr (.inl py))), (aon, .inl (cZ, 256, .inl on)), (aen, .inl (cI, 256, .inl en)), (afi, .inl (cJ, 6, .inr (.inl ((km_side x401.2.1 x401.2.2 ax ay bx bz cx cz t441_0).2.1)))), (ase, .inl (cJ, 6, .inr (.inl ((km_side x401.2.1 x401.2.2 ax ay bx bz cx cz t441_0).2.2))))]) (va_runV (g := F0 m 441 ls [.int t441_0, .long cz, .long cx, .long bz, .long bx, .long ay, .long ax, .ref h0, .int t274_0, .int t418_0, .ref h0]) (As := [.long ax, .long ay, .long bx, .long bz, .long cx, .long cz, .int t441_0]) (rest := [.int t274_0, .int t418_0, .ref h0]) ⟨hx, hb, hml, hown, hts⟩ (c_km_side l dC dI h0 apx apy aon aen afi ase cJ cZ cI wd cn pn x404.1 x404.2 px py on en x401.2.1 x401.2.2 ax ay bx bz cx cz t441_0  _) (cwV 7 hts (gi_V tw_376 tw_378 ts_16 tw_6 tw_379) rfl rfl rfl (by decide +kernel) ⟨(by rw [← hR]; exact Nat.le_of_ble_eq_true rfl), (by rw [← hR]; exact Nat.le_of_ble_eq_true rfl)⟩) ⟨mc_blind, va_recv (ci := 2) (q := (R_M, F_M, 11)) hK hP rfl (q0 := 0) rfl, mc_pre (hP.sub [0, 1, 2, 3, 4, 5, 6] rfl) (hK.sub [0, 1, 2] rfl) (hD.sub [0, 1, 2, 3, 4, 5, 6] (by decide) rfl)⟩ rfl rfl hl.1 rfl (lv_room (Nat.le_of_ble_eq_true rfl)) d_M_curve_441 ⟨Nat.zero_le _, Nat.zero_le _⟩) hP hD hS hA [0, 1, 2, 3, 4, 5, 6] [] [0, 1, 2, 3, 4, 5, 6] rfl rfl (by decide) (by decide) rfl rfl (by decide) (fun H locs hP hD hS => ?_)
                              have K444 : ∀ (x441 : Int32 × (Nat → Int64) × (Nat → Int64)), km_curve_k444 t274_0 x404 t418_0 x441 = RES → ∀ (ls : Array Slot) (H : Heap) (locs : List Loc), lv_has ls 23 [] → va_P (dC, dI) cls9 [(h0, .inr (2, [.int wd, .ref apx, .ref apy, .ref aon, .ref aen, .int cn, .int pn, .int x404.1, .int x404.2, .ref afi, .ref ase])), (apx, .inl (cJ, 256, .inr (.inl px))), (apy, .inl (cJ, 256, .inr (.inl py))), (aon, .inl (cZ, 256, .inl on)), (aen, .inl (cI, 256, .inl en)), (afi, .inl (cJ, 6, .inr (.inl x441.2.1))), (ase, .inl (cJ, 6, .inr (.inl x441.2.2)))] H → va_D A [(h0, .inr (2, [.int wd, .ref apx, .ref apy, .ref aon, .ref aen, .int cn, .int pn, .int x404.1, .int x404.2, .ref afi, .ref ase])), (apx, .inl (cJ, 256, .inr (.inl px))), (apy, .inl (cJ, 256, .inr (.inl py))), (aon, .inl (cZ, 256, .inl on)), (aen, .inl (cI, 256, .inl en)), (afi, .inl (cJ, 6, .inr (.inl x441.2.1))), (ase, .inl (cJ, 6, .inr (.inl x441.2.2)))] → va_S A s.heap H locs → W p l e R s m args below meth c H locs 0 0 Q (F0 m 444 ls [.int x441.1, .int t274_0, .int t418_0, .ref h0]) := by
                                intro x441 hres ls H locs hl hP hD hS
                                unfold km_curve_k444 at hres
                                refine cm_v (wc := [(h0, .inr (2, [.int wd, .ref apx, .ref apy, .ref aon, .ref aen, .int cn, .int pn, .int x404.1, .int x404.2, .ref afi, .ref ase])), (apx, .inl (cJ, 256, .inr (.inl px))), (apy, .inl (cJ, 256, .inr (.inl py))), (aon, .inl (cZ, 256, .inl on)), (aen, .inl (cI, 256, .inl en)), (afi, .inl (cJ, 6, .inr (.inl x441.2.1))), (ase, .inl (cJ, 6, .inr (.inl x441.2.2)))]) (wr := []) (W1 := [(h0, .inr (2, [.int wd, .ref apx, .ref apy, .ref aon, .ref aen, .int cn, .int pn, .int ((km_cross x404.1 x404.2 t418_0 t274_0 x441.1).1), .int ((km_cross x404.1 x404.2 t418_0 t274_0 x441.1).2), .ref afi, .ref ase])), (apx, .inl (cJ, 256, .inr (.inl px))), (apy, .inl (cJ, 256, .inr (.inl py))), (aon, .inl (cZ, 256, .inl on)), (aen, .inl (cI, 256, .inl en)), (afi, .inl (cJ, 6, .inr (.inl x441.2.1))), (ase, .inl (cJ, 6, .inr (.inl x441.2.2)))]) (w2 := [(h0, .inr (2, [.int wd, .ref apx, .ref apy, .ref aon, .ref aen, .int cn, .int pn, .int ((km_cross x404.1 x404.2 t418_0 t274_0 x441.1).1), .int ((km_cross x404.1 x404.2 t418_0 t274_0 x441.1).2), .ref afi, .ref ase])), (apx, .inl (cJ, 256, .inr (.inl px))), (apy, .inl (cJ, 256, .inr (.inl py))), (aon, .inl (cZ, 256, .inl on)), (aen, .inl (cI, 256, .inl en)), (afi, .inl (cJ, 6, .inr (.inl x441.2.1))), (ase, .inl (cJ, 6, .inr (.inl x441.2.2)))]) (va_runV (g := F0 m 444 ls [.int x441.1, .int t274_0, .int t418_0, .ref h0]) (As := [.int t418_0, .int t274_0, .int x441.1]) (rest := []) ⟨hx, hb, hml, hown, hts⟩ (c_km_cross l dC dI h0 apx apy aon aen afi ase cJ cZ cI wd cn pn px py on en x441.2.1 x441.2.2 x404.1 x404.2 t418_0 t274_0 x441.1  _) (cwV 3 hts (gi_V tw_353 tw_355 ts_13 tw_6 tw_356) rfl rfl rfl (by decide +kernel) ⟨(by rw [← hR]; exact Nat.le_of_ble_eq_true rfl), (by rw [← hR]; exact Nat.le_of_ble_eq_true rfl)⟩) ⟨mc_blind, va_recv (ci := 2) (q := (R_M, F_M, 11)) hK hP rfl (q0 := 0) rfl, mc_pre (hP.sub [0, 1, 2, 3, 4, 5, 6] rfl) (hK.sub [0, 1, 2] rfl) (hD.sub [0, 1, 2, 3, 4, 5, 6] (by decide) rfl)⟩ rfl rfl hl.1 rfl (lv_room (Nat.le_of_ble_eq_true rfl)) d_M_curve_444 ⟨Nat.zero_le _, Nat.zero_le _⟩) hP hD hS hA [0, 1, 2, 3, 4, 5, 6] [] [0, 1, 2, 3, 4, 5, 6] rfl rfl (by decide) (by decide) rfl rfl (by decide) (fun H locs hP hD hS => ?_)
                                have K447 : ∀ (x444 : Int32 × Int32), km_curve_k447 x441 x444 = RES → ∀ (ls : Array Slot) (H : Heap) (locs : List Loc), lv_has ls 23 [] → va_P (dC, dI) cls9 [(h0, .inr (2, [.int wd, .ref apx, .ref apy, .ref aon, .ref aen, .int cn, .int pn, .int x444.1, .int x444.2, .ref afi, .ref ase])), (apx, .inl (cJ, 256, .inr (.inl px))), (apy, .inl (cJ, 256, .inr (.inl py))), (aon, .inl (cZ, 256, .inl on)), (aen, .inl (cI, 256, .inl en)), (afi, .inl (cJ, 6, .inr (.inl x441.2.1))), (ase, .inl (cJ, 6, .inr (.inl x441.2.2)))] H → va_D A [(h0, .inr (2, [.int wd, .ref apx, .ref apy, .ref aon, .ref aen, .int cn, .int pn, .int x444.1, .int x444.2, .ref afi, .ref ase])), (apx, .inl (cJ, 256, .inr (.inl px))), (apy, .inl (cJ, 256, .inr (.inl py))), (aon, .inl (cZ, 256, .inl on)), (aen, .inl (cI, 256, .inl en)), (afi, .inl (cJ, 6, .inr (.inl x441.2.1))), (ase, .inl (cJ, 6, .inr (.inl x441.2.2)))] → va_S A s.heap H locs → W p l e R s m args below meth c H locs 0 0 Q (F0 m 447 ls []) := by
                                  intro x444 hres ls H locs hl hP hD hS
                                  unfold km_curve_k447 at hres
                                  exact J447 x441.2.1 x441.2.2 x444.1 x444.2 hres ls _ _ (lv_sub hl [] rfl) hP hD hS
                                exact K447 (km_cross x404.1 x404.2 t418_0 t274_0 x441.1) hres ls _ _ (lv_sub hl [] rfl) hP hD hS
                              exact K444 (km_side x401.2.1 x401.2.2 ax ay bx bz cx cz t441_0) hres ls _ _ (lv_sub hl [] rfl) hP hD hS
                            refine lv_if_eq (tgt := 440) hx hb d_M_curve_433 rfl (fun h433 => ?_) (fun h433 => ?_)
                            · rw [if_pos h433] at hres
                              refine lv_iconst (v := (-1)) hx hb d_M_curve_440 (by decide) ?_
                              exact J441 (-1) hres ls _ _ (lv_sub hl [] rfl) hP hD hS
                            · rw [if_neg h433] at hres
                              refine lv_iconst (v := 1) hx hb d_M_curve_436 (by decide) ?_
                              refine lv_goto (tgt := 441) hx hb d_M_curve_437 rfl ?_
                              exact J441 1 hres ls _ _ (lv_sub hl [] rfl) hP hD hS
                          refine lv_if_ne (tgt := 417) hx hb d_M_curve_410 rfl (fun h410 => ?_) (fun h410 => ?_)
                          · rw [if_neg h410] at hres
                            refine lv_iconst (v := 0) hx hb d_M_curve_417 (by decide) ?_
                            exact J418 0 hres ls _ _ (lv_sub hl [0, 1, 2, 3, 4, 5, 6, 7] rfl) hP hD hS
                          · rw [if_pos h410] at hres
                            refine lv_iconst (v := 1) hx hb d_M_curve_413 (by decide) ?_
                            refine lv_goto (tgt := 418) hx hb d_M_curve_414 rfl ?_
                            exact J418 1 hres ls _ _ (lv_sub hl [0, 1, 2, 3, 4, 5, 6, 7] rfl) hP hD hS
                        exact K407 (km_cross t255_2 tn t274_0 t380_0 x401.1) hres ls _ _ (lv_sub hl [0, 1, 2, 3, 4, 5, 6, 7] rfl) hP hD hS
                      exact K404 (km_side t255_0 t255_1 ax ay bx bz cx cz t401_0) hres ls _ _ (lv_sub hl [0, 1, 2, 3, 4, 5, 6, 7] rfl) hP hD hS
                    refine lv_if_eq (tgt := 400) hx hb d_M_curve_393 rfl (fun h393 => ?_) (fun h393 => ?_)
                    · rw [if_pos h393] at hres
                      refine lv_iconst (v := 1) hx hb d_M_curve_400 (by decide) ?_
                      exact J401 1 hres ls _ _ (lv_sub hl [0, 1, 2, 3, 4, 5, 6, 7] rfl) hP hD hS
                    · rw [if_neg h393] at hres
                      refine lv_iconst (v := (-1)) hx hb d_M_curve_396 (by decide) ?_
                      refine lv_goto (tgt := 401) hx hb d_M_curve_397 rfl ?_
                      exact J401 (-1) hres ls _ _ (lv_sub hl [0, 1, 2, 3, 4, 5, 6, 7] rfl) hP hD hS
                  refine lv_if_ne (tgt := 379) hx hb d_M_curve_372 rfl (fun h372 => ?_) (fun h372 => ?_)
                  · rw [if_neg h372] at hres
                    refine lv_iconst (v := 0) hx hb d_M_curve_379 (by decide) ?_
                    exact J380 0 hres ls _ _ (lv_sub hl [0, 1, 2, 3, 4, 5, 6, 7] rfl) hP hD hS
                  · rw [if_pos h372] at hres
                    refine lv_iconst (v := 1) hx hb d_M_curve_375 (by decide) ?_
                    refine lv_goto (tgt := 380) hx hb d_M_curve_376 rfl ?_
                    exact J380 1 hres ls _ _ (lv_sub hl [0, 1, 2, 3, 4, 5, 6, 7] rfl) hP hD hS
              refine lv_if_eq (tgt := 347) hx hb d_M_curve_334 rfl (fun h334 => ?_) (fun h334 => ?_)
              · rw [if_pos h334] at hres
                refine lv_lload hx hb d_M_curve_347 (lv_at hl 6 rfl) ?_
                refine lv_lconst (v := 0) hx hb d_M_curve_349 (by decide) ?_
                refine W.lcmp hx hb d_M_curve_350 ?_
                refine lv_if_le (tgt := 447) hx hb d_M_curve_351 rfl (fun h351 => ?_) (fun h351 => ?_)
                · rw [if_pos h351] at hres
                  exact J447 t255_0 t255_1 t255_2 tn hres ls _ _ (lv_sub hl [] rfl) hP hD hS
                · rw [if_neg h351] at hres
                  exact J354  hres ls _ _ (lv_sub hl [1, 2, 3, 4, 5, 6, 7, 8] rfl) hP hD hS
              · rw [if_neg h334] at hres
                refine lv_lload hx hb d_M_curve_337 (lv_at hl 6 rfl) ?_
                refine lv_lconst (v := 0) hx hb d_M_curve_339 (by decide) ?_
                refine W.lcmp hx hb d_M_curve_340 ?_
                refine lv_if_ge (tgt := 447) hx hb d_M_curve_341 rfl (fun h341 => ?_) (fun h341 => ?_)
                · rw [if_pos h341] at hres
                  exact J447 t255_0 t255_1 t255_2 tn hres ls _ _ (lv_sub hl [] rfl) hP hD hS
                · rw [if_neg h341] at hres
                  refine lv_goto (tgt := 354) hx hb d_M_curve_344 rfl ?_
                  exact J354  hres ls _ _ (lv_sub hl [1, 2, 3, 4, 5, 6, 7, 8] rfl) hP hD hS
            · rw [if_neg h294] at hres
              refine lv_aload_n hx hb d_M_curve_297 rfl (lv_at hl 2 rfl) ?_
              refine lv_iload hx hb d_M_curve_298 (lv_at hl 1 rfl) ?_
              refine lv_iload hx hb d_M_curve_300 (lv_at hl 0 rfl) ?_
              refine lv_aload_n hx hb d_M_curve_302 rfl (lv_at hl 2 rfl) ?_
              refine lv_lload_n hx hb d_M_curve_303 rfl (lv_at hl 3 rfl) ?_
              refine lv_lload_n hx hb d_M_curve_304 rfl (lv_at hl 4 rfl) ?_
              refine lv_lload hx hb d_M_curve_305 (lv_at hl 5 rfl) ?_
              refine lv_lload hx hb d_M_curve_307 (lv_at hl 6 rfl) ?_
              refine lv_lload hx hb d_M_curve_309 (lv_at hl 7 rfl) ?_
              refine lv_lload hx hb d_M_curve_311 (lv_at hl 8 rfl) ?_
              refine lv_iload hx hb d_M_curve_313 (lv_at hl 0 rfl) ?_
              have J323 : ∀ (t323_0 : Int32), km_curve_j323 tn ax ay bx bz cx cz t255_0 t255_1 t255_2 t274_0 t288_0 t323_0 = RES → ∀ (ls : Array Slot) (H : Heap) (locs : List Loc), lv_has ls 23 [] → va_P (dC, dI) cls9 [(h0, .inr (2, [.int wd, .ref apx, .ref apy, .ref aon, .ref aen, .int cn, .int pn, .int t255_2, .int tn, .ref afi, .ref ase])), (apx, .inl (cJ, 256, .inr (.inl px))), (apy, .inl (cJ, 256, .inr (.inl py))), (aon, .inl (cZ, 256, .inl on)), (aen, .inl (cI, 256, .inl en)), (afi, .inl (cJ, 6, .inr (.inl t255_0))), (ase, .inl (cJ, 6, .inr (.inl t255_1)))] H → va_D A [(h0, .inr (2, [.int wd, .ref apx, .ref apy, .ref aon, .ref aen, .int cn, .int pn, .int t255_2, .int tn, .ref afi, .ref ase])), (apx, .inl (cJ, 256, .inr (.inl px))), (apy, .inl (cJ, 256, .inr (.inl py))), (aon, .inl (cZ, 256, .inl on)), (aen, .inl (cI, 256, .inl en)), (afi, .inl (cJ, 6, .inr (.inl t255_0))), (ase, .inl (cJ, 6, .inr (.inl t255_1)))] → va_S A s.heap H locs → W p l e R s m args below meth c H locs 0 0 Q (F0 m 323 ls [.int t323_0, .long cz, .long cx, .long bz, .long bx, .long ay, .long ax, .ref h0, .int t288_0, .int t274_0, .ref h0]) := by
                intro t323_0 hres ls H locs hl hP hD hS
                unfold km_curve_j323 at hres
                refine cm_i (wc := [(h0, .inr (2, [.int wd, .ref apx, .ref apy, .ref aon, .ref aen, .int cn, .int pn, .int t255_2, .int tn, .ref afi, .ref ase])), (apx, .inl (cJ, 256, .inr (.inl px))), (apy, .inl (cJ, 256, .inr (.inl py))), (aon, .inl (cZ, 256, .inl on)), (aen, .inl (cI, 256, .inl en)), (afi, .inl (cJ, 6, .inr (.inl t255_0))), (ase, .inl (cJ, 6, .inr (.inl t255_1)))]) (wr := []) (W1 := [(h0, .inr (2, [.int wd, .ref apx, .ref apy, .ref aon, .ref aen, .int cn, .int pn, .int t255_2, .int tn, .ref afi, .ref ase])), (apx, .inl (cJ, 256, .inr (.inl px))), (apy, .inl (cJ, 256, .inr (.inl py))), (aon, .inl (cZ, 256, .inl on)), (aen, .inl (cI, 256, .inl en)), (afi, .inl (cJ, 6, .inr (.inl ((km_side t255_0 t255_1 ax ay bx bz cx cz t323_0).2.1)))), (ase, .inl (cJ, 6, .inr (.inl ((km_side t255_0 t255_1 ax ay bx bz cx cz t323_0).2.2))))]) (w2 := [(h0, .inr (2, [.int wd, .ref apx, .ref apy, .ref aon, .ref aen, .int cn, .int pn, .int t255_2, .int tn, .ref afi, .ref ase])), (apx, .inl (cJ, 256, .inr (.inl px))), (apy, .inl (cJ, 256, .inr (.inl py))), (aon, .inl (cZ, 256, .inl on)), (aen, .inl (cI, 256, .inl en)), (afi, .inl (cJ, 6, .inr (.inl ((km_side t255_0 t255_1 ax ay bx bz cx cz t323_0).2.1)))), (ase, .inl (cJ, 6, .inr (.inl ((km_side t255_0 t255_1 ax ay bx bz cx cz t323_0).2.2))))]) (va_runV (g := F0 m 323 ls [.int t323_0, .long cz, .long cx, .long bz, .long bx, .long ay, .long ax, .ref h0, .int t288_0, .int t274_0, .ref h0]) (As := [.long ax, .long ay, .long bx, .long bz, .long cx, .long cz, .int t323_0]) (rest := [.int t288_0, .int t274_0, .ref h0]) ⟨hx, hb, hml, hown, hts⟩ (c_km_side l dC dI h0 apx apy aon aen afi ase cJ cZ cI wd cn pn t255_2 tn px py on en t255_0 t255_1 ax ay bx bz cx cz t323_0  _) (cwV 7 hts (gi_V tw_376 tw_378 ts_16 tw_6 tw_379) rfl rfl rfl (by decide +kernel) ⟨(by rw [← hR]; exact Nat.le_of_ble_eq_true rfl), (by rw [← hR]; exact Nat.le_of_ble_eq_true rfl)⟩) ⟨mc_blind, va_recv (ci := 2) (q := (R_M, F_M, 11)) hK hP rfl (q0 := 0) rfl, mc_pre (hP.sub [0, 1, 2, 3, 4, 5, 6] rfl) (hK.sub [0, 1, 2] rfl) (hD.sub [0, 1, 2, 3, 4, 5, 6] (by decide) rfl)⟩ rfl rfl hl.1 rfl (lv_room (Nat.le_of_ble_eq_true rfl)) d_M_curve_323 ⟨Nat.zero_le _, Nat.zero_le _⟩) hP hD hS hA [0, 1, 2, 3, 4, 5, 6] [] [0, 1, 2, 3, 4, 5, 6] rfl rfl (by decide) (by decide) rfl rfl (by decide) (fun H locs hP hD hS => ?_)
                have K326 : ∀ (x323 : Int32 × (Nat → Int64) × (Nat → Int64)), km_curve_k326 tn t255_2 t274_0 t288_0 x323 = RES → ∀ (ls : Array Slot) (H : Heap) (locs : List Loc), lv_has ls 23 [] → va_P (dC, dI) cls9 [(h0, .inr (2, [.int wd, .ref apx, .ref apy, .ref aon, .ref aen, .int cn, .int pn, .int t255_2, .int tn, .ref afi, .ref ase])), (apx, .inl (cJ, 256, .inr (.inl px))), (apy, .inl (cJ, 256, .inr (.inl py))), (aon, .inl (cZ, 256, .inl on)), (aen, .inl (cI, 256, .inl en)), (afi, .inl (cJ, 6, .inr (.inl x323.2.1))), (ase, .inl (cJ, 6, .inr (.inl x323.2.2)))] H → va_D A [(h0, .inr (2, [.int wd, .ref apx, .ref apy, .ref aon, .ref aen, .int cn, .int pn, .int t255_2, .int tn, .ref afi, .ref ase])), (apx, .inl (cJ, 256, .inr (.inl px))), (apy, .inl (cJ, 256, .inr (.inl py))), (aon, .inl (cZ, 256, .inl on)), (aen, .inl (cI, 256, .inl en)), (afi, .inl (cJ, 6, .inr (.inl x323.2.1))), (ase, .inl (cJ, 6, .inr (.inl x323.2.2)))] → va_S A s.heap H locs → W p l e R s m args below meth c H locs 0 0 Q (F0 m 326 ls [.int x323.1, .int t288_0, .int t274_0, .ref h0]) := by
                  intro x323 hres ls H locs hl hP hD hS
                  unfold km_curve_k326 at hres
                  refine cm_v (wc := [(h0, .inr (2, [.int wd, .ref apx, .ref apy, .ref aon, .ref aen, .int cn, .int pn, .int t255_2, .int tn, .ref afi, .ref ase])), (apx, .inl (cJ, 256, .inr (.inl px))), (apy, .inl (cJ, 256, .inr (.inl py))), (aon, .inl (cZ, 256, .inl on)), (aen, .inl (cI, 256, .inl en)), (afi, .inl (cJ, 6, .inr (.inl x323.2.1))), (ase, .inl (cJ, 6, .inr (.inl x323.2.2)))]) (wr := []) (W1 := [(h0, .inr (2, [.int wd, .ref apx, .ref apy, .ref aon, .ref aen, .int cn, .int pn, .int ((km_cross t255_2 tn t274_0 t288_0 x323.1).1), .int ((km_cross t255_2 tn t274_0 t288_0 x323.1).2), .ref afi, .ref ase])), (apx, .inl (cJ, 256, .inr (.inl px))), (apy, .inl (cJ, 256, .inr (.inl py))), (aon, .inl (cZ, 256, .inl on)), (aen, .inl (cI, 256, .inl en)), (afi, .inl (cJ, 6, .inr (.inl x323.2.1))), (ase, .inl (cJ, 6, .inr (.inl x323.2.2)))]) (w2 := [(h0, .inr (2, [.int wd, .ref apx, .ref apy, .ref aon, .ref aen, .int cn, .int pn, .int ((km_cross t255_2 tn t274_0 t288_0 x323.1).1), .int ((km_cross t255_2 tn t274_0 t288_0 x323.1).2), .ref afi, .ref ase])), (apx, .inl (cJ, 256, .inr (.inl px))), (apy, .inl (cJ, 256, .inr (.inl py))), (aon, .inl (cZ, 256, .inl on)), (aen, .inl (cI, 256, .inl en)), (afi, .inl (cJ, 6, .inr (.inl x323.2.1))), (ase, .inl (cJ, 6, .inr (.inl x323.2.2)))]) (va_runV (g := F0 m 326 ls [.int x323.1, .int t288_0, .int t274_0, .ref h0]) (As := [.int t274_0, .int t288_0, .int x323.1]) (rest := []) ⟨hx, hb, hml, hown, hts⟩ (c_km_cross l dC dI h0 apx apy aon aen afi ase cJ cZ cI wd cn pn px py on en x323.2.1 x323.2.2 t255_2 tn t274_0 t288_0 x323.1  _) (cwV 3 hts (gi_V tw_353 tw_355 ts_13 tw_6 tw_356) rfl rfl rfl (by decide +kernel) ⟨(by rw [← hR]; exact Nat.le_of_ble_eq_true rfl), (by rw [← hR]; exact Nat.le_of_ble_eq_true rfl)⟩) ⟨mc_blind, va_recv (ci := 2) (q := (R_M, F_M, 11)) hK hP rfl (q0 := 0) rfl, mc_pre (hP.sub [0, 1, 2, 3, 4, 5, 6] rfl) (hK.sub [0, 1, 2] rfl) (hD.sub [0, 1, 2, 3, 4, 5, 6] (by decide) rfl)⟩ rfl rfl hl.1 rfl (lv_room (Nat.le_of_ble_eq_true rfl)) d_M_curve_326 ⟨Nat.zero_le _, Nat.zero_le _⟩) hP hD hS hA [0, 1, 2, 3, 4, 5, 6] [] [0, 1, 2, 3, 4, 5, 6] rfl rfl (by decide) (by decide) rfl rfl (by decide) (fun H locs hP hD hS => ?_)
                  have K329 : ∀ (x326 : Int32 × Int32), km_curve_k329 x323 x326 = RES → ∀ (ls : Array Slot) (H : Heap) (locs : List Loc), lv_has ls 23 [] → va_P (dC, dI) cls9 [(h0, .inr (2, [.int wd, .ref apx, .ref apy, .ref aon, .ref aen, .int cn, .int pn, .int x326.1, .int x326.2, .ref afi, .ref ase])), (apx, .inl (cJ, 256, .inr (.inl px))), (apy, .inl (cJ, 256, .inr (.inl py))), (aon, .inl (cZ, 256, .inl on)), (aen, .inl (cI, 256, .inl en)), (afi, .inl (cJ, 6, .inr (.inl x323.2.1))), (ase, .inl (cJ, 6, .inr (.inl x323.2.2)))] H → va_D A [(h0, .inr (2, [.int wd, .ref apx, .ref apy, .ref aon, .ref aen, .int cn, .int pn, .int x326.1, .int x326.2, .ref afi, .ref ase])), (apx, .inl (cJ, 256, .inr (.inl px))), (apy, .inl (cJ, 256, .inr (.inl py))), (aon, .inl (cZ, 256, .inl on)), (aen, .inl (cI, 256, .inl en)), (afi, .inl (cJ, 6, .inr (.inl x323.2.1))), (ase, .inl (cJ, 6, .inr (.inl x323.2.2)))] → va_S A s.heap H locs → W p l e R s m args below meth c H locs 0 0 Q (F0 m 329 ls []) := by
                    intro x326 hres ls H locs hl hP hD hS
                    unfold km_curve_k329 at hres
                    refine lv_goto (tgt := 447) hx hb d_M_curve_329 rfl ?_
                    exact J447 x323.2.1 x323.2.2 x326.1 x326.2 hres ls _ _ (lv_sub hl [] rfl) hP hD hS
                  exact K329 (km_cross t255_2 tn t274_0 t288_0 x323.1) hres ls _ _ (lv_sub hl [] rfl) hP hD hS
                exact K326 (km_side t255_0 t255_1 ax ay bx bz cx cz t323_0) hres ls _ _ (lv_sub hl [] rfl) hP hD hS
              refine lv_if_eq (tgt := 322) hx hb d_M_curve_315 rfl (fun h315 => ?_) (fun h315 => ?_)
              · rw [if_pos h315] at hres
                refine lv_iconst (v := (-1)) hx hb d_M_curve_322 (by decide) ?_
                exact J323 (-1) hres ls _ _ (lv_sub hl [] rfl) hP hD hS
              · rw [if_neg h315] at hres
                refine lv_iconst (v := 1) hx hb d_M_curve_318 (by decide) ?_
                refine lv_goto (tgt := 323) hx hb d_M_curve_319 rfl ?_
                exact J323 1 hres ls _ _ (lv_sub hl [] rfl) hP hD hS
          refine lv_if_lt (tgt := 287) hx hb d_M_curve_280 rfl (fun h280 => ?_) (fun h280 => ?_)
          · rw [if_pos h280] at hres
            refine lv_iconst (v := 0) hx hb d_M_curve_287 (by decide) ?_
            exact J288 0 hres ls _ _ (lv_sub hl [0, 1, 2, 3, 4, 5, 6, 7] rfl) hP hD hS
          · rw [if_neg h280] at hres
            refine lv_iconst (v := 1) hx hb d_M_curve_283 (by decide) ?_
            refine lv_goto (tgt := 288) hx hb d_M_curve_284 rfl ?_
            exact J288 1 hres ls _ _ (lv_sub hl [0, 1, 2, 3, 4, 5, 6, 7] rfl) hP hD hS
        refine lv_if_lt (tgt := 273) hx hb d_M_curve_266 rfl (fun h266 => ?_) (fun h266 => ?_)
        · rw [if_pos h266] at hres
          refine lv_iconst (v := 0) hx hb d_M_curve_273 (by decide) ?_
          exact J274 0 hres ls _ _ (lv_sub hl [0, 1, 2, 3, 4, 5, 6] rfl) hP hD hS
        · rw [if_neg h266] at hres
          refine lv_iconst (v := 1) hx hb d_M_curve_269 (by decide) ?_
          refine lv_goto (tgt := 274) hx hb d_M_curve_270 rfl ?_
          exact J274 1 hres ls _ _ (lv_sub hl [0, 1, 2, 3, 4, 5, 6] rfl) hP hD hS
      · rw [if_neg h259] at hres
        rw [hQ]
        subst hres
        exact W.vret hx hb hr (fun t ht hW => ⟨⟨(), rfl, trivial, ⟨by rw [ht]; exact hP, va_K.moved hW.alike hK, hD⟩⟩, hS.F ht⟩) hS.2.2 d_M_curve_262
    refine lv_if_ne (tgt := 185) hx hb d_M_curve_49 rfl (fun h49 => ?_) (fun h49 => ?_)
    · rw [if_neg h49] at hres
      refine lv_lload hx hb d_M_curve_185 (lv_at hl 0 rfl) ?_
      refine cq_Si (As := [.long v45_l19]) (rest := []) ⟨hx, hb, hml, hown, hts⟩ (c_km_sign l dC dI v45_l19) (va_cwS 1 hts (gi_S tw_350 tw_351 tw_6 tw_352) rfl rfl rfl (by decide +kernel) ⟨(by rw [← hR]; exact Nat.le_of_ble_eq_true rfl), (by rw [← hR]; exact Nat.le_of_ble_eq_true rfl)⟩) rfl rfl hl.1 (Nat.le_of_ble_eq_true rfl) d_M_curve_187 ⟨Nat.zero_le _, Nat.zero_le _⟩ hP hS hA (fun H locs hP hS => ?_)
      refine lv_istore (lv' := [(21, .int (km_sign v45_l19)), (19, .long v45_l19), (17, .long v45_l17), (15, .long v45_l15), (13, .long v45_l13), (0, .ref h0), (1, .long ax), (3, .long ay), (5, .long bx), (7, .long bz), (9, .long cx), (11, .long cz)]) hx hb d_M_curve_190 hl (by decide) rfl (fun ls hl => ?_)
      refine lv_iload hx hb d_M_curve_192 (lv_at hl 0 rfl) ?_
      refine lv_i2l (v := Int32.toInt64 (km_sign v45_l19)) hx hb d_M_curve_194 rfl ?_
      refine lv_lload hx hb d_M_curve_195 (lv_at hl 4 rfl) ?_
      refine lv_lmul hx hb d_M_curve_197 ?_
      refine lv_lconst (v := 0) hx hb d_M_curve_198 (by decide) ?_
      refine W.lcmp hx hb d_M_curve_199 ?_
      refine lv_if_lt (tgt := 255) hx hb d_M_curve_200 rfl (fun h200 => ?_) (fun h200 => ?_)
      · rw [if_pos h200] at hres
        exact J255 fi se tc hres ls _ _ (lv_sub hl [5, 6, 7, 8, 9, 10, 11] rfl) hP hD hS
      · rw [if_neg h200] at hres
        refine lv_iload hx hb d_M_curve_203 (lv_at hl 0 rfl) ?_
        refine lv_i2l (v := Int32.toInt64 (km_sign v45_l19)) hx hb d_M_curve_205 rfl ?_
        refine lv_lload hx hb d_M_curve_206 (lv_at hl 3 rfl) ?_
        refine lv_lmul hx hb d_M_curve_208 ?_
        refine lv_lconst (v := 0) hx hb d_M_curve_209 (by decide) ?_
        refine W.lcmp hx hb d_M_curve_210 ?_
        refine lv_if_lt (tgt := 255) hx hb d_M_curve_211 rfl (fun h211 => ?_) (fun h211 => ?_)
        · rw [if_pos h211] at hres
          exact J255 fi se tc hres ls _ _ (lv_sub hl [5, 6, 7, 8, 9, 10, 11] rfl) hP hD hS
        · rw [if_neg h211] at hres
          refine lv_iload hx hb d_M_curve_214 (lv_at hl 0 rfl) ?_
          refine lv_i2l (v := Int32.toInt64 (km_sign v45_l19)) hx hb d_M_curve_216 rfl ?_
          refine lv_lload hx hb d_M_curve_217 (lv_at hl 2 rfl) ?_
          refine lv_lmul hx hb d_M_curve_219 ?_
          refine lv_lconst (v := 0) hx hb d_M_curve_220 (by decide) ?_
          refine W.lcmp hx hb d_M_curve_221 ?_
          refine lv_if_lt (tgt := 255) hx hb d_M_curve_222 rfl (fun h222 => ?_) (fun h222 => ?_)
          · rw [if_pos h222] at hres
            exact J255 fi se tc hres ls _ _ (lv_sub hl [5, 6, 7, 8, 9, 10, 11] rfl) hP hD hS
          · rw [if_neg h222] at hres
            refine lv_aload_n hx hb d_M_curve_225 rfl (lv_at hl 5 rfl) ?_
            refine lv_iload hx hb d_M_curve_226 (lv_at hl 0 rfl) ?_
            refine lv_i2l (v := Int32.toInt64 (km_sign v45_l19)) hx hb d_M_curve_228 rfl ?_
            refine lv_lload hx hb d_M_curve_229 (lv_at hl 4 rfl) ?_
            refine lv_lmul hx hb d_M_curve_231 ?_
            refine lv_iload hx hb d_M_curve_232 (lv_at hl 0 rfl) ?_
            refine lv_i2l (v := Int32.toInt64 (km_sign v45_l19)) hx hb d_M_curve_234 rfl ?_
            refine lv_lload hx hb d_M_curve_235 (lv_at hl 3 rfl) ?_
            refine lv_lmul hx hb d_M_curve_237 ?_
            refine lv_iload hx hb d_M_curve_238 (lv_at hl 0 rfl) ?_
            refine lv_i2l (v := Int32.toInt64 (km_sign v45_l19)) hx hb d_M_curve_240 rfl ?_
            refine lv_lload hx hb d_M_curve_241 (lv_at hl 2 rfl) ?_
            refine lv_lmul hx hb d_M_curve_243 ?_
            refine cm_i (wc := [(h0, .inr (2, [.int wd, .ref apx, .ref apy, .ref aon, .ref aen, .int cn, .int pn, .int tc, .int tn, .ref afi, .ref ase])), (apx, .inl (cJ, 256, .inr (.inl px))), (apy, .inl (cJ, 256, .inr (.inl py))), (aon, .inl (cZ, 256, .inl on)), (aen, .inl (cI, 256, .inl en)), (afi, .inl (cJ, 6, .inr (.inl fi))), (ase, .inl (cJ, 6, .inr (.inl se)))]) (wr := []) (W1 := [(h0, .inr (2, [.int wd, .ref apx, .ref apy, .ref aon, .ref aen, .int cn, .int pn, .int tc, .int tn, .ref afi, .ref ase])), (apx, .inl (cJ, 256, .inr (.inl px))), (apy, .inl (cJ, 256, .inr (.inl py))), (aon, .inl (cZ, 256, .inl on)), (aen, .inl (cI, 256, .inl en)), (afi, .inl (cJ, 6, .inr (.inl ((km_thr fi se ((Int32.toInt64 (km_sign v45_l19)) * v45_l13) ((Int32.toInt64 (km_sign v45_l19)) * v45_l15) ((Int32.toInt64 (km_sign v45_l19)) * v45_l17)).2.1)))), (ase, .inl (cJ, 6, .inr (.inl ((km_thr fi se ((Int32.toInt64 (km_sign v45_l19)) * v45_l13) ((Int32.toInt64 (km_sign v45_l19)) * v45_l15) ((Int32.toInt64 (km_sign v45_l19)) * v45_l17)).2.2))))]) (w2 := [(h0, .inr (2, [.int wd, .ref apx, .ref apy, .ref aon, .ref aen, .int cn, .int pn, .int tc, .int tn, .ref afi, .ref ase])), (apx, .inl (cJ, 256, .inr (.inl px))), (apy, .inl (cJ, 256, .inr (.inl py))), (aon, .inl (cZ, 256, .inl on)), (aen, .inl (cI, 256, .inl en)), (afi, .inl (cJ, 6, .inr (.inl ((km_thr fi se ((Int32.toInt64 (km_sign v45_l19)) * v45_l13) ((Int32.toInt64 (km_sign v45_l19)) * v45_l15) ((Int32.toInt64 (km_sign v45_l19)) * v45_l17)).2.1)))), (ase, .inl (cJ, 6, .inr (.inl ((km_thr fi se ((Int32.toInt64 (km_sign v45_l19)) * v45_l13) ((Int32.toInt64 (km_sign v45_l19)) * v45_l15) ((Int32.toInt64 (km_sign v45_l19)) * v45_l17)).2.2))))]) (va_runV (g := F0 m 244 ls [.long ((Int32.toInt64 (km_sign v45_l19)) * v45_l17), .long ((Int32.toInt64 (km_sign v45_l19)) * v45_l15), .long ((Int32.toInt64 (km_sign v45_l19)) * v45_l13), .ref h0]) (As := [.long ((Int32.toInt64 (km_sign v45_l19)) * v45_l13), .long ((Int32.toInt64 (km_sign v45_l19)) * v45_l15), .long ((Int32.toInt64 (km_sign v45_l19)) * v45_l17)]) (rest := []) ⟨hx, hb, hml, hown, hts⟩ (c_km_thr l dC dI h0 apx apy aon aen afi ase cJ cZ cI wd cn pn tc tn px py on en fi se ((Int32.toInt64 (km_sign v45_l19)) * v45_l13) ((Int32.toInt64 (km_sign v45_l19)) * v45_l15) ((Int32.toInt64 (km_sign v45_l19)) * v45_l17)  _) (cwV 3 hts (gi_V tw_364 tw_366 ts_15 tw_6 tw_367) rfl rfl rfl (by decide +kernel) ⟨(by rw [← hR]; exact Nat.le_of_ble_eq_true rfl), (by rw [← hR]; exact Nat.le_of_ble_eq_true rfl)⟩) ⟨mc_blind, va_recv (ci := 2) (q := (R_M, F_M, 11)) hK hP rfl (q0 := 0) rfl, mc_pre (hP.sub [0, 1, 2, 3, 4, 5, 6] rfl) (hK.sub [0, 1, 2] rfl) (hD.sub [0, 1, 2, 3, 4, 5, 6] (by decide) rfl)⟩ rfl rfl hl.1 rfl (lv_room (Nat.le_of_ble_eq_true rfl)) d_M_curve_244 ⟨Nat.zero_le _, Nat.zero_le _⟩) hP hD hS hA [0, 1, 2, 3, 4, 5, 6] [] [0, 1, 2, 3, 4, 5, 6] rfl rfl (by decide) (by decide) rfl rfl (by decide) (fun H locs hP hD hS => ?_)
            have K247 : ∀ (x244 : Int32 × (Nat → Int64) × (Nat → Int64)), km_curve_k247 tc tn ax ay bx bz cx cz x244 = RES → ∀ (ls : Array Slot) (H : Heap) (locs : List Loc), lv_has ls 23 [(21, .int (km_sign v45_l19)), (19, .long v45_l19), (17, .long v45_l17), (15, .long v45_l15), (13, .long v45_l13), (0, .ref h0), (1, .long ax), (3, .long ay), (5, .long bx), (7, .long bz), (9, .long cx), (11, .long cz)] → va_P (dC, dI) cls9 [(h0, .inr (2, [.int wd, .ref apx, .ref apy, .ref aon, .ref aen, .int cn, .int pn, .int tc, .int tn, .ref afi, .ref ase])), (apx, .inl (cJ, 256, .inr (.inl px))), (apy, .inl (cJ, 256, .inr (.inl py))), (aon, .inl (cZ, 256, .inl on)), (aen, .inl (cI, 256, .inl en)), (afi, .inl (cJ, 6, .inr (.inl x244.2.1))), (ase, .inl (cJ, 6, .inr (.inl x244.2.2)))] H → va_D A [(h0, .inr (2, [.int wd, .ref apx, .ref apy, .ref aon, .ref aen, .int cn, .int pn, .int tc, .int tn, .ref afi, .ref ase])), (apx, .inl (cJ, 256, .inr (.inl px))), (apy, .inl (cJ, 256, .inr (.inl py))), (aon, .inl (cZ, 256, .inl on)), (aen, .inl (cI, 256, .inl en)), (afi, .inl (cJ, 6, .inr (.inl x244.2.1))), (ase, .inl (cJ, 6, .inr (.inl x244.2.2)))] → va_S A s.heap H locs → W p l e R s m args below meth c H locs 0 0 Q (F0 m 247 ls [.int x244.1]) := by
              intro x244 hres ls H locs hl hP hD hS
              unfold km_curve_k247 at hres
              refine lv_if_eq (tgt := 255) hx hb d_M_curve_247 rfl (fun h247 => ?_) (fun h247 => ?_)
              · rw [if_pos h247] at hres
                exact J255 x244.2.1 x244.2.2 tc hres ls _ _ (lv_sub hl [5, 6, 7, 8, 9, 10, 11] rfl) hP hD hS
              · rw [if_neg h247] at hres
                refine lv_aload_n hx hb d_M_curve_250 rfl (lv_at hl 5 rfl) ?_
                refine lv_iconst (v := 1) hx hb d_M_curve_251 (by decide) ?_
                refine va_put (D := (dC, dI)) (ci := 2) (v := .int 1) (ty := .boolean) (C := R_M) (T := F_M) (N := 11) hx hb hts in_M tf_M tok_M n_M hown hK hP hD hS 0 rfl rfl 7 (by decide) (hts _ tw_286) (fun _ h9 => h9) rfl (by decide +kernel) (by rfl) (by rfl) (Nat.le_of_ble_eq_true rfl) d_M_curve_252 (fun H locs hP hD hS => ?_)
                have hP : va_P (dC, dI) cls9 [(h0, .inr (2, [.int wd, .ref apx, .ref apy, .ref aon, .ref aen, .int cn, .int pn, .int 1, .int tn, .ref afi, .ref ase])), (apx, .inl (cJ, 256, .inr (.inl px))), (apy, .inl (cJ, 256, .inr (.inl py))), (aon, .inl (cZ, 256, .inl on)), (aen, .inl (cI, 256, .inl en)), (afi, .inl (cJ, 6, .inr (.inl x244.2.1))), (ase, .inl (cJ, 6, .inr (.inl x244.2.2)))] H := hP
                have hD : va_D A [(h0, .inr (2, [.int wd, .ref apx, .ref apy, .ref aon, .ref aen, .int cn, .int pn, .int 1, .int tn, .ref afi, .ref ase])), (apx, .inl (cJ, 256, .inr (.inl px))), (apy, .inl (cJ, 256, .inr (.inl py))), (aon, .inl (cZ, 256, .inl on)), (aen, .inl (cI, 256, .inl en)), (afi, .inl (cJ, 6, .inr (.inl x244.2.1))), (ase, .inl (cJ, 6, .inr (.inl x244.2.2)))] := hD
                exact J255 x244.2.1 x244.2.2 1 hres ls _ _ (lv_sub hl [5, 6, 7, 8, 9, 10, 11] rfl) hP hD hS
            exact K247 (km_thr fi se ((Int32.toInt64 (km_sign v45_l19)) * v45_l13) ((Int32.toInt64 (km_sign v45_l19)) * v45_l15) ((Int32.toInt64 (km_sign v45_l19)) * v45_l17)) hres ls _ _ (lv_sub hl [0, 1, 2, 3, 4, 5, 6, 7, 8, 9, 10, 11] rfl) hP hD hS
    · rw [if_pos h49] at hres
      refine lv_lload_n hx hb d_M_curve_52 rfl (lv_at hl 5 rfl) ?_
      refine lv_lload hx hb d_M_curve_53 (lv_at hl 7 rfl) ?_
      refine W.lcmp hx hb d_M_curve_55 ?_
      have J72 : ∀ (t72_0 : Int32), km_curve_j72 tc tn fi se ax ay bx bz cx cz v45_l13 v45_l15 v45_l17 t72_0 = RES → ∀ (ls : Array Slot) (H : Heap) (locs : List Loc), lv_has ls 23 [(17, .long v45_l17), (15, .long v45_l15), (13, .long v45_l13), (0, .ref h0), (1, .long ax), (3, .long ay), (5, .long bx), (7, .long bz), (9, .long cx), (11, .long cz)] → va_P (dC, dI) cls9 [(h0, .inr (2, [.int wd, .ref apx, .ref apy, .ref aon, .ref aen, .int cn, .int pn, .int tc, .int tn, .ref afi, .ref ase])), (apx, .inl (cJ, 256, .inr (.inl px))), (apy, .inl (cJ, 256, .inr (.inl py))), (aon, .inl (cZ, 256, .inl on)), (aen, .inl (cI, 256, .inl en)), (afi, .inl (cJ, 6, .inr (.inl fi))), (ase, .inl (cJ, 6, .inr (.inl se)))] H → va_D A [(h0, .inr (2, [.int wd, .ref apx, .ref apy, .ref aon, .ref aen, .int cn, .int pn, .int tc, .int tn, .ref afi, .ref ase])), (apx, .inl (cJ, 256, .inr (.inl px))), (apy, .inl (cJ, 256, .inr (.inl py))), (aon, .inl (cZ, 256, .inl on)), (aen, .inl (cI, 256, .inl en)), (afi, .inl (cJ, 6, .inr (.inl fi))), (ase, .inl (cJ, 6, .inr (.inl se)))] → va_S A s.heap H locs → W p l e R s m args below meth c H locs 0 0 Q (F0 m 72 ls [.int t72_0]) := by
        intro t72_0 hres ls H locs hl hP hD hS
        unfold km_curve_j72 at hres
        refine lv_istore (lv' := [(21, .int t72_0), (17, .long v45_l17), (15, .long v45_l15), (13, .long v45_l13), (0, .ref h0), (1, .long ax), (3, .long ay), (5, .long bx), (7, .long bz), (9, .long cx), (11, .long cz)]) hx hb d_M_curve_72 hl (by decide) rfl (fun ls hl => ?_)
        refine lv_lload hx hb d_M_curve_74 (lv_at hl 3 rfl) ?_
        refine lv_lconst (v := 0) hx hb d_M_curve_76 (by decide) ?_
        refine W.lcmp hx hb d_M_curve_77 ?_
        have J100 : ∀ (t100_0 : Int32), km_curve_j100 tc tn fi se ax ay bx bz cx cz t72_0 t100_0 = RES → ∀ (ls : Array Slot) (H : Heap) (locs : List Loc), lv_has ls 23 [(21, .int t72_0), (0, .ref h0), (1, .long ax), (3, .long ay), (5, .long bx), (7, .long bz), (9, .long cx), (11, .long cz)] → va_P (dC, dI) cls9 [(h0, .inr (2, [.int wd, .ref apx, .ref apy, .ref aon, .ref aen, .int cn, .int pn, .int tc, .int tn, .ref afi, .ref ase])), (apx, .inl (cJ, 256, .inr (.inl px))), (apy, .inl (cJ, 256, .inr (.inl py))), (aon, .inl (cZ, 256, .inl on)), (aen, .inl (cI, 256, .inl en)), (afi, .inl (cJ, 6, .inr (.inl fi))), (ase, .inl (cJ, 6, .inr (.inl se)))] H → va_D A [(h0, .inr (2, [.int wd, .ref apx, .ref apy, .ref aon, .ref aen, .int cn, .int pn, .int tc, .int tn, .ref afi, .ref ase])), (apx, .inl (cJ, 256, .inr (.inl px))), (apy, .inl (cJ, 256, .inr (.inl py))), (aon, .inl (cZ, 256, .inl on)), (aen, .inl (cI, 256, .inl en)), (afi, .inl (cJ, 6, .inr (.inl fi))), (ase, .inl (cJ, 6, .inr (.inl se)))] → va_S A s.heap H locs → W p l e R s m args below meth c H locs 0 0 Q (F0 m 100 ls [.int t100_0]) := by
          intro t100_0 hres ls H locs hl hP hD hS
          unfold km_curve_j100 at hres
          refine lv_istore (lv' := [(22, .int t100_0), (21, .int t72_0), (0, .ref h0), (1, .long ax), (3, .long ay), (5, .long bx), (7, .long bz), (9, .long cx), (11, .long cz)]) hx hb d_M_curve_100 hl (by decide) rfl (fun ls hl => ?_)
          refine lv_iload hx hb d_M_curve_102 (lv_at hl 1 rfl) ?_
          have J182 : ∀ (t182_0 : Int32), km_curve_j182 tn fi se ax ay bx bz cx cz t182_0 = RES → ∀ (ls : Array Slot) (H : Heap) (locs : List Loc), lv_has ls 23 [(0, .ref h0), (1, .long ax), (3, .long ay), (5, .long bx), (7, .long bz), (9, .long cx), (11, .long cz)] → va_P (dC, dI) cls9 [(h0, .inr (2, [.int wd, .ref apx, .ref apy, .ref aon, .ref aen, .int cn, .int pn, .int t182_0, .int tn, .ref afi, .ref ase])), (apx, .inl (cJ, 256, .inr (.inl px))), (apy, .inl (cJ, 256, .inr (.inl py))), (aon, .inl (cZ, 256, .inl on)), (aen, .inl (cI, 256, .inl en)), (afi, .inl (cJ, 6, .inr (.inl fi))), (ase, .inl (cJ, 6, .inr (.inl se)))] H → va_D A [(h0, .inr (2, [.int wd, .ref apx, .ref apy, .ref aon, .ref aen, .int cn, .int pn, .int t182_0, .int tn, .ref afi, .ref ase])), (apx, .inl (cJ, 256, .inr (.inl px))), (apy, .inl (cJ, 256, .inr (.inl py))), (aon, .inl (cZ, 256, .inl on)), (aen, .inl (cI, 256, .inl en)), (afi, .inl (cJ, 6, .inr (.inl fi))), (ase, .inl (cJ, 6, .inr (.inl se)))] → va_S A s.heap H locs → W p l e R s m args below meth c H locs 0 0 Q (F0 m 182 ls []) := by
            intro t182_0 hres ls H locs hl hP hD hS
            unfold km_curve_j182 at hres
            refine lv_goto (tgt := 255) hx hb d_M_curve_182 rfl ?_
            exact J255 fi se t182_0 hres ls _ _ (lv_sub hl [0, 1, 2, 3, 4, 5, 6] rfl) hP hD hS
          refine lv_if_ne (tgt := 142) hx hb d_M_curve_104 rfl (fun h104 => ?_) (fun h104 => ?_)
          · rw [if_neg h104] at hres
            refine lv_iload hx hb d_M_curve_142 (lv_at hl 0 rfl) ?_
            refine lv_if_eq (tgt := 182) hx hb d_M_curve_144 rfl (fun h144 => ?_) (fun h144 => ?_)
            · rw [if_pos h144] at hres
              exact J182 tc hres ls _ _ (lv_sub hl [2, 3, 4, 5, 6, 7, 8] rfl) hP hD hS
            · rw [if_neg h144] at hres
              refine lv_iload hx hb d_M_curve_147 (lv_at hl 1 rfl) ?_
              refine lv_if_eq (tgt := 166) hx hb d_M_curve_149 rfl (fun h149 => ?_) (fun h149 => ?_)
              · rw [if_pos h149] at hres
                refine lv_lload_n hx hb d_M_curve_166 rfl (lv_at hl 4 rfl) ?_
                refine lv_lload hx hb d_M_curve_167 (lv_at hl 6 rfl) ?_
                refine lv_lload hx hb d_M_curve_169 (lv_at hl 8 rfl) ?_
                refine cq_Si (As := [.long ay, .long bz, .long cz]) (rest := []) ⟨hx, hb, hml, hown, hts⟩ (c_km_zero l dC dI ay bz cz) (va_cwS 3 hts (gi_S tw_361 tw_362 tw_6 tw_363) rfl rfl rfl (by decide +kernel) ⟨(by rw [← hR]; exact Nat.le_of_ble_eq_true rfl), (by rw [← hR]; exact Nat.le_of_ble_eq_true rfl)⟩) rfl rfl hl.1 (Nat.le_of_ble_eq_true rfl) d_M_curve_171 ⟨Nat.zero_le _, Nat.zero_le _⟩ hP hS hA (fun H locs hP hS => ?_)
                refine lv_if_eq (tgt := 182) hx hb d_M_curve_174 rfl (fun h174 => ?_) (fun h174 => ?_)
                · rw [if_pos h174] at hres
                  exact J182 tc hres ls _ _ (lv_sub hl [2, 3, 4, 5, 6, 7, 8] rfl) hP hD hS
                · rw [if_neg h174] at hres
                  refine lv_aload_n hx hb d_M_curve_177 rfl (lv_at hl 2 rfl) ?_
                  refine lv_iconst (v := 1) hx hb d_M_curve_178 (by decide) ?_
                  refine va_put (D := (dC, dI)) (ci := 2) (v := .int 1) (ty := .boolean) (C := R_M) (T := F_M) (N := 11) hx hb hts in_M tf_M tok_M n_M hown hK hP hD hS 0 rfl rfl 7 (by decide) (hts _ tw_286) (fun _ h9 => h9) rfl (by decide +kernel) (by rfl) (by rfl) (Nat.le_of_ble_eq_true rfl) d_M_curve_179 (fun H locs hP hD hS => ?_)
                  have hP : va_P (dC, dI) cls9 [(h0, .inr (2, [.int wd, .ref apx, .ref apy, .ref aon, .ref aen, .int cn, .int pn, .int 1, .int tn, .ref afi, .ref ase])), (apx, .inl (cJ, 256, .inr (.inl px))), (apy, .inl (cJ, 256, .inr (.inl py))), (aon, .inl (cZ, 256, .inl on)), (aen, .inl (cI, 256, .inl en)), (afi, .inl (cJ, 6, .inr (.inl fi))), (ase, .inl (cJ, 6, .inr (.inl se)))] H := hP
                  have hD : va_D A [(h0, .inr (2, [.int wd, .ref apx, .ref apy, .ref aon, .ref aen, .int cn, .int pn, .int 1, .int tn, .ref afi, .ref ase])), (apx, .inl (cJ, 256, .inr (.inl px))), (apy, .inl (cJ, 256, .inr (.inl py))), (aon, .inl (cZ, 256, .inl on)), (aen, .inl (cI, 256, .inl en)), (afi, .inl (cJ, 6, .inr (.inl fi))), (ase, .inl (cJ, 6, .inr (.inl se)))] := hD
                  exact J182 1 hres ls _ _ (lv_sub hl [2, 3, 4, 5, 6, 7, 8] rfl) hP hD hS
              · rw [if_neg h149] at hres
                refine lv_lload_n hx hb d_M_curve_152 rfl (lv_at hl 3 rfl) ?_
                refine lv_lload hx hb d_M_curve_153 (lv_at hl 5 rfl) ?_
                refine lv_lload hx hb d_M_curve_155 (lv_at hl 7 rfl) ?_
                refine cq_Si (As := [.long ax, .long bx, .long cx]) (rest := []) ⟨hx, hb, hml, hown, hts⟩ (c_km_zero l dC dI ax bx cx) (va_cwS 3 hts (gi_S tw_361 tw_362 tw_6 tw_363) rfl rfl rfl (by decide +kernel) ⟨(by rw [← hR]; exact Nat.le_of_ble_eq_true rfl), (by rw [← hR]; exact Nat.le_of_ble_eq_true rfl)⟩) rfl rfl hl.1 (Nat.le_of_ble_eq_true rfl) d_M_curve_157 ⟨Nat.zero_le _, Nat.zero_le _⟩ hP hS hA (fun H locs hP hS => ?_)
                refine lv_if_eq (tgt := 182) hx hb d_M_curve_160 rfl (fun h160 => ?_) (fun h160 => ?_)
                · rw [if_pos h160] at hres
                  exact J182 tc hres ls _ _ (lv_sub hl [2, 3, 4, 5, 6, 7, 8] rfl) hP hD hS
                · rw [if_neg h160] at hres
                  refine lv_goto (tgt := 177) hx hb d_M_curve_163 rfl ?_
                  refine lv_aload_n hx hb d_M_curve_177 rfl (lv_at hl 2 rfl) ?_
                  refine lv_iconst (v := 1) hx hb d_M_curve_178 (by decide) ?_
                  refine va_put (D := (dC, dI)) (ci := 2) (v := .int 1) (ty := .boolean) (C := R_M) (T := F_M) (N := 11) hx hb hts in_M tf_M tok_M n_M hown hK hP hD hS 0 rfl rfl 7 (by decide) (hts _ tw_286) (fun _ h9 => h9) rfl (by decide +kernel) (by rfl) (by rfl) (Nat.le_of_ble_eq_true rfl) d_M_curve_179 (fun H locs hP hD hS => ?_)
                  have hP : va_P (dC, dI) cls9 [(h0, .inr (2, [.int wd, .ref apx, .ref apy, .ref aon, .ref aen, .int cn, .int pn, .int 1, .int tn, .ref afi, .ref ase])), (apx, .inl (cJ, 256, .inr (.inl px))), (apy, .inl (cJ, 256, .inr (.inl py))), (aon, .inl (cZ, 256, .inl on)), (aen, .inl (cI, 256, .inl en)), (afi, .inl (cJ, 6, .inr (.inl fi))), (ase, .inl (cJ, 6, .inr (.inl se)))] H := hP
                  have hD : va_D A [(h0, .inr (2, [.int wd, .ref apx, .ref apy, .ref aon, .ref aen, .int cn, .int pn, .int 1, .int tn, .ref afi, .ref ase])), (apx, .inl (cJ, 256, .inr (.inl px))), (apy, .inl (cJ, 256, .inr (.inl py))), (aon, .inl (cZ, 256, .inl on)), (aen, .inl (cI, 256, .inl en)), (afi, .inl (cJ, 6, .inr (.inl fi))), (ase, .inl (cJ, 6, .inr (.inl se)))] := hD
                  exact J182 1 hres ls _ _ (lv_sub hl [2, 3, 4, 5, 6, 7, 8] rfl) hP hD hS
          · rw [if_pos h104] at hres
            refine lv_lload_n hx hb d_M_curve_107 rfl (lv_at hl 4 rfl) ?_
            refine lv_lload hx hb d_M_curve_108 (lv_at hl 6 rfl) ?_
            refine W.lcmp hx hb d_M_curve_110 ?_
            refine lv_if_ne (tgt := 142) hx hb d_M_curve_111 rfl (fun h111 => ?_) (fun h111 => ?_)
            · rw [if_neg h111] at hres
              refine lv_iload hx hb d_M_curve_142 (lv_at hl 0 rfl) ?_
              refine lv_if_eq (tgt := 182) hx hb d_M_curve_144 rfl (fun h144 => ?_) (fun h144 => ?_)
              · rw [if_pos h144] at hres
                exact J182 tc hres ls _ _ (lv_sub hl [2, 3, 4, 5, 6, 7, 8] rfl) hP hD hS
              · rw [if_neg h144] at hres
                refine lv_iload hx hb d_M_curve_147 (lv_at hl 1 rfl) ?_
                refine lv_if_eq (tgt := 166) hx hb d_M_curve_149 rfl (fun h149 => ?_) (fun h149 => ?_)
                · rw [if_pos h149] at hres
                  refine lv_lload_n hx hb d_M_curve_166 rfl (lv_at hl 4 rfl) ?_
                  refine lv_lload hx hb d_M_curve_167 (lv_at hl 6 rfl) ?_
                  refine lv_lload hx hb d_M_curve_169 (lv_at hl 8 rfl) ?_
                  refine cq_Si (As := [.long ay, .long bz, .long cz]) (rest := []) ⟨hx, hb, hml, hown, hts⟩ (c_km_zero l dC dI ay bz cz) (va_cwS 3 hts (gi_S tw_361 tw_362 tw_6 tw_363) rfl rfl rfl (by decide +kernel) ⟨(by rw [← hR]; exact Nat.le_of_ble_eq_true rfl), (by rw [← hR]; exact Nat.le_of_ble_eq_true rfl)⟩) rfl rfl hl.1 (Nat.le_of_ble_eq_true rfl) d_M_curve_171 ⟨Nat.zero_le _, Nat.zero_le _⟩ hP hS hA (fun H locs hP hS => ?_)
                  refine lv_if_eq (tgt := 182) hx hb d_M_curve_174 rfl (fun h174 => ?_) (fun h174 => ?_)
                  · rw [if_pos h174] at hres
                    exact J182 tc hres ls _ _ (lv_sub hl [2, 3, 4, 5, 6, 7, 8] rfl) hP hD hS
                  · rw [if_neg h174] at hres
                    refine lv_aload_n hx hb d_M_curve_177 rfl (lv_at hl 2 rfl) ?_
                    refine lv_iconst (v := 1) hx hb d_M_curve_178 (by decide) ?_
                    refine va_put (D := (dC, dI)) (ci := 2) (v := .int 1) (ty := .boolean) (C := R_M) (T := F_M) (N := 11) hx hb hts in_M tf_M tok_M n_M hown hK hP hD hS 0 rfl rfl 7 (by decide) (hts _ tw_286) (fun _ h9 => h9) rfl (by decide +kernel) (by rfl) (by rfl) (Nat.le_of_ble_eq_true rfl) d_M_curve_179 (fun H locs hP hD hS => ?_)
                    have hP : va_P (dC, dI) cls9 [(h0, .inr (2, [.int wd, .ref apx, .ref apy, .ref aon, .ref aen, .int cn, .int pn, .int 1, .int tn, .ref afi, .ref ase])), (apx, .inl (cJ, 256, .inr (.inl px))), (apy, .inl (cJ, 256, .inr (.inl py))), (aon, .inl (cZ, 256, .inl on)), (aen, .inl (cI, 256, .inl en)), (afi, .inl (cJ, 6, .inr (.inl fi))), (ase, .inl (cJ, 6, .inr (.inl se)))] H := hP
                    have hD : va_D A [(h0, .inr (2, [.int wd, .ref apx, .ref apy, .ref aon, .ref aen, .int cn, .int pn, .int 1, .int tn, .ref afi, .ref ase])), (apx, .inl (cJ, 256, .inr (.inl px))), (apy, .inl (cJ, 256, .inr (.inl py))), (aon, .inl (cZ, 256, .inl on)), (aen, .inl (cI, 256, .inl en)), (afi, .inl (cJ, 6, .inr (.inl fi))), (ase, .inl (cJ, 6, .inr (.inl se)))] := hD
                    exact J182 1 hres ls _ _ (lv_sub hl [2, 3, 4, 5, 6, 7, 8] rfl) hP hD hS
                · rw [if_neg h149] at hres
                  refine lv_lload_n hx hb d_M_curve_152 rfl (lv_at hl 3 rfl) ?_
                  refine lv_lload hx hb d_M_curve_153 (lv_at hl 5 rfl) ?_
                  refine lv_lload hx hb d_M_curve_155 (lv_at hl 7 rfl) ?_
                  refine cq_Si (As := [.long ax, .long bx, .long cx]) (rest := []) ⟨hx, hb, hml, hown, hts⟩ (c_km_zero l dC dI ax bx cx) (va_cwS 3 hts (gi_S tw_361 tw_362 tw_6 tw_363) rfl rfl rfl (by decide +kernel) ⟨(by rw [← hR]; exact Nat.le_of_ble_eq_true rfl), (by rw [← hR]; exact Nat.le_of_ble_eq_true rfl)⟩) rfl rfl hl.1 (Nat.le_of_ble_eq_true rfl) d_M_curve_157 ⟨Nat.zero_le _, Nat.zero_le _⟩ hP hS hA (fun H locs hP hS => ?_)
                  refine lv_if_eq (tgt := 182) hx hb d_M_curve_160 rfl (fun h160 => ?_) (fun h160 => ?_)
                  · rw [if_pos h160] at hres
                    exact J182 tc hres ls _ _ (lv_sub hl [2, 3, 4, 5, 6, 7, 8] rfl) hP hD hS
                  · rw [if_neg h160] at hres
                    refine lv_goto (tgt := 177) hx hb d_M_curve_163 rfl ?_
                    refine lv_aload_n hx hb d_M_curve_177 rfl (lv_at hl 2 rfl) ?_
                    refine lv_iconst (v := 1) hx hb d_M_curve_178 (by decide) ?_
                    refine va_put (D := (dC, dI)) (ci := 2) (v := .int 1) (ty := .boolean) (C := R_M) (T := F_M) (N := 11) hx hb hts in_M tf_M tok_M n_M hown hK hP hD hS 0 rfl rfl 7 (by decide) (hts _ tw_286) (fun _ h9 => h9) rfl (by decide +kernel) (by rfl) (by rfl) (Nat.le_of_ble_eq_true rfl) d_M_curve_179 (fun H locs hP hD hS => ?_)
                    have hP : va_P (dC, dI) cls9 [(h0, .inr (2, [.int wd, .ref apx, .ref apy, .ref aon, .ref aen, .int cn, .int pn, .int 1, .int tn, .ref afi, .ref ase])), (apx, .inl (cJ, 256, .inr (.inl px))), (apy, .inl (cJ, 256, .inr (.inl py))), (aon, .inl (cZ, 256, .inl on)), (aen, .inl (cI, 256, .inl en)), (afi, .inl (cJ, 6, .inr (.inl fi))), (ase, .inl (cJ, 6, .inr (.inl se)))] H := hP
                    have hD : va_D A [(h0, .inr (2, [.int wd, .ref apx, .ref apy, .ref aon, .ref aen, .int cn, .int pn, .int 1, .int tn, .ref afi, .ref ase])), (apx, .inl (cJ, 256, .inr (.inl px))), (apy, .inl (cJ, 256, .inr (.inl py))), (aon, .inl (cZ, 256, .inl on)), (aen, .inl (cI, 256, .inl en)), (afi, .inl (cJ, 6, .inr (.inl fi))), (ase, .inl (cJ, 6, .inr (.inl se)))] := hD
                    exact J182 1 hres ls _ _ (lv_sub hl [2, 3, 4, 5, 6, 7, 8] rfl) hP hD hS
            · rw [if_pos h111] at hres
              refine lv_lload hx hb d_M_curve_114 (lv_at hl 6 rfl) ?_
              refine lv_lload hx hb d_M_curve_116 (lv_at hl 8 rfl) ?_
              refine W.lcmp hx hb d_M_curve_118 ?_
              refine lv_if_ne (tgt := 142) hx hb d_M_curve_119 rfl (fun h119 => ?_) (fun h119 => ?_)
              · rw [if_neg h119] at hres
                refine lv_iload hx hb d_M_curve_142 (lv_at hl 0 rfl) ?_
                refine lv_if_eq (tgt := 182) hx hb d_M_curve_144 rfl (fun h144 => ?_) (fun h144 => ?_)
                · rw [if_pos h144] at hres
                  exact J182 tc hres ls _ _ (lv_sub hl [2, 3, 4, 5, 6, 7, 8] rfl) hP hD hS
                · rw [if_neg h144] at hres
                  refine lv_iload hx hb d_M_curve_147 (lv_at hl 1 rfl) ?_
                  refine lv_if_eq (tgt := 166) hx hb d_M_curve_149 rfl (fun h149 => ?_) (fun h149 => ?_)
                  · rw [if_pos h149] at hres
                    refine lv_lload_n hx hb d_M_curve_166 rfl (lv_at hl 4 rfl) ?_
                    refine lv_lload hx hb d_M_curve_167 (lv_at hl 6 rfl) ?_
                    refine lv_lload hx hb d_M_curve_169 (lv_at hl 8 rfl) ?_
                    refine cq_Si (As := [.long ay, .long bz, .long cz]) (rest := []) ⟨hx, hb, hml, hown, hts⟩ (c_km_zero l dC dI ay bz cz) (va_cwS 3 hts (gi_S tw_361 tw_362 tw_6 tw_363) rfl rfl rfl (by decide +kernel) ⟨(by rw [← hR]; exact Nat.le_of_ble_eq_true rfl), (by rw [← hR]; exact Nat.le_of_ble_eq_true rfl)⟩) rfl rfl hl.1 (Nat.le_of_ble_eq_true rfl) d_M_curve_171 ⟨Nat.zero_le _, Nat.zero_le _⟩ hP hS hA (fun H locs hP hS => ?_)
                    refine lv_if_eq (tgt := 182) hx hb d_M_curve_174 rfl (fun h174 => ?_) (fun h174 => ?_)
                    · rw [if_pos h174] at hres
                      exact J182 tc hres ls _ _ (lv_sub hl [2, 3, 4, 5, 6, 7, 8] rfl) hP hD hS
                    · rw [if_neg h174] at hres
                      refine lv_aload_n hx hb d_M_curve_177 rfl (lv_at hl 2 rfl) ?_
                      refine lv_iconst (v := 1) hx hb d_M_curve_178 (by decide) ?_
                      refine va_put (D := (dC, dI)) (ci := 2) (v := .int 1) (ty := .boolean) (C := R_M) (T := F_M) (N := 11) hx hb hts in_M tf_M tok_M n_M hown hK hP hD hS 0 rfl rfl 7 (by decide) (hts _ tw_286) (fun _ h9 => h9) rfl (by decide +kernel) (by rfl) (by rfl) (Nat.le_of_ble_eq_true rfl) d_M_curve_179 (fun H locs hP hD hS => ?_)
                      have hP : va_P (dC, dI) cls9 [(h0, .inr (2, [.int wd, .ref apx, .ref apy, .ref aon, .ref aen, .int cn, .int pn, .int 1, .int tn, .ref afi, .ref ase])), (apx, .inl (cJ, 256, .inr (.inl px))), (apy, .inl (cJ, 256, .inr (.inl py))), (aon, .inl (cZ, 256, .inl on)), (aen, .inl (cI, 256, .inl en)), (afi, .inl (cJ, 6, .inr (.inl fi))), (ase, .inl (cJ, 6, .inr (.inl se)))] H := hP
                      have hD : va_D A [(h0, .inr (2, [.int wd, .ref apx, .ref apy, .ref aon, .ref aen, .int cn, .int pn, .int 1, .int tn, .ref afi, .ref ase])), (apx, .inl (cJ, 256, .inr (.inl px))), (apy, .inl (cJ, 256, .inr (.inl py))), (aon, .inl (cZ, 256, .inl on)), (aen, .inl (cI, 256, .inl en)), (afi, .inl (cJ, 6, .inr (.inl fi))), (ase, .inl (cJ, 6, .inr (.inl se)))] := hD
                      exact J182 1 hres ls _ _ (lv_sub hl [2, 3, 4, 5, 6, 7, 8] rfl) hP hD hS
                  · rw [if_neg h149] at hres
                    refine lv_lload_n hx hb d_M_curve_152 rfl (lv_at hl 3 rfl) ?_
                    refine lv_lload hx hb d_M_curve_153 (lv_at hl 5 rfl) ?_
                    refine lv_lload hx hb d_M_curve_155 (lv_at hl 7 rfl) ?_
                    refine cq_Si (As := [.long ax, .long bx, .long cx]) (rest := []) ⟨hx, hb, hml, hown, hts⟩ (c_km_zero l dC dI ax bx cx) (va_cwS 3 hts (gi_S tw_361 tw_362 tw_6 tw_363) rfl rfl rfl (by decide +kernel) ⟨(by rw [← hR]; exact Nat.le_of_ble_eq_true rfl), (by rw [← hR]; exact Nat.le_of_ble_eq_true rfl)⟩) rfl rfl hl.1 (Nat.le_of_ble_eq_true rfl) d_M_curve_157 ⟨Nat.zero_le _, Nat.zero_le _⟩ hP hS hA (fun H locs hP hS => ?_)
                    refine lv_if_eq (tgt := 182) hx hb d_M_curve_160 rfl (fun h160 => ?_) (fun h160 => ?_)
                    · rw [if_pos h160] at hres
                      exact J182 tc hres ls _ _ (lv_sub hl [2, 3, 4, 5, 6, 7, 8] rfl) hP hD hS
                    · rw [if_neg h160] at hres
                      refine lv_goto (tgt := 177) hx hb d_M_curve_163 rfl ?_
                      refine lv_aload_n hx hb d_M_curve_177 rfl (lv_at hl 2 rfl) ?_
                      refine lv_iconst (v := 1) hx hb d_M_curve_178 (by decide) ?_
                      refine va_put (D := (dC, dI)) (ci := 2) (v := .int 1) (ty := .boolean) (C := R_M) (T := F_M) (N := 11) hx hb hts in_M tf_M tok_M n_M hown hK hP hD hS 0 rfl rfl 7 (by decide) (hts _ tw_286) (fun _ h9 => h9) rfl (by decide +kernel) (by rfl) (by rfl) (Nat.le_of_ble_eq_true rfl) d_M_curve_179 (fun H locs hP hD hS => ?_)
                      have hP : va_P (dC, dI) cls9 [(h0, .inr (2, [.int wd, .ref apx, .ref apy, .ref aon, .ref aen, .int cn, .int pn, .int 1, .int tn, .ref afi, .ref ase])), (apx, .inl (cJ, 256, .inr (.inl px))), (apy, .inl (cJ, 256, .inr (.inl py))), (aon, .inl (cZ, 256, .inl on)), (aen, .inl (cI, 256, .inl en)), (afi, .inl (cJ, 6, .inr (.inl fi))), (ase, .inl (cJ, 6, .inr (.inl se)))] H := hP
                      have hD : va_D A [(h0, .inr (2, [.int wd, .ref apx, .ref apy, .ref aon, .ref aen, .int cn, .int pn, .int 1, .int tn, .ref afi, .ref ase])), (apx, .inl (cJ, 256, .inr (.inl px))), (apy, .inl (cJ, 256, .inr (.inl py))), (aon, .inl (cZ, 256, .inl on)), (aen, .inl (cI, 256, .inl en)), (afi, .inl (cJ, 6, .inr (.inl fi))), (ase, .inl (cJ, 6, .inr (.inl se)))] := hD
                      exact J182 1 hres ls _ _ (lv_sub hl [2, 3, 4, 5, 6, 7, 8] rfl) hP hD hS
              · rw [if_pos h119] at hres
                refine lv_lload_n hx hb d_M_curve_122 rfl (lv_at hl 3 rfl) ?_
                refine lv_lconst (v := 0) hx hb d_M_curve_123 (by decide) ?_
                refine W.lcmp hx hb d_M_curve_124 ?_
                refine lv_if_ne (tgt := 182) hx hb d_M_curve_125 rfl (fun h125 => ?_) (fun h125 => ?_)
                · rw [if_neg h125] at hres
                  exact J182 tc hres ls _ _ (lv_sub hl [2, 3, 4, 5, 6, 7, 8] rfl) hP hD hS
                · rw [if_pos h125] at hres
                  refine lv_lload_n hx hb d_M_curve_128 rfl (lv_at hl 4 rfl) ?_
                  refine lv_lconst (v := 0) hx hb d_M_curve_129 (by decide) ?_
                  refine W.lcmp hx hb d_M_curve_130 ?_
                  refine lv_if_ne (tgt := 182) hx hb d_M_curve_131 rfl (fun h131 => ?_) (fun h131 => ?_)
                  · rw [if_neg h131] at hres
                    exact J182 tc hres ls _ _ (lv_sub hl [2, 3, 4, 5, 6, 7, 8] rfl) hP hD hS
                  · rw [if_pos h131] at hres
                    refine lv_aload_n hx hb d_M_curve_134 rfl (lv_at hl 2 rfl) ?_
                    refine lv_iconst (v := 1) hx hb d_M_curve_135 (by decide) ?_
                    refine va_put (D := (dC, dI)) (ci := 2) (v := .int 1) (ty := .boolean) (C := R_M) (T := F_M) (N := 11) hx hb hts in_M tf_M tok_M n_M hown hK hP hD hS 0 rfl rfl 7 (by decide) (hts _ tw_286) (fun _ h9 => h9) rfl (by decide +kernel) (by rfl) (by rfl) (Nat.le_of_ble_eq_true rfl) d_M_curve_136 (fun H locs hP hD hS => ?_)
                    have hP : va_P (dC, dI) cls9 [(h0, .inr (2, [.int wd, .ref apx, .ref apy, .ref aon, .ref aen, .int cn, .int pn, .int 1, .int tn, .ref afi, .ref ase])), (apx, .inl (cJ, 256, .inr (.inl px))), (apy, .inl (cJ, 256, .inr (.inl py))), (aon, .inl (cZ, 256, .inl on)), (aen, .inl (cI, 256, .inl en)), (afi, .inl (cJ, 6, .inr (.inl fi))), (ase, .inl (cJ, 6, .inr (.inl se)))] H := hP
                    have hD : va_D A [(h0, .inr (2, [.int wd, .ref apx, .ref apy, .ref aon, .ref aen, .int cn, .int pn, .int 1, .int tn, .ref afi, .ref ase])), (apx, .inl (cJ, 256, .inr (.inl px))), (apy, .inl (cJ, 256, .inr (.inl py))), (aon, .inl (cZ, 256, .inl on)), (aen, .inl (cI, 256, .inl en)), (afi, .inl (cJ, 6, .inr (.inl fi))), (ase, .inl (cJ, 6, .inr (.inl se)))] := hD
                    refine lv_goto (tgt := 182) hx hb d_M_curve_139 rfl ?_
                    exact J182 1 hres ls _ _ (lv_sub hl [2, 3, 4, 5, 6, 7, 8] rfl) hP hD hS
        refine lv_if_ne (tgt := 99) hx hb d_M_curve_78 rfl (fun h78 => ?_) (fun h78 => ?_)
        · rw [if_neg h78] at hres
          refine lv_iconst (v := 0) hx hb d_M_curve_99 (by decide) ?_
          exact J100 0 hres ls _ _ (lv_sub hl [0, 4, 5, 6, 7, 8, 9, 10] rfl) hP hD hS
        · rw [if_pos h78] at hres
          refine lv_lload hx hb d_M_curve_81 (lv_at hl 2 rfl) ?_
          refine lv_lconst (v := 0) hx hb d_M_curve_83 (by decide) ?_
          refine W.lcmp hx hb d_M_curve_84 ?_
          refine lv_if_ne (tgt := 99) hx hb d_M_curve_85 rfl (fun h85 => ?_) (fun h85 => ?_)
          · rw [if_neg h85] at hres
            refine lv_iconst (v := 0) hx hb d_M_curve_99 (by decide) ?_
            exact J100 0 hres ls _ _ (lv_sub hl [0, 4, 5, 6, 7, 8, 9, 10] rfl) hP hD hS
          · rw [if_pos h85] at hres
            refine lv_lload hx hb d_M_curve_88 (lv_at hl 1 rfl) ?_
            refine lv_lconst (v := 0) hx hb d_M_curve_90 (by decide) ?_
            refine W.lcmp hx hb d_M_curve_91 ?_
            refine lv_if_ne (tgt := 99) hx hb d_M_curve_92 rfl (fun h92 => ?_) (fun h92 => ?_)
            · rw [if_neg h92] at hres
              refine lv_iconst (v := 0) hx hb d_M_curve_99 (by decide) ?_
              exact J100 0 hres ls _ _ (lv_sub hl [0, 4, 5, 6, 7, 8, 9, 10] rfl) hP hD hS
            · rw [if_pos h92] at hres
              refine lv_iconst (v := 1) hx hb d_M_curve_95 (by decide) ?_
              refine lv_goto (tgt := 100) hx hb d_M_curve_96 rfl ?_
              exact J100 1 hres ls _ _ (lv_sub hl [0, 4, 5, 6, 7, 8, 9, 10] rfl) hP hD hS
      refine lv_if_ne (tgt := 67) hx hb d_M_curve_56 rfl (fun h56 => ?_) (fun h56 => ?_)
      · rw [if_neg h56] at hres
        refine lv_iconst (v := 1) hx hb d_M_curve_67 (by decide) ?_
        refine lv_goto (tgt := 72) hx hb d_M_curve_68 rfl ?_
        exact J72 1 hres ls _ _ (lv_sub hl [1, 2, 3, 4, 5, 6, 7, 8, 9, 10] rfl) hP hD hS
      · rw [if_pos h56] at hres
        refine lv_lload hx hb d_M_curve_59 (lv_at hl 7 rfl) ?_
        refine lv_lload hx hb d_M_curve_61 (lv_at hl 9 rfl) ?_
        refine W.lcmp hx hb d_M_curve_63 ?_
        refine lv_if_eq (tgt := 71) hx hb d_M_curve_64 rfl (fun h64 => ?_) (fun h64 => ?_)
        · rw [if_pos h64] at hres
          refine lv_iconst (v := 0) hx hb d_M_curve_71 (by decide) ?_
          exact J72 0 hres ls _ _ (lv_sub hl [1, 2, 3, 4, 5, 6, 7, 8, 9, 10] rfl) hP hD hS
        · rw [if_neg h64] at hres
          refine lv_iconst (v := 1) hx hb d_M_curve_67 (by decide) ?_
          refine lv_goto (tgt := 72) hx hb d_M_curve_68 rfl ?_
          exact J72 1 hres ls _ _ (lv_sub hl [1, 2, 3, 4, 5, 6, 7, 8, 9, 10] rfl) hP hD hS
  exact K45 ((bx * cz) - (cx * bz)) ((cx * ay) - (ax * cz)) ((ax * bz) - (bx * ay)) ((((bx * cz) - (cx * bz)) + ((cx * ay) - (ax * cz))) + ((ax * bz) - (bx * ay))) hres ls _ _ (lv_sub hl [0, 1, 2, 3, 4, 5, 6, 7, 8, 9, 10] rfl) hP hD hS
