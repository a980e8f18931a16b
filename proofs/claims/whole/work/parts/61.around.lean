def km_around_j467 (k : Int32) (kL217 : (Int32) → (Int64) → (Int64) → (Int32) → (Int32) → (Nat → Int64) → (Nat → Int64) → Int32 × Int32 × (Nat → Int64) × (Nat → Int64)) (t371_0 : Int64) (t413_0 : Int64) (x444 : Int32 × Int32 × (Nat → Int64) × (Nat → Int64)) (t467_0 : Int32) : Int32 × Int32 × (Nat → Int64) × (Nat → Int64) := (kL217 (k + t467_0) t371_0 t413_0 x444.1 x444.2.1 x444.2.2.1 x444.2.2.2)
def km_around_k447 (on : Nat → Int32) (k : Int32) (kL217 : (Int32) → (Int64) → (Int64) → (Int32) → (Int32) → (Nat → Int64) → (Nat → Int64) → Int32 × Int32 × (Nat → Int64) × (Nat → Int64)) (v322_l19 : Int32) (t371_0 : Int64) (t413_0 : Int64) (x444 : Int32 × Int32 × (Nat → Int64) × (Nat → Int64)) : Int32 × Int32 × (Nat → Int64) × (Nat → Int64) := (if (on (Int32.toNatClampNeg v322_l19)) = 0 then (km_around_j467 k kL217 t371_0 t413_0 x444 1) else (km_around_j467 k kL217 t371_0 t413_0 x444 2))
def km_around_j413 (px : Nat → Int64) (py : Nat → Int64) (on : Nat → Int32) (x : Int64) (y : Int64) (k : Int32) (ax : Int64) (ay : Int64) (c1 : Int32) (n1 : Int32) (f1 : Nat → Int64) (s1 : Nat → Int64) (kL217 : (Int32) → (Int64) → (Int64) → (Int32) → (Int32) → (Nat → Int64) → (Nat → Int64) → Int32 × Int32 × (Nat → Int64) × (Nat → Int64)) (v238_l18 : Int32) (v322_l19 : Int32) (t371_0 : Int64) (t413_0 : Int64) : Int32 × Int32 × (Nat → Int64) × (Nat → Int64) := (km_around_k447 on k kL217 v322_l19 t371_0 t413_0 (km_curve c1 n1 f1 s1 ax ay ((px (Int32.toNatClampNeg v238_l18)) - x) ((py (Int32.toNatClampNeg v238_l18)) - y) t371_0 t413_0))
def km_around_j371 (px : Nat → Int64) (py : Nat → Int64) (on : Nat → Int32) (x : Int64) (y : Int64) (k : Int32) (ax : Int64) (ay : Int64) (c1 : Int32) (n1 : Int32) (f1 : Nat → Int64) (s1 : Nat → Int64) (kL217 : (Int32) → (Int64) → (Int64) → (Int32) → (Int32) → (Nat → Int64) → (Nat → Int64) → Int32 × Int32 × (Nat → Int64) × (Nat → Int64)) (v238_l18 : Int32) (v322_l19 : Int32) (t371_0 : Int64) : Int32 × Int32 × (Nat → Int64) × (Nat → Int64) := (if (on (Int32.toNatClampNeg v322_l19)) = 0 then (km_around_j413 px py on x y k ax ay c1 n1 f1 s1 kL217 v238_l18 v322_l19 t371_0 ((((py (Int32.toNatClampNeg v238_l18)) + (py (Int32.toNatClampNeg v322_l19))) / 2) - y)) else (km_around_j413 px py on x y k ax ay c1 n1 f1 s1 kL217 v238_l18 v322_l19 t371_0 ((py (Int32.toNatClampNeg v322_l19)) - y)))
def km_around_k322 (px : Nat → Int64) (py : Nat → Int64) (on : Nat → Int32) (x : Int64) (y : Int64) (k : Int32) (ax : Int64) (ay : Int64) (c1 : Int32) (n1 : Int32) (f1 : Nat → Int64) (s1 : Nat → Int64) (kL217 : (Int32) → (Int64) → (Int64) → (Int32) → (Int32) → (Nat → Int64) → (Nat → Int64) → Int32 × Int32 × (Nat → Int64) × (Nat → Int64)) (v238_l18 : Int32) (v322_l19 : Int32) : Int32 × Int32 × (Nat → Int64) × (Nat → Int64) := (if (on (Int32.toNatClampNeg v322_l19)) = 0 then (km_around_j371 px py on x y k ax ay c1 n1 f1 s1 kL217 v238_l18 v322_l19 ((((px (Int32.toNatClampNeg v238_l18)) + (px (Int32.toNatClampNeg v322_l19))) / 2) - x)) else (km_around_j371 px py on x y k ax ay c1 n1 f1 s1 kL217 v238_l18 v322_l19 ((px (Int32.toNatClampNeg v322_l19)) - x)))
def km_around_k276 (px : Nat → Int64) (py : Nat → Int64) (x : Int64) (y : Int64) (k : Int32) (f1 : Nat → Int64) (s1 : Nat → Int64) (kL217 : (Int32) → (Int64) → (Int64) → (Int32) → (Int32) → (Nat → Int64) → (Nat → Int64) → Int32 × Int32 × (Nat → Int64) × (Nat → Int64)) (v238_l18 : Int32) (x273 : Int32 × Int32) : Int32 × Int32 × (Nat → Int64) × (Nat → Int64) := (kL217 (k + 1) ((px (Int32.toNatClampNeg v238_l18)) - x) ((py (Int32.toNatClampNeg v238_l18)) - y) x273.1 x273.2 f1 s1)
def km_around_k238 (px : Nat → Int64) (py : Nat → Int64) (on : Nat → Int32) (fr : Int32) (to : Int32) (x : Int64) (y : Int64) (t87_0 : Int32) (k : Int32) (ax : Int64) (ay : Int64) (c1 : Int32) (n1 : Int32) (f1 : Nat → Int64) (s1 : Nat → Int64) (kL217 : (Int32) → (Int64) → (Int64) → (Int32) → (Int32) → (Nat → Int64) → (Nat → Int64) → Int32 × Int32 × (Nat → Int64) × (Nat → Int64)) (v238_l18 : Int32) : Int32 × Int32 × (Nat → Int64) × (Nat → Int64) := (if (on (Int32.toNatClampNeg v238_l18)) = 0 then (km_around_k322 px py on x y k ax ay c1 n1 f1 s1 kL217 v238_l18 (fr + ((((t87_0 - fr) + k) + 1) - (((t87_0 - fr) + k) + 1) / (to - fr) * (to - fr)))) else (km_around_k276 px py x y k f1 s1 kL217 v238_l18 (km_line c1 n1 ax ay ((px (Int32.toNatClampNeg v238_l18)) - x) ((py (Int32.toNatClampNeg v238_l18)) - y))))
def km_around_L217 (px : Nat → Int64) (py : Nat → Int64) (on : Nat → Int32) (fr : Int32) (to : Int32) (x : Int64) (y : Int64) (t87_0 : Int32) (t215_0 : Int32) : Nat → (Int32) → (Int64) → (Int64) → (Int32) → (Int32) → (Nat → Int64) → (Nat → Int64) → Int32 × Int32 × (Nat → Int64) × (Nat → Int64)
  | 0, _, _, _, _, _, _, _ => (0, 0, fun _ => 0, fun _ => 0)
  | n+1, k, ax, ay, c1, n1, f1, s1 => (if t215_0 ≤ k then (c1, n1, f1, s1) else (km_around_k238 px py on fr to x y t87_0 k ax ay c1 n1 f1 s1 (km_around_L217 px py on fr to x y t87_0 t215_0 n) (fr + (((t87_0 - fr) + k) - ((t87_0 - fr) + k) / (to - fr) * (to - fr)))))
def km_around_j215 (px : Nat → Int64) (py : Nat → Int64) (on : Nat → Int32) (tc : Int32) (tn : Int32) (fi : Nat → Int64) (se : Nat → Int64) (fr : Int32) (to : Int32) (x : Int64) (y : Int64) (t87_0 : Int32) (t145_0 : Int64) (t187_0 : Int64) (t199_0 : Int32) (t215_0 : Int32) : Int32 × Int32 × (Nat → Int64) × (Nat → Int64) := (km_around_L217 px py on fr to x y t87_0 t215_0 301 t199_0 t145_0 t187_0 tc tn fi se)
def km_around_j199 (px : Nat → Int64) (py : Nat → Int64) (on : Nat → Int32) (tc : Int32) (tn : Int32) (fi : Nat → Int64) (se : Nat → Int64) (fr : Int32) (to : Int32) (x : Int64) (y : Int64) (t77_0 : Int32) (t87_0 : Int32) (t145_0 : Int64) (t187_0 : Int64) (t199_0 : Int32) : Int32 × Int32 × (Nat → Int64) × (Nat → Int64) := (if t77_0 = 0 then (km_around_j215 px py on tc tn fi se fr to x y t87_0 t145_0 t187_0 t199_0 ((to - fr) + 1)) else (km_around_j215 px py on tc tn fi se fr to x y t87_0 t145_0 t187_0 t199_0 (to - fr)))
def km_around_j187 (px : Nat → Int64) (py : Nat → Int64) (on : Nat → Int32) (tc : Int32) (tn : Int32) (fi : Nat → Int64) (se : Nat → Int64) (fr : Int32) (to : Int32) (x : Int64) (y : Int64) (t77_0 : Int32) (t87_0 : Int32) (t145_0 : Int64) (t187_0 : Int64) : Int32 × Int32 × (Nat → Int64) × (Nat → Int64) := (if t77_0 = 0 then (km_around_j199 px py on tc tn fi se fr to x y t77_0 t87_0 t145_0 t187_0 1) else (km_around_j199 px py on tc tn fi se fr to x y t77_0 t87_0 t145_0 t187_0 0))
def km_around_j145 (px : Nat → Int64) (py : Nat → Int64) (on : Nat → Int32) (tc : Int32) (tn : Int32) (fi : Nat → Int64) (se : Nat → Int64) (fr : Int32) (to : Int32) (x : Int64) (y : Int64) (t77_0 : Int32) (t87_0 : Int32) (t103_0 : Int32) (t145_0 : Int64) : Int32 × Int32 × (Nat → Int64) × (Nat → Int64) := (if t77_0 = 0 then (km_around_j187 px py on tc tn fi se fr to x y t77_0 t87_0 t145_0 ((py (Int32.toNatClampNeg t87_0)) - y)) else (km_around_j187 px py on tc tn fi se fr to x y t77_0 t87_0 t145_0 ((((py (Int32.toNatClampNeg t103_0)) + (py (Int32.toNatClampNeg t87_0))) / 2) - y)))
def km_around_j103 (px : Nat → Int64) (py : Nat → Int64) (on : Nat → Int32) (tc : Int32) (tn : Int32) (fi : Nat → Int64) (se : Nat → Int64) (fr : Int32) (to : Int32) (x : Int64) (y : Int64) (t77_0 : Int32) (t87_0 : Int32) (t103_0 : Int32) : Int32 × Int32 × (Nat → Int64) × (Nat → Int64) := (if t77_0 = 0 then (km_around_j145 px py on tc tn fi se fr to x y t77_0 t87_0 t103_0 ((px (Int32.toNatClampNeg t87_0)) - x)) else (km_around_j145 px py on tc tn fi se fr to x y t77_0 t87_0 t103_0 ((((px (Int32.toNatClampNeg t103_0)) + (px (Int32.toNatClampNeg t87_0))) / 2) - x)))
def km_around_j87 (px : Nat → Int64) (py : Nat → Int64) (on : Nat → Int32) (tc : Int32) (tn : Int32) (fi : Nat → Int64) (se : Nat → Int64) (fr : Int32) (to : Int32) (x : Int64) (y : Int64) (t77_0 : Int32) (t87_0 : Int32) : Int32 × Int32 × (Nat → Int64) × (Nat → Int64) := (if t87_0 = fr then (km_around_j103 px py on tc tn fi se fr to x y t77_0 t87_0 (to - 1)) else (km_around_j103 px py on tc tn fi se fr to x y t77_0 t87_0 (t87_0 - 1)))
def km_around_j77 (px : Nat → Int64) (py : Nat → Int64) (on : Nat → Int32) (tc : Int32) (tn : Int32) (fi : Nat → Int64) (se : Nat → Int64) (fr : Int32) (to : Int32) (x : Int64) (y : Int64) (st : Int32) (t77_0 : Int32) : Int32 × Int32 × (Nat → Int64) × (Nat → Int64) := (if t77_0 = 0 then (km_around_j87 px py on tc tn fi se fr to x y t77_0 st) else (km_around_j87 px py on tc tn fi se fr to x y t77_0 fr))
def km_around_j66 (px : Nat → Int64) (py : Nat → Int64) (on : Nat → Int32) (tc : Int32) (tn : Int32) (fi : Nat → Int64) (se : Nat → Int64) (fr : Int32) (to : Int32) (x : Int64) (y : Int64) (st : Int32) : Int32 × Int32 × (Nat → Int64) × (Nat → Int64) := (if st = to then (km_around_j77 px py on tc tn fi se fr to x y st 1) else (km_around_j77 px py on tc tn fi se fr to x y st 0))
def km_around_L44 (px : Nat → Int64) (py : Nat → Int64) (on : Nat → Int32) (tc : Int32) (tn : Int32) (fi : Nat → Int64) (se : Nat → Int64) (fr : Int32) (to : Int32) (x : Int64) (y : Int64) : Nat → (Int32) → Int32 × Int32 × (Nat → Int64) × (Nat → Int64)
  | 0, _ => (0, 0, fun _ => 0, fun _ => 0)
  | n+1, st => (if to ≤ st then (km_around_j66 px py on tc tn fi se fr to x y st) else (if (on (Int32.toNatClampNeg st)) = 0 then ((km_around_L44 px py on tc tn fi se fr to x y n) (st + 1)) else (km_around_j66 px py on tc tn fi se fr to x y st)))
def km_around_j40 (tn : Int32) (fi : Nat → Int64) (se : Nat → Int64) (t40_0 : Int32) : Int32 × Int32 × (Nat → Int64) × (Nat → Int64) := (t40_0, tn, fi, se)
def km_around (px : Nat → Int64) (py : Nat → Int64) (on : Nat → Int32) (tc : Int32) (tn : Int32) (fi : Nat → Int64) (se : Nat → Int64) (bs : Int32) (fr : Int32) (to : Int32) (x : Int64) (y : Int64) : Int32 × Int32 × (Nat → Int64) × (Nat → Int64) := (if (to - fr) = 1 then (if (lg_cmp (px (Int32.toNatClampNeg fr)) x) = 0 then (if (lg_cmp (py (Int32.toNatClampNeg fr)) y) = 0 then (km_around_j40 tn fi se 1) else (km_around_j40 tn fi se tc)) else (km_around_j40 tn fi se tc)) else (km_around_L44 px py on tc tn fi se fr to x y 257 fr))
set_option maxHeartbeats 4000000 in
set_option maxRecDepth 100000 in
theorem c_km_around (l : Launch) (dC : Nat → ClassId) (dI : Nat → Nat → Nat) (h0 : Nat) (apx : Nat) (apy : Nat) (aon : Nat) (aen : Nat) (afi : Nat) (ase : Nat) (cJ : ClassId) (cZ : ClassId) (cI : ClassId) (wd : Int32) (cn : Int32) (pn : Int32) (en : Nat → Int32) (px : Nat → Int64) (py : Nat → Int64) (on : Nat → Int32) (tc : Int32) (tn : Int32) (fi : Nat → Int64) (se : Nat → Int64) (bs : Int32) (fr : Int32) (to : Int32) (x : Int64) (y : Int64) (hrg : arng fr to) : mc_v l y_M_around w_M_around { frames := 6, cells := 0, slots := 0, locals := 209 } (dC, dI) cls9 [(h0, .inr (2, [.int wd, .ref apx, .ref apy, .ref aon, .ref aen, .int cn, .int pn, .int tc, .int tn, .ref afi, .ref ase])), (apx, .inl (cJ, 256, .inr (.inl px))), (apy, .inl (cJ, 256, .inr (.inl py))), (aon, .inl (cZ, 256, .inl on)), (aen, .inl (cI, 256, .inl en)), (afi, .inl (cJ, 6, .inr (.inl fi))), (ase, .inl (cJ, 6, .inr (.inl se)))] [(h0, .inr (2, [.int wd, .ref apx, .ref apy, .ref aon, .ref aen, .int cn, .int pn, .int ((km_around px py on tc tn fi se bs fr to x y).1), .int ((km_around px py on tc tn fi se bs fr to x y).2.1), .ref afi, .ref ase])), (apx, .inl (cJ, 256, .inr (.inl px))), (apy, .inl (cJ, 256, .inr (.inl py))), (aon, .inl (cZ, 256, .inl on)), (aen, .inl (cI, 256, .inl en)), (afi, .inl (cJ, 6, .inr (.inl ((km_around px py on tc tn fi se bs fr to x y).2.2.1)))), (ase, .inl (cJ, 6, .inr (.inl ((km_around px py on tc tn fi se bs fr to x y).2.2.2))))] [(cJ, .long), (cZ, .boolean), (cI, .int)] [.ref h0, .int bs, .int fr, .int to, .long x, .long y] := by
  intro sz
  refine Met.ofW (cc := b_M_around) (maxL := 25) (ret := none) (by decide) rfl ?_
  intro p e s m args below meth c s₁ B hml hv
  obtain ⟨hargs, hsz, hP, hK, hD0⟩ := hv
  have hx := B.exec
  have hb := B.bytes
  have hr := B.returns
  have hts : ∀ w ∈ lw_w, w.before args s = true := fun w h => atoms_spec (ws := w_M_around) B.pre w (List.mem_cons_of_mem _ h)
  have hown : s.vm.findClass R_M = some m.cls := findClass_of_methodNamed B.named
  have hlocks := B.notSynchronized
  subst hsz
  have hD := hD0.self (sz := s.heap.size)
  generalize hR : (headSpec w_M_around { frames := 6, cells := 0, slots := 0, locals := 209 }).room = R
  generalize hAe : va_A [(h0, .inr (2, [.int wd, .ref apx, .ref apy, .ref aon, .ref aen, .int cn, .int pn, .int tc, .int tn, .ref afi, .ref ase])), (apx, .inl (cJ, 256, .inr (.inl px))), (apy, .inl (cJ, 256, .inr (.inl py))), (aon, .inl (cZ, 256, .inl on)), (aen, .inl (cI, 256, .inl en)), (afi, .inl (cJ, 6, .inr (.inl fi))), (ase, .inl (cJ, 6, .inr (.inl se)))] s.heap.size = A at hD ⊢
  have hA : ∀ q : Nat, s.heap.size ≤ q → A q := fun q h => by rw [← hAe]; exact Or.inr h
  have hS : va_S A s.heap s.heap [] := va_S.rf
  generalize hRES : km_around px py on tc tn fi se bs fr to x y = RES
  have hres := hRES
  have hl := lv_entry [.ref h0, .int bs, .int fr, .int to, .long x, .long y] (n := 25) (Nat.le_of_ble_eq_true rfl)
  have hent : entryFrame m args 25 = F0 m 0 (lg_sl [.ref h0, .int bs, .int fr, .int to, .long x, .long y] ++ List.replicate (25 - (lg_sl [.ref h0, .int bs, .int fr, .int to, .long x, .long y]).length) Slot.unset).toArray [] := by rw [hargs]; exact lg_entry_eq m [.ref h0, .int bs, .int fr, .int to, .long x, .long y] 25
  rw [hent]
  clear hent
  generalize (lg_sl [.ref h0, .int bs, .int fr, .int to, .long x, .long y] ++ List.replicate (25 - (lg_sl [.ref h0, .int bs, .int fr, .int to, .long x, .long y]).length) Slot.unset).toArray = ls at hl ⊢
  have hl : lv_has ls 25 [(0, .ref h0), (1, .int bs), (2, .int fr), (3, .int to), (4, .long x), (6, .long y)] := hl
  have hP : va_P (dC, dI) cls9 [(h0, .inr (2, [.int wd, .ref apx, .ref apy, .ref aon, .ref aen, .int cn, .int pn, .int tc, .int tn, .ref afi, .ref ase])), (apx, .inl (cJ, 256, .inr (.inl px))), (apy, .inl (cJ, 256, .inr (.inl py))), (aon, .inl (cZ, 256, .inl on)), (aen, .inl (cI, 256, .inl en)), (afi, .inl (cJ, 6, .inr (.inl fi))), (ase, .inl (cJ, 6, .inr (.inl se)))] s.heap := hP
  have hD : va_D A [(h0, .inr (2, [.int wd, .ref apx, .ref apy, .ref aon, .ref aen, .int cn, .int pn, .int tc, .int tn, .ref afi, .ref ase])), (apx, .inl (cJ, 256, .inr (.inl px))), (apy, .inl (cJ, 256, .inr (.inl py))), (aon, .inl (cZ, 256, .inl on)), (aen, .inl (cI, 256, .inl en)), (afi, .inl (cJ, 6, .inr (.inl fi))), (ase, .inl (cJ, 6, .inr (.inl se)))] := hD
  clear hD0 hRES hAe
  unfold km_around at hres
  obtain ⟨A9, B9, hAB, hB, eA, eB⟩ := hrg
  generalize hQ : MQ below (va_Qv (fun (_ : Unit) => True) (fun _ t => va_P (dC, dI) cls9 [(h0, .inr (2, [.int wd, .ref apx, .ref apy, .ref aon, .ref aen, .int cn, .int pn, .int RES.1, .int RES.2.1, .ref afi, .ref ase])), (apx, .inl (cJ, 256, .inr (.inl px))), (apy, .inl (cJ, 256, .inr (.inl py))), (aon, .inl (cZ, 256, .inl on)), (aen, .inl (cI, 256, .inl en)), (afi, .inl (cJ, 6, .inr (.inl RES.2.2.1))), (ase, .inl (cJ, 6, .inr (.inl RES.2.2.2)))] t.heap ∧ va_K (dC, dI) cls9 [(cJ, .long), (cZ, .boolean), (cI, .int)] t ∧ va_D A [(h0, .inr (2, [.int wd, .ref apx, .ref apy, .ref aon, .ref aen, .int cn, .int pn, .int RES.1, .int RES.2.1, .ref afi, .ref ase])), (apx, .inl (cJ, 256, .inr (.inl px))), (apy, .inl (cJ, 256, .inr (.inl py))), (aon, .inl (cZ, 256, .inl on)), (aen, .inl (cI, 256, .inl en)), (afi, .inl (cJ, 6, .inr (.inl RES.2.2.1))), (ase, .inl (cJ, 6, .inr (.inl RES.2.2.2)))]) A) args s 0 0 A = Q
  replace hQ := hQ.symm
  refine lv_iload_n hx hb d_M_around_0 rfl (lv_at hl 3 rfl) ?_
  refine lv_iload_n hx hb d_M_around_1 rfl (lv_at hl 2 rfl) ?_
  refine lv_isub hx hb d_M_around_2 ?_
  refine lv_istore (lv' := [(8, .int (to - fr)), (0, .ref h0), (1, .int bs), (2, .int fr), (3, .int to), (4, .long x), (6, .long y)]) hx hb d_M_around_3 hl (by decide) rfl (fun ls hl => ?_)
  refine lv_iload hx hb d_M_around_5 (lv_at hl 0 rfl) ?_
  refine lv_iconst (v := 1) hx hb d_M_around_7 (by decide) ?_
  refine lv_icmp_ne (tgt := 41) hx hb d_M_around_8 rfl (fun h8 => ?_) (fun h8 => ?_)
  · rw [if_neg h8] at hres
    refine lv_iload_n hx hb d_M_around_41 rfl (lv_at hl 3 rfl) ?_
    refine lv_istore (lv' := [(9, .int fr), (8, .int (to - fr)), (0, .ref h0), (1, .int bs), (2, .int fr), (3, .int to), (4, .long x), (6, .long y)]) hx hb d_M_around_42 hl (by decide) rfl (fun ls hl => ?_)
    have L44 : ∀ (n : Nat) (st : Int32), (∃ j : Nat, A9 ≤ j ∧ j ≤ B9 ∧ st = nI j) → to.toNatClampNeg - st.toNatClampNeg < n → km_around_L44 px py on tc tn fi se fr to x y n st = RES → ∀ (ls : Array Slot) (H : Heap) (locs : List Loc), lv_has ls 25 [(9, .int st), (8, .int (to - fr)), (0, .ref h0), (2, .int fr), (3, .int to), (4, .long x), (6, .long y)] → va_P (dC, dI) cls9 [(h0, .inr (2, [.int wd, .ref apx, .ref apy, .ref aon, .ref aen, .int cn, .int pn, .int tc, .int tn, .ref afi, .ref ase])), (apx, .inl (cJ, 256, .inr (.inl px))), (apy, .inl (cJ, 256, .inr (.inl py))), (aon, .inl (cZ, 256, .inl on)), (aen, .inl (cI, 256, .inl en)), (afi, .inl (cJ, 6, .inr (.inl fi))), (ase, .inl (cJ, 6, .inr (.inl se)))] H → va_D A [(h0, .inr (2, [.int wd, .ref apx, .ref apy, .ref aon, .ref aen, .int cn, .int pn, .int tc, .int tn, .ref afi, .ref ase])), (apx, .inl (cJ, 256, .inr (.inl px))), (apy, .inl (cJ, 256, .inr (.inl py))), (aon, .inl (cZ, 256, .inl on)), (aen, .inl (cI, 256, .inl en)), (afi, .inl (cJ, 6, .inr (.inl fi))), (ase, .inl (cJ, 6, .inr (.inl se)))] → va_S A s.heap H locs → W p l e R s m args below meth c H locs 0 0 Q (F0 m 44 ls []) := by
      intro n
      induction n with
      | zero => intro st hinv hmu; exact absurd hmu (Nat.not_lt_zero _)
      | succ n ih =>
        intro st hinv hmu hres ls H locs hl hP hD hS
        rw [km_around_L44] at hres
        refine lv_iload hx hb d_M_around_44 (lv_at hl 0 rfl) ?_
        refine lv_iload_n hx hb d_M_around_46 rfl (lv_at hl 4 rfl) ?_
        have J66 : km_around_j66 px py on tc tn fi se fr to x y st = RES → ∀ (ls : Array Slot) (H : Heap) (locs : List Loc), lv_has ls 25 [(9, .int st), (8, .int (to - fr)), (0, .ref h0), (2, .int fr), (3, .int to), (4, .long x), (6, .long y)] → va_P (dC, dI) cls9 [(h0, .inr (2, [.int wd, .ref apx, .ref apy, .ref aon, .ref aen, .int cn, .int pn, .int tc, .int tn, .ref afi, .ref ase])), (apx, .inl (cJ, 256, .inr (.inl px))), (apy, .inl (cJ, 256, .inr (.inl py))), (aon, .inl (cZ, 256, .inl on)), (aen, .inl (cI, 256, .inl en)), (afi, .inl (cJ, 6, .inr (.inl fi))), (ase, .inl (cJ, 6, .inr (.inl se)))] H → va_D A [(h0, .inr (2, [.int wd, .ref apx, .ref apy, .ref aon, .ref aen, .int cn, .int pn, .int tc, .int tn, .ref afi, .ref ase])), (apx, .inl (cJ, 256, .inr (.inl px))), (apy, .inl (cJ, 256, .inr (.inl py))), (aon, .inl (cZ, 256, .inl on)), (aen, .inl (cI, 256, .inl en)), (afi, .inl (cJ, 6, .inr (.inl fi))), (ase, .inl (cJ, 6, .inr (.inl se)))] → va_S A s.heap H locs → W p l e R s m args below meth c H locs 0 0 Q (F0 m 66 ls []) := by
          intro  hres ls H locs hl hP hD hS
          unfold km_around_j66 at hres
          refine lv_iload hx hb d_M_around_66 (lv_at hl 0 rfl) ?_
          refine lv_iload_n hx hb d_M_around_68 rfl (lv_at hl 4 rfl) ?_
          have J77 : ∀ (t77_0 : Int32), (t77_0 = 0 → ¬ st = to) → km_around_j77 px py on tc tn fi se fr to x y st t77_0 = RES → ∀ (ls : Array Slot) (H : Heap) (locs : List Loc), lv_has ls 25 [(9, .int st), (8, .int (to - fr)), (0, .ref h0), (2, .int fr), (3, .int to), (4, .long x), (6, .long y)] → va_P (dC, dI) cls9 [(h0, .inr (2, [.int wd, .ref apx, .ref apy, .ref aon, .ref aen, .int cn, .int pn, .int tc, .int tn, .ref afi, .ref ase])), (apx, .inl (cJ, 256, .inr (.inl px))), (apy, .inl (cJ, 256, .inr (.inl py))), (aon, .inl (cZ, 256, .inl on)), (aen, .inl (cI, 256, .inl en)), (afi, .inl (cJ, 6, .inr (.inl fi))), (ase, .inl (cJ, 6, .inr (.inl se)))] H → va_D A [(h0, .inr (2, [.int wd, .ref apx, .ref apy, .ref aon, .ref aen, .int cn, .int pn, .int tc, .int tn, .ref afi, .ref ase])), (apx, .inl (cJ, 256, .inr (.inl px))), (apy, .inl (cJ, 256, .inr (.inl py))), (aon, .inl (cZ, 256, .inl on)), (aen, .inl (cI, 256, .inl en)), (afi, .inl (cJ, 6, .inr (.inl fi))), (ase, .inl (cJ, 6, .inr (.inl se)))] → va_S A s.heap H locs → W p l e R s m args below meth c H locs 0 0 Q (F0 m 77 ls [.int t77_0]) := by
            intro t77_0 hj77 hres ls H locs hl hP hD hS
            unfold km_around_j77 at hres
            refine lv_istore (lv' := [(10, .int t77_0), (9, .int st), (8, .int (to - fr)), (0, .ref h0), (2, .int fr), (3, .int to), (4, .long x), (6, .long y)]) hx hb d_M_around_77 hl (by decide) rfl (fun ls hl => ?_)
            refine lv_iload hx hb d_M_around_79 (lv_at hl 0 rfl) ?_
            have J87 : ∀ (t87_0 : Int32), (∃ s9 : Nat, A9 ≤ s9 ∧ s9 < B9 ∧ t87_0 = nI s9) → km_around_j87 px py on tc tn fi se fr to x y t77_0 t87_0 = RES → ∀ (ls : Array Slot) (H : Heap) (locs : List Loc), lv_has ls 25 [(10, .int t77_0), (9, .int t87_0), (8, .int (to - fr)), (0, .ref h0), (2, .int fr), (3, .int to), (4, .long x), (6, .long y)] → va_P (dC, dI) cls9 [(h0, .inr (2, [.int wd, .ref apx, .ref apy, .ref aon, .ref aen, .int cn, .int pn, .int tc, .int tn, .ref afi, .ref ase])), (apx, .inl (cJ, 256, .inr (.inl px))), (apy, .inl (cJ, 256, .inr (.inl py))), (aon, .inl (cZ, 256, .inl on)), (aen, .inl (cI, 256, .inl en)), (afi, .inl (cJ, 6, .inr (.inl fi))), (ase, .inl (cJ, 6, .inr (.inl se)))] H → va_D A [(h0, .inr (2, [.int wd, .ref apx, .ref apy, .ref aon, .ref aen, .int cn, .int pn, .int tc, .int tn, .ref afi, .ref ase])), (apx, .inl (cJ, 256, .inr (.inl px))), (apy, .inl (cJ, 256, .inr (.inl py))), (aon, .inl (cZ, 256, .inl on)), (aen, .inl (cI, 256, .inl en)), (afi, .inl (cJ, 6, .inr (.inl fi))), (ase, .inl (cJ, 6, .inr (.inl se)))] → va_S A s.heap H locs → W p l e R s m args below meth c H locs 0 0 Q (F0 m 87 ls []) := by
              intro t87_0 hj87 hres ls H locs hl hP hD hS
              unfold km_around_j87 at hres
              refine lv_iload hx hb d_M_around_87 (lv_at hl 1 rfl) ?_
              refine lv_iload_n hx hb d_M_around_89 rfl (lv_at hl 4 rfl) ?_
              have J103 : ∀ (t103_0 : Int32), (∃ b9 : Nat, b9 < B9 ∧ t103_0 = nI b9) → km_around_j103 px py on tc tn fi se fr to x y t77_0 t87_0 t103_0 = RES → ∀ (ls : Array Slot) (H : Heap) (locs : List Loc), lv_has ls 25 [(10, .int t77_0), (9, .int t87_0), (8, .int (to - fr)), (0, .ref h0), (2, .int fr), (4, .long x), (6, .long y)] → va_P (dC, dI) cls9 [(h0, .inr (2, [.int wd, .ref apx, .ref apy, .ref aon, .ref aen, .int cn, .int pn, .int tc, .int tn, .ref afi, .ref ase])), (apx, .inl (cJ, 256, .inr (.inl px))), (apy, .inl (cJ, 256, .inr (.inl py))), (aon, .inl (cZ, 256, .inl on)), (aen, .inl (cI, 256, .inl en)), (afi, .inl (cJ, 6, .inr (.inl fi))), (ase, .inl (cJ, 6, .inr (.inl se)))] H → va_D A [(h0, .inr (2, [.int wd, .ref apx, .ref apy, .ref aon, .ref aen, .int cn, .int pn, .int tc, .int tn, .ref afi, .ref ase])), (apx, .inl (cJ, 256, .inr (.inl px))), (apy, .inl (cJ, 256, .inr (.inl py))), (aon, .inl (cZ, 256, .inl on)), (aen, .inl (cI, 256, .inl en)), (afi, .inl (cJ, 6, .inr (.inl fi))), (ase, .inl (cJ, 6, .inr (.inl se)))] → va_S A s.heap H locs → W p l e R s m args below meth c H locs 0 0 Q (F0 m 103 ls [.int t103_0]) := by
                intro t103_0 hj103 hres ls H locs hl hP hD hS
                unfold km_around_j103 at hres
                refine lv_istore (lv' := [(11, .int t103_0), (10, .int t77_0), (9, .int t87_0), (8, .int (to - fr)), (0, .ref h0), (2, .int fr), (4, .long x), (6, .long y)]) hx hb d_M_around_103 hl (by decide) rfl (fun ls hl => ?_)
                refine lv_iload hx hb d_M_around_105 (lv_at hl 1 rfl) ?_
                have J145 : ∀ (t145_0 : Int64), km_around_j145 px py on tc tn fi se fr to x y t77_0 t87_0 t103_0 t145_0 = RES → ∀ (ls : Array Slot) (H : Heap) (locs : List Loc), lv_has ls 25 [(11, .int t103_0), (10, .int t77_0), (9, .int t87_0), (8, .int (to - fr)), (0, .ref h0), (2, .int fr), (4, .long x), (6, .long y)] → va_P (dC, dI) cls9 [(h0, .inr (2, [.int wd, .ref apx, .ref apy, .ref aon, .ref aen, .int cn, .int pn, .int tc, .int tn, .ref afi, .ref ase])), (apx, .inl (cJ, 256, .inr (.inl px))), (apy, .inl (cJ, 256, .inr (.inl py))), (aon, .inl (cZ, 256, .inl on)), (aen, .inl (cI, 256, .inl en)), (afi, .inl (cJ, 6, .inr (.inl fi))), (ase, .inl (cJ, 6, .inr (.inl se)))] H → va_D A [(h0, .inr (2, [.int wd, .ref apx, .ref apy, .ref aon, .ref aen, .int cn, .int pn, .int tc, .int tn, .ref afi, .ref ase])), (apx, .inl (cJ, 256, .inr (.inl px))), (apy, .inl (cJ, 256, .inr (.inl py))), (aon, .inl (cZ, 256, .inl on)), (aen, .inl (cI, 256, .inl en)), (afi, .inl (cJ, 6, .inr (.inl fi))), (ase, .inl (cJ, 6, .inr (.inl se)))] → va_S A s.heap H locs → W p l e R s m args below meth c H locs 0 0 Q (F0 m 145 ls [.long t145_0]) := by
                  intro t145_0 hres ls H locs hl hP hD hS
                  unfold km_around_j145 at hres
                  refine lv_lstore (lv' := [(12, .long t145_0), (11, .int t103_0), (10, .int t77_0), (9, .int t87_0), (8, .int (to - fr)), (0, .ref h0), (2, .int fr), (4, .long x), (6, .long y)]) hx hb d_M_around_145 hl (by decide) rfl (fun ls hl => ?_)
                  refine lv_iload hx hb d_M_around_147 (lv_at hl 2 rfl) ?_
                  have J187 : ∀ (t187_0 : Int64), km_around_j187 px py on tc tn fi se fr to x y t77_0 t87_0 t145_0 t187_0 = RES → ∀ (ls : Array Slot) (H : Heap) (locs : List Loc), lv_has ls 25 [(12, .long t145_0), (10, .int t77_0), (9, .int t87_0), (8, .int (to - fr)), (0, .ref h0), (2, .int fr), (4, .long x), (6, .long y)] → va_P (dC, dI) cls9 [(h0, .inr (2, [.int wd, .ref apx, .ref apy, .ref aon, .ref aen, .int cn, .int pn, .int tc, .int tn, .ref afi, .ref ase])), (apx, .inl (cJ, 256, .inr (.inl px))), (apy, .inl (cJ, 256, .inr (.inl py))), (aon, .inl (cZ, 256, .inl on)), (aen, .inl (cI, 256, .inl en)), (afi, .inl (cJ, 6, .inr (.inl fi))), (ase, .inl (cJ, 6, .inr (.inl se)))] H → va_D A [(h0, .inr (2, [.int wd, .ref apx, .ref apy, .ref aon, .ref aen, .int cn, .int pn, .int tc, .int tn, .ref afi, .ref ase])), (apx, .inl (cJ, 256, .inr (.inl px))), (apy, .inl (cJ, 256, .inr (.inl py))), (aon, .inl (cZ, 256, .inl on)), (aen, .inl (cI, 256, .inl en)), (afi, .inl (cJ, 6, .inr (.inl fi))), (ase, .inl (cJ, 6, .inr (.inl se)))] → va_S A s.heap H locs → W p l e R s m args below meth c H locs 0 0 Q (F0 m 187 ls [.long t187_0]) := by
                    intro t187_0 hres ls H locs hl hP hD hS
                    unfold km_around_j187 at hres
                    refine lv_lstore (lv' := [(14, .long t187_0), (12, .long t145_0), (10, .int t77_0), (9, .int t87_0), (8, .int (to - fr)), (0, .ref h0), (2, .int fr), (4, .long x), (6, .long y)]) hx hb d_M_around_187 hl (by decide) rfl (fun ls hl => ?_)
                    refine lv_iload hx hb d_M_around_189 (lv_at hl 2 rfl) ?_
                    have J199 : ∀ (t199_0 : Int32), (t199_0 = 0 ∨ t199_0 = 1) → km_around_j199 px py on tc tn fi se fr to x y t77_0 t87_0 t145_0 t187_0 t199_0 = RES → ∀ (ls : Array Slot) (H : Heap) (locs : List Loc), lv_has ls 25 [(14, .long t187_0), (12, .long t145_0), (10, .int t77_0), (9, .int t87_0), (8, .int (to - fr)), (0, .ref h0), (2, .int fr), (4, .long x), (6, .long y)] → va_P (dC, dI) cls9 [(h0, .inr (2, [.int wd, .ref apx, .ref apy, .ref aon, .ref aen, .int cn, .int pn, .int tc, .int tn, .ref afi, .ref ase])), (apx, .inl (cJ, 256, .inr (.inl px))), (apy, .inl (cJ, 256, .inr (.inl py))), (aon, .inl (cZ, 256, .inl on)), (aen, .inl (cI, 256, .inl en)), (afi, .inl (cJ, 6, .inr (.inl fi))), (ase, .inl (cJ, 6, .inr (.inl se)))] H → va_D A [(h0, .inr (2, [.int wd, .ref apx, .ref apy, .ref aon, .ref aen, .int cn, .int pn, .int tc, .int tn, .ref afi, .ref ase])), (apx, .inl (cJ, 256, .inr (.inl px))), (apy, .inl (cJ, 256, .inr (.inl py))), (aon, .inl (cZ, 256, .inl on)), (aen, .inl (cI, 256, .inl en)), (afi, .inl (cJ, 6, .inr (.inl fi))), (ase, .inl (cJ, 6, .inr (.inl se)))] → va_S A s.heap H locs → W p l e R s m args below meth c H locs 0 0 Q (F0 m 199 ls [.int t199_0]) := by
                      intro t199_0 hj199 hres ls H locs hl hP hD hS
                      unfold km_around_j199 at hres
                      refine lv_istore (lv' := [(16, .int t199_0), (14, .long t187_0), (12, .long t145_0), (10, .int t77_0), (9, .int t87_0), (8, .int (to - fr)), (0, .ref h0), (2, .int fr), (4, .long x), (6, .long y)]) hx hb d_M_around_199 hl (by decide) rfl (fun ls hl => ?_)
                      refine lv_iload hx hb d_M_around_201 (lv_at hl 3 rfl) ?_
                      have J215 : ∀ (t215_0 : Int32), (∃ S9 : Nat, S9 ≤ 257 ∧ t215_0 = nI S9) → km_around_j215 px py on tc tn fi se fr to x y t87_0 t145_0 t187_0 t199_0 t215_0 = RES → ∀ (ls : Array Slot) (H : Heap) (locs : List Loc), lv_has ls 25 [(16, .int t199_0), (14, .long t187_0), (12, .long t145_0), (9, .int t87_0), (8, .int (to - fr)), (0, .ref h0), (2, .int fr), (4, .long x), (6, .long y)] → va_P (dC, dI) cls9 [(h0, .inr (2, [.int wd, .ref apx, .ref apy, .ref aon, .ref aen, .int cn, .int pn, .int tc, .int tn, .ref afi, .ref ase])), (apx, .inl (cJ, 256, .inr (.inl px))), (apy, .inl (cJ, 256, .inr (.inl py))), (aon, .inl (cZ, 256, .inl on)), (aen, .inl (cI, 256, .inl en)), (afi, .inl (cJ, 6, .inr (.inl fi))), (ase, .inl (cJ, 6, .inr (.inl se)))] H → va_D A [(h0, .inr (2, [.int wd, .ref apx, .ref apy, .ref aon, .ref aen, .int cn, .int pn, .int tc, .int tn, .ref afi, .ref ase])), (apx, .inl (cJ, 256, .inr (.inl px))), (apy, .inl (cJ, 256, .inr (.inl py))), (aon, .inl (cZ, 256, .inl on)), (aen, .inl (cI, 256, .inl en)), (afi, .inl (cJ, 6, .inr (.inl fi))), (ase, .inl (cJ, 6, .inr (.inl se)))] → va_S A s.heap H locs → W p l e R s m args below meth c H locs 0 0 Q (F0 m 215 ls [.int t215_0]) := by
                        intro t215_0 hj215 hres ls H locs hl hP hD hS
                        unfold km_around_j215 at hres
                        refine lv_istore (lv' := [(17, .int t215_0), (16, .int t199_0), (14, .long t187_0), (12, .long t145_0), (9, .int t87_0), (8, .int (to - fr)), (0, .ref h0), (2, .int fr), (4, .long x), (6, .long y)]) hx hb d_M_around_215 hl (by decide) rfl (fun ls hl => ?_)
                        have L217 : ∀ (n : Nat) (k : Int32) (ax : Int64) (ay : Int64) (c1 : Int32) (n1 : Int32) (f1 : Nat → Int64) (s1 : Nat → Int64), (∃ kk : Nat, kk ≤ 259 ∧ k = nI kk) → 300 - k.toNatClampNeg < n → km_around_L217 px py on fr to x y t87_0 t215_0 n k ax ay c1 n1 f1 s1 = RES → ∀ (ls : Array Slot) (H : Heap) (locs : List Loc), lv_has ls 25 [(17, .int t215_0), (16, .int k), (14, .long ay), (12, .long ax), (9, .int t87_0), (8, .int (to - fr)), (0, .ref h0), (2, .int fr), (4, .long x), (6, .long y)] → va_P (dC, dI) cls9 [(h0, .inr (2, [.int wd, .ref apx, .ref apy, .ref aon, .ref aen, .int cn, .int pn, .int c1, .int n1, .ref afi, .ref ase])), (apx, .inl (cJ, 256, .inr (.inl px))), (apy, .inl (cJ, 256, .inr (.inl py))), (aon, .inl (cZ, 256, .inl on)), (aen, .inl (cI, 256, .inl en)), (afi, .inl (cJ, 6, .inr (.inl f1))), (ase, .inl (cJ, 6, .inr (.inl s1)))] H → va_D A [(h0, .inr (2, [.int wd, .ref apx, .ref apy, .ref aon, .ref aen, .int cn, .int pn, .int c1, .int n1, .ref afi, .ref ase])), (apx, .inl (cJ, 256, .inr (.inl px))), (apy, .inl (cJ, 256, .inr (.inl py))), (aon, .inl (cZ, 256, .inl on)), (aen, .inl (cI, 256, .inl en)), (afi, .inl (cJ, 6, .inr (.inl f1))), (ase, .inl (cJ, 6, .inr (.inl s1)))] → va_S A s.heap H locs → W p l e R s m args below meth c H locs 0 0 Q (F0 m 217 ls []) := by
                          intro n
                          induction n with
                          | zero => intro k ax ay c1 n1 f1 s1 hinv hmu; exact absurd hmu (Nat.not_lt_zero _)
                          | succ n ih =>
                            intro k ax ay c1 n1 f1 s1 hinv hmu hres ls H locs hl hP hD hS
                            rw [km_around_L217] at hres
                            refine lv_iload hx hb d_M_around_217 (lv_at hl 1 rfl) ?_
                            refine lv_iload hx hb d_M_around_219 (lv_at hl 0 rfl) ?_
                            refine lv_icmp_ge (tgt := 473) hx hb d_M_around_221 rfl (fun h221 => ?_) (fun h221 => ?_)
                            · rw [if_pos h221] at hres
                              rw [hQ]
                              subst hres
                              exact W.vret hx hb hr (fun t ht hW => ⟨⟨(), rfl, trivial, ⟨by rw [ht]; exact hP, va_K.moved hW.alike hK, hD⟩⟩, hS.F ht⟩) hS.2.2 d_M_around_473
                            · rw [if_neg h221] at hres
                              refine lv_iload_n hx hb d_M_around_224 rfl (lv_at hl 7 rfl) ?_
                              refine lv_iload hx hb d_M_around_225 (lv_at hl 4 rfl) ?_
                              refine lv_iload_n hx hb d_M_around_227 rfl (lv_at hl 7 rfl) ?_
                              refine lv_isub hx hb d_M_around_228 ?_
                              refine lv_iload hx hb d_M_around_229 (lv_at hl 1 rfl) ?_
                              refine lv_iadd hx hb d_M_around_231 ?_
                              refine lv_iload hx hb d_M_around_232 (lv_at hl 5 rfl) ?_
                              refine lv_irem hx hb d_M_around_234 (by rw [eA, eB, pk_sub (by omega)]; exact nI_ne0 (by omega) (by omega)) ?_
                              refine lv_iadd hx hb d_M_around_235 ?_
                              refine lv_istore (lv' := [(18, .int (fr + (((t87_0 - fr) + k) - ((t87_0 - fr) + k) / (to - fr) * (to - fr)))), (17, .int t215_0), (16, .int k), (14, .long ay), (12, .long ax), (9, .int t87_0), (8, .int (to - fr)), (0, .ref h0), (2, .int fr), (4, .long x), (6, .long y)]) hx hb d_M_around_236 hl (by decide) rfl (fun ls hl => ?_)
                              have K238 : ∀ (v238_l18 : Int32), (∃ P9 : Nat, P9 < B9 ∧ v238_l18 = nI P9) → km_around_k238 px py on fr to x y t87_0 k ax ay c1 n1 f1 s1 (km_around_L217 px py on fr to x y t87_0 t215_0 n) v238_l18 = RES → ∀ (ls : Array Slot) (H : Heap) (locs : List Loc), lv_has ls 25 [(18, .int v238_l18), (17, .int t215_0), (16, .int k), (14, .long ay), (12, .long ax), (9, .int t87_0), (8, .int (to - fr)), (0, .ref h0), (2, .int fr), (4, .long x), (6, .long y)] → va_P (dC, dI) cls9 [(h0, .inr (2, [.int wd, .ref apx, .ref apy, .ref aon, .ref aen, .int cn, .int pn, .int c1, .int n1, .ref afi, .ref ase])), (apx, .inl (cJ, 256, .inr (.inl px))), (apy, .inl (cJ, 256, .inr (.inl py))), (aon, .inl (cZ, 256, .inl on)), (aen, .inl (cI, 256, .inl en)), (afi, .inl (cJ, 6, .inr (.inl f1))), (ase, .inl (cJ, 6, .inr (.inl s1)))] H → va_D A [(h0, .inr (2, [.int wd, .ref apx, .ref apy, .ref aon, .ref aen, .int cn, .int pn, .int c1, .int n1, .ref afi, .ref ase])), (apx, .inl (cJ, 256, .inr (.inl px))), (apy, .inl (cJ, 256, .inr (.inl py))), (aon, .inl (cZ, 256, .inl on)), (aen, .inl (cI, 256, .inl en)), (afi, .inl (cJ, 6, .inr (.inl f1))), (ase, .inl (cJ, 6, .inr (.inl s1)))] → va_S A s.heap H locs → W p l e R s m args below meth c H locs 0 0 Q (F0 m 238 ls []) := by
                                intro v238_l18 hj238 hres ls H locs hl hP hD hS
                                unfold km_around_k238 at hres
                                refine lv_aload_n hx hb d_M_around_238 rfl (lv_at hl 7 rfl) ?_
                                refine va_get (D := (dC, dI)) (ci := 2) (v := .ref aon) (C := R_M) (T := F_M) (N := 11) hx hb hts in_M hown hK hP 0 rfl rfl 3 (by decide) (hts _ tw_282) (fun _ h9 => h9) rfl d_M_around_239 ?_
                                refine lv_iload hx hb d_M_around_242 (lv_at hl 0 rfl) ?_
                                refine va_zald hx hb hK hP 3 1 rfl rfl (by obtain ⟨P9, g1, e⟩ := hj238; rw [e]; exact vp_in_nI (by omega) (by decide)) d_M_around_244 ?_
                                refine lv_if_eq (tgt := 306) hx hb d_M_around_245 rfl (fun h245 => ?_) (fun h245 => ?_)
                                · rw [if_pos h245] at hres
                                  refine lv_iload_n hx hb d_M_around_306 rfl (lv_at hl 8 rfl) ?_
                                  refine lv_iload hx hb d_M_around_307 (lv_at hl 5 rfl) ?_
                                  refine lv_iload_n hx hb d_M_around_309 rfl (lv_at hl 8 rfl) ?_
                                  refine lv_isub hx hb d_M_around_310 ?_
                                  refine lv_iload hx hb d_M_around_311 (lv_at hl 2 rfl) ?_
                                  refine lv_iadd hx hb d_M_around_313 ?_
                                  refine lv_iconst (v := 1) hx hb d_M_around_314 (by decide) ?_
                                  refine lv_iadd hx hb d_M_around_315 ?_
                                  refine lv_iload hx hb d_M_around_316 (lv_at hl 6 rfl) ?_
                                  refine lv_irem hx hb d_M_around_318 (by rw [eA, eB, pk_sub (by omega)]; exact nI_ne0 (by omega) (by omega)) ?_
                                  refine lv_iadd hx hb d_M_around_319 ?_
                                  refine lv_istore (lv' := [(19, .int (fr + ((((t87_0 - fr) + k) + 1) - (((t87_0 - fr) + k) + 1) / (to - fr) * (to - fr)))), (18, .int v238_l18), (17, .int t215_0), (16, .int k), (14, .long ay), (12, .long ax), (9, .int t87_0), (8, .int (to - fr)), (0, .ref h0), (2, .int fr), (4, .long x), (6, .long y)]) hx hb d_M_around_320 hl (by decide) rfl (fun ls hl => ?_)
                                  have K322 : ∀ (v322_l19 : Int32), (∃ P9 : Nat, P9 < B9 ∧ v322_l19 = nI P9) → km_around_k322 px py on x y k ax ay c1 n1 f1 s1 (km_around_L217 px py on fr to x y t87_0 t215_0 n) v238_l18 v322_l19 = RES → ∀ (ls : Array Slot) (H : Heap) (locs : List Loc), lv_has ls 25 [(19, .int v322_l19), (18, .int v238_l18), (17, .int t215_0), (16, .int k), (14, .long ay), (12, .long ax), (9, .int t87_0), (8, .int (to - fr)), (0, .ref h0), (2, .int fr), (4, .long x), (6, .long y)] → va_P (dC, dI) cls9 [(h0, .inr (2, [.int wd, .ref apx, .ref apy, .ref aon, .ref aen, .int cn, .int pn, .int c1, .int n1, .ref afi, .ref ase])), (apx, .inl (cJ, 256, .inr (.inl px))), (apy, .inl (cJ, 256, .inr (.inl py))), (aon, .inl (cZ, 256, .inl on)), (aen, .inl (cI, 256, .inl en)), (afi, .inl (cJ, 6, .inr (.inl f1))), (ase, .inl (cJ, 6, .inr (.inl s1)))] H → va_D A [(h0, .inr (2, [.int wd, .ref apx, .ref apy, .ref aon, .ref aen, .int cn, .int pn, .int c1, .int n1, .ref afi, .ref ase])), (apx, .inl (cJ, 256, .inr (.inl px))), (apy, .inl (cJ, 256, .inr (.inl py))), (aon, .inl (cZ, 256, .inl on)), (aen, .inl (cI, 256, .inl en)), (afi, .inl (cJ, 6, .inr (.inl f1))), (ase, .inl (cJ, 6, .inr (.inl s1)))] → va_S A s.heap H locs → W p l e R s m args below meth c H locs 0 0 Q (F0 m 322 ls []) := by
                                    intro v322_l19 hj322 hres ls H locs hl hP hD hS
                                    unfold km_around_k322 at hres
                                    refine lv_aload_n hx hb d_M_around_322 rfl (lv_at hl 8 rfl) ?_
                                    refine va_get (D := (dC, dI)) (ci := 2) (v := .ref aon) (C := R_M) (T := F_M) (N := 11) hx hb hts in_M hown hK hP 0 rfl rfl 3 (by decide) (hts _ tw_282) (fun _ h9 => h9) rfl d_M_around_323 ?_
                                    refine lv_iload hx hb d_M_around_326 (lv_at hl 0 rfl) ?_
                                    refine va_zald hx hb hK hP 3 1 rfl rfl (by obtain ⟨P9, g1, e⟩ := hj322; rw [e]; exact vp_in_nI (by omega) (by decide)) d_M_around_328 ?_
                                    refine lv_istore (lv' := [(20, .int (on (Int32.toNatClampNeg v322_l19))), (19, .int v322_l19), (18, .int v238_l18), (17, .int t215_0), (16, .int k), (14, .long ay), (12, .long ax), (9, .int t87_0), (8, .int (to - fr)), (0, .ref h0), (2, .int fr), (4, .long x), (6, .long y)]) hx hb d_M_around_329 hl (by decide) rfl (fun ls hl => ?_)
                                    refine lv_iload hx hb d_M_around_331 (lv_at hl 0 rfl) ?_
                                    have J371 : ∀ (t371_0 : Int64), km_around_j371 px py on x y k ax ay c1 n1 f1 s1 (km_around_L217 px py on fr to x y t87_0 t215_0 n) v238_l18 v322_l19 t371_0 = RES → ∀ (ls : Array Slot) (H : Heap) (locs : List Loc), lv_has ls 25 [(20, .int (on (Int32.toNatClampNeg v322_l19))), (19, .int v322_l19), (18, .int v238_l18), (17, .int t215_0), (16, .int k), (14, .long ay), (12, .long ax), (9, .int t87_0), (8, .int (to - fr)), (0, .ref h0), (2, .int fr), (4, .long x), (6, .long y)] → va_P (dC, dI) cls9 [(h0, .inr (2, [.int wd, .ref apx, .ref apy, .ref aon, .ref aen, .int cn, .int pn, .int c1, .int n1, .ref afi, .ref ase])), (apx, .inl (cJ, 256, .inr (.inl px))), (apy, .inl (cJ, 256, .inr (.inl py))), (aon, .inl (cZ, 256, .inl on)), (aen, .inl (cI, 256, .inl en)), (afi, .inl (cJ, 6, .inr (.inl f1))), (ase, .inl (cJ, 6, .inr (.inl s1)))] H → va_D A [(h0, .inr (2, [.int wd, .ref apx, .ref apy, .ref aon, .ref aen, .int cn, .int pn, .int c1, .int n1, .ref afi, .ref ase])), (apx, .inl (cJ, 256, .inr (.inl px))), (apy, .inl (cJ, 256, .inr (.inl py))), (aon, .inl (cZ, 256, .inl on)), (aen, .inl (cI, 256, .inl en)), (afi, .inl (cJ, 6, .inr (.inl f1))), (ase, .inl (cJ, 6, .inr (.inl s1)))] → va_S A s.heap H locs → W p l e R s m args below meth c H locs 0 0 Q (F0 m 371 ls [.long t371_0]) := by
                                      intro t371_0 hres ls H locs hl hP hD hS
                                      unfold km_around_j371 at hres
                                      refine lv_lstore (lv' := [(21, .long t371_0), (20, .int (on (Int32.toNatClampNeg v322_l19))), (19, .int v322_l19), (18, .int v238_l18), (17, .int t215_0), (16, .int k), (14, .long ay), (12, .long ax), (9, .int t87_0), (8, .int (to - fr)), (0, .ref h0), (2, .int fr), (4, .long x), (6, .long y)]) hx hb d_M_around_371 hl (by decide) rfl (fun ls hl => ?_)
                                      refine lv_iload hx hb d_M_around_373 (lv_at hl 1 rfl) ?_
                                      have J413 : ∀ (t413_0 : Int64), km_around_j413 px py on x y k ax ay c1 n1 f1 s1 (km_around_L217 px py on fr to x y t87_0 t215_0 n) v238_l18 v322_l19 t371_0 t413_0 = RES → ∀ (ls : Array Slot) (H : Heap) (locs : List Loc), lv_has ls 25 [(21, .long t371_0), (20, .int (on (Int32.toNatClampNeg v322_l19))), (18, .int v238_l18), (17, .int t215_0), (16, .int k), (14, .long ay), (12, .long ax), (9, .int t87_0), (8, .int (to - fr)), (0, .ref h0), (2, .int fr), (4, .long x), (6, .long y)] → va_P (dC, dI) cls9 [(h0, .inr (2, [.int wd, .ref apx, .ref apy, .ref aon, .ref aen, .int cn, .int pn, .int c1, .int n1, .ref afi, .ref ase])), (apx, .inl (cJ, 256, .inr (.inl px))), (apy, .inl (cJ, 256, .inr (.inl py))), (aon, .inl (cZ, 256, .inl on)), (aen, .inl (cI, 256, .inl en)), (afi, .inl (cJ, 6, .inr (.inl f1))), (ase, .inl (cJ, 6, .inr (.inl s1)))] H → va_D A [(h0, .inr (2, [.int wd, .ref apx, .ref apy, .ref aon, .ref aen, .int cn, .int pn, .int c1, .int n1, .ref afi, .ref ase])), (apx, .inl (cJ, 256, .inr (.inl px))), (apy, .inl (cJ, 256, .inr (.inl py))), (aon, .inl (cZ, 256, .inl on)), (aen, .inl (cI, 256, .inl en)), (afi, .inl (cJ, 6, .inr (.inl f1))), (ase, .inl (cJ, 6, .inr (.inl s1)))] → va_S A s.heap H locs → W p l e R s m args below meth c H locs 0 0 Q (F0 m 413 ls [.long t413_0]) := by
                                        intro t413_0 hres ls H locs hl hP hD hS
                                        unfold km_around_j413 at hres
                                        refine lv_lstore (lv' := [(23, .long t413_0), (21, .long t371_0), (20, .int (on (Int32.toNatClampNeg v322_l19))), (18, .int v238_l18), (17, .int t215_0), (16, .int k), (14, .long ay), (12, .long ax), (9, .int t87_0), (8, .int (to - fr)), (0, .ref h0), (2, .int fr), (4, .long x), (6, .long y)]) hx hb d_M_around_413 hl (by decide) rfl (fun ls hl => ?_)
                                        refine lv_aload_n hx hb d_M_around_415 rfl (lv_at hl 10 rfl) ?_
                                        refine lv_lload hx hb d_M_around_416 (lv_at hl 7 rfl) ?_
                                        refine lv_lload hx hb d_M_around_418 (lv_at hl 6 rfl) ?_
                                        refine lv_aload_n hx hb d_M_around_420 rfl (lv_at hl 10 rfl) ?_
                                        refine va_get (D := (dC, dI)) (ci := 2) (v := .ref apx) (C := R_M) (T := F_M) (N := 11) hx hb hts in_M hown hK hP 0 rfl rfl 1 (by decide) (hts _ tw_280) (fun _ h9 => h9) rfl d_M_around_421 ?_
                                        refine lv_iload hx hb d_M_around_424 (lv_at hl 3 rfl) ?_
                                        refine va_lald hx hb hK hP 1 0 rfl rfl (by obtain ⟨P9, g1, e⟩ := hj238; rw [e]; exact vp_in_nI (by omega) (by decide)) d_M_around_426 ?_
                                        refine lv_lload hx hb d_M_around_427 (lv_at hl 12 rfl) ?_
                                        refine lv_lsub hx hb d_M_around_429 ?_
                                        refine lv_aload_n hx hb d_M_around_430 rfl (lv_at hl 10 rfl) ?_
                                        refine va_get (D := (dC, dI)) (ci := 2) (v := .ref apy) (C := R_M) (T := F_M) (N := 11) hx hb hts in_M hown hK hP 0 rfl rfl 2 (by decide) (hts _ tw_281) (fun _ h9 => h9) rfl d_M_around_431 ?_
                                        refine lv_iload hx hb d_M_around_434 (lv_at hl 3 rfl) ?_
                                        refine va_lald hx hb hK hP 2 0 rfl rfl (by obtain ⟨P9, g1, e⟩ := hj238; rw [e]; exact vp_in_nI (by omega) (by decide)) d_M_around_436 ?_
                                        refine lv_lload hx hb d_M_around_437 (lv_at hl 13 rfl) ?_
                                        refine lv_lsub hx hb d_M_around_439 ?_
                                        refine lv_lload hx hb d_M_around_440 (lv_at hl 1 rfl) ?_
                                        refine lv_lload hx hb d_M_around_442 (lv_at hl 0 rfl) ?_
                                        refine cm_v (wc := [(h0, .inr (2, [.int wd, .ref apx, .ref apy, .ref aon, .ref aen, .int cn, .int pn, .int c1, .int n1, .ref afi, .ref ase])), (apx, .inl (cJ, 256, .inr (.inl px))), (apy, .inl (cJ, 256, .inr (.inl py))), (aon, .inl (cZ, 256, .inl on)), (aen, .inl (cI, 256, .inl en)), (afi, .inl (cJ, 6, .inr (.inl f1))), (ase, .inl (cJ, 6, .inr (.inl s1)))]) (wr := []) (W1 := [(h0, .inr (2, [.int wd, .ref apx, .ref apy, .ref aon, .ref aen, .int cn, .int pn, .int ((km_curve c1 n1 f1 s1 ax ay ((px (Int32.toNatClampNeg v238_l18)) - x) ((py (Int32.toNatClampNeg v238_l18)) - y) t371_0 t413_0).1), .int ((km_curve c1 n1 f1 s1 ax ay ((px (Int32.toNatClampNeg v238_l18)) - x) ((py (Int32.toNatClampNeg v238_l18)) - y) t371_0 t413_0).2.1), .ref afi, .ref ase])), (apx, .inl (cJ, 256, .inr (.inl px))), (apy, .inl (cJ, 256, .inr (.inl py))), (aon, .inl (cZ, 256, .inl on)), (aen, .inl (cI, 256, .inl en)), (afi, .inl (cJ, 6, .inr (.inl ((km_curve c1 n1 f1 s1 ax ay ((px (Int32.toNatClampNeg v238_l18)) - x) ((py (Int32.toNatClampNeg v238_l18)) - y) t371_0 t413_0).2.2.1)))), (ase, .inl (cJ, 6, .inr (.inl ((km_curve c1 n1 f1 s1 ax ay ((px (Int32.toNatClampNeg v238_l18)) - x) ((py (Int32.toNatClampNeg v238_l18)) - y) t371_0 t413_0).2.2.2))))]) (w2 := [(h0, .inr (2, [.int wd, .ref apx, .ref apy, .ref aon, .ref aen, .int cn, .int pn, .int ((km_curve c1 n1 f1 s1 ax ay ((px (Int32.toNatClampNeg v238_l18)) - x) ((py (Int32.toNatClampNeg v238_l18)) - y) t371_0 t413_0).1), .int ((km_curve c1 n1 f1 s1 ax ay ((px (Int32.toNatClampNeg v238_l18)) - x) ((py (Int32.toNatClampNeg v238_l18)) - y) t371_0 t413_0).2.1), .ref afi, .ref ase])), (apx, .inl (cJ, 256, .inr (.inl px))), (apy, .inl (cJ, 256, .inr (.inl py))), (aon, .inl (cZ, 256, .inl on)), (aen, .inl (cI, 256, .inl en)), (afi, .inl (cJ, 6, .inr (.inl ((km_curve c1 n1 f1 s1 ax ay ((px (Int32.toNatClampNeg v238_l18)) - x) ((py (Int32.toNatClampNeg v238_l18)) - y) t371_0 t413_0).2.2.1)))), (ase, .inl (cJ, 6, .inr (.inl ((km_curve c1 n1 f1 s1 ax ay ((px (Int32.toNatClampNeg v238_l18)) - x) ((py (Int32.toNatClampNeg v238_l18)) - y) t371_0 t413_0).2.2.2))))]) (va_runV (g := F0 m 444 ls [.long t413_0, .long t371_0, .long ((py (Int32.toNatClampNeg v238_l18)) - y), .long ((px (Int32.toNatClampNeg v238_l18)) - x), .long ay, .long ax, .ref h0]) (As := [.long ax, .long ay, .long ((px (Int32.toNatClampNeg v238_l18)) - x), .long ((py (Int32.toNatClampNeg v238_l18)) - y), .long t371_0, .long t413_0]) (rest := []) ⟨hx, hb, hml, hown, hts⟩ (c_km_curve l dC dI h0 apx apy aon aen afi ase cJ cZ cI wd cn pn px py on en c1 n1 f1 s1 ax ay ((px (Int32.toNatClampNeg v238_l18)) - x) ((py (Int32.toNatClampNeg v238_l18)) - y) t371_0 t413_0  _) (cwV 6 hts (gi_V tw_357 tw_359 ts_14 tw_6 tw_360) rfl rfl rfl (by decide +kernel) ⟨(by rw [← hR]; exact Nat.le_of_ble_eq_true rfl), (by rw [← hR]; exact Nat.le_of_ble_eq_true rfl)⟩) ⟨mc_blind, va_recv (ci := 2) (q := (R_M, F_M, 11)) hK hP rfl (q0 := 0) rfl, mc_pre (hP.sub [0, 1, 2, 3, 4, 5, 6] rfl) (hK.sub [0, 1, 2] rfl) (hD.sub [0, 1, 2, 3, 4, 5, 6] (by decide) rfl)⟩ rfl rfl hl.1 rfl (lv_room (Nat.le_of_ble_eq_true rfl)) d_M_around_444 ⟨Nat.zero_le _, Nat.zero_le _⟩) hP hD hS hA [0, 1, 2, 3, 4, 5, 6] [] [0, 1, 2, 3, 4, 5, 6] rfl rfl (by decide) (by decide) rfl rfl (by decide) (fun H locs hP hD hS => ?_)
                                        have K447 : ∀ (x444 : Int32 × Int32 × (Nat → Int64) × (Nat → Int64)), km_around_k447 on k (km_around_L217 px py on fr to x y t87_0 t215_0 n) v322_l19 t371_0 t413_0 x444 = RES → ∀ (ls : Array Slot) (H : Heap) (locs : List Loc), lv_has ls 25 [(23, .long t413_0), (21, .long t371_0), (20, .int (on (Int32.toNatClampNeg v322_l19))), (18, .int v238_l18), (17, .int t215_0), (16, .int k), (14, .long ay), (12, .long ax), (9, .int t87_0), (8, .int (to - fr)), (0, .ref h0), (2, .int fr), (4, .long x), (6, .long y)] → va_P (dC, dI) cls9 [(h0, .inr (2, [.int wd, .ref apx, .ref apy, .ref aon, .ref aen, .int cn, .int pn, .int x444.1, .int x444.2.1, .ref afi, .ref ase])), (apx, .inl (cJ, 256, .inr (.inl px))), (apy, .inl (cJ, 256, .inr (.inl py))), (aon, .inl (cZ, 256, .inl on)), (aen, .inl (cI, 256, .inl en)), (afi, .inl (cJ, 6, .inr (.inl x444.2.2.1))), (ase, .inl (cJ, 6, .inr (.inl x444.2.2.2)))] H → va_D A [(h0, .inr (2, [.int wd, .ref apx, .ref apy, .ref aon, .ref aen, .int cn, .int pn, .int x444.1, .int x444.2.1, .ref afi, .ref ase])), (apx, .inl (cJ, 256, .inr (.inl px))), (apy, .inl (cJ, 256, .inr (.inl py))), (aon, .inl (cZ, 256, .inl on)), (aen, .inl (cI, 256, .inl en)), (afi, .inl (cJ, 6, .inr (.inl x444.2.2.1))), (ase, .inl (cJ, 6, .inr (.inl x444.2.2.2)))] → va_S A s.heap H locs → W p l e R s m args below meth c H locs 0 0 Q (F0 m 447 ls []) := by
                                          intro x444 hres ls H locs hl hP hD hS
                                          unfold km_around_k447 at hres
                                          refine lv_lload hx hb d_M_around_447 (lv_at hl 1 rfl) ?_
                                          refine lv_lstore (lv' := [(12, .long t371_0), (23, .long t413_0), (21, .long t371_0), (20, .int (on (Int32.toNatClampNeg v322_l19))), (18, .int v238_l18), (17, .int t215_0), (16, .int k), (14, .long ay), (9, .int t87_0), (8, .int (to - fr)), (0, .ref h0), (2, .int fr), (4, .long x), (6, .long y)]) hx hb d_M_around_449 hl (by decide) rfl (fun ls hl => ?_)
                                          refine lv_lload hx hb d_M_around_451 (lv_at hl 1 rfl) ?_
                                          refine lv_lstore (lv' := [(14, .long t413_0), (12, .long t371_0), (23, .long t413_0), (21, .long t371_0), (20, .int (on (Int32.toNatClampNeg v322_l19))), (18, .int v238_l18), (17, .int t215_0), (16, .int k), (9, .int t87_0), (8, .int (to - fr)), (0, .ref h0), (2, .int fr), (4, .long x), (6, .long y)]) hx hb d_M_around_453 hl (by decide) rfl (fun ls hl => ?_)
                                          refine lv_iload hx hb d_M_around_455 (lv_at hl 7 rfl) ?_
                                          refine lv_iload hx hb d_M_around_457 (lv_at hl 4 rfl) ?_
                                          have J467 : ∀ (t467_0 : Int32), (t467_0 = 1 ∨ t467_0 = 2) → km_around_j467 k (km_around_L217 px py on fr to x y t87_0 t215_0 n) t371_0 t413_0 x444 t467_0 = RES → ∀ (ls : Array Slot) (H : Heap) (locs : List Loc), lv_has ls 25 [(14, .long t413_0), (12, .long t371_0), (17, .int t215_0), (9, .int t87_0), (8, .int (to - fr)), (0, .ref h0), (2, .int fr), (4, .long x), (6, .long y)] → va_P (dC, dI) cls9 [(h0, .inr (2, [.int wd, .ref apx, .ref apy, .ref aon, .ref aen, .int cn, .int pn, .int x444.1, .int x444.2.1, .ref afi, .ref ase])), (apx, .inl (cJ, 256, .inr (.inl px))), (apy, .inl (cJ, 256, .inr (.inl py))), (aon, .inl (cZ, 256, .inl on)), (aen, .inl (cI, 256, .inl en)), (afi, .inl (cJ, 6, .inr (.inl x444.2.2.1))), (ase, .inl (cJ, 6, .inr (.inl x444.2.2.2)))] H → va_D A [(h0, .inr (2, [.int wd, .ref apx, .ref apy, .ref aon, .ref aen, .int cn, .int pn, .int x444.1, .int x444.2.1, .ref afi, .ref ase])), (apx, .inl (cJ, 256, .inr (.inl px))), (apy, .inl (cJ, 256, .inr (.inl py))), (aon, .inl (cZ, 256, .inl on)), (aen, .inl (cI, 256, .inl en)), (afi, .inl (cJ, 6, .inr (.inl x444.2.2.1))), (ase, .inl (cJ, 6, .inr (.inl x444.2.2.2)))] → va_S A s.heap H locs → W p l e R s m args below meth c H locs 0 0 Q (F0 m 467 ls [.int t467_0, .int k]) := by
                                            intro t467_0 hj467 hres ls H locs hl hP hD hS
                                            unfold km_around_j467 at hres
                                            refine lv_iadd hx hb d_M_around_467 ?_
                                            refine lv_istore (lv' := [(16, .int (k + t467_0)), (14, .long t413_0), (12, .long t371_0), (17, .int t215_0), (9, .int t87_0), (8, .int (to - fr)), (0, .ref h0), (2, .int fr), (4, .long x), (6, .long y)]) hx hb d_M_around_468 hl (by decide) rfl (fun ls hl => ?_)
                                            refine lv_goto (tgt := 217) hx hb d_M_around_470 rfl ?_
                                            exact ih (k + t467_0) t371_0 t413_0 x444.1 x444.2.1 x444.2.2.1 x444.2.2.2 (by obtain ⟨kk, g1, e⟩ := hinv; obtain ⟨S9, g2, e2⟩ := hj215; rw [e2, e] at h221; have h9 := nI_nle_lt (by omega) h221; first | exact ⟨kk + 1, by omega, by rw [e, nI_1]⟩ | exact hj467.elim (fun h => ⟨kk + 1, by omega, by rw [h, e]; exact nI_1 kk⟩) (fun h => ⟨kk + 2, by omega, by rw [h, e]; exact nI_add kk 2⟩)) (by obtain ⟨kk, g1, e⟩ := hinv; obtain ⟨S9, g2, e2⟩ := hj215; rw [e2, e] at h221; have h9 := nI_nle_lt (by omega) h221; rw [e, nI_clamp (by omega)] at hmu; first | (rw [e, nI_1, nI_clamp (by omega)]; omega) | exact hj467.elim (fun h => by rw [h, e, nI_1, nI_clamp (by omega)]; omega) (fun h => by rw [h, e, show nI kk + 2 = nI (kk + 2) from nI_add kk 2, nI_clamp (by omega)]; omega)) hres ls _ _ (lv_sub hl [3, 0, 1, 2, 4, 5, 6, 7, 8, 9] rfl) hP hD hS
                                          refine lv_if_eq (tgt := 466) hx hb d_M_around_459 rfl (fun h459 => ?_) (fun h459 => ?_)
                                          · rw [if_pos h459] at hres
                                            refine lv_iconst (v := 1) hx hb d_M_around_466 (by decide) ?_
                                            exact J467 1 (by decide) hres ls _ _ (lv_sub hl [0, 1, 6, 8, 9, 10, 11, 12, 13] rfl) hP hD hS
                                          · rw [if_neg h459] at hres
                                            refine lv_iconst (v := 2) hx hb d_M_around_462 (by decide) ?_
                                            refine lv_goto (tgt := 467) hx hb d_M_around_463 rfl ?_
                                            exact J467 2 (by decide) hres ls _ _ (lv_sub hl [0, 1, 6, 8, 9, 10, 11, 12, 13] rfl) hP hD hS
                                        exact K447 (km_curve c1 n1 f1 s1 ax ay ((px (Int32.toNatClampNeg v238_l18)) - x) ((py (Int32.toNatClampNeg v238_l18)) - y) t371_0 t413_0) hres ls _ _ (lv_sub hl [0, 1, 2, 3, 4, 5, 6, 7, 8, 9, 10, 11, 12, 13] rfl) hP hD hS
                                      refine lv_if_eq (tgt := 391) hx hb d_M_around_375 rfl (fun h375 => ?_) (fun h375 => ?_)
                                      · rw [if_pos h375] at hres
                                        refine lv_aload_n hx hb d_M_around_391 rfl (lv_at hl 10 rfl) ?_
                                        refine va_get (D := (dC, dI)) (ci := 2) (v := .ref apy) (C := R_M) (T := F_M) (N := 11) hx hb hts in_M hown hK hP 0 rfl rfl 2 (by decide) (hts _ tw_281) (fun _ h9 => h9) rfl d_M_around_392 ?_
                                        refine lv_iload hx hb d_M_around_395 (lv_at hl 3 rfl) ?_
                                        refine va_lald hx hb hK hP 2 0 rfl rfl (by obtain ⟨P9, g1, e⟩ := hj238; rw [e]; exact vp_in_nI (by omega) (by decide)) d_M_around_397 ?_
                                        refine lv_aload_n hx hb d_M_around_398 rfl (lv_at hl 10 rfl) ?_
                                        refine va_get (D := (dC, dI)) (ci := 2) (v := .ref apy) (C := R_M) (T := F_M) (N := 11) hx hb hts in_M hown hK hP 0 rfl rfl 2 (by decide) (hts _ tw_281) (fun _ h9 => h9) rfl d_M_around_399 ?_
                                        refine lv_iload hx hb d_M_around_402 (lv_at hl 2 rfl) ?_
                                        refine va_lald hx hb hK hP 2 0 rfl rfl (by obtain ⟨P9, g1, e⟩ := hj322; rw [e]; exact vp_in_nI (by omega) (by decide)) d_M_around_404 ?_
                                        refine lv_ladd hx hb d_M_around_405 ?_
                                        refine lv_ldc2 (v := 2) hx hb hown (hts _ tw_321) d_M_around_406 ?_
                                        refine lv_ldiv hx hb d_M_around_409 (by decide) ?_
                                        refine lv_lload hx hb d_M_around_410 (lv_at hl 13 rfl) ?_
                                        refine lv_lsub hx hb d_M_around_412 ?_
                                        exact J413 ((((py (Int32.toNatClampNeg v238_l18)) + (py (Int32.toNatClampNeg v322_l19))) / 2) - y) hres ls _ _ (lv_sub hl [0, 1, 3, 4, 5, 6, 7, 8, 9, 10, 11, 12, 13] rfl) hP hD hS
                                      · rw [if_neg h375] at hres
                                        refine lv_aload_n hx hb d_M_around_378 rfl (lv_at hl 10 rfl) ?_
                                        refine va_get (D := (dC, dI)) (ci := 2) (v := .ref apy) (C := R_M) (T := F_M) (N := 11) hx hb hts in_M hown hK hP 0 rfl rfl 2 (by decide) (hts _ tw_281) (fun _ h9 => h9) rfl d_M_around_379 ?_
                                        refine lv_iload hx hb d_M_around_382 (lv_at hl 2 rfl) ?_
                                        refine va_lald hx hb hK hP 2 0 rfl rfl (by obtain ⟨P9, g1, e⟩ := hj322; rw [e]; exact vp_in_nI (by omega) (by decide)) d_M_around_384 ?_
                                        refine lv_lload hx hb d_M_around_385 (lv_at hl 13 rfl) ?_
                                        refine lv_lsub hx hb d_M_around_387 ?_
                                        refine lv_goto (tgt := 413) hx hb d_M_around_388 rfl ?_
                                        exact J413 ((py (Int32.toNatClampNeg v322_l19)) - y) hres ls _ _ (lv_sub hl [0, 1, 3, 4, 5, 6, 7, 8, 9, 10, 11, 12, 13] rfl) hP hD hS
                                    refine lv_if_eq (tgt := 349) hx hb d_M_around_333 rfl (fun h333 => ?_) (fun h333 => ?_)
                                    · rw [if_pos h333] at hres
                                      refine lv_aload_n hx hb d_M_around_349 rfl (lv_at hl 9 rfl) ?_
                                      refine va_get (D := (dC, dI)) (ci := 2) (v := .ref apx) (C := R_M) (T := F_M) (N := 11) hx hb hts in_M hown hK hP 0 rfl rfl 1 (by decide) (hts _ tw_280) (fun _ h9 => h9) rfl d_M_around_350 ?_
                                      refine lv_iload hx hb d_M_around_353 (lv_at hl 2 rfl) ?_
                                      refine va_lald hx hb hK hP 1 0 rfl rfl (by obtain ⟨P9, g1, e⟩ := hj238; rw [e]; exact vp_in_nI (by omega) (by decide)) d_M_around_355 ?_
                                      refine lv_aload_n hx hb d_M_around_356 rfl (lv_at hl 9 rfl) ?_
                                      refine va_get (D := (dC, dI)) (ci := 2) (v := .ref apx) (C := R_M) (T := F_M) (N := 11) hx hb hts in_M hown hK hP 0 rfl rfl 1 (by decide) (hts _ tw_280) (fun _ h9 => h9) rfl d_M_around_357 ?_
                                      refine lv_iload hx hb d_M_around_360 (lv_at hl 1 rfl) ?_
                                      refine va_lald hx hb hK hP 1 0 rfl rfl (by obtain ⟨P9, g1, e⟩ := hj322; rw [e]; exact vp_in_nI (by omega) (by decide)) d_M_around_362 ?_
                                      refine lv_ladd hx hb d_M_around_363 ?_
                                      refine lv_ldc2 (v := 2) hx hb hown (hts _ tw_321) d_M_around_364 ?_
                                      refine lv_ldiv hx hb d_M_around_367 (by decide) ?_
                                      refine lv_lload hx hb d_M_around_368 (lv_at hl 11 rfl) ?_
                                      refine lv_lsub hx hb d_M_around_370 ?_
                                      exact J371 ((((px (Int32.toNatClampNeg v238_l18)) + (px (Int32.toNatClampNeg v322_l19))) / 2) - x) hres ls _ _ (lv_sub hl [0, 1, 2, 3, 4, 5, 6, 7, 8, 9, 10, 11, 12] rfl) hP hD hS
                                    · rw [if_neg h333] at hres
                                      refine lv_aload_n hx hb d_M_around_336 rfl (lv_at hl 9 rfl) ?_
                                      refine va_get (D := (dC, dI)) (ci := 2) (v := .ref apx) (C := R_M) (T := F_M) (N := 11) hx hb hts in_M hown hK hP 0 rfl rfl 1 (by decide) (hts _ tw_280) (fun _ h9 => h9) rfl d_M_around_337 ?_
                                      refine lv_iload hx hb d_M_around_340 (lv_at hl 1 rfl) ?_
                                      refine va_lald hx hb hK hP 1 0 rfl rfl (by obtain ⟨P9, g1, e⟩ := hj322; rw [e]; exact vp_in_nI (by omega) (by decide)) d_M_around_342 ?_
                                      refine lv_lload hx hb d_M_around_343 (lv_at hl 11 rfl) ?_
                                      refine lv_lsub hx hb d_M_around_345 ?_
                                      refine lv_goto (tgt := 371) hx hb d_M_around_346 rfl ?_
                                      exact J371 ((px (Int32.toNatClampNeg v322_l19)) - x) hres ls _ _ (lv_sub hl [0, 1, 2, 3, 4, 5, 6, 7, 8, 9, 10, 11, 12] rfl) hP hD hS
                                  exact K322 (fr + ((((t87_0 - fr) + k) + 1) - (((t87_0 - fr) + k) + 1) / (to - fr) * (to - fr))) (by obtain ⟨kk, g1, e⟩ := hinv; obtain ⟨s9, g2, g3, e3⟩ := hj87; exact ⟨A9 + (s9 - A9 + (kk + 1)) % (B9 - A9), ar_lt hAB, by rw [eA, eB, e, e3, Int32.add_assoc (nI s9 - nI A9), nI_1]; exact ar_idx g2 g3 hB (by omega)⟩) hres ls _ _ (lv_sub hl [0, 1, 2, 3, 4, 5, 6, 7, 8, 9, 10, 11] rfl) hP hD hS
                                · rw [if_neg h245] at hres
                                  refine lv_aload_n hx hb d_M_around_248 rfl (lv_at hl 7 rfl) ?_
                                  refine lv_lload hx hb d_M_around_249 (lv_at hl 4 rfl) ?_
                                  refine lv_lload hx hb d_M_around_251 (lv_at hl 3 rfl) ?_
                                  refine lv_aload_n hx hb d_M_around_253 rfl (lv_at hl 7 rfl) ?_
                                  refine va_get (D := (dC, dI)) (ci := 2) (v := .ref apx) (C := R_M) (T := F_M) (N := 11) hx hb hts in_M hown hK hP 0 rfl rfl 1 (by decide) (hts _ tw_280) (fun _ h9 => h9) rfl d_M_around_254 ?_
                                  refine lv_iload hx hb d_M_around_257 (lv_at hl 0 rfl) ?_
                                  refine va_lald hx hb hK hP 1 0 rfl rfl (by obtain ⟨P9, g1, e⟩ := hj238; rw [e]; exact vp_in_nI (by omega) (by decide)) d_M_around_259 ?_
                                  refine lv_lload hx hb d_M_around_260 (lv_at hl 9 rfl) ?_
                                  refine lv_lsub hx hb d_M_around_262 ?_
                                  refine lv_aload_n hx hb d_M_around_263 rfl (lv_at hl 7 rfl) ?_
                                  refine va_get (D := (dC, dI)) (ci := 2) (v := .ref apy) (C := R_M) (T := F_M) (N := 11) hx hb hts in_M hown hK hP 0 rfl rfl 2 (by decide) (hts _ tw_281) (fun _ h9 => h9) rfl d_M_around_264 ?_
                                  refine lv_iload hx hb d_M_around_267 (lv_at hl 0 rfl) ?_
                                  refine va_lald hx hb hK hP 2 0 rfl rfl (by obtain ⟨P9, g1, e⟩ := hj238; rw [e]; exact vp_in_nI (by omega) (by decide)) d_M_around_269 ?_
                                  refine lv_lload hx hb d_M_around_270 (lv_at hl 10 rfl) ?_
                                  refine lv_lsub hx hb d_M_around_272 ?_
                                  refine cm_v (wc := [(h0, .inr (2, [.int wd, .ref apx, .ref apy, .ref aon, .ref aen, .int cn, .int pn, .int c1, .int n1, .ref afi, .ref ase])), (apx, .inl (cJ, 256, .inr (.inl px))), (apy, .inl (cJ, 256, .inr (.inl py))), (aon, .inl (cZ, 256, .inl on)), (aen, .inl (cI, 256, .inl en)), (afi, .inl (cJ, 6, .inr (.inl f1))), (ase, .inl (cJ, 6, .inr (.inl s1)))]) (wr := []) (W1 := [(h0, .inr (2, [.int wd, .ref apx, .ref apy, .ref aon, .ref aen, .int cn, .int pn, .int ((km_line c1 n1 ax ay ((px (Int32.toNatClampNeg v238_l18)) - x) ((py (Int32.toNatClampNeg v238_l18)) - y)).1), .int ((km_line c1 n1 ax ay ((px (Int32.toNatClampNeg v238_l18)) - x) ((py (Int32.toNatClampNeg v238_l18)) - y)).2), .ref afi, .ref ase])), (apx, .inl (cJ, 256, .inr (.inl px))), (apy, .inl (cJ, 256, .inr (.inl py))), (aon, .inl (cZ, 256, .inl on)), (aen, .inl (cI, 256, .inl en)), (afi, .inl (cJ, 6, .inr (.inl f1))), (ase, .inl (cJ, 6, .inr (.inl s1)))]) (w2 := [(h0, .inr (2, [.int wd, .ref apx, .ref apy, .ref aon, .ref aen, .int cn, .int pn, .int ((km_line c1 n1 ax ay ((px (Int32.toNatClampNeg v238_l18)) - x) ((py (Int32.toNatClampNeg v238_l18)) - y)).1), .int ((km_line c1 n1 ax ay ((px (Int32.toNatClampNeg v238_l18)) - x) ((py (Int32.toNatClampNeg v238_l18)) - y)).2), .ref afi, .ref ase])), (apx, .inl (cJ, 256, .inr (.inl px))), (apy, .inl (cJ, 256, .inr (.inl py))), (aon, .inl (cZ, 256, .inl on)), (aen, .inl (cI, 256, .inl en)), (afi, .inl (cJ, 6, .inr (.inl f1))), (ase, .inl (cJ, 6, .inr (.inl s1)))]) (va_runV (g := F0 m 273 ls [.long ((py (Int32.toNatClampNeg v238_l18)) - y), .long ((px (Int32.toNatClampNeg v238_l18)) - x), .long ay, .long ax, .ref h0]) (As := [.long ax, .long ay, .long ((px (Int32.toNatClampNeg v238_l18)) - x), .long ((py (Int32.toNatClampNeg v238_l18)) - y)]) (rest := []) ⟨hx, hb, hml, hown, hts⟩ (c_km_line l dC dI h0 apx apy aon aen afi ase cJ cZ cI wd cn pn px py on en f1 s1 c1 n1 ax ay ((px (Int32.toNatClampNeg v238_l18)) - x) ((py (Int32.toNatClampNeg v238_l18)) - y)  _) (cwV 4 hts (gi_V tw_346 tw_348 ts_12 tw_6 tw_349) rfl rfl rfl (by decide +kernel) ⟨(by rw [← hR]; exact Nat.le_of_ble_eq_true rfl), (by rw [← hR]; exact Nat.le_of_ble_eq_true rfl)⟩) ⟨mc_blind, va_recv (ci := 2) (q := (R_M, F_M, 11)) hK hP rfl (q0 := 0) rfl, mc_pre (hP.sub [0, 1, 2, 3, 4, 5, 6] rfl) (hK.sub [0, 1, 2] rfl) (hD.sub [0, 1, 2, 3, 4, 5, 6] (by decide) rfl)⟩ rfl rfl hl.1 rfl (lv_room (Nat.le_of_ble_eq_true rfl)) d_M_around_273 ⟨Nat.zero_le _, Nat.zero_le _⟩) hP hD hS hA [0, 1, 2, 3, 4, 5, 6] [] [0, 1, 2, 3, 4, 5, 6] rfl rfl (by decide) (by decide) rfl rfl (by decide) (fun H locs hP hD hS => ?_)
                                  have K276 : ∀ (x273 : Int32 × Int32), km_around_k276 px py x y k f1 s1 (km_around_L217 px py on fr to x y t87_0 t215_0 n) v238_l18 x273 = RES → ∀ (ls : Array Slot) (H : Heap) (locs : List Loc), lv_has ls 25 [(18, .int v238_l18), (17, .int t215_0), (16, .int k), (14, .long ay), (12, .long ax), (9, .int t87_0), (8, .int (to - fr)), (0, .ref h0), (2, .int fr), (4, .long x), (6, .long y)] → va_P (dC, dI) cls9 [(h0, .inr (2, [.int wd, .ref apx, .ref apy, .ref aon, .ref aen, .int cn, .int pn, .int x273.1, .int x273.2, .ref afi, .ref ase])), (apx, .inl (cJ, 256, .inr (.inl px))), (apy, .inl (cJ, 256, .inr (.inl py))), (aon, .inl (cZ, 256, .inl on)), (aen, .inl (cI, 256, .inl en)), (afi, .inl (cJ, 6, .inr (.inl f1))), (ase, .inl (cJ, 6, .inr (.inl s1)))] H → va_D A [(h0, .inr (2, [.int wd, .ref apx, .ref apy, .ref aon, .ref aen, .int cn, .int pn, .int x273.1, .int x273.2, .ref afi, .ref ase])), (apx, .inl (cJ, 256, .inr (.inl px))), (apy, .inl (cJ, 256, .inr (.inl py))), (aon, .inl (cZ, 256, .inl on)), (aen, .inl (cI, 256, .inl en)), (afi, .inl (cJ, 6, .inr (.inl f1))), (ase, .inl (cJ, 6, .inr (.inl s1)))] → va_S A s.heap H locs → W p l e R s m args below meth c H locs 0 0 Q (F0 m 276 ls []) := by
                                    intro x273 hres ls H locs hl hP hD hS
                                    unfold km_around_k276 at hres
                                    refine lv_aload_n hx hb d_M_around_276 rfl (lv_at hl 7 rfl) ?_
                                    refine va_get (D := (dC, dI)) (ci := 2) (v := .ref apx) (C := R_M) (T := F_M) (N := 11) hx hb hts in_M hown hK hP 0 rfl rfl 1 (by decide) (hts _ tw_280) (fun _ h9 => h9) rfl d_M_around_277 ?_
                                    refine lv_iload hx hb d_M_around_280 (lv_at hl 0 rfl) ?_
                                    refine va_lald hx hb hK hP 1 0 rfl rfl (by obtain ⟨P9, g1, e⟩ := hj238; rw [e]; exact vp_in_nI (by omega) (by decide)) d_M_around_282 ?_
                                    refine lv_lload hx hb d_M_around_283 (lv_at hl 9 rfl) ?_
                                    refine lv_lsub hx hb d_M_around_285 ?_
                                    refine lv_lstore (lv' := [(12, .long ((px (Int32.toNatClampNeg v238_l18)) - x)), (18, .int v238_l18), (17, .int t215_0), (16, .int k), (14, .long ay), (9, .int t87_0), (8, .int (to - fr)), (0, .ref h0), (2, .int fr), (4, .long x), (6, .long y)]) hx hb d_M_around_286 hl (by decide) rfl (fun ls hl => ?_)
                                    refine lv_aload_n hx hb d_M_around_288 rfl (lv_at hl 7 rfl) ?_
                                    refine va_get (D := (dC, dI)) (ci := 2) (v := .ref apy) (C := R_M) (T := F_M) (N := 11) hx hb hts in_M hown hK hP 0 rfl rfl 2 (by decide) (hts _ tw_281) (fun _ h9 => h9) rfl d_M_around_289 ?_
                                    refine lv_iload hx hb d_M_around_292 (lv_at hl 1 rfl) ?_
                                    refine va_lald hx hb hK hP 2 0 rfl rfl (by obtain ⟨P9, g1, e⟩ := hj238; rw [e]; exact vp_in_nI (by omega) (by decide)) d_M_around_294 ?_
                                    refine lv_lload hx hb d_M_around_295 (lv_at hl 10 rfl) ?_
                                    refine lv_lsub hx hb d_M_around_297 ?_
                                    refine lv_lstore (lv' := [(14, .long ((py (Int32.toNatClampNeg v238_l18)) - y)), (12, .long ((px (Int32.toNatClampNeg v238_l18)) - x)), (18, .int v238_l18), (17, .int t215_0), (16, .int k), (9, .int t87_0), (8, .int (to - fr)), (0, .ref h0), (2, .int fr), (4, .long x), (6, .long y)]) hx hb d_M_around_298 hl (by decide) rfl (fun ls hl => ?_)
                                    refine lv_iinc (k := 4) (v := k + 1) (lv' := [(16, .int (k + 1)), (14, .long ((py (Int32.toNatClampNeg v238_l18)) - y)), (12, .long ((px (Int32.toNatClampNeg v238_l18)) - x)), (18, .int v238_l18), (17, .int t215_0), (9, .int t87_0), (8, .int (to - fr)), (0, .ref h0), (2, .int fr), (4, .long x), (6, .long y)]) hx hb d_M_around_300 hl rfl rfl (by decide) rfl (fun ls hl => ?_)
                                    refine lv_goto (tgt := 217) hx hb d_M_around_303 rfl ?_
                                    exact ih (k + 1) ((px (Int32.toNatClampNeg v238_l18)) - x) ((py (Int32.toNatClampNeg v238_l18)) - y) x273.1 x273.2 f1 s1 (by obtain ⟨kk, g1, e⟩ := hinv; obtain ⟨S9, g2, e2⟩ := hj215; rw [e2, e] at h221; have h9 := nI_nle_lt (by omega) h221; first | exact ⟨kk + 1, by omega, by rw [e, nI_1]⟩ | exact hj467.elim (fun h => ⟨kk + 1, by omega, by rw [h, e]; exact nI_1 kk⟩) (fun h => ⟨kk + 2, by omega, by rw [h, e]; exact nI_add kk 2⟩)) (by obtain ⟨kk, g1, e⟩ := hinv; obtain ⟨S9, g2, e2⟩ := hj215; rw [e2, e] at h221; have h9 := nI_nle_lt (by omega) h221; rw [e, nI_clamp (by omega)] at hmu; first | (rw [e, nI_1, nI_clamp (by omega)]; omega) | exact hj467.elim (fun h => by rw [h, e, nI_1, nI_clamp (by omega)]; omega) (fun h => by rw [h, e, show nI kk + 2 = nI (kk + 2) from nI_add kk 2, nI_clamp (by omega)]; omega)) hres ls _ _ (lv_sub hl [4, 0, 1, 2, 5, 6, 7, 8, 9, 10] rfl) hP hD hS
                                  exact K276 (km_line c1 n1 ax ay ((px (Int32.toNatClampNeg v238_l18)) - x) ((py (Int32.toNatClampNeg v238_l18)) - y)) hres ls _ _ (lv_sub hl [0, 1, 2, 3, 4, 5, 6, 7, 8, 9, 10] rfl) hP hD hS
                              exact K238 (fr + (((t87_0 - fr) + k) - ((t87_0 - fr) + k) / (to - fr) * (to - fr))) (by obtain ⟨kk, g1, e⟩ := hinv; obtain ⟨s9, g2, g3, e3⟩ := hj87; exact ⟨A9 + (s9 - A9 + kk) % (B9 - A9), ar_lt hAB, by rw [eA, eB, e, e3]; exact ar_idx g2 g3 hB (by omega)⟩) hres ls _ _ (lv_sub hl [0, 1, 2, 3, 4, 5, 6, 7, 8, 9, 10] rfl) hP hD hS
                        exact L217 301 t199_0 t145_0 t187_0 tc tn fi se (by exact hj199.elim (fun h => ⟨0, by omega, by rw [h]; rfl⟩) (fun h => ⟨1, by omega, by rw [h]; rfl⟩)) (by omega) hres ls _ _ (lv_sub hl [0, 1, 2, 3, 4, 5, 6, 7, 8, 9] rfl) hP hD hS
                      refine lv_if_eq (tgt := 211) hx hb d_M_around_203 rfl (fun h203 => ?_) (fun h203 => ?_)
                      · rw [if_pos h203] at hres
                        refine lv_iload hx hb d_M_around_211 (lv_at hl 5 rfl) ?_
                        refine lv_iconst (v := 1) hx hb d_M_around_213 (by decide) ?_
                        refine lv_iadd hx hb d_M_around_214 ?_
                        exact J215 ((to - fr) + 1) (by first | exact ⟨B9 - A9, by omega, by rw [eA, eB]; exact pk_sub (by omega)⟩ | exact ⟨B9 - A9 + 1, by omega, by rw [eA, eB, pk_sub (by omega), nI_1]⟩) hres ls _ _ (lv_sub hl [0, 1, 2, 4, 5, 6, 7, 8, 9] rfl) hP hD hS
                      · rw [if_neg h203] at hres
                        refine lv_iload hx hb d_M_around_206 (lv_at hl 5 rfl) ?_
                        refine lv_goto (tgt := 215) hx hb d_M_around_208 rfl ?_
                        exact J215 (to - fr) (by first | exact ⟨B9 - A9, by omega, by rw [eA, eB]; exact pk_sub (by omega)⟩ | exact ⟨B9 - A9 + 1, by omega, by rw [eA, eB, pk_sub (by omega), nI_1]⟩) hres ls _ _ (lv_sub hl [0, 1, 2, 4, 5, 6, 7, 8, 9] rfl) hP hD hS
                    refine lv_if_eq (tgt := 198) hx hb d_M_around_191 rfl (fun h191 => ?_) (fun h191 => ?_)
                    · rw [if_pos h191] at hres
                      refine lv_iconst (v := 1) hx hb d_M_around_198 (by decide) ?_
                      exact J199 1 (by decide) hres ls _ _ (lv_sub hl [0, 1, 2, 3, 4, 5, 6, 7, 8] rfl) hP hD hS
                    · rw [if_neg h191] at hres
                      refine lv_iconst (v := 0) hx hb d_M_around_194 (by decide) ?_
                      refine lv_goto (tgt := 199) hx hb d_M_around_195 rfl ?_
                      exact J199 0 (by decide) hres ls _ _ (lv_sub hl [0, 1, 2, 3, 4, 5, 6, 7, 8] rfl) hP hD hS
                  refine lv_if_eq (tgt := 177) hx hb d_M_around_149 rfl (fun h149 => ?_) (fun h149 => ?_)
                  · rw [if_pos h149] at hres
                    refine lv_aload_n hx hb d_M_around_177 rfl (lv_at hl 5 rfl) ?_
                    refine va_get (D := (dC, dI)) (ci := 2) (v := .ref apy) (C := R_M) (T := F_M) (N := 11) hx hb hts in_M hown hK hP 0 rfl rfl 2 (by decide) (hts _ tw_281) (fun _ h9 => h9) rfl d_M_around_178 ?_
                    refine lv_iload hx hb d_M_around_181 (lv_at hl 3 rfl) ?_
                    refine va_lald hx hb hK hP 2 0 rfl rfl (by obtain ⟨s9, g1, g2, e⟩ := hj87; rw [e]; exact vp_in_nI (by omega) (by decide)) d_M_around_183 ?_
                    refine lv_lload hx hb d_M_around_184 (lv_at hl 8 rfl) ?_
                    refine lv_lsub hx hb d_M_around_186 ?_
                    exact J187 ((py (Int32.toNatClampNeg t87_0)) - y) hres ls _ _ (lv_sub hl [0, 2, 3, 4, 5, 6, 7, 8] rfl) hP hD hS
                  · rw [if_neg h149] at hres
                    refine lv_aload_n hx hb d_M_around_152 rfl (lv_at hl 5 rfl) ?_
                    refine va_get (D := (dC, dI)) (ci := 2) (v := .ref apy) (C := R_M) (T := F_M) (N := 11) hx hb hts in_M hown hK hP 0 rfl rfl 2 (by decide) (hts _ tw_281) (fun _ h9 => h9) rfl d_M_around_153 ?_
                    refine lv_iload hx hb d_M_around_156 (lv_at hl 1 rfl) ?_
                    refine va_lald hx hb hK hP 2 0 rfl rfl (by obtain ⟨b9, g1, e⟩ := hj103; rw [e]; exact vp_in_nI (by omega) (by decide)) d_M_around_158 ?_
                    refine lv_aload_n hx hb d_M_around_159 rfl (lv_at hl 5 rfl) ?_
                    refine va_get (D := (dC, dI)) (ci := 2) (v := .ref apy) (C := R_M) (T := F_M) (N := 11) hx hb hts in_M hown hK hP 0 rfl rfl 2 (by decide) (hts _ tw_281) (fun _ h9 => h9) rfl d_M_around_160 ?_
                    refine lv_iload hx hb d_M_around_163 (lv_at hl 3 rfl) ?_
                    refine va_lald hx hb hK hP 2 0 rfl rfl (by obtain ⟨s9, g1, g2, e⟩ := hj87; rw [e]; exact vp_in_nI (by omega) (by decide)) d_M_around_165 ?_
                    refine lv_ladd hx hb d_M_around_166 ?_
                    refine lv_ldc2 (v := 2) hx hb hown (hts _ tw_321) d_M_around_167 ?_
                    refine lv_ldiv hx hb d_M_around_170 (by decide) ?_
                    refine lv_lload hx hb d_M_around_171 (lv_at hl 8 rfl) ?_
                    refine lv_lsub hx hb d_M_around_173 ?_
                    refine lv_goto (tgt := 187) hx hb d_M_around_174 rfl ?_
                    exact J187 ((((py (Int32.toNatClampNeg t103_0)) + (py (Int32.toNatClampNeg t87_0))) / 2) - y) hres ls _ _ (lv_sub hl [0, 2, 3, 4, 5, 6, 7, 8] rfl) hP hD hS
                refine lv_if_eq (tgt := 135) hx hb d_M_around_107 rfl (fun h107 => ?_) (fun h107 => ?_)
                · rw [if_pos h107] at hres
                  refine lv_aload_n hx hb d_M_around_135 rfl (lv_at hl 4 rfl) ?_
                  refine va_get (D := (dC, dI)) (ci := 2) (v := .ref apx) (C := R_M) (T := F_M) (N := 11) hx hb hts in_M hown hK hP 0 rfl rfl 1 (by decide) (hts _ tw_280) (fun _ h9 => h9) rfl d_M_around_136 ?_
                  refine lv_iload hx hb d_M_around_139 (lv_at hl 2 rfl) ?_
                  refine va_lald hx hb hK hP 1 0 rfl rfl (by obtain ⟨s9, g1, g2, e⟩ := hj87; rw [e]; exact vp_in_nI (by omega) (by decide)) d_M_around_141 ?_
                  refine lv_lload hx hb d_M_around_142 (lv_at hl 6 rfl) ?_
                  refine lv_lsub hx hb d_M_around_144 ?_
                  exact J145 ((px (Int32.toNatClampNeg t87_0)) - x) hres ls _ _ (lv_sub hl [0, 1, 2, 3, 4, 5, 6, 7] rfl) hP hD hS
                · rw [if_neg h107] at hres
                  refine lv_aload_n hx hb d_M_around_110 rfl (lv_at hl 4 rfl) ?_
                  refine va_get (D := (dC, dI)) (ci := 2) (v := .ref apx) (C := R_M) (T := F_M) (N := 11) hx hb hts in_M hown hK hP 0 rfl rfl 1 (by decide) (hts _ tw_280) (fun _ h9 => h9) rfl d_M_around_111 ?_
                  refine lv_iload hx hb d_M_around_114 (lv_at hl 0 rfl) ?_
                  refine va_lald hx hb hK hP 1 0 rfl rfl (by obtain ⟨b9, g1, e⟩ := hj103; rw [e]; exact vp_in_nI (by omega) (by decide)) d_M_around_116 ?_
                  refine lv_aload_n hx hb d_M_around_117 rfl (lv_at hl 4 rfl) ?_
                  refine va_get (D := (dC, dI)) (ci := 2) (v := .ref apx) (C := R_M) (T := F_M) (N := 11) hx hb hts in_M hown hK hP 0 rfl rfl 1 (by decide) (hts _ tw_280) (fun _ h9 => h9) rfl d_M_around_118 ?_
                  refine lv_iload hx hb d_M_around_121 (lv_at hl 2 rfl) ?_
                  refine va_lald hx hb hK hP 1 0 rfl rfl (by obtain ⟨s9, g1, g2, e⟩ := hj87; rw [e]; exact vp_in_nI (by omega) (by decide)) d_M_around_123 ?_
                  refine lv_ladd hx hb d_M_around_124 ?_
                  refine lv_ldc2 (v := 2) hx hb hown (hts _ tw_321) d_M_around_125 ?_
                  refine lv_ldiv hx hb d_M_around_128 (by decide) ?_
                  refine lv_lload hx hb d_M_around_129 (lv_at hl 6 rfl) ?_
                  refine lv_lsub hx hb d_M_around_131 ?_
                  refine lv_goto (tgt := 145) hx hb d_M_around_132 rfl ?_
                  exact J145 ((((px (Int32.toNatClampNeg t103_0)) + (px (Int32.toNatClampNeg t87_0))) / 2) - x) hres ls _ _ (lv_sub hl [0, 1, 2, 3, 4, 5, 6, 7] rfl) hP hD hS
              refine lv_icmp_ne (tgt := 99) hx hb d_M_around_90 rfl (fun h90 => ?_) (fun h90 => ?_)
              · rw [if_neg h90] at hres
                refine lv_iload hx hb d_M_around_99 (lv_at hl 1 rfl) ?_
                refine lv_iconst (v := 1) hx hb d_M_around_101 (by decide) ?_
                refine lv_isub hx hb d_M_around_102 ?_
                exact J103 (t87_0 - 1) (by first | (exact ⟨B9 - 1, by omega, by rw [eB]; have h9 := nI_pred (B9 - 1); rw [Nat.sub_add_cancel (by omega)] at h9; exact h9⟩) | (obtain ⟨s9, g1, g2, e⟩ := hj87; have h8 : s9 ≠ A9 := fun z => h90 (by rw [e, eA, z]); exact ⟨s9 - 1, by omega, by rw [e]; have h9 := nI_pred (s9 - 1); rw [Nat.sub_add_cancel (by omega)] at h9; exact h9⟩)) hres ls _ _ (lv_sub hl [0, 1, 2, 3, 4, 6, 7] rfl) hP hD hS
              · rw [if_pos h90] at hres
                refine lv_iload_n hx hb d_M_around_93 rfl (lv_at hl 5 rfl) ?_
                refine lv_iconst (v := 1) hx hb d_M_around_94 (by decide) ?_
                refine lv_isub hx hb d_M_around_95 ?_
                refine lv_goto (tgt := 103) hx hb d_M_around_96 rfl ?_
                exact J103 (to - 1) (by first | (exact ⟨B9 - 1, by omega, by rw [eB]; have h9 := nI_pred (B9 - 1); rw [Nat.sub_add_cancel (by omega)] at h9; exact h9⟩) | (obtain ⟨s9, g1, g2, e⟩ := hj87; have h8 : s9 ≠ A9 := fun z => h90 (by rw [e, eA, z]); exact ⟨s9 - 1, by omega, by rw [e]; have h9 := nI_pred (s9 - 1); rw [Nat.sub_add_cancel (by omega)] at h9; exact h9⟩)) hres ls _ _ (lv_sub hl [0, 1, 2, 3, 4, 6, 7] rfl) hP hD hS
            refine lv_if_eq (tgt := 87) hx hb d_M_around_81 rfl (fun h81 => ?_) (fun h81 => ?_)
            · rw [if_pos h81] at hres
              exact J87 st (by first | exact ⟨A9, Nat.le_refl _, hAB, eA⟩ | (obtain ⟨j, g1, g2, e⟩ := hinv; exact ⟨j, g1, Nat.lt_of_le_of_ne g2 (fun z => hj77 h81 (by rw [e, eB, z])), e⟩)) hres ls _ _ (lv_sub hl [0, 1, 2, 3, 4, 5, 6, 7] rfl) hP hD hS
            · rw [if_neg h81] at hres
              refine lv_iload_n hx hb d_M_around_84 rfl (lv_at hl 4 rfl) ?_
              refine lv_istore (lv' := [(9, .int fr), (10, .int t77_0), (8, .int (to - fr)), (0, .ref h0), (2, .int fr), (3, .int to), (4, .long x), (6, .long y)]) hx hb d_M_around_85 hl (by decide) rfl (fun ls hl => ?_)
              exact J87 fr (by first | exact ⟨A9, Nat.le_refl _, hAB, eA⟩ | (obtain ⟨j, g1, g2, e⟩ := hinv; exact ⟨j, g1, Nat.lt_of_le_of_ne g2 (fun z => hj77 h81 (by rw [e, eB, z])), e⟩)) hres ls _ _ (lv_sub hl [1, 0, 2, 3, 4, 5, 6, 7] rfl) hP hD hS
          refine lv_icmp_ne (tgt := 76) hx hb d_M_around_69 rfl (fun h69 => ?_) (fun h69 => ?_)
          · rw [if_neg h69] at hres
            refine lv_iconst (v := 0) hx hb d_M_around_76 (by decide) ?_
            exact J77 0 (by first | exact fun _ => h69 | exact fun h => absurd h (by decide)) hres ls _ _ (lv_sub hl [0, 1, 2, 3, 4, 5, 6] rfl) hP hD hS
          · rw [if_pos h69] at hres
            refine lv_iconst (v := 1) hx hb d_M_around_72 (by decide) ?_
            refine lv_goto (tgt := 77) hx hb d_M_around_73 rfl ?_
            exact J77 1 (by first | exact fun _ => h69 | exact fun h => absurd h (by decide)) hres ls _ _ (lv_sub hl [0, 1, 2, 3, 4, 5, 6] rfl) hP hD hS
        refine lv_icmp_ge (tgt := 66) hx hb d_M_around_47 rfl (fun h47 => ?_) (fun h47 => ?_)
        · rw [if_pos h47] at hres
          exact J66  hres ls _ _ (lv_sub hl [0, 1, 2, 3, 4, 5, 6] rfl) hP hD hS
        · rw [if_neg h47] at hres
          refine lv_aload_n hx hb d_M_around_50 rfl (lv_at hl 2 rfl) ?_
          refine va_get (D := (dC, dI)) (ci := 2) (v := .ref aon) (C := R_M) (T := F_M) (N := 11) hx hb hts in_M hown hK hP 0 rfl rfl 3 (by decide) (hts _ tw_282) (fun _ h9 => h9) rfl d_M_around_51 ?_
          refine lv_iload hx hb d_M_around_54 (lv_at hl 0 rfl) ?_
          refine va_zald hx hb hK hP 3 1 rfl rfl (by obtain ⟨j, g1, g2, e⟩ := hinv; rw [eB, e] at h47; have h9 := nI_nle_lt (by omega) h47; rw [e]; exact vp_in_nI (by omega) (by decide)) d_M_around_56 ?_
          refine lv_if_ne (tgt := 66) hx hb d_M_around_57 rfl (fun h57 => ?_) (fun h57 => ?_)
          · rw [if_neg h57] at hres
            exact J66  hres ls _ _ (lv_sub hl [0, 1, 2, 3, 4, 5, 6] rfl) hP hD hS
          · rw [if_pos h57] at hres
            refine lv_iinc (k := 0) (v := st + 1) (lv' := [(9, .int (st + 1)), (8, .int (to - fr)), (0, .ref h0), (2, .int fr), (3, .int to), (4, .long x), (6, .long y)]) hx hb d_M_around_60 hl rfl rfl (by decide) rfl (fun ls hl => ?_)
            refine lv_goto (tgt := 44) hx hb d_M_around_63 rfl ?_
            exact ih (st + 1) (by obtain ⟨j, g1, g2, e⟩ := hinv; rw [eB, e] at h47; have h9 := nI_nle_lt (by omega) h47; exact ⟨j + 1, by omega, by omega, by rw [e, nI_1]⟩) (by obtain ⟨j, g1, g2, e⟩ := hinv; rw [eB, e] at h47; have h9 := nI_nle_lt (by omega) h47; rw [e, eB, nI_clamp (by omega), nI_clamp (by omega)] at hmu; rw [e, eB, nI_1, nI_clamp (by omega), nI_clamp (by omega)]; omega) hres ls _ _ (lv_sub hl [0, 1, 2, 3, 4, 5, 6] rfl) hP hD hS
    exact L44 257 fr (by exact ⟨A9, Nat.le_refl _, by omega, eA⟩) (by rw [eA, eB, nI_clamp (by omega), nI_clamp (by omega)]; omega) hres ls _ _ (lv_sub hl [0, 1, 2, 4, 5, 6, 7] rfl) hP hD hS
  · rw [if_pos h8] at hres
    refine lv_aload_n hx hb d_M_around_11 rfl (lv_at hl 1 rfl) ?_
    refine va_get (D := (dC, dI)) (ci := 2) (v := .ref apx) (C := R_M) (T := F_M) (N := 11) hx hb hts in_M hown hK hP 0 rfl rfl 1 (by decide) (hts _ tw_280) (fun _ h9 => h9) rfl d_M_around_12 ?_
    refine lv_iload_n hx hb d_M_around_15 rfl (lv_at hl 3 rfl) ?_
    refine va_lald hx hb hK hP 1 0 rfl rfl (by rw [eA]; exact vp_in_nI (by omega) (by decide)) d_M_around_16 ?_
    refine lv_lload hx hb d_M_around_17 (lv_at hl 5 rfl) ?_
    refine W.lcmp hx hb d_M_around_19 ?_
    have J40 : ∀ (t40_0 : Int32), km_around_j40 tn fi se t40_0 = RES → ∀ (ls : Array Slot) (H : Heap) (locs : List Loc), lv_has ls 25 [] → va_P (dC, dI) cls9 [(h0, .inr (2, [.int wd, .ref apx, .ref apy, .ref aon, .ref aen, .int cn, .int pn, .int t40_0, .int tn, .ref afi, .ref ase])), (apx, .inl (cJ, 256, .inr (.inl px))), (apy, .inl (cJ, 256, .inr (.inl py))), (aon, .inl (cZ, 256, .inl on)), (aen, .inl (cI, 256, .inl en)), (afi, .inl (cJ, 6, .inr (.inl fi))), (ase, .inl (cJ, 6, .inr (.inl se)))] H → va_D A [(h0, .inr (2, [.int wd, .ref apx, .ref apy, .ref aon, .ref aen, .int cn, .int pn, .int t40_0, .int tn, .ref afi, .ref ase])), (apx, .inl (cJ, 256, .inr (.inl px))), (apy, .inl (cJ, 256, .inr (.inl py))), (aon, .inl (cZ, 256, .inl on)), (aen, .inl (cI, 256, .inl en)), (afi, .inl (cJ, 6, .inr (.inl fi))), (ase, .inl (cJ, 6, .inr (.inl se)))] → va_S A s.heap H locs → W p l e R s m args below meth c H locs 0 0 Q (F0 m 40 ls []) := by
      intro t40_0 hres ls H locs hl hP hD hS
      unfold km_around_j40 at hres
      rw [hQ]
      subst hres
      exact W.vret hx hb hr (fun t ht hW => ⟨⟨(), rfl, trivial, ⟨by rw [ht]; exact hP, va_K.moved hW.alike hK, hD⟩⟩, hS.F ht⟩) hS.2.2 d_M_around_40
    refine lv_if_ne (tgt := 40) hx hb d_M_around_20 rfl (fun h20 => ?_) (fun h20 => ?_)
    · rw [if_neg h20] at hres
      exact J40 tc hres ls _ _ (lv_sub hl [] rfl) hP hD hS
    · rw [if_pos h20] at hres
      refine lv_aload_n hx hb d_M_around_23 rfl (lv_at hl 1 rfl) ?_
      refine va_get (D := (dC, dI)) (ci := 2) (v := .ref apy) (C := R_M) (T := F_M) (N := 11) hx hb hts in_M hown hK hP 0 rfl rfl 2 (by decide) (hts _ tw_281) (fun _ h9 => h9) rfl d_M_around_24 ?_
      refine lv_iload_n hx hb d_M_around_27 rfl (lv_at hl 3 rfl) ?_
      refine va_lald hx hb hK hP 2 0 rfl rfl (by rw [eA]; exact vp_in_nI (by omega) (by decide)) d_M_around_28 ?_
      refine lv_lload hx hb d_M_around_29 (lv_at hl 6 rfl) ?_
      refine W.lcmp hx hb d_M_around_31 ?_
      refine lv_if_ne (tgt := 40) hx hb d_M_around_32 rfl (fun h32 => ?_) (fun h32 => ?_)
      · rw [if_neg h32] at hres
        exact J40 tc hres ls _ _ (lv_sub hl [] rfl) hP hD hS
      · rw [if_pos h32] at hres
        refine lv_aload_n hx hb d_M_around_35 rfl (lv_at hl 1 rfl) ?_
        refine lv_iconst (v := 1) hx hb d_M_around_36 (by decide) ?_
        refine va_put (D := (dC, dI)) (ci := 2) (v := .int 1) (ty := .boolean) (C := R_M) (T := F_M) (N := 11) hx hb hts in_M tf_M tok_M n_M hown hK hP hD hS 0 rfl rfl 7 (by decide) (hts _ tw_286) (fun _ h9 => h9) rfl (by decide +kernel) (by rfl) (by rfl) (Nat.le_of_ble_eq_true rfl) d_M_around_37 (fun H locs hP hD hS => ?_)
        have hP : va_P (dC, dI) cls9 [(h0, .inr (2, [.int wd, .ref apx, .ref apy, .ref aon, .ref aen, .int cn, .int pn, .int 1, .int tn, .ref afi, .ref ase])), (apx, .inl (cJ, 256, .inr (.inl px))), (apy, .inl (cJ, 256, .inr (.inl py))), (aon, .inl (cZ, 256, .inl on)), (aen, .inl (cI, 256, .inl en)), (afi, .inl (cJ, 6, .inr (.inl fi))), (ase, .inl (cJ, 6, .inr (.inl se)))] H := hP
        have hD : va_D A [(h0, .inr (2, [.int wd, .ref apx, .ref apy, .ref aon, .ref aen, .int cn, .int pn, .int 1, .int tn, .ref afi, .ref ase])), (apx, .inl (cJ, 256, .inr (.inl px))), (apy, .inl (cJ, 256, .inr (.inl py))), (aon, .inl (cZ, 256, .inl on)), (aen, .inl (cI, 256, .inl en)), (afi, .inl (cJ, 6, .inr (.inl fi))), (ase, .inl (cJ, 6, .inr (.inl se)))] := hD
        exact J40 1 hres ls _ _ (lv_sub hl [] rfl) hP hD hS
