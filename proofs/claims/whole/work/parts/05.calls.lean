-- shifts of longs, by name
abbrev jv_lushr (x : Int64) (y : Int32) : Int64 := (x.toUInt64 >>> (y.toInt64.toUInt64 &&& Int64.toUInt64 63)).toInt64
abbrev jv_lshl (x : Int64) (y : Int32) : Int64 := x <<< (y.toInt64 &&& 63)
abbrev jv_lshr (x : Int64) (y : Int32) : Int64 := x >>> (y.toInt64 &&& 63)
-- contracts of methods that change nothing: a pure one, and one that reads cells
abbrev pq_i (l : Launch) (y : MethodName) (ws : List Cond) (rm : Room) (As : List Value) (r : Int32) : Prop := ∀ sz : Nat, Met l y ws rm (va_Pc As (fun U => U.heap.size = sz)) (va_Qi (fun x (_ : Unit) => x = r) (fun _ _ => True) (fun q => sz ≤ q)) 0 0 (fun q => sz ≤ q)
abbrev pq_l (l : Launch) (y : MethodName) (ws : List Cond) (rm : Room) (As : List Value) (r : Int64) : Prop := ∀ sz : Nat, Met l y ws rm (va_Pc As (fun U => U.heap.size = sz)) (va_Ql (fun x (_ : Unit) => x = r) (fun _ _ => True) (fun q => sz ≤ q)) 0 0 (fun q => sz ≤ q)
abbrev pr_i (l : Launch) (y : MethodName) (ws : List Cond) (rm : Room) (D : va_G) (cl : List vw_C) (w1 : va_W) (tys : List (ClassId × FieldType)) (As : List Value) (r : Int32) : Prop := ∀ sz : Nat, Met l y ws rm (va_Pc As (fun U => U.heap.size = sz ∧ va_P D cl w1 U.heap ∧ va_K D cl tys U)) (va_Qi (fun x (_ : Unit) => x = r) (fun _ _ => True) (fun q => sz ≤ q)) 0 0 (fun q => sz ≤ q)
abbrev pr_l (l : Launch) (y : MethodName) (ws : List Cond) (rm : Room) (D : va_G) (cl : List vw_C) (w1 : va_W) (tys : List (ClassId × FieldType)) (As : List Value) (r : Int64) : Prop := ∀ sz : Nat, Met l y ws rm (va_Pc As (fun U => U.heap.size = sz ∧ va_P D cl w1 U.heap ∧ va_K D cl tys U)) (va_Ql (fun x (_ : Unit) => x = r) (fun _ _ => True) (fun q => sz ≤ q)) 0 0 (fun q => sz ≤ q)
/-- contracts of methods that change cells: the world W0 becomes W1; nothing is made -/
abbrev mc_v (l : Launch) (y : MethodName) (ws : List Cond) (rm : Room) (D : va_G) (cl : List vw_C) (W0 W1 : va_W) (tys : List (ClassId × FieldType)) (As : List Value) : Prop := ∀ sz : Nat, Met l y ws rm (va_Pc As (fun U => U.heap.size = sz ∧ va_P D cl W0 U.heap ∧ va_K D cl tys U ∧ va_D (fun _ => True) W0)) (va_Qv (fun (_ : Unit) => True) (fun _ t => va_P D cl W1 t.heap ∧ va_K D cl tys t ∧ va_D (va_A W0 sz) W1) (va_A W0 sz)) 0 0 (va_A W0 sz)
abbrev mc_i (l : Launch) (y : MethodName) (ws : List Cond) (rm : Room) (D : va_G) (cl : List vw_C) (W0 W1 : va_W) (tys : List (ClassId × FieldType)) (As : List Value) (r : Int32) : Prop := ∀ sz : Nat, Met l y ws rm (va_Pc As (fun U => U.heap.size = sz ∧ va_P D cl W0 U.heap ∧ va_K D cl tys U ∧ va_D (fun _ => True) W0)) (va_Qi (fun x (_ : Unit) => x = r) (fun _ t => va_P D cl W1 t.heap ∧ va_K D cl tys t ∧ va_D (va_A W0 sz) W1) (va_A W0 sz)) 0 0 (va_A W0 sz)
abbrev mc_l (l : Launch) (y : MethodName) (ws : List Cond) (rm : Room) (D : va_G) (cl : List vw_C) (W0 W1 : va_W) (tys : List (ClassId × FieldType)) (As : List Value) (r : Int64) : Prop := ∀ sz : Nat, Met l y ws rm (va_Pc As (fun U => U.heap.size = sz ∧ va_P D cl W0 U.heap ∧ va_K D cl tys U ∧ va_D (fun _ => True) W0)) (va_Ql (fun x (_ : Unit) => x = r) (fun _ t => va_P D cl W1 t.heap ∧ va_K D cl tys t ∧ va_D (va_A W0 sz) W1) (va_A W0 sz)) 0 0 (va_A W0 sz)
theorem mc_blind {D : va_G} {cl : List vw_C} {W0 : va_W} {tys : List (ClassId × FieldType)} {As : List Value} {sz : Nat} : FrameBlind (va_Pc As (fun U => U.heap.size = sz ∧ va_P D cl W0 U.heap ∧ va_K D cl tys U ∧ va_D (fun _ => True) W0)) :=
  fun a U g mk q => ⟨q.1, q.2.1, q.2.2.1, va_K.moved (u := U) (U := U.calling g mk a) (Vm.Alike.refl U.vm) q.2.2.2.1, q.2.2.2.2⟩
theorem mc_pre {s : State} {H : Heap} {A : Nat → Prop} {D : va_G} {cl : List vw_C} {W0 : va_W} {tys : List (ClassId × FieldType)} {As : List Value} (hP : va_P D cl W0 H) (hK : va_K D cl tys s) (hD : va_D A W0) : ∀ U : State, U.heap = H → s.WarmedH U.vm → va_Pc As (fun U => U.heap.size = H.size ∧ va_P D cl W0 U.heap ∧ va_K D cl tys U ∧ va_D (fun _ => True) W0) As.toArray U :=
  fun U hU hW => ⟨rfl, by rw [hU], by rw [hU]; exact hP, va_K.moved hW.alike hK, hD.weaken (fun _ _ _ _ => trivial)⟩
section
variable {p : Program} {l : Launch} {e : Env} {R : Room} {s : State} {m : MethodId} {args : Array Value} {below : List Frame} {meth : Method} {c : Code} {H : Heap} {locs : List Loc} {cells slots : Nat} {Q : State → Prop}
variable {D : va_G} {cl : List vw_C} {w0 w1 : va_W} {A : Nat → Prop} {H0 : Heap} {pc : Nat} {ls : Array Slot} {st0 rest : List Value}
/-- a call that changes nothing: the whole world stays -/
theorem cq_i {r : Int32} {a : Array Value}
    (hr : va_Run p l e R s m args below meth c H locs cells slots 0 0 (F0 m pc ls st0) rest (va_Qi (fun x (_ : Unit) => x = r) (fun _ _ => True) (fun q => H.size ≤ q) a) (fun q => H.size ≤ q))
    (hP : va_P D cl w0 H) (hS : va_S A H0 H locs) (hA : ∀ q, H0.size ≤ q → A q)
    (kk : ∀ (H : Heap) (locs : List Loc), va_P D cl w0 H → va_S A H0 H locs → W p l e R s m args below meth c H locs cells slots Q (F0 m (pc + 3) ls (.int r :: rest))) : W p l e R s m args below meth c H locs cells slots Q (F0 m pc ls st0) := by
  refine va_calli hr hS (fun q h1 h2 => absurd h1 (Nat.not_lt.mpr h2)) (fun q h => hA q (Nat.le_trans hS.1 h)) (fun x u t H1 locs1 ht hvm hpost hB hz hk hS1 => ?_)
  subst hpost
  exact kk H1 locs1 (hP.kept fun k q hq => hk q.1 (hP k q hq).lt (Nat.not_le.mpr (hP k q hq).lt)) hS1
theorem cq_l {r : Int64} {a : Array Value}
    (hr : va_Run p l e R s m args below meth c H locs cells slots 0 0 (F0 m pc ls st0) rest (va_Ql (fun x (_ : Unit) => x = r) (fun _ _ => True) (fun q => H.size ≤ q) a) (fun q => H.size ≤ q))
    (hP : va_P D cl w0 H) (hS : va_S A H0 H locs) (hA : ∀ q, H0.size ≤ q → A q)
    (kk : ∀ (H : Heap) (locs : List Loc), va_P D cl w0 H → va_S A H0 H locs → W p l e R s m args below meth c H locs cells slots Q (F0 m (pc + 3) ls (.long r :: rest))) : W p l e R s m args below meth c H locs cells slots Q (F0 m pc ls st0) := by
  refine va_calll hr hS (fun q h1 h2 => absurd h1 (Nat.not_lt.mpr h2)) (fun q h => hA q (Nat.le_trans hS.1 h)) (fun x u t H1 locs1 ht hvm hpost hB hz hk hS1 => ?_)
  subst hpost
  exact kk H1 locs1 (hP.kept fun k q hq => hk q.1 (hP k q hq).lt (Nat.not_le.mpr (hP k q hq).lt)) hS1
variable {y : MethodName} {bytes cc : ByteArray} {maxL nL n index : Nat} {ret : Option FieldType} {ws Ts : List Cond} {rm : Room} {own C : String} {As : List Value} {b : Nat} {tys tys0 : List (ClassId × FieldType)} {ci : Nat} {fs : List Value} {T : u_T} {N : Nat}
theorem cq_Si {r : Int32} (S : CallFix p m c cc nL s args Ts own) (hM : pq_i l y ws rm As r) (cw : CallB R s args own index y bytes maxL ret ws rm 0 0 n ∧ (Cond.static y).before args s = true) (hst : st0 = As.reverse ++ rest) (hn : As.length = n) (hsize : ls.size = nL) (hW : (rest.map fun v => v.category).sum ≤ 8) (hdg : decode cc pc = .ok (.invokestatic index, 3)) (hf : cells ≤ R.cells ∧ slots ≤ R.slots)
    (hP : va_P D cl w0 H) (hS : va_S A H0 H locs) (hA : ∀ q, H0.size ≤ q → A q)
    (kk : ∀ (H : Heap) (locs : List Loc), va_P D cl w0 H → va_S A H0 H locs → W p l e R s m args below meth c H locs cells slots Q (F0 m (pc + 3) ls (.int r :: rest))) : W p l e R s m args below meth c H locs cells slots Q (F0 m pc ls st0) :=
  cq_i (va_runS (g := F0 m pc ls st0) S (hM H.size) cw ⟨fun a U g mk q => q, fun U hU hW => ⟨rfl, congrArg Array.size hU⟩⟩ rfl hn hsize hst (lv_room hW) hdg hf) hP hS hA kk
theorem cq_Sl {r : Int64} (S : CallFix p m c cc nL s args Ts own) (hM : pq_l l y ws rm As r) (cw : CallB R s args own index y bytes maxL ret ws rm 0 0 n ∧ (Cond.static y).before args s = true) (hst : st0 = As.reverse ++ rest) (hn : As.length = n) (hsize : ls.size = nL) (hW : (rest.map fun v => v.category).sum ≤ 8) (hdg : decode cc pc = .ok (.invokestatic index, 3)) (hf : cells ≤ R.cells ∧ slots ≤ R.slots)
    (hP : va_P D cl w0 H) (hS : va_S A H0 H locs) (hA : ∀ q, H0.size ≤ q → A q)
    (kk : ∀ (H : Heap) (locs : List Loc), va_P D cl w0 H → va_S A H0 H locs → W p l e R s m args below meth c H locs cells slots Q (F0 m (pc + 3) ls (.long r :: rest))) : W p l e R s m args below meth c H locs cells slots Q (F0 m pc ls st0) :=
  cq_l (va_runS (g := F0 m pc ls st0) S (hM H.size) cw ⟨fun a U g mk q => q, fun U hU hW => ⟨rfl, congrArg Array.size hU⟩⟩ rfl hn hsize hst (lv_room hW) hdg hf) hP hS hA kk
/-- a virtual call of a method that only reads -/
theorem cq_Vi {r : Int32} (S : CallFix p m c cc nL s args Ts own) (hM : pr_i l y ws rm D cl w1 tys (.ref b :: As) r) (cw : CallW R s args own C index y bytes maxL ret ws rm 0 0 n) (hK : va_K D cl tys0 s) (hP1 : va_P D cl w1 H) (hK1 : va_K D cl tys s) (q0 : Nat) (he : w0[q0]? = some (b, .inr (ci, fs))) (hc : cl[ci]? = some (C, T, N)) (hst : st0 = As.reverse ++ .ref b :: rest) (hn : As.length = n) (hsize : ls.size = nL) (hW : (rest.map fun v => v.category).sum ≤ 8) (hdg : decode cc pc = .ok (.invokevirtual index, 3)) (hf : cells ≤ R.cells ∧ slots ≤ R.slots)
    (hP : va_P D cl w0 H) (hS : va_S A H0 H locs) (hA : ∀ q, H0.size ≤ q → A q)
    (kk : ∀ (H : Heap) (locs : List Loc), va_P D cl w0 H → va_S A H0 H locs → W p l e R s m args below meth c H locs cells slots Q (F0 m (pc + 3) ls (.int r :: rest))) : W p l e R s m args below meth c H locs cells slots Q (F0 m pc ls st0) :=
  cq_i (va_runV (g := F0 m pc ls st0) S (hM H.size) cw ⟨fun a U g mk q => ⟨q.1, q.2.1, q.2.2.1, va_K.moved (u := U) (U := U.calling g mk a) (Vm.Alike.refl U.vm) q.2.2.2⟩, va_recv hK hP hc he, fun U hU hW => ⟨rfl, by rw [hU], by rw [hU]; exact hP1, va_K.moved hW.alike hK1⟩⟩ rfl hn hsize hst (lv_room hW) hdg hf) hP hS hA kk
theorem cq_Vl {r : Int64} (S : CallFix p m c cc nL s args Ts own) (hM : pr_l l y ws rm D cl w1 tys (.ref b :: As) r) (cw : CallW R s args own C index y bytes maxL ret ws rm 0 0 n) (hK : va_K D cl tys0 s) (hP1 : va_P D cl w1 H) (hK1 : va_K D cl tys s) (q0 : Nat) (he : w0[q0]? = some (b, .inr (ci, fs))) (hc : cl[ci]? = some (C, T, N)) (hst : st0 = As.reverse ++ .ref b :: rest) (hn : As.length = n) (hsize : ls.size = nL) (hW : (rest.map fun v => v.category).sum ≤ 8) (hdg : decode cc pc = .ok (.invokevirtual index, 3)) (hf : cells ≤ R.cells ∧ slots ≤ R.slots)
    (hP : va_P D cl w0 H) (hS : va_S A H0 H locs) (hA : ∀ q, H0.size ≤ q → A q)
    (kk : ∀ (H : Heap) (locs : List Loc), va_P D cl w0 H → va_S A H0 H locs → W p l e R s m args below meth c H locs cells slots Q (F0 m (pc + 3) ls (.long r :: rest))) : W p l e R s m args below meth c H locs cells slots Q (F0 m pc ls st0) :=
  cq_l (va_runV (g := F0 m pc ls st0) S (hM H.size) cw ⟨fun a U g mk q => ⟨q.1, q.2.1, q.2.2.1, va_K.moved (u := U) (U := U.calling g mk a) (Vm.Alike.refl U.vm) q.2.2.2⟩, va_recv hK hP hc he, fun U hU hW => ⟨rfl, by rw [hU], by rw [hU]; exact hP1, va_K.moved hW.alike hK1⟩⟩ rfl hn hsize hst (lv_room hW) hdg hf) hP hS hA kk
/-- a call that turns the cells wc into W1; w2: the world behind it, in the caller's order -/
theorem cm_v {a : Array Value} {wc wr W1 w2 : va_W}
    (hr : va_Run p l e R s m args below meth c H locs cells slots 0 0 (F0 m pc ls st0) rest (va_Qv (fun (_ : Unit) => True) (fun _ t => va_P D cl W1 t.heap ∧ va_K D cl tys t ∧ va_D (va_A wc H.size) W1) (va_A wc H.size) a) (va_A wc H.size))
    (hP : va_P D cl w0 H) (hD : va_D A w0) (hS : va_S A H0 H locs) (hA : ∀ q, H0.size ≤ q → A q) (isC isR ord : List Nat) (hC : isC.map (fun i => w0[i]?) = wc.map some) (hRr : isR.map (fun i => w0[i]?) = wr.map some) (hn : va_nd isR = true) (hdis : ∀ i ∈ isR, i ∉ isC) (ho1 : ord.filterMap (fun i => (wr ++ W1)[i]?) = w2) (ho2 : ord.map (fun i => (wr ++ W1)[i]?) = w2.map some) (ho3 : va_nd ord = true)
    (kk : ∀ (H : Heap) (locs : List Loc), va_P D cl w2 H → va_D A w2 → va_S A H0 H locs → W p l e R s m args below meth c H locs cells slots Q (F0 m (pc + 3) ls (rest))) : W p l e R s m args below meth c H locs cells slots Q (F0 m pc ls st0) := by
  have hFc := va_free (wc := wc) hD hS hA isC hC
  refine va_callv hr hS (fun q _ h => hFc q h) hFc (fun u t H1 locs1 ht hvm hp hB hz hk hS1 => ?_)
  obtain ⟨hP1, hK1, hD1⟩ := hB
  rw [ht] at hP1
  obtain ⟨hP2, hD2⟩ := va_join hP hD isC isR hC hRr hn hdis hk hFc hP1 hD1
  exact kk H1 locs1 (hP2.sub ord ho1) (hD2.sub ord ho3 ho2) hS1
/-- a call that turns the cells wc into W1; w2: the world behind it, in the caller's order -/
theorem cm_i {r : Int32} {a : Array Value} {wc wr W1 w2 : va_W}
    (hr : va_Run p l e R s m args below meth c H locs cells slots 0 0 (F0 m pc ls st0) rest (va_Qi (fun x (_ : Unit) => x = r) (fun _ t => va_P D cl W1 t.heap ∧ va_K D cl tys t ∧ va_D (va_A wc H.size) W1) (va_A wc H.size) a) (va_A wc H.size))
    (hP : va_P D cl w0 H) (hD : va_D A w0) (hS : va_S A H0 H locs) (hA : ∀ q, H0.size ≤ q → A q) (isC isR ord : List Nat) (hC : isC.map (fun i => w0[i]?) = wc.map some) (hRr : isR.map (fun i => w0[i]?) = wr.map some) (hn : va_nd isR = true) (hdis : ∀ i ∈ isR, i ∉ isC) (ho1 : ord.filterMap (fun i => (wr ++ W1)[i]?) = w2) (ho2 : ord.map (fun i => (wr ++ W1)[i]?) = w2.map some) (ho3 : va_nd ord = true)
    (kk : ∀ (H : Heap) (locs : List Loc), va_P D cl w2 H → va_D A w2 → va_S A H0 H locs → W p l e R s m args below meth c H locs cells slots Q (F0 m (pc + 3) ls (.int r :: rest))) : W p l e R s m args below meth c H locs cells slots Q (F0 m pc ls st0) := by
  have hFc := va_free (wc := wc) hD hS hA isC hC
  refine va_calli hr hS (fun q _ h => hFc q h) hFc (fun x u t H1 locs1 ht hvm hp hB hz hk hS1 => ?_)
  obtain ⟨hP1, hK1, hD1⟩ := hB
  rw [ht] at hP1
  obtain ⟨hP2, hD2⟩ := va_join hP hD isC isR hC hRr hn hdis hk hFc hP1 hD1
  subst hp
  exact kk H1 locs1 (hP2.sub ord ho1) (hD2.sub ord ho3 ho2) hS1
/-- a call that turns the cells wc into W1; w2: the world behind it, in the caller's order -/
theorem cm_l {r : Int64} {a : Array Value} {wc wr W1 w2 : va_W}
    (hr : va_Run p l e R s m args below meth c H locs cells slots 0 0 (F0 m pc ls st0) rest (va_Ql (fun x (_ : Unit) => x = r) (fun _ t => va_P D cl W1 t.heap ∧ va_K D cl tys t ∧ va_D (va_A wc H.size) W1) (va_A wc H.size) a) (va_A wc H.size))
    (hP : va_P D cl w0 H) (hD : va_D A w0) (hS : va_S A H0 H locs) (hA : ∀ q, H0.size ≤ q → A q) (isC isR ord : List Nat) (hC : isC.map (fun i => w0[i]?) = wc.map some) (hRr : isR.map (fun i => w0[i]?) = wr.map some) (hn : va_nd isR = true) (hdis : ∀ i ∈ isR, i ∉ isC) (ho1 : ord.filterMap (fun i => (wr ++ W1)[i]?) = w2) (ho2 : ord.map (fun i => (wr ++ W1)[i]?) = w2.map some) (ho3 : va_nd ord = true)
    (kk : ∀ (H : Heap) (locs : List Loc), va_P D cl w2 H → va_D A w2 → va_S A H0 H locs → W p l e R s m args below meth c H locs cells slots Q (F0 m (pc + 3) ls (.long r :: rest))) : W p l e R s m args below meth c H locs cells slots Q (F0 m pc ls st0) := by
  have hFc := va_free (wc := wc) hD hS hA isC hC
  refine va_calll hr hS (fun q _ h => hFc q h) hFc (fun x u t H1 locs1 ht hvm hp hB hz hk hS1 => ?_)
  obtain ⟨hP1, hK1, hD1⟩ := hB
  rw [ht] at hP1
  obtain ⟨hP2, hD2⟩ := va_join hP hD isC isR hC hRr hn hdis hk hFc hP1 hD1
  subst hp
  exact kk H1 locs1 (hP2.sub ord ho1) (hD2.sub ord ho3 ho2) hS1
end
