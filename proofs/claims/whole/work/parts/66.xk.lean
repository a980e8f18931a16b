-- what the tables alone say (no cells): Object[] can be made, its Class object, an Arc may be stored there
def xk (mi : Nat) (U : State) : Prop := va_AO "java/lang/Object" U ∧ va_Mi "[Ljava/lang/Object;" mi U ∧ va_Dc U ∧ va_Nw (.castable "CurveScan$Arc" "java/lang/Object") U
theorem xk_warm {mi : Nat} {s U : State} (hW : s.WarmedH U.vm) (h : xk mi s) : xk mi U := ⟨va_AO.moved hW.alike h.1, va_Mi.moved hW.alike h.2.1, va_Dc.moved hW.alike h.2.2.1, va_Nw.warmC hW h.2.2.2⟩
theorem xk_calling {mi : Nat} {U : State} {g : JFrame} {mk : MethodId} {a : Array Value} (h : xk mi U) : xk mi (U.calling g mk a) := ⟨va_AO.moved (u := U) (U := U.calling g mk a) (Vm.Alike.refl U.vm) h.1, va_Mi.moved (u := U) (U := U.calling g mk a) (Vm.Alike.refl U.vm) h.2.1, va_Dc.moved (u := U) (U := U.calling g mk a) (Vm.Alike.refl U.vm) h.2.2.1, va_Nw.same rfl (u := U) (U := U.calling g mk a) rfl h.2.2.2⟩
theorem xk_asg {mi : Nat} {s : State} (h : xk mi s) : ∀ comp c0 : ClassId, s.vm.findClass "java/lang/Object" = some comp → s.vm.findClass R_A = some c0 → s.vm.assignable c0 comp = true := by
  intro comp c0 h1 h2
  obtain ⟨c1, t1, f1, f2, f3⟩ := Cond.castable_spec (va_Nw.use (A := #[]) rfl h.2.2.2)
  have e1 : c0 = c1 := Option.some.inj (h2.symm.trans f1)
  have e2 : comp = t1 := Option.some.inj (h1.symm.trans f2)
  rw [e1, e2]
  exact f3
theorem pm_in {X pl : va_W} {n : Nat × va_E} : ((X ++ pl) ++ [n]).Perm ((X ++ [n]) ++ pl) := by
  rw [List.append_assoc, List.append_assoc]
  exact List.Perm.append_left X List.perm_append_comm
/-- a method that makes an array and answers it -/
abbrev al_r (l : Launch) (y : MethodName) (ws : List Cond) (rm : Room) (D : va_G) (cl : List vw_C) (W0 : va_W) (W1 : ClassId → Nat → va_W) (tys : List (ClassId × FieldType)) (As : List Value) (mi mc ms : Nat) : Prop := ∀ sz : Nat, Met l y ws rm (va_Pc As (fun U => U.heap.size = sz ∧ va_P D cl W0 U.heap ∧ va_K D cl tys U ∧ va_D (fun _ => True) W0 ∧ xk mi U)) (va_Qr (fun (_ : ClassId) => True) (fun u a t => va_P D cl (W1 u a) t.heap ∧ va_K D cl (tys ++ [(u, .object "java/lang/Object")]) t ∧ va_D (va_A W0 sz) (W1 u a)) (va_A W0 sz)) mc ms (va_A W0 sz)
theorem al_blind {D : va_G} {cl : List vw_C} {W0 : va_W} {tys : List (ClassId × FieldType)} {As : List Value} {sz mi : Nat} : FrameBlind (va_Pc As (fun U => U.heap.size = sz ∧ va_P D cl W0 U.heap ∧ va_K D cl tys U ∧ va_D (fun _ => True) W0 ∧ xk mi U)) :=
  fun a U g mk q => ⟨q.1, q.2.1, q.2.2.1, va_K.moved (u := U) (U := U.calling g mk a) (Vm.Alike.refl U.vm) q.2.2.2.1, q.2.2.2.2.1, xk_calling q.2.2.2.2.2⟩
theorem al_pre {s : State} {H : Heap} {A : Nat → Prop} {D : va_G} {cl : List vw_C} {W0 : va_W} {tys : List (ClassId × FieldType)} {As : List Value} {mi : Nat} (hP : va_P D cl W0 H) (hK : va_K D cl tys s) (hD : va_D A W0) (hx : xk mi s) : ∀ U : State, U.heap = H → s.WarmedH U.vm → va_Pc As (fun U => U.heap.size = H.size ∧ va_P D cl W0 U.heap ∧ va_K D cl tys U ∧ va_D (fun _ => True) W0 ∧ xk mi U) As.toArray U :=
  fun U hU hW => ⟨rfl, by rw [hU], by rw [hU]; exact hP, va_K.moved hW.alike hK, hD.weaken (fun _ _ _ _ => trivial), xk_warm hW hx⟩
section
variable {p : Program} {l : Launch} {e : Env} {R : Room} {s : State} {m : MethodId} {args : Array Value} {below : List Frame} {meth : Method} {c : Code} {H : Heap} {locs : List Loc} {cells slots : Nat} {Q : State → Prop}
variable {D : va_G} {cl : List vw_C} {A : Nat → Prop} {H0 : Heap} {pc : Nat} {ls : Array Slot} {st0 rest : List Value}
/-- a call that makes an array and answers it, a pool beside it -/
theorem cal_r {aa : Array Value} {tys : List (ClassId × FieldType)} {X pl cx wr : va_W} {rx : ClassId → Nat → va_W} {mc ms : Nat}
    (hr : va_Run p l e R s m args below meth c H locs cells slots mc ms (F0 m pc ls st0) rest (va_Qr (fun (_ : ClassId) => True) (fun u a t => va_P D cl (rx u a ++ pl) t.heap ∧ va_K D cl (tys ++ [(u, .object "java/lang/Object")]) t ∧ va_D (va_A (cx ++ pl) H.size) (rx u a ++ pl)) (va_A (cx ++ pl) H.size) aa) (va_A (cx ++ pl) H.size))
    (hP : va_P D cl (X ++ pl) H) (hD : va_D A (X ++ pl)) (hS : va_S A H0 H locs) (hA : ∀ q, H0.size ≤ q → A q) (isC isR : List Nat) (hC : isC.map (fun i => X[i]?) = cx.map some) (hRr : isR.map (fun i => X[i]?) = wr.map some) (hn : va_nd isR = true) (hdis : ∀ i ∈ isR, i ∉ isC)
    (kk : ∀ (u : ClassId) (a : Nat) (H : Heap) (locs : List Loc), va_K D cl (tys ++ [(u, .object "java/lang/Object")]) s → va_P D cl ((wr ++ rx u a) ++ pl) H → va_D A ((wr ++ rx u a) ++ pl) → va_S A H0 H locs → W p l e R s m args below meth c H locs (cells + mc) (slots + ms) Q (F0 m (pc + 3) ls (.ref a :: rest))) : W p l e R s m args below meth c H locs cells slots Q (F0 m pc ls st0) := by
  have hFc := va_freeP hD hS hA isC hC
  refine va_callr hr hS (fun q _ h => hFc q h) hFc (fun u a t H1 locs1 ht hvm hp hB hz hk hS1 => ?_)
  obtain ⟨hP1, hK1, hD1⟩ := hB
  rw [ht] at hP1
  obtain ⟨hP2, hD2⟩ := va_joinP hP hD isC isR hC hRr hn hdis hk hFc hP1 hD1
  exact kk u a H1 locs1 (va_K.moved hvm.symm hK1) hP2 hD2 hS1
end
theorem nl_v {cap : Nat} (h2 : 2 ≤ cap) (hc : cap ≤ 1000) : Int32.ofNat cap + (if (nI (cap + 1) - Int32.ofNat cap) < (Int32.ofNat cap >>> ((1 : Int32) &&& 31)) then (Int32.ofNat cap >>> ((1 : Int32) &&& 31)) else (nI (cap + 1) - Int32.ofNat cap)) = nI (cap + cap / 2) := by
  have es : Int32.ofNat cap >>> ((1 : Int32) &&& 31) = nI (cap / 2) := by
    have k := pk_shrN (n := cap) (by omega) ((1 : Int32) &&& 31) 1 (by decide)
    rw [Nat.pow_one] at k
    exact k
  have ed : nI (cap + 1) - Int32.ofNat cap = nI 1 := by
    have k := pk_sub (a := cap + 1) (b := cap) (by omega)
    rw [Nat.add_sub_cancel_left] at k
    exact k
  rw [es, ed]
  by_cases c : 1 < cap / 2
  · rw [if_pos (nI_lt c (by omega))]
    exact nI_add cap (cap / 2)
  · rw [if_neg (nI_nlt (by omega) (by decide))]
    have hd : cap / 2 = 1 := by omega
    rw [hd]
    exact nI_add cap 1
/-- ArrayList's shared empty array, in the heap H, outside A -/
def xz (t0 : Nat) (A : Nat → Prop) (U : State) (H : Heap) : Prop := va_Z "java/util/ArrayList" "DEFAULTCAPACITY_EMPTY_ELEMENTDATA" "[Ljava/lang/Object;" (.ref t0) A U H ∧ va_T (.object "java/lang/Object") t0 0 (fun _ => .null) A U H
abbrev az_r (l : Launch) (y : MethodName) (ws : List Cond) (rm : Room) (D : va_G) (cl : List vw_C) (W0 : va_W) (W1 : ClassId → Nat → va_W) (tys : List (ClassId × FieldType)) (As : List Value) (mi t0 mc ms : Nat) : Prop := ∀ sz : Nat, Met l y ws rm (va_Pc As (fun U => U.heap.size = sz ∧ va_P D cl W0 U.heap ∧ va_K D cl tys U ∧ va_D (fun _ => True) W0 ∧ xk mi U ∧ xz t0 (va_A W0 sz) U U.heap)) (va_Qr (fun (_ : ClassId) => True) (fun u a t => va_P D cl (W1 u a) t.heap ∧ va_K D cl (tys ++ [(u, .object "java/lang/Object")]) t ∧ va_D (va_A W0 sz) (W1 u a)) (va_A W0 sz)) mc ms (va_A W0 sz)
theorem xz_calling {t0 : Nat} {A : Nat → Prop} {U : State} {g : JFrame} {mk : MethodId} {a : Array Value} {H : Heap} (h : xz t0 A U H) : xz t0 A (U.calling g mk a) H := ⟨va_Z.moved (u := U) (U := U.calling g mk a) (Vm.Alike.refl U.vm) h.1, va_T.moved (u := U) (U := U.calling g mk a) (Vm.Alike.refl U.vm) h.2⟩
theorem az_blind {D : va_G} {cl : List vw_C} {W0 : va_W} {tys : List (ClassId × FieldType)} {As : List Value} {sz mi t0 : Nat} : FrameBlind (va_Pc As (fun U => U.heap.size = sz ∧ va_P D cl W0 U.heap ∧ va_K D cl tys U ∧ va_D (fun _ => True) W0 ∧ xk mi U ∧ xz t0 (va_A W0 sz) U U.heap)) :=
  fun a U g mk q => ⟨q.1, q.2.1, q.2.2.1, va_K.moved (u := U) (U := U.calling g mk a) (Vm.Alike.refl U.vm) q.2.2.2.1, q.2.2.2.2.1, xk_calling q.2.2.2.2.2.1, xz_calling q.2.2.2.2.2.2⟩
theorem xz_to {t0 : Nat} {A B : Nat → Prop} {s U : State} {H0 H : Heap} {locs : List Loc} (h : xz t0 A s H0) (hS : va_S A H0 H locs) (hB : ∀ q, B q → A q) (hvm : s.vm.Alike U.vm) : xz t0 B U H :=
  ⟨va_Z.moved hvm (va_Z.narrow (va_Z.kept h.1 (fun a h1 h2 => hS.2.1 a h1 h2)) hB), va_T.moved hvm (va_T.narrow (va_T.kept h.2 (fun a h1 h2 => hS.2.1 a h1 h2)) hB)⟩
theorem az_pre {s : State} {H0 H : Heap} {locs : List Loc} {A : Nat → Prop} {D : va_G} {cl : List vw_C} {W0 : va_W} {tys : List (ClassId × FieldType)} {As : List Value} {mi t0 : Nat} (hP : va_P D cl W0 H) (hK : va_K D cl tys s) (hD : va_D A W0) (hx : xk mi s) (hz : xz t0 A s H0) (hS : va_S A H0 H locs) (hF : ∀ q, va_A W0 H.size q → A q) : ∀ U : State, U.heap = H → s.WarmedH U.vm → va_Pc As (fun U => U.heap.size = H.size ∧ va_P D cl W0 U.heap ∧ va_K D cl tys U ∧ va_D (fun _ => True) W0 ∧ xk mi U ∧ xz t0 (va_A W0 H.size) U U.heap) As.toArray U :=
  fun U hU hW => ⟨rfl, by rw [hU], by rw [hU]; exact hP, va_K.moved hW.alike hK, hD.weaken (fun _ _ _ _ => trivial), xk_warm hW hx, by rw [hU]; exact xz_to hz hS hF hW.alike⟩
