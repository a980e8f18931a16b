-- cells in any order; one of a pool
theorem vp_one {D : va_G} {cl : List vw_C} {ws : va_W} {H : Heap} (h : va_P D cl ws H) {k : Nat} {c : Nat × va_E} (hk : ws[k]? = some c) : va_P D cl [c] H := fun n q hq => by
  cases n with
  | zero => cases hq; exact h k c hk
  | succ n => cases hq
theorem pl_at {X pl : va_W} {n : Nat} {c : Nat × va_E} (h : pl[n]? = some c) : (X ++ pl)[X.length + n]? = some c := by
  rw [List.getElem?_append_right (Nat.le_add_right _ _), Nat.add_sub_cancel_left]
  exact h
theorem vp_perm {D : va_G} {cl : List vw_C} {ws ws' : va_W} {H : Heap} (hp : ws.Perm ws') (h : va_P D cl ws H) : va_P D cl ws' H := fun k q hq => by
  have h1 : q ∈ ws := hp.mem_iff.mpr (List.mem_of_getElem? hq)
  obtain ⟨n, hn⟩ := List.mem_iff_getElem?.mp h1
  exact h n q hn
theorem vd_iff {A : Nat → Prop} {ws : va_W} : va_D A ws ↔ (ws.map Prod.fst).Nodup ∧ ∀ q ∈ ws, A q.1 := by
  constructor
  · rintro ⟨h1, h2⟩
    refine ⟨?_, fun q hq => by
      obtain ⟨n, hn⟩ := List.mem_iff_getElem?.mp hq
      exact h2 n q hn⟩
    rw [List.nodup_iff_pairwise_ne, List.pairwise_iff_getElem]
    intro i j hi hj hij he
    rw [List.length_map] at hi hj
    rw [List.getElem_map, List.getElem_map] at he
    have := h1 i j ws[i] ws[j] (List.getElem?_eq_getElem hi) (List.getElem?_eq_getElem hj) he
    omega
  · rintro ⟨h1, h2⟩
    refine ⟨fun i j p q hp hq he => ?_, fun k q hq => h2 q (List.mem_of_getElem? hq)⟩
    obtain ⟨hi, ei⟩ := List.getElem?_eq_some_iff.mp hp
    obtain ⟨hj, ej⟩ := List.getElem?_eq_some_iff.mp hq
    have hi' : i < (ws.map Prod.fst).length := by rw [List.length_map]; exact hi
    have hj' : j < (ws.map Prod.fst).length := by rw [List.length_map]; exact hj
    have e : (ws.map Prod.fst)[i] = (ws.map Prod.fst)[j] := by
      rw [List.getElem_map, List.getElem_map, ei, ej]; exact he
    rcases Nat.lt_trichotomy i j with z | z | z
    · exact absurd e (List.pairwise_iff_getElem.mp (List.nodup_iff_pairwise_ne.mp h1) i j hi' hj' z)
    · exact z
    · exact absurd e.symm (List.pairwise_iff_getElem.mp (List.nodup_iff_pairwise_ne.mp h1) j i hj' hi' z)
theorem vd_perm {A : Nat → Prop} {ws ws' : va_W} (hp : ws.Perm ws') (h : va_D A ws) : va_D A ws' := by
  rw [vd_iff] at h ⊢
  exact ⟨(hp.map Prod.fst).nodup_iff.mp h.1, fun q hq => h.2 q (hp.mem_iff.mpr hq)⟩
theorem pl_out {pl : va_W} : ∀ {n : Nat} {c : Nat × va_E}, pl[n]? = some c → ∃ pl' : va_W, pl.Perm (c :: pl') := by
  induction pl with
  | nil => intro n c h; cases h
  | cons a l ih =>
    intro n c h
    cases n with
    | zero => cases h; exact ⟨l, List.Perm.refl _⟩
    | succ n =>
      obtain ⟨l', hl⟩ := ih h
      exact ⟨a :: l', (hl.cons a).trans (List.Perm.swap c a l')⟩
theorem pl_move {a b c l e : Nat × va_E} {pl pl' : va_W} (h : pl.Perm (c :: pl')) : ([a, b, l, e] ++ pl).Perm ([a, b, c] ++ ([l, e] ++ pl')) :=
  (List.Perm.append_left [a, b, l, e] h).trans (((List.perm_middle (l₁ := [l, e]) (a := c) (l₂ := pl')).cons b).cons a)
section
variable {p : Program} {l : Launch} {e : Env} {R : Room} {s : State} {m : MethodId} {args : Array Value} {below : List Frame} {meth : Method} {c : Code} {H : Heap} {locs : List Loc} {cells slots : Nat} {Q : State → Prop}
variable {D : va_G} {cl : List vw_C} {A : Nat → Prop} {H0 : Heap} {pc : Nat} {ls : Array Slot} {st0 rest : List Value}
/-- a call that turns the cells wc into W1, the rest in any order -/
theorem cm_lP {r : Int64} {a : Array Value} {tys : List (ClassId × FieldType)} {w0 wc rem W1 w2 : va_W}
    (hr : va_Run p l e R s m args below meth c H locs cells slots 0 0 (F0 m pc ls st0) rest (va_Ql (fun x (_ : Unit) => x = r) (fun _ t => va_P D cl W1 t.heap ∧ va_K D cl tys t ∧ va_D (va_A wc H.size) W1) (va_A wc H.size) a) (va_A wc H.size))
    (hP : va_P D cl w0 H) (hD : va_D A w0) (hS : va_S A H0 H locs) (hA : ∀ q, H0.size ≤ q → A q) (isC : List Nat) (hC : isC.map (fun i => wc[i]?) = wc.map some) (hp1 : w0.Perm (wc ++ rem)) (hp2 : (W1 ++ rem).Perm w2)
    (kk : ∀ (H : Heap) (locs : List Loc), va_P D cl w2 H → va_D A w2 → va_S A H0 H locs → W p l e R s m args below meth c H locs cells slots Q (F0 m (pc + 3) ls (.long r :: rest))) : W p l e R s m args below meth c H locs cells slots Q (F0 m pc ls st0) := by
  have hP' := vp_perm hp1 hP
  have hD' := vd_perm hp1 hD
  have hFc : ∀ q, va_A wc H.size q → A q := by
    intro q hq
    rcases hq with ⟨k, x, hk⟩ | hq
    · have hm : (q, x) ∈ wc ++ rem := List.mem_append_left _ (List.mem_of_getElem? hk)
      exact (vd_iff.mp hD').2 (q, x) hm
    · exact hA q (Nat.le_trans hS.1 hq)
  refine va_calll hr hS (fun q _ h => hFc q h) hFc (fun x u t H1 locs1 ht hvm hp hB hz hk hS1 => ?_)
  obtain ⟨hP1, hK1, hD1⟩ := hB
  rw [ht] at hP1
  obtain ⟨hP2, hD2⟩ := va_joinQ (X := wc) (cx := wc) (wr := []) (pl := rem) hP' hD' isC [] hC rfl (by decide) (by intro i hi; cases hi) hk hFc hP1 hD1
  subst hp
  exact kk H1 locs1 (vp_perm hp2 hP2) (vd_perm hp2 hD2) hS1
end
section
variable {p : Program} {l : Launch} {e : Env} {R : Room} {s : State} {m : MethodId} {args : Array Value} {below : List Frame} {meth : Method} {c : Code} {H : Heap} {locs : List Loc} {cells slots : Nat} {Q : State → Prop}
variable {D : va_G} {cl : List vw_C} {A : Nat → Prop} {H0 : Heap} {pc : Nat} {ls : Array Slot} {st0 rest : List Value}
/-- a call that turns the cells wc of X into W1, a pool beside it -/
theorem cm_vQ {a : Array Value} {tys : List (ClassId × FieldType)} {X X2 pl wc wr W1 : va_W}
    (hr : va_Run p l e R s m args below meth c H locs cells slots 0 0 (F0 m pc ls st0) rest (va_Qv (fun (_ : Unit) => True) (fun _ t => va_P D cl W1 t.heap ∧ va_K D cl tys t ∧ va_D (va_A wc H.size) W1) (va_A wc H.size) a) (va_A wc H.size))
    (hP : va_P D cl (X ++ pl) H) (hD : va_D A (X ++ pl)) (hS : va_S A H0 H locs) (hA : ∀ q, H0.size ≤ q → A q) (isC isR ord : List Nat) (hC : isC.map (fun i => X[i]?) = wc.map some) (hC' : isC.map (fun i => (X ++ pl)[i]?) = wc.map some) (hRr : isR.map (fun i => X[i]?) = wr.map some) (hn : va_nd isR = true) (hdis : ∀ i ∈ isR, i ∉ isC) (ho2 : ord.map (fun i => (wr ++ W1)[i]?) = X2.map some) (ho3 : va_nd ord = true)
    (kk : ∀ (H : Heap) (locs : List Loc), va_P D cl (X2 ++ pl) H → va_D A (X2 ++ pl) → va_S A H0 H locs → W p l e R s m args below meth c H locs cells slots Q (F0 m (pc + 3) ls rest)) : W p l e R s m args below meth c H locs cells slots Q (F0 m pc ls st0) := by
  have hFc := va_free (wc := wc) hD hS hA isC hC'
  refine va_callv hr hS (fun q _ h => hFc q h) hFc (fun u t H1 locs1 ht hvm hp hB hz hk hS1 => ?_)
  obtain ⟨hP1, hK1, hD1⟩ := hB
  rw [ht] at hP1
  obtain ⟨hP2, hD2⟩ := va_joinQ hP hD isC isR hC hRr hn hdis hk hFc hP1 hD1
  exact kk H1 locs1 (hP2.part ord ho2) (hD2.part ord ho3 ho2) hS1
end
