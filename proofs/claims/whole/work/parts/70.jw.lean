-- a call whose cells are a part of the world; the rest stays
theorem vk_r {D : va_G} {cl : List vw_C} {a b : List (ClassId × FieldType)} {U : State} (h : va_K D cl (a ++ b) U) : va_K D cl b U :=
  ⟨h.1, fun k q hq => h.2 (a.length + k) q (by rw [List.getElem?_append_right (Nat.le_add_right _ _), Nat.add_sub_cancel_left]; exact hq)⟩
theorem vk_l {D : va_G} {cl : List vw_C} {a b : List (ClassId × FieldType)} {U : State} (h : va_K D cl (a ++ b) U) : va_K D cl a U :=
  ⟨h.1, fun k q hq => h.2 k q (by
    have hk : k < a.length := (List.getElem?_eq_some_iff.mp hq).1
    rw [List.getElem?_append_left hk]; exact hq)⟩
theorem vp_r {D : va_G} {cl : List vw_C} {a b : va_W} {H : Heap} (h : va_P D cl (a ++ b) H) : va_P D cl b H :=
  fun k q hq => h (a.length + k) q (by rw [List.getElem?_append_right (Nat.le_add_right _ _), Nat.add_sub_cancel_left]; exact hq)
theorem vp_l {D : va_G} {cl : List vw_C} {a b : va_W} {H : Heap} (h : va_P D cl (a ++ b) H) : va_P D cl a H :=
  fun k q hq => h k q (by
    have hk : k < a.length := (List.getElem?_eq_some_iff.mp hq).1
    rw [List.getElem?_append_left hk]; exact hq)
theorem vp_app {D : va_G} {cl : List vw_C} {a b : va_W} {H : Heap} (h1 : va_P D cl a H) (h2 : va_P D cl b H) : va_P D cl (a ++ b) H := by
  intro k q hq
  by_cases c : k < a.length
  · rw [List.getElem?_append_left c] at hq
    exact h1 k q hq
  · rw [List.getElem?_append_right (Nat.le_of_not_lt c)] at hq
    exact h2 _ q hq
theorem vd_r {A : Nat → Prop} {a b : va_W} (h : va_D A (a ++ b)) : va_D A b := by
  rw [vd_iff] at h ⊢
  refine ⟨?_, fun q hq => h.2 q (List.mem_append_right _ hq)⟩
  have h1 := h.1
  rw [List.map_append] at h1
  exact (List.nodup_append.mp h1).2.1
theorem vd_l {A : Nat → Prop} {a b : va_W} (h : va_D A (a ++ b)) : va_D A a := by
  rw [vd_iff] at h ⊢
  refine ⟨?_, fun q hq => h.2 q (List.mem_append_left _ hq)⟩
  have h1 := h.1
  rw [List.map_append] at h1
  exact (List.nodup_append.mp h1).1
theorem vA_mem {W0 : va_W} {sz q : Nat} : va_A W0 sz q ↔ (∃ e, (q, e) ∈ W0) ∨ sz ≤ q := by
  constructor
  · rintro (⟨k, e, hk⟩ | h)
    · exact Or.inl ⟨e, List.mem_of_getElem? hk⟩
    · exact Or.inr h
  · rintro (⟨e, he⟩ | h)
    · obtain ⟨k, hk⟩ := List.mem_iff_getElem?.mp he
      exact Or.inl ⟨k, e, hk⟩
    · exact Or.inr h
theorem jw_out {D : va_G} {cl : List vw_C} {A : Nat → Prop} {X W0 : va_W} {H : Heap} (hP : va_P D cl (X ++ W0) H) (hD : va_D A (X ++ W0)) {q : Nat × va_E} (hq : q ∈ X) : q.1 < H.size ∧ ¬ va_A W0 H.size q.1 := by
  obtain ⟨k, hk⟩ := List.mem_iff_getElem?.mp hq
  have hlt := (vp_l hP k q hk).lt
  refine ⟨hlt, fun h => ?_⟩
  rcases vA_mem.mp h with ⟨e, he⟩ | h
  · have h1 := (vd_iff.mp hD).1
    rw [List.map_append] at h1
    exact (List.nodup_append.mp h1).2.2 q.1 (List.mem_map_of_mem hq) q.1 (List.mem_map.mpr ⟨_, he, rfl⟩) rfl
  · exact absurd hlt (Nat.not_lt.mpr h)
theorem jw_join {D : va_G} {cl : List vw_C} {A : Nat → Prop} {X W0 W1 : va_W} {H H1 : Heap} (hP : va_P D cl (X ++ W0) H) (hD : va_D A (X ++ W0)) (hF : ∀ q, va_A W0 H.size q → A q) (hk : ∀ q : Nat, q < H.size → ¬ va_A W0 H.size q → H1[q]? = H[q]?) (hP1 : va_P D cl W1 H1) (hD1 : va_D (va_A W0 H.size) W1) : va_P D cl (X ++ W1) H1 ∧ va_D A (X ++ W1) := by
  constructor
  · refine vp_app ((vp_l hP).kept fun k q hq => ?_) hP1
    have o := jw_out hP hD (List.mem_of_getElem? hq)
    exact hk q.1 o.1 o.2
  · have d1 := vd_iff.mp hD1
    have d0 := vd_iff.mp (vd_l hD)
    rw [vd_iff, List.map_append]
    refine ⟨List.nodup_append.mpr ⟨d0.1, d1.1, ?_⟩, fun q hq => ?_⟩
    · intro a ha b hb e
      obtain ⟨qa, h1, rfl⟩ := List.mem_map.mp ha
      obtain ⟨qb, h2, rfl⟩ := List.mem_map.mp hb
      have o := jw_out hP hD h1
      rw [e] at o
      exact o.2 (d1.2 qb h2)
    · rcases List.mem_append.mp hq with h | h
      · exact d0.2 q h
      · exact hF _ (d1.2 q h)
theorem jw_free {A : Nat → Prop} {X W0 : va_W} {H0 H : Heap} {locs : List Loc} (hD : va_D A (X ++ W0)) (hS : va_S A H0 H locs) (hA : ∀ q, H0.size ≤ q → A q) : ∀ q, va_A W0 H.size q → A q := la_free (vd_r hD) hS hA
section
variable {p : Program} {l : Launch} {e : Env} {R : Room} {s : State} {m : MethodId} {args : Array Value} {below : List Frame} {meth : Method} {c : Code} {H : Heap} {locs : List Loc} {cells slots : Nat} {Q : State → Prop}
variable {D : va_G} {cl : List vw_C} {A : Nat → Prop} {H0 : Heap} {pc : Nat} {ls : Array Slot} {st0 rest : List Value} {aa : Array Value} {mc ms : Nat} {X W0 : va_W}
theorem jw_v {S : Type} {post : S → Prop} {pw : S → va_W} {pt : S → List (ClassId × FieldType)}
    (hr : va_Run p l e R s m args below meth c H locs cells slots mc ms (F0 m pc ls st0) rest (va_Qv post (fun u t => va_P D cl (pw u) t.heap ∧ va_K D cl (pt u) t ∧ va_D (va_A W0 H.size) (pw u)) (va_A W0 H.size) aa) (va_A W0 H.size))
    (hP : va_P D cl (X ++ W0) H) (hD : va_D A (X ++ W0)) (hS : va_S A H0 H locs) (hA : ∀ q, H0.size ≤ q → A q)
    (kk : ∀ (u : S) (H : Heap) (locs : List Loc), post u → va_K D cl (pt u) s → va_P D cl (X ++ pw u) H → va_D A (X ++ pw u) → va_S A H0 H locs → W p l e R s m args below meth c H locs (cells + mc) (slots + ms) Q (F0 m (pc + 3) ls rest)) : W p l e R s m args below meth c H locs cells slots Q (F0 m pc ls st0) := by
  have hF := jw_free hD hS hA
  refine va_callv hr hS (fun q _ h => hF q h) hF (fun u t H1 locs1 ht hvm hp hB hz hk hS1 => ?_)
  obtain ⟨hP1, hK1, hD1⟩ := hB
  rw [ht] at hP1
  obtain ⟨hP2, hD2⟩ := jw_join hP hD hF hk hP1 hD1
  exact kk u H1 locs1 hp (va_K.moved hvm.symm hK1) hP2 hD2 hS1
theorem jw_i {S : Type} {post : Int32 → S → Prop} {pw : S → va_W} {pt : S → List (ClassId × FieldType)}
    (hr : va_Run p l e R s m args below meth c H locs cells slots mc ms (F0 m pc ls st0) rest (va_Qi post (fun u t => va_P D cl (pw u) t.heap ∧ va_K D cl (pt u) t ∧ va_D (va_A W0 H.size) (pw u)) (va_A W0 H.size) aa) (va_A W0 H.size))
    (hP : va_P D cl (X ++ W0) H) (hD : va_D A (X ++ W0)) (hS : va_S A H0 H locs) (hA : ∀ q, H0.size ≤ q → A q)
    (kk : ∀ (r : Int32) (u : S) (H : Heap) (locs : List Loc), post r u → va_K D cl (pt u) s → va_P D cl (X ++ pw u) H → va_D A (X ++ pw u) → va_S A H0 H locs → W p l e R s m args below meth c H locs (cells + mc) (slots + ms) Q (F0 m (pc + 3) ls (.int r :: rest))) : W p l e R s m args below meth c H locs cells slots Q (F0 m pc ls st0) := by
  have hF := jw_free hD hS hA
  refine va_calli hr hS (fun q _ h => hF q h) hF (fun r u t H1 locs1 ht hvm hp hB hz hk hS1 => ?_)
  obtain ⟨hP1, hK1, hD1⟩ := hB
  rw [ht] at hP1
  obtain ⟨hP2, hD2⟩ := jw_join hP hD hF hk hP1 hD1
  exact kk r u H1 locs1 hp (va_K.moved hvm.symm hK1) hP2 hD2 hS1
theorem jw_l {S : Type} {post : Int64 → S → Prop} {pw : S → va_W} {pt : S → List (ClassId × FieldType)}
    (hr : va_Run p l e R s m args below meth c H locs cells slots mc ms (F0 m pc ls st0) rest (va_Ql post (fun u t => va_P D cl (pw u) t.heap ∧ va_K D cl (pt u) t ∧ va_D (va_A W0 H.size) (pw u)) (va_A W0 H.size) aa) (va_A W0 H.size))
    (hP : va_P D cl (X ++ W0) H) (hD : va_D A (X ++ W0)) (hS : va_S A H0 H locs) (hA : ∀ q, H0.size ≤ q → A q)
    (kk : ∀ (r : Int64) (u : S) (H : Heap) (locs : List Loc), post r u → va_K D cl (pt u) s → va_P D cl (X ++ pw u) H → va_D A (X ++ pw u) → va_S A H0 H locs → W p l e R s m args below meth c H locs (cells + mc) (slots + ms) Q (F0 m (pc + 3) ls (.long r :: rest))) : W p l e R s m args below meth c H locs cells slots Q (F0 m pc ls st0) := by
  have hF := jw_free hD hS hA
  refine va_calll hr hS (fun q _ h => hF q h) hF (fun r u t H1 locs1 ht hvm hp hB hz hk hS1 => ?_)
  obtain ⟨hP1, hK1, hD1⟩ := hB
  rw [ht] at hP1
  obtain ⟨hP2, hD2⟩ := jw_join hP hD hF hk hP1 hD1
  exact kk r u H1 locs1 hp (va_K.moved hvm.symm hK1) hP2 hD2 hS1
end
theorem pm_out {X lw pl : va_W} {n : Nat × va_E} : ((X ++ [n]) ++ (lw ++ pl)).Perm (X ++ (lw ++ (pl ++ [n]))) := by
  rw [List.append_assoc, ← List.append_assoc lw pl [n]]
  exact List.Perm.append_left X List.perm_append_comm
-- arcs in the list
abbrev T6 : Type := Int32 × Int32 × Int32 × Int32 × Int32 × Int32
abbrev t6 (t : T6) : List Value := [.int t.1, .int t.2.1, .int t.2.2.1, .int t.2.2.2.1, .int t.2.2.2.2.1, .int t.2.2.2.2.2]
/-- the list L holds the arcs ar, by the addresses as, in the pool pl -/
def hld (ar : List T6) (u : LSt × (Nat → Nat) × va_W) : Prop := lg u.2.1 u.1 ∧ u.1.2.1 = ar.length ∧ ∀ (j : Nat) (t : T6), ar[j]? = some t → ∃ n : Nat, u.2.2[n]? = some (u.2.1 j, .inr (1, t6 t))
theorem hld_all {ar : List T6} {u : LSt × (Nat → Nat) × va_W} (h : hld ar u) : ∀ j, j < u.1.2.1 → ∃ (k : Nat) (fs : List Value), u.2.2[k]? = some (u.2.1 j, .inr (1, fs)) := by
  intro j hj
  rw [h.2.1] at hj
  obtain ⟨n, hn⟩ := h.2.2 j _ (List.getElem?_eq_getElem hj)
  exact ⟨n, _, hn⟩
theorem hld_next {ar : List T6} {u : LSt × (Nat → Nat) × va_W} {L' : LSt} {v : Nat} {t : T6} (h : hld ar u) (hn : lnext u.2.1 v u.1 L') : hld (ar ++ [t]) (L', va_up u.2.1 u.1.2.1 v, u.2.2 ++ [(v, .inr (1, t6 t))]) := by
  refine ⟨hn.1, by rw [List.length_append, List.length_singleton, ← h.2.1]; exact hn.2.1, fun j t' hj => ?_⟩
  have e := h.2.1
  by_cases c : j < ar.length
  · rw [List.getElem?_append_left c] at hj
    obtain ⟨n, hn'⟩ := h.2.2 j t' hj
    have hl : n < u.2.2.length := (List.getElem?_eq_some_iff.mp hn').1
    refine ⟨n, ?_⟩
    show (u.2.2 ++ _)[n]? = some (va_up u.2.1 u.1.2.1 v j, _)
    rw [List.getElem?_append_left hl, va_up_ne _ _ (by omega)]
    exact hn'
  · rw [List.getElem?_append_right (Nat.le_of_not_lt c)] at hj
    have hj0 : j = ar.length := by
      have := (List.getElem?_eq_some_iff.mp hj).1
      rw [List.length_singleton] at this
      omega
    subst hj0
    rw [Nat.sub_self] at hj
    cases hj
    refine ⟨u.2.2.length, ?_⟩
    show (u.2.2 ++ _)[u.2.2.length]? = some (va_up u.2.1 u.1.2.1 v ar.length, _)
    rw [List.getElem?_append_right (Nat.le_refl _), Nat.sub_self, ← e, va_up_self]
    rfl
-- the neighbours of a point
def bk (k n : Nat) : Nat := if k = 0 then n - 1 else k - 1
def ak (k n : Nat) : Nat := if k + 1 = n then 0 else k + 1
theorem bk_lt {k n : Nat} (h : k < n) : bk k n < n := by unfold bk; split <;> omega
theorem ak_lt {k n : Nat} (h : k < n) : ak k n < n := by unfold ak; split <;> omega
/-- the arcs of a point -/
def kd (X Y O : Nat → Int32) (n k : Nat) : List T6 := if O k = 0 then [(ks_joint X O (nI (bk k n)) (nI k), ks_joint Y O (nI (bk k n)) (nI k), 2 * X k, 2 * Y k, ks_joint X O (nI (ak k n)) (nI k), ks_joint Y O (nI (ak k n)) (nI k))] else if O (ak k n) = 0 then [] else [(2 * X k, 2 * Y k, 2 * X k, 2 * Y k, 2 * X (ak k n), 2 * Y (ak k n))]
abbrev AS : Type := LSt × (Nat → Nat) × va_W
abbrev aa_v (l : Launch) (y : MethodName) (ws : List Cond) (rm : Room) (D : va_G) (W0 : va_W) (tys : List (ClassId × FieldType)) (As : List Value) (mi t0 mc ms : Nat) (G : AS → Prop) (pw : AS → va_W) (pt : AS → List (ClassId × FieldType)) : Prop := ∀ sz : Nat, Met l y ws rm (la_pre D W0 tys As mi t0 sz) (va_Qv (fun u : AS => G u) (fun u t => va_P D cls9 (pw u) t.heap ∧ va_K D cls9 (pt u) t ∧ va_D (va_A W0 sz) (pw u)) (va_A W0 sz)) mc ms (va_A W0 sz)
abbrev aa_i (l : Launch) (y : MethodName) (ws : List Cond) (rm : Room) (D : va_G) (W0 : va_W) (tys : List (ClassId × FieldType)) (As : List Value) (mi t0 mc ms : Nat) (G : Int32 → AS → Prop) (pw : AS → va_W) (pt : AS → List (ClassId × FieldType)) : Prop := ∀ sz : Nat, Met l y ws rm (la_pre D W0 tys As mi t0 sz) (va_Qi (fun (r : Int32) (u : AS) => G r u) (fun u t => va_P D cls9 (pw u) t.heap ∧ va_K D cls9 (pt u) t ∧ va_D (va_A W0 sz) (pw u)) (va_A W0 sz)) mc ms (va_A W0 sz)
