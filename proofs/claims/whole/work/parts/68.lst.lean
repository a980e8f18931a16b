-- a list's state: modCount, size, and its own array once it has one
abbrev LSt : Type := Int32 × Nat × Option (Nat × ClassId × Nat × (Nat → Option Nat))
def lwd (t0 li : Nat) : LSt → va_W
  | (mc, n, none) => [(li, .inr (3, [.int mc, .ref t0, .int (nI n)]))]
  | (mc, n, some (ed, cO, cap, g)) => [(li, .inr (3, [.int mc, .ref ed, .int (nI n)])), (ed, .inl (cO, cap, .inr (.inr (.inr (.inr g)))))]
def lty : LSt → List (ClassId × FieldType)
  | (_, _, none) => []
  | (_, _, some (_, cO, _, _)) => [(cO, .object "java/lang/Object")]
abbrev la_pre (D : va_G) (W0 : va_W) (tys : List (ClassId × FieldType)) (As : List Value) (mi t0 sz : Nat) : Array Value → State → Prop := va_Pc As (fun U => U.heap.size = sz ∧ va_P D cls9 W0 U.heap ∧ va_K D cls9 tys U ∧ va_D (fun _ => True) W0 ∧ xk mi U ∧ xz t0 (va_A W0 sz) U U.heap)
abbrev la_v (l : Launch) (y : MethodName) (ws : List Cond) (rm : Room) (D : va_G) (W0 : va_W) (tys : List (ClassId × FieldType)) (As : List Value) (mi t0 mc ms : Nat) (G : LSt → Prop) (h0 : Nat) (pl : va_W) : Prop := ∀ sz : Nat, Met l y ws rm (la_pre D W0 tys As mi t0 sz) (va_Qv (fun L : LSt => G L) (fun L t => va_P D cls9 (lwd t0 h0 L ++ pl) t.heap ∧ va_K D cls9 (lty L) t ∧ va_D (va_A W0 sz) (lwd t0 h0 L ++ pl)) (va_A W0 sz)) mc ms (va_A W0 sz)
abbrev la_i (l : Launch) (y : MethodName) (ws : List Cond) (rm : Room) (D : va_G) (W0 : va_W) (tys : List (ClassId × FieldType)) (As : List Value) (mi t0 mc ms : Nat) (G : LSt → Prop) (h0 : Nat) (pl : va_W) : Prop := ∀ sz : Nat, Met l y ws rm (la_pre D W0 tys As mi t0 sz) (va_Qi (fun (_ : Int32) (L : LSt) => G L) (fun L t => va_P D cls9 (lwd t0 h0 L ++ pl) t.heap ∧ va_K D cls9 (lty L) t ∧ va_D (va_A W0 sz) (lwd t0 h0 L ++ pl)) (va_A W0 sz)) mc ms (va_A W0 sz)
section
variable {p : Program} {l : Launch} {e : Env} {R : Room} {s : State} {m : MethodId} {args : Array Value} {below : List Frame} {meth : Method} {c : Code} {H : Heap} {locs : List Loc} {cells slots : Nat} {Q : State → Prop}
variable {D : va_G} {A : Nat → Prop} {H0 : Heap} {pc : Nat} {ls : Array Slot} {st0 rest : List Value}
/-- a call of such a method, the callee's cells being the whole world -/
theorem cla_v {aa : Array Value} {W0 pl : va_W} {mc ms t0 h0 : Nat} {G : LSt → Prop}
    (hr : va_Run p l e R s m args below meth c H locs cells slots mc ms (F0 m pc ls st0) rest (va_Qv (fun L : LSt => G L) (fun L t => va_P D cls9 (lwd t0 h0 L ++ pl) t.heap ∧ va_K D cls9 (lty L) t ∧ va_D (va_A W0 H.size) (lwd t0 h0 L ++ pl)) (va_A W0 H.size) aa) (va_A W0 H.size))
    (hD : va_D A W0) (hS : va_S A H0 H locs) (hA : ∀ q, H0.size ≤ q → A q)
    (kk : ∀ (L : LSt) (H : Heap) (locs : List Loc), G L → va_K D cls9 (lty L) s → va_P D cls9 (lwd t0 h0 L ++ pl) H → va_D A (lwd t0 h0 L ++ pl) → va_S A H0 H locs → W p l e R s m args below meth c H locs (cells + mc) (slots + ms) Q (F0 m (pc + 3) ls rest)) : W p l e R s m args below meth c H locs cells slots Q (F0 m pc ls st0) := by
  have hFc : ∀ q, va_A W0 H.size q → A q := by
    intro q hq
    rcases hq with ⟨k, x, hk⟩ | hq
    · exact hD.2 k _ hk
    · exact hA q (Nat.le_trans hS.1 hq)
  refine va_callv hr hS (fun q _ h => hFc q h) hFc (fun L t H1 locs1 ht hvm hp hB hz hk hS1 => ?_)
  obtain ⟨hP1, hK1, hD1⟩ := hB
  rw [ht] at hP1
  exact kk L H1 locs1 hp (va_K.moved hvm.symm hK1) hP1 (hD1.weaken (fun k q _ h => hFc q.1 h)) hS1
theorem la_free {A : Nat → Prop} {W0 : va_W} {H0 H : Heap} {locs : List Loc} (hD : va_D A W0) (hS : va_S A H0 H locs) (hA : ∀ q, H0.size ≤ q → A q) : ∀ q, va_A W0 H.size q → A q := by
  intro q hq
  rcases hq with ⟨k, x, hk⟩ | hq
  · exact hD.2 k _ hk
  · exact hA q (Nat.le_trans hS.1 hq)
end
