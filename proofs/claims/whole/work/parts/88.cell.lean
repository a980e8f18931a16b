-- worlds turned round; the script's cell
theorem pAC {M A R : va_W} : (M ++ (A ++ R)).Perm ((M ++ R) ++ A) := by
  rw [List.append_assoc]
  exact List.Perm.append_left M List.perm_append_comm
theorem pSW {M A B R : va_W} : (M ++ (A ++ (B ++ R))).Perm ((M ++ B) ++ (A ++ R)) := by
  rw [List.append_assoc, ← List.append_assoc A B R, ← List.append_assoc B A R]
  exact List.Perm.append_left M (List.Perm.append_right R List.perm_append_comm)
abbrev xc_pre (As : List Value) (b L : Nat) (xs : Nat → Int32) (sz : Nat) : Array Value → State → Prop := va_Pc As (fun U => U.heap.size = sz ∧ va_X b L xs U U.heap ∧ b < sz)
theorem xc_blind {As : List Value} {b L sz : Nat} {xs : Nat → Int32} : FrameBlind (xc_pre As b L xs sz) :=
  fun a U g mk q => ⟨q.1, q.2.1, va_X.moved (u := U) (U := U.calling g mk a) (Vm.Alike.refl U.vm) q.2.2.1, q.2.2.2⟩
set_option maxHeartbeats 4000000 in
set_option maxRecDepth 100000 in
theorem c_cell (l : Launch) (b L : Nat) (xs : Nat → Int32) (hL : L ≤ 2049) (sz : Nat) : Met l y_L_cell w_L_cell { frames := 0, cells := 0, slots := 0, locals := 0 } (xc_pre [.ref b, .int 0] b L xs sz) (va_Qi (fun x (_ : Unit) => x = (if 0 < L then xs 0 else 0)) (fun _ _ => True) (fun q => sz ≤ q)) 0 0 (fun q => sz ≤ q) := by
  refine Met.ofW (cc := b_L_cell) (maxL := 2) (ret := (some .int)) (by decide) rfl ?_
  intro p e s m args below meth c s₁ B hml hv
  obtain ⟨hargs, hsz, hX0, hbl⟩ := hv
  have hx := B.exec
  have hb := B.bytes
  have hr := B.returns
  have hlocks := B.notSynchronized
  subst hsz
  have hbA : ¬ (fun q : Nat => s.heap.size ≤ q) b := fun z => absurd hbl (Nat.not_lt.mpr z)
  have hS : va_S (fun q : Nat => s.heap.size ≤ q) s.heap s.heap [] := va_S.rf
  have hl := lv_entry [.ref b, .int 0] (n := 2) (Nat.le_of_ble_eq_true rfl)
  have hent : entryFrame m args 2 = F0 m 0 (lg_sl [.ref b, .int 0] ++ List.replicate (2 - (lg_sl [.ref b, .int 0]).length) Slot.unset).toArray [] := by rw [hargs]; exact lg_entry_eq m [.ref b, .int 0] 2
  rw [hent]
  clear hent
  generalize (lg_sl [.ref b, .int 0] ++ List.replicate (2 - (lg_sl [.ref b, .int 0]).length) Slot.unset).toArray = ls at hl ⊢
  have hl : lv_has ls 2 [(0, .ref b), (1, .int 0)] := hl
  refine lv_iload_n hx hb d_L_cell_0 rfl (lv_at hl 1 rfl) ?_
  refine lv_aload_n hx hb d_L_cell_1 rfl (lv_at hl 0 rfl) ?_
  refine va_slen hx hb hX0 hbl hbA hS d_L_cell_2 ?_
  refine lv_icmp_ge (tgt := 12) hx hb d_L_cell_3 rfl (fun h => ?_) (fun h => ?_)
  · have h0 : L = 0 := by
      rcases Nat.eq_zero_or_pos L with z | z
      · exact z
      · exact absurd h (nI_nle z (by omega))
    refine lv_iconst (v := 0) hx hb d_L_cell_12 (by decide) ?_
    exact W.iret (v := 0) hx hb hr (fun t ht hW => ⟨⟨_, (), rfl, (if_neg (by omega)).symm, trivial⟩, hS.F ht⟩) hS.2.2 d_L_cell_13
  · have h0 : 0 < L := by
      rcases Nat.eq_zero_or_pos L with z | z
      · subst z; exact absurd (Int32.le_refl _) h
      · exact z
    refine lv_aload_n hx hb d_L_cell_6 rfl (lv_at hl 0 rfl) ?_
    refine lv_iload_n hx hb d_L_cell_7 rfl (lv_at hl 1 rfl) ?_
    refine va_sld hx hb hX0 hbl hbA hS (vp_in_nI (n := 0) h0 (by omega)) d_L_cell_8 ?_
    refine lv_goto (tgt := 13) hx hb d_L_cell_9 rfl ?_
    exact W.iret (v := xs ((0 : Int32).toNatClampNeg)) hx hb hr (fun t ht hW => ⟨⟨_, (), rfl, (if_pos h0).symm, trivial⟩, hS.F ht⟩) hS.2.2 d_L_cell_13
