theorem inv_cc {X Y O : Nat → Int32} {md cp cc : Int32} {u : AS} {px py : Nat → Int64} {on en : Nat → Int32} {cn pn : Int32} (h : INV X Y O md cp cc u px py on en cn pn) : cc = cn := by
  obtain ⟨C, P, e, VX, VY, M, rfl, rfl, rfl, rfl, rfl, h1, h2, h3⟩ := h
  rfl
/-- what winding and row answer, by the arcs in the list -/
theorem inv_ar {X Y O : Nat → Int32} {md cp cc : Int32} {u : AS} {px py : Nat → Int64} {on en : Nat → Int32} {cn pn : Int32} (h : INV X Y O md cp cc u px py on en cn pn) : ∃ ar : List T6, hld ar u ∧
    (∀ (cap : Nat) (fi se : Nat → Int64) (tc tn x y : Int32), ar.length ≤ cap → cap ≤ 40000 → ks_wind (arf ar) (nI ar.length) cap x y = (km_wind px py on cn en fi se tc tn x y).1) ∧
    (∀ (cap w : Nat) (rt : Nat → Int32) (fi se : Nat → Int64) (tc tn jj : Int32), ar.length ≤ cap → cap ≤ 40000 → w ≤ 64 → (ks_row (nI w) rt (arf ar) (nI ar.length) cap jj).1 = (km_row (nI w) px py on cn en fi se tc tn jj).1) ∧
    (ar = [] → (∀ (fi se : Nat → Int64) (tc tn x y : Int32), ks_wind0 x y = (km_wind px py on cn en fi se tc tn x y).1) ∧ ∀ (w : Nat) (rt : Nat → Int32) (fi se : Nat → Int64) (tc tn jj : Int32), w ≤ 64 → (ks_row0 (nI w) rt jj).1 = (km_row (nI w) px py on cn en fi se tc tn jj).1) := by
  obtain ⟨C, P, e, VX, VY, M, rfl, rfl, rfl, rfl, rfl, h1, h2, h3⟩ := h
  refine ⟨(AR e VX VY on C).map t6i, h2, ?_, ?_, ?_⟩
  · intro cap fi se tc tn x y hl hc
    rw [List.length_map] at hl ⊢
    exact wind_eq M arf_map hl hc fi se tc tn x y
  · intro cap w rt fi se tc tn jj hl hc hw
    rw [List.length_map] at hl ⊢
    exact row_eq M arf_map hl hc hw rt fi se tc tn jj
  · intro h0
    have h0 : AR e VX VY on C = [] := List.map_eq_nil_iff.mp h0
    exact ⟨fun fi se tc tn x y => wind0_eq M h0 fi se tc tn x y, fun w rt fi se tc tn jj hw => row0_eq M h0 hw rt fi se tc tn jj⟩
theorem lcs (a : Int64) : lg_cmp a a = 0 := (lc_eq a a).mpr rfl
