-- indices of contours
def arng (fr to : Int32) : Prop := ∃ A B : Nat, A < B ∧ B ≤ 256 ∧ fr = nI A ∧ to = nI B
theorem nI_nle_lt {a b : Nat} (ha : a < 2 ^ 31) (h : ¬ nI b ≤ nI a) : a < b := Nat.lt_of_not_le (fun z => h (nI_le z ha))
theorem ar_idx {A B s kk : Nat} (h1 : A ≤ s) (h2 : s < B) (h3 : B ≤ 256) (h4 : kk ≤ 300) : nI A + ((nI s - nI A + nI kk) - (nI s - nI A + nI kk) / (nI B - nI A) * (nI B - nI A)) = nI (A + (s - A + kk) % (B - A)) := by
  rw [pk_sub h1, pk_sub (show A ≤ B by omega), nI_add, pk_rem (by omega) (by omega) (by omega), nI_add]
theorem ar_lt {A B s kk : Nat} (h2 : A < B) : A + (s - A + kk) % (B - A) < B := by
  have := Nat.mod_lt (s - A + kk) (show 0 < B - A by omega)
  omega
/-- the contours' ends: e c is where contour c begins; P points in all -/
def mok (cn pn : Int32) (en : Nat → Int32) : Prop := ∃ (C P : Nat) (e : Nat → Nat), cn = nI C ∧ pn = nI P ∧ P ≤ 256 ∧ e 0 = 0 ∧ e C ≤ P ∧ ∀ c, c < C → e c < e (c + 1) ∧ en c = nI (e (c + 1))
theorem mok_mono {C : Nat} {e : Nat → Nat} (h : ∀ c, c < C → e c < e (c + 1)) : ∀ d c : Nat, c + d ≤ C → e c + d ≤ e (c + d)
  | 0, c, _ => Nat.le_refl _
  | d + 1, c, hc => by
    have h1 := mok_mono h d c (by omega)
    have h2 := h (c + d) (by omega)
    show e c + (d + 1) ≤ e (c + d + 1)
    omega
theorem mok_C {C : Nat} {e : Nat → Nat} (h0 : e 0 = 0) (h : ∀ c, c < C → e c < e (c + 1)) : C ≤ e C := by
  have := mok_mono h C 0 (by omega)
  rw [Nat.zero_add] at this
  omega
theorem mok_le {C : Nat} {e : Nat → Nat} (h : ∀ c, c < C → e c < e (c + 1)) {c : Nat} (hc : c ≤ C) : e c ≤ e C := by
  have h1 := mok_mono h (C - c) c (by omega)
  rw [show c + (C - c) = C by omega] at h1
  omega
def begok (cn : Int32) : Prop := ∃ C : Nat, C ≤ 256 ∧ cn = nI C
theorem mok_beg {cn pn : Int32} {en : Nat → Int32} (h : mok cn pn en) : begok cn := by
  obtain ⟨C, P, e, h1, h2, h3, h4, h5, h6⟩ := h
  have := mok_C h4 (fun c hc => (h6 c hc).1)
  exact ⟨C, by omega, h1⟩
def wok (wd : Int32) : Prop := ∃ w : Nat, w ≤ 64 ∧ wd = nI w
