-- sums and "some" over indices, turned round
def sm (f : Nat → Int) : Nat → Int
  | 0 => 0
  | k + 1 => sm f k + f k
theorem sm_congr {f g : Nat → Int} : ∀ n : Nat, (∀ k, k < n → f k = g k) → sm f n = sm g n
  | 0, _ => rfl
  | n + 1, h => by rw [sm, sm, sm_congr n (fun k hk => h k (by omega)), h n (by omega)]
theorem sm_split (f : Nat → Int) (a : Nat) : ∀ b : Nat, sm f (a + b) = sm f a + sm (fun k => f (a + k)) b
  | 0 => by simp [sm]
  | b + 1 => by rw [← Nat.add_assoc, sm, sm, sm_split f a b]; omega
theorem sm_rot (f : Nat → Int) {s n : Nat} (hs : s ≤ n) : sm (fun k => f ((s + k) % n)) n = sm f n := by
  rcases Nat.eq_zero_or_pos n with h | h
  · subst h; rfl
  have e : n = (n - s) + s := by omega
  have h1 : sm (fun k => f ((s + k) % n)) n = sm (fun k => f ((s + k) % n)) ((n - s) + s) := by rw [← e]
  rw [h1, sm_split]
  have h2 : sm (fun k => f ((s + k) % n)) (n - s) = sm (fun k => f (s + k)) (n - s) := sm_congr _ (fun k hk => by
    show f ((s + k) % n) = f (s + k)
    rw [Nat.mod_eq_of_lt (by omega)])
  have h3 : sm (fun k => (fun k => f ((s + k) % n)) (n - s + k)) s = sm f s := sm_congr _ (fun k hk => by
    show f ((s + (n - s + k)) % n) = f k
    rw [show s + (n - s + k) = n + k by omega, Nat.add_mod_left, Nat.mod_eq_of_lt (by omega)])
  rw [h2, h3]
  have h4 : sm f n = sm f (s + (n - s)) := by rw [show s + (n - s) = n by omega]
  rw [h4, sm_split]
  omega
theorem sm_add2 (f g : Nat → Int) : ∀ n : Nat, sm (fun k => f k + g k) n = sm f n + sm g n
  | 0 => rfl
  | n + 1 => by rw [sm, sm, sm, sm_add2 f g n]; omega
theorem ex_rot (f : Nat → Prop) {s n : Nat} (hs : s ≤ n) : (∃ k, k < n ∧ f ((s + k) % n)) ↔ ∃ k, k < n ∧ f k := by
  constructor
  · rintro ⟨k, hk, h⟩
    exact ⟨_, Nat.mod_lt _ (by omega), h⟩
  · rintro ⟨k, hk, h⟩
    by_cases c : s ≤ k
    · refine ⟨k - s, by omega, ?_⟩
      rw [show s + (k - s) = k by omega, Nat.mod_eq_of_lt hk]; exact h
    · refine ⟨n - s + k, by omega, ?_⟩
      rw [show s + (n - s + k) = n + k by omega, Nat.add_mod_left, Nat.mod_eq_of_lt hk]; exact h
