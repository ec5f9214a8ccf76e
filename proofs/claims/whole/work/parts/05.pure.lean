/-! The first least place of f among 0 .. k -/
def amin (f : Nat → Nat) : Nat → Nat
  | 0 => 0
  | k + 1 => if f (k + 1) < f (amin f k) then k + 1 else amin f k
theorem amin_le (f : Nat → Nat) : ∀ k, amin f k ≤ k
  | 0 => Nat.le_refl 0
  | k + 1 => by
    have h := amin_le f k
    unfold amin
    split
    · exact Nat.le_refl _
    · omega
theorem amin_min (f : Nat → Nat) : ∀ k j, j ≤ k → f (amin f k) ≤ f j
  | 0, j, h => by
    rw [Nat.le_zero.mp h]
    exact Nat.le_refl _
  | k + 1, j, h => by
    have ih := amin_min f k
    unfold amin
    split
    · rename_i hlt
      by_cases hj : j = k + 1
      · rw [hj]; exact Nat.le_refl _
      · have := ih j (by omega)
        omega
    · rename_i hlt
      by_cases hj : j = k + 1
      · rw [hj]; omega
      · exact ih j (by omega)
theorem amin_first (f : Nat → Nat) : ∀ k j, j < amin f k → f (amin f k) < f j
  | 0, j, h => absurd h (Nat.not_lt_zero j)
  | k + 1, j, h => by
    have ih := amin_first f k
    have hm := amin_min f k
    unfold amin at h ⊢
    split
    · rename_i hlt
      rw [if_pos hlt] at h
      have := hm j (by omega)
      omega
    · rename_i hlt
      rw [if_neg hlt] at h
      exact ih j h
theorem amin_uniq {f : Nat → Nat} {k b : Nat} (h1 : b ≤ k) (h2 : ∀ j, j ≤ k → f b ≤ f j) (h3 : ∀ j, j < b → f b < f j) : amin f k = b := by
  have l1 := amin_min f k b h1
  have l2 := h2 _ (amin_le f k)
  rcases Nat.lt_trichotomy (amin f k) b with h | h | h
  · have := h3 _ h
    omega
  · exact h
  · have := amin_first f k b h
    omega
theorem amin_congr {f g : Nat → Nat} : ∀ {k : Nat}, (∀ j, j ≤ k → f j = g j) → amin f k = amin g k
  | 0, _ => rfl
  | k + 1, h => by
    have ih : amin f k = amin g k := amin_congr (fun j hj => h j (by omega))
    have hk := amin_le g k
    unfold amin
    rw [ih, h (k + 1) (Nat.le_refl _), h (amin g k) (by omega)]
/-! A number that is a place below n -/
def inB (x : Int32) (n : Nat) : Bool := decide (0 ≤ x.toInt ∧ x.toInt < (n : Int))
theorem inB_vp {x : Int32} {n : Nat} : inB x n = true ↔ vp_in x n := by
  unfold inB
  rw [decide_eq_true_eq, vp_in_iff]
theorem inB_of {x : Int32} {n : Nat} (hn : n < 2 ^ 31) (h : inB x n = true) : ∃ j : Nat, j < n ∧ x = nI j := vp_in_of (inB_vp.mp h) hn
theorem inB_nI {j n : Nat} (hj : j < 2 ^ 31) : inB (nI j) n = decide (j < n) := by
  unfold inB
  rw [nI_toInt hj]
  congr 1
  apply propext
  constructor
  · intro h; omega
  · intro h; omega
