theorem gG_c {cI : ClassId} {base n len q : Nat} {co : Nat → va_E} {G : Nat → Nat → Int32} {e : va_E} (h : q < base ∨ base + n ≤ q) : va_up (gG cI base n len co G) q e = gG cI base n len (va_up co q e) G := by
  funext i
  by_cases hi : i = q
  · subst hi
    rw [va_up_self, gG_o h, va_up_self]
  · rw [va_up_ne _ _ hi]
    unfold gG
    rw [va_up_ne _ _ hi]
def sumF (u : Nat → Nat) : Nat → Nat
  | 0 => 0
  | k + 1 => sumF u k + u k
theorem sumF_le {u : Nat → Nat} {B : Nat} : ∀ {k : Nat}, (∀ j, j < k → u j ≤ B) → sumF u k ≤ B * k
  | 0, _ => Nat.le_refl 0
  | k + 1, h => by
    have ih := sumF_le (u := u) (B := B) (k := k) (fun j hj => h j (by omega))
    have := h k (by omega)
    unfold sumF
    rw [Nat.mul_succ]
    omega
theorem sumF_ge {u : Nat → Nat} : ∀ {k j : Nat}, j < k → u j ≤ sumF u k
  | 0, j, h => absurd h (Nat.not_lt_zero j)
  | k + 1, j, h => by
    unfold sumF
    by_cases hj : j = k
    · rw [hj]; omega
    · have := sumF_ge (u := u) (show j < k by omega)
      omega
theorem sumF_add (u v : Nat → Nat) : ∀ k, sumF (fun j => u j + v j) k = sumF u k + sumF v k
  | 0 => rfl
  | k + 1 => by
    have ih := sumF_add u v k
    unfold sumF
    omega
theorem sumF_congr {u v : Nat → Nat} : ∀ {k : Nat}, (∀ j, j < k → u j = v j) → sumF u k = sumF v k
  | 0, _ => rfl
  | k + 1, h => by
    unfold sumF
    rw [sumF_congr (fun j hj => h j (by omega)), h k (by omega)]
theorem sumF_zero : ∀ k, sumF (fun _ => 0) k = 0
  | 0 => rfl
  | k + 1 => by unfold sumF; rw [sumF_zero k]
theorem sumF_one {b : Nat} : ∀ {k : Nat}, sumF (fun j => if b = j then 1 else 0) k = if b < k then 1 else 0
  | 0 => rfl
  | k + 1 => by
    unfold sumF
    rw [sumF_one (b := b) (k := k)]
    by_cases h1 : b < k
    · rw [if_pos h1, if_neg (by omega), if_pos (by omega)]
    · by_cases h2 : b = k
      · rw [if_neg h1, if_pos h2, if_pos (by omega)]
      · rw [if_neg h1, if_neg h2, if_neg (by omega)]
/-- counted by kind, and all together -/
theorem cnt_sum {p : Nat → Bool} {h : Nat → Nat} {L : Nat} : ∀ {n : Nat}, (∀ k, k < n → h k < L) → sumF (fun j => cntF (fun k => p k && decide (h k = j)) n) L = cntF p n
  | 0, _ => sumF_zero L
  | n + 1, hh => by
    have ih := cnt_sum (p := p) (h := h) (L := L) (n := n) (fun k hk => hh k (by omega))
    have e : sumF (fun j => cntF (fun k => p k && decide (h k = j)) (n + 1)) L = sumF (fun j => cntF (fun k => p k && decide (h k = j)) n) L + sumF (fun j => if (p n && decide (h n = j)) then 1 else 0) L := by
      rw [← sumF_add]
      rfl
    rw [e, ih]
    show _ = cntF p n + (if p n then 1 else 0)
    congr 1
    by_cases hp : p n = true
    · rw [if_pos hp]
      have : (fun j => if (p n && decide (h n = j)) = true then 1 else 0) = (fun j => if h n = j then 1 else 0) := by
        funext j
        simp [hp]
      rw [this, sumF_one, if_pos (hh n (by omega))]
    · rw [if_neg hp]
      have : (fun j => if (p n && decide (h n = j)) = true then 1 else 0) = (fun _ => 0) := by
        funext j
        simp [hp]
      rw [this, sumF_zero]
theorem nCb_sum {X : Nat → Nat} {a n z : Nat} (hX : ∀ k, k < n → X k < a) : sumF (fun j => nCb X z j n) a = nCh X z n := cnt_sum (p := fun k => decide (X k = z)) (h := fun k => X (k + 1)) (fun k hk => hX (k + 1) (by omega))
theorem nRc_sum {X cl : Nat → Nat} {n z : Nat} (hc : ∀ k, k < n → cl k < 10) : sumF (fun j => nRc X cl z j n) 10 = nRw X z n := cnt_sum (p := fun k => decide (X k = z)) (h := cl) hc
