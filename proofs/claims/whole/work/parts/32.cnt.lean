theorem lN_ne0 {n : Nat} (h0 : 0 < n) (h : n < 2 ^ 63) : ¬ lN n = 0 := fun q => by
  have h1 : lN n = lN 0 := q.trans (by decide)
  have := (pk_lEQ h (by omega)).mp h1
  omega
theorem lcN_le {n : Nat} (h : n < 2 ^ 63) (q : lg_cmp (lN n) (lN 0) ≤ 0) : n = 0 := by
  have h1 := (pk_lLE h (by omega)).mp (lc_le q)
  omega
theorem lcN_nle {n : Nat} (h : n < 2 ^ 63) (q : ¬ lg_cmp (lN n) (lN 0) ≤ 0) : 0 < n := (pk_lLT (by omega) h).mp (lc_nle q)
/-- how many places below n have p -/
def cntF (p : Nat → Bool) : Nat → Nat
  | 0 => 0
  | k + 1 => cntF p k + (if p k then 1 else 0)
theorem cntF_le (p : Nat → Bool) : ∀ n, cntF p n ≤ n
  | 0 => Nat.le_refl 0
  | n + 1 => by
    have := cntF_le p n
    unfold cntF
    split <;> omega
theorem cntF_mono {p q : Nat → Bool} (h : ∀ k, p k = true → q k = true) : ∀ n, cntF p n ≤ cntF q n
  | 0 => Nat.le_refl 0
  | n + 1 => by
    have ih := cntF_mono h n
    unfold cntF
    by_cases hp : p n = true
    · rw [if_pos hp, if_pos (h n hp)]; omega
    · rw [if_neg hp]; split <;> omega
theorem cntF_congr {p q : Nat → Bool} : ∀ {n : Nat}, (∀ k, k < n → p k = q k) → cntF p n = cntF q n
  | 0, _ => rfl
  | n + 1, h => by
    have ih := cntF_congr (p := p) (q := q) (n := n) (fun k hk => h k (by omega))
    unfold cntF
    rw [ih, h n (by omega)]
/-- changes from z, changes from z to b, rows of z, rows of z of a kind -/
def nCh (X : Nat → Nat) (z n : Nat) : Nat := cntF (fun k => decide (X k = z)) (n - 1)
def nCb (X : Nat → Nat) (z b n : Nat) : Nat := cntF (fun k => decide (X k = z) && decide (X (k + 1) = b)) (n - 1)
def nRw (X : Nat → Nat) (z n : Nat) : Nat := cntF (fun k => decide (X k = z)) n
def nRc (X cl : Nat → Nat) (z c n : Nat) : Nat := cntF (fun k => decide (X k = z) && decide (cl k = c)) n
def ftm (X : Nat → Nat) (n : Nat) (mv : Nat → Nat → Nat) (z b : Nat) : Nat := if nCh X z n = 0 then mv z b else 1000 * (nCh X z n - nCb X z b n) / nCh X z n
def fts (X cl : Nat → Nat) (n : Nat) (sp : Nat → Nat → Nat) (z c : Nat) : Nat := if nRw X z n = 0 then sp z c else 1000 * (nRw X z n - nRc X cl z c n) / nRw X z n
theorem nCb_le (X : Nat → Nat) (z b n : Nat) : nCb X z b n ≤ nCh X z n := cntF_mono (fun k h => by simp only [Bool.and_eq_true] at h; exact h.1) _
theorem nRc_le (X cl : Nat → Nat) (z c n : Nat) : nRc X cl z c n ≤ nRw X z n := cntF_mono (fun k h => by simp only [Bool.and_eq_true] at h; exact h.1) _
theorem nCh_le (X : Nat → Nat) (z n : Nat) : nCh X z n ≤ n - 1 := cntF_le _ _
theorem nRw_le (X : Nat → Nat) (z n : Nat) : nRw X z n ≤ n := cntF_le _ _
theorem fit_le (N m : Nat) : 1000 * (N - m) / N ≤ 1000 := by
  rcases Nat.eq_zero_or_pos N with h | h
  · rw [h]; simp
  · exact Nat.div_le_of_le_mul (by rw [Nat.mul_comm]; exact Nat.mul_le_mul_right _ (by omega))
