theorem rmin_none {p : Nat → Bool} {f : Nat → Nat} : ∀ {k : Nat}, (∀ c, c < k → p c = false) → rmin p f k = BIG
  | 0, _ => rfl
  | k + 1, h => by
    rw [rmin_no (h k (by omega))]
    exact rmin_none (fun c hc => h c (by omega))
/-- the next cost of row k: -1 when there is none -/
def nxt (a : Nat) (al : Nat → Nat → Bool) (cl : Nat → Nat) (mv sp : Nat → Nat → Nat) (n : Nat) (tr : Nat → Int32) (k : Nat) : Int32 :=
  if 1 < a ∧ tr k = -1 then nI (rmin (fun b => decide (¬ b = bln a al cl mv sp n k)) (fun b => bfo a al cl mv sp k b + tgo a al cl mv sp n k b) a) else -1
theorem nxt_eq {a : Nat} {tr shp : Nat → Int32} {cl : Nat → Nat} {mv sp : Nat → Nat → Nat} {n k : Nat} (ha : a ≤ 12) (h : okN a (alw tr shp (-1)) cl mv sp n) (hk : k < n) (hs : shp k ≠ -1) (X : Nat) (hX : X = bln a (alw tr shp (-1)) cl mv sp n k)
    (L : Nat) (hL : L = rmin (fun b => decide (¬ b = X) && alw tr shp (-1) k b) (fun b => bfo a (alw tr shp (-1)) cl mv sp k b + tgo a (alw tr shp (-1)) cl mv sp n k b) a) : (if L < BIG then nI L else -1) = nxt a (alw tr shp (-1)) cl mv sp n tr k := by
  have hb := bln_ok h k hk
  rw [← hX] at hb
  have hn := h.2.1
  have hBIG : BIG = 1000000000 := rfl
  unfold nxt
  rw [← hX]
  by_cases ht : tr k = -1
  · have hal : ∀ b, alw tr shp (-1) k b = true := fun b => by simp [alw, ht]
    have hL2 : L = rmin (fun b => decide (¬ b = X)) (fun b => bfo a (alw tr shp (-1)) cl mv sp k b + tgo a (alw tr shp (-1)) cl mv sp n k b) a := by
      rw [hL]
      exact rmin_congr (fun c _ => by rw [hal c, Bool.and_true]) (fun _ _ _ => rfl)
    by_cases h1 : 1 < a
    · rw [if_pos (show 1 < a ∧ tr k = -1 from ⟨h1, ht⟩), ← hL2]
      have : ∃ c, c < a ∧ ¬ c = X := by
        by_cases hx : X = 0
        · exact ⟨1, h1, by omega⟩
        · exact ⟨0, by omega, by omega⟩
      obtain ⟨c, hc, hne⟩ := this
      have h2 := rmin_le (p := fun b => decide (¬ b = X)) (f := fun b => bfo a (alw tr shp (-1)) cl mv sp k b + tgo a (alw tr shp (-1)) cl mv sp n k b) hc (decide_eq_true hne)
      have h3 := bfo_le h k c hk hc
      have h4 := tgo_le h hk hc (hal c)
      have h5 : (fun b => bfo a (alw tr shp (-1)) cl mv sp k b + tgo a (alw tr shp (-1)) cl mv sp n k b) c = bfo a (alw tr shp (-1)) cl mv sp k c + tgo a (alw tr shp (-1)) cl mv sp n k c := rfl
      rw [if_pos (show L < BIG by rw [hL2]; omega)]
    · have h9 : L = BIG := by rw [hL2, rmin_none (fun c hc => by simp only [decide_eq_false_iff_not, Decidable.not_not]; omega)]
      rw [if_neg (show ¬ (1 < a ∧ tr k = -1) from fun q => h1 q.1), if_neg (show ¬ L < BIG by omega)]
  · have h9 : L = BIG := by
      rw [hL]
      apply rmin_none
      intro c hc
      by_cases hcX : c = X
      · simp [hcX]
      · have hx : tr k = nI X := by
          have := hb.2
          simp only [alw, ht, hs, decide_false, Bool.false_or, Bool.or_false, decide_eq_true_eq] at this
          exact this
        have h9 : ¬ tr k = nI c := fun q => hcX ((nI_eq (by omega) (by omega)).mp (q.symm.trans hx))
        simp [alw, ht, hs, h9]
    rw [if_neg (show ¬ (1 < a ∧ tr k = -1) from fun q => ht q.2), if_neg (show ¬ L < BIG by omega)]
theorem gW_nm {D : va_G} {cl : List vw_C} {A : Nat → Prop} {ad : Nat → Nat} {co : Nat → va_E} {dl : List Nat} {H : Heap} (hW : gW D cl A ad co dl H) : ∃ z, z = co ∧ gW D cl A ad z dl H := ⟨co, rfl, hW⟩
