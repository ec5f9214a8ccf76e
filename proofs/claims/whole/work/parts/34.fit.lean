/-! Fitting: costs behind j rounds -/
def fitQ (a : Nat) (al : Nat → Nat → Bool) (cl : Nat → Nat) (n : Nat) (mv sp : Nat → Nat → Nat) : Nat → (Nat → Nat → Nat) × (Nat → Nat → Nat)
  | 0 => (mv, sp)
  | j + 1 => (ftm (bln a al cl (fitQ a al cl n mv sp j).1 (fitQ a al cl n mv sp j).2 n) n (fitQ a al cl n mv sp j).1, fts (bln a al cl (fitQ a al cl n mv sp j).1 (fitQ a al cl n mv sp j).2 n) cl n (fitQ a al cl n mv sp j).2)
def fcs (a : Nat) (al : Nat → Nat → Bool) (cl : Nat → Nat) (n : Nat) (mv sp : Nat → Nat → Nat) (j : Nat) : Nat := bcs a al cl (fitQ a al cl n mv sp j).1 (fitQ a al cl n mv sp j).2 n
/-- how many rounds are kept, of r more, when j are -/
def fitN (p : Nat → Bool) : Nat → Nat → Nat
  | 0, j => j
  | r + 1, j => if p j then fitN p r (j + 1) else j
def fkp (a : Nat) (al : Nat → Nat → Bool) (cl : Nat → Nat) (n : Nat) (mv sp : Nat → Nat → Nat) (j : Nat) : Bool := decide (fcs a al cl n mv sp (j + 1) < fcs a al cl n mv sp j)
theorem fitQ_ok {a : Nat} {al : Nat → Nat → Bool} {cl : Nat → Nat} {n : Nat} {mv sp : Nat → Nat → Nat} (h : okN a al cl mv sp n) : ∀ j, okN a al cl (fitQ a al cl n mv sp j).1 (fitQ a al cl n mv sp j).2 n
  | 0 => h
  | j + 1 => by
    have ih := fitQ_ok h j
    refine ⟨ih.1, ih.2.1, ih.2.2.1, fun b c hb hc => ?_, fun b k hb hk => ?_, ih.2.2.2.2.2⟩
    · have h1 := ih.2.2.2.1 b c hb hc
      show ftm _ n _ b c ≤ 10000
      unfold ftm
      split
      · exact h1
      · have := fit_le (nCh (bln a al cl (fitQ a al cl n mv sp j).1 (fitQ a al cl n mv sp j).2 n) b n) (nCb (bln a al cl (fitQ a al cl n mv sp j).1 (fitQ a al cl n mv sp j).2 n) b c n)
        omega
    · have h1 := ih.2.2.2.2.1 b k hb hk
      show fts _ cl n _ b (cl k) ≤ 10000
      unfold fts
      split
      · exact h1
      · have := fit_le (nRw (bln a al cl (fitQ a al cl n mv sp j).1 (fitQ a al cl n mv sp j).2 n) b n) (nRc (bln a al cl (fitQ a al cl n mv sp j).1 (fitQ a al cl n mv sp j).2 n) cl b (cl k) n)
        omega
theorem fitN_ge {p : Nat → Bool} : ∀ {r j : Nat}, j ≤ fitN p r j ∧ fitN p r j ≤ j + r
  | 0, j => ⟨Nat.le_refl j, Nat.le_refl j⟩
  | r + 1, j => by
    unfold fitN
    split
    · have := fitN_ge (p := p) (r := r) (j := j + 1)
      omega
    · omega
theorem bcs_le {a : Nat} {al : Nat → Nat → Bool} {cl : Nat → Nat} {mv sp : Nat → Nat → Nat} {n : Nat} (h : okN a al cl mv sp n) : bcs a al cl mv sp n ≤ 4000000 := by
  have hb := bln_ok h 0 h.1
  have := tgo_le h h.1 hb.1 hb.2
  have hn := h.2.1
  unfold bcs
  omega
def refF (x : Int32) (n : Nat) : Prop := x < nI 1 ∨ nI 20 < x ∨ n = 0
theorem fit_ge1 {x : Int32} (h : ¬ x < nI 1) : ∃ j, 1 ≤ j ∧ j < 2 ^ 31 ∧ x = nI j := by
  have h1 : nI 1 ≤ x := Int32.not_lt.mp h
  have h0 : ¬ x < 0 := fun q => h (Int32.lt_trans q (by decide))
  obtain ⟨j, hj, rfl⟩ := nI_of h0
  exact ⟨j, (nI_leI (by omega) hj).mp h1, hj, rfl⟩
