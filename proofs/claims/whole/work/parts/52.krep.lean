/-! What ActChains holds: the parts that a run of the finder leaves, and those that it uses -/
def kFr (i : Nat) : Prop := i < 7 ∨ (25 ≤ i ∧ i < 35) ∨ 400 ≤ i
def kSt (cI cG : ClassId) (ad : Nat → Nat) (a : Nat) (co : Nat → va_E) : Prop :=
  co 7 = oB ad 8 9 ∧ co 8 = oG ad cG a 40 ∧ co 9 = oG ad cG a 60 ∧ co 10 = oB ad 11 12 ∧ co 11 = oG ad cG a 80 ∧ co 12 = oG ad cG a 100 ∧ co 13 = oB ad 14 15 ∧ co 14 = oG ad cG a 120 ∧ co 15 = oG ad cG a 140 ∧ co 18 = oG ad cG 200 200 ∧ ∃ zz, co 19 = .inl (cI, a, .inl zz) ∧ ∀ j, j < a → zz j = nI 0
def kSc (cI : ClassId) (ad : Nat → Nat) (a : Nat) (co : Nat → va_E) : Prop :=
  ∃ (fc x y : Nat) (fl g20 g21 : Nat → Int32) (G MF SF MC SC : Nat → Nat → Int32), ((x = 20 ∧ y = 21) ∨ (x = 21 ∧ y = 20)) ∧ co 16 = oF ad fc a x y ∧ co 17 = .inl (cI, 200, .inl fl) ∧ co 20 = .inl (cI, a, .inl g20) ∧ co 21 = .inl (cI, a, .inl g21) ∧ (∀ r, r < 200 → co (200 + r) = .inl (cI, a, .inl (G r))) ∧
    (∀ i, i < a → co (80 + i) = .inl (cI, a, .inl (MF i))) ∧ (∀ i, i < a → co (100 + i) = .inl (cI, 10, .inl (SF i))) ∧ (∀ i, i < a → co (120 + i) = .inl (cI, a, .inl (MC i))) ∧ ∀ i, i < a → co (140 + i) = .inl (cI, 10, .inl (SC i))
def kTb (cI : ClassId) (a : Nat) (mv sp : Nat → Nat → Nat) (co : Nat → va_E) : Prop :=
  ∃ MV SP : Nat → Nat → Int32, (∀ i, i < a → co (40 + i) = .inl (cI, a, .inl (MV i))) ∧ (∀ i, i < a → co (60 + i) = .inl (cI, 10, .inl (SP i))) ∧ (∀ i j, i < a → j < a → MV i j = nI (mv i j)) ∧ ∀ i c, i < a → c < 10 → SP i c = nI (sp i c)
def kLt (cI : ClassId) (ad : Nat → Nat) (kn kc : Nat) (ln nx : Nat → Int32) (co : Nat → va_E) : Prop := co 22 = oN ad kn kc ∧ co 23 = .inl (cI, 200, .inl ln) ∧ co 24 = .inl (cI, 200, .inl nx)
theorem ftm_eq {X : Nat → Nat} {mv : Nat → Nat → Nat} {a n z b : Nat} (hX : ∀ k, k < n → X k < a) : (if sumF (fun j => nCb X z j n) a = 0 then nI (mv z b) else nI (1000 * (sumF (fun j => nCb X z j n) a - nCb X z b n) / sumF (fun j => nCb X z j n) a)) = nI (ftm X n mv z b) := by
  rw [nCb_sum hX, ftm]
  split <;> rfl
theorem fts_eq {X cl : Nat → Nat} {sp : Nat → Nat → Nat} {n z c : Nat} (hc : ∀ k, k < n → cl k < 10) : (if sumF (fun j => nRc X cl z j n) 10 = 0 then nI (sp z c) else nI (1000 * (sumF (fun j => nRc X cl z j n) 10 - nRc X cl z c n) / sumF (fun j => nRc X cl z j n) 10)) = nI (fts X cl n sp z c) := by
  rw [nRc_sum hc, fts]
  split <;> rfl
