/-! The least cost of lines, from both ends; the best line -/
def BIG : Nat := 1000000000
/-- the least of f over the places below k that p has; BIG when there is none such or all are more -/
def rmin (p : Nat → Bool) (f : Nat → Nat) : Nat → Nat
  | 0 => BIG
  | c + 1 => if p c then min (rmin p f c) (f c) else rmin p f c
theorem rmin_le_big (p : Nat → Bool) (f : Nat → Nat) : ∀ k, rmin p f k ≤ BIG
  | 0 => Nat.le_refl _
  | k + 1 => by
    have := rmin_le_big p f k
    unfold rmin
    split <;> omega
theorem rmin_le {p : Nat → Bool} {f : Nat → Nat} : ∀ {k c : Nat}, c < k → p c = true → rmin p f k ≤ f c
  | 0, c, h, _ => absurd h (Nat.not_lt_zero c)
  | k + 1, c, h, hp => by
    by_cases hc : c = k
    · subst hc
      unfold rmin
      rw [if_pos hp]
      omega
    · have := rmin_le (p := p) (f := f) (show c < k by omega) hp
      unfold rmin
      split <;> omega
theorem rmin_at {p : Nat → Bool} {f : Nat → Nat} : ∀ {k : Nat}, rmin p f k < BIG → ∃ c, c < k ∧ p c = true ∧ rmin p f k = f c
  | 0, h => absurd h (Nat.lt_irrefl _)
  | k + 1, h => by
    unfold rmin at h ⊢
    by_cases hp : p k = true
    · rw [if_pos hp] at h ⊢
      by_cases hm : f k ≤ rmin p f k
      · exact ⟨k, Nat.lt_succ_self k, hp, by omega⟩
      · obtain ⟨c, h1, h2, h3⟩ := rmin_at (p := p) (f := f) (k := k) (by omega)
        exact ⟨c, by omega, h2, by omega⟩
    · rw [if_neg hp] at h ⊢
      obtain ⟨c, h1, h2, h3⟩ := rmin_at (p := p) (f := f) (k := k) h
      exact ⟨c, by omega, h2, h3⟩
theorem rmin_congr {p q : Nat → Bool} {f g : Nat → Nat} : ∀ {k : Nat}, (∀ c, c < k → p c = q c) → (∀ c, c < k → p c = true → f c = g c) → rmin p f k = rmin q g k
  | 0, _, _ => rfl
  | k + 1, h1, h2 => by
    have ih := rmin_congr (p := p) (q := q) (f := f) (g := g) (k := k) (fun c h => h1 c (by omega)) (fun c h => h2 c (by omega))
    unfold rmin
    rw [ih, ← h1 k (by omega)]
    by_cases hp : p k = true
    · rw [if_pos hp, if_pos hp, h2 k (by omega) hp]
    · rw [if_neg hp, if_neg hp]
/-- the first least place of f is one that p has, and its value the least, where the others are BIG -/
theorem amin_rmin {p : Nat → Bool} {f : Nat → Nat} {a : Nat} (h1 : ∃ c, c < a ∧ p c = true ∧ f c < BIG) (h2 : ∀ c, c < a → p c = false → BIG ≤ f c) :
    amin f (a - 1) < a ∧ p (amin f (a - 1)) = true ∧ f (amin f (a - 1)) = rmin p f a := by
  obtain ⟨c, hc, hp, hf⟩ := h1
  have hle := amin_le f (a - 1)
  have hlt : amin f (a - 1) < a := by omega
  have hm := amin_min f (a - 1) c (by omega)
  have hpa : p (amin f (a - 1)) = true := by
    cases hq : p (amin f (a - 1)) with
    | true => rfl
    | false =>
      have := h2 _ hlt hq
      omega
  refine ⟨hlt, hpa, ?_⟩
  have l1 := rmin_le (f := f) hlt hpa
  obtain ⟨z, z1, z2, z3⟩ := rmin_at (p := p) (f := f) (k := a) (by omega)
  have l2 := amin_min f (a - 1) z (by omega)
  omega
section DP
variable (a : Nat) (al : Nat → Nat → Bool) (cl : Nat → Nat) (mv sp : Nat → Nat → Nat)
/-- the least cost of rows r .. r + d, row r having act b -/
def tgA : Nat → Nat → Nat → Nat
  | 0, r, b => if al r b then sp b (cl r) else BIG
  | d + 1, r, b => if al r b then sp b (cl r) + rmin (al (r + 1)) (fun c => mv b c + tgA d (r + 1) c) a else BIG
/-- the same, to row n - 1 -/
def tgo (n r b : Nat) : Nat := tgA a al cl mv sp (n - 1 - r) r b
/-- the least cost of what is ahead of row k, with the change to act b -/
def bfo : Nat → Nat → Nat
  | 0, _ => 0
  | k + 1, b => rmin (al k) (fun c => bfo k c + sp c (cl k) + mv c b) a
/-- the best line, chosen from the first row on -/
def bln (n : Nat) : Nat → Nat
  | 0 => amin (fun b => tgo a al cl mv sp n 0 b) (a - 1)
  | k + 1 => amin (fun b => mv (bln n k) b + tgo a al cl mv sp n (k + 1) b) (a - 1)
/-- cost of rows 0 .. k of a line -/
def pcs (X : Nat → Nat) : Nat → Nat
  | 0 => sp (X 0) (cl 0)
  | k + 1 => pcs X k + mv (X k) (X (k + 1)) + sp (X (k + 1)) (cl (k + 1))
/-- cost of rows r .. r + d of a line -/
def sfc (X : Nat → Nat) : Nat → Nat → Nat
  | 0, r => sp (X r) (cl r)
  | d + 1, r => sp (X r) (cl r) + mv (X r) (X (r + 1)) + sfc X d (r + 1)
def vld (X : Nat → Nat) (k : Nat) : Prop := ∀ i, i ≤ k → X i < a ∧ al i (X i) = true
end DP
def lxl (X Y : Nat → Nat) (n : Nat) : Prop := ∃ j, j < n ∧ X j < Y j ∧ ∀ i, i < j → X i = Y i
theorem lxl_total (X Y : Nat → Nat) : ∀ n, lxl X Y n ∨ lxl Y X n ∨ ∀ i, i < n → X i = Y i
  | 0 => Or.inr (Or.inr (fun i h => absurd h (Nat.not_lt_zero i)))
  | n + 1 => by
    rcases lxl_total X Y n with h | h | h
    · obtain ⟨j, h1, h2, h3⟩ := h
      exact Or.inl ⟨j, by omega, h2, h3⟩
    · obtain ⟨j, h1, h2, h3⟩ := h
      exact Or.inr (Or.inl ⟨j, by omega, h2, h3⟩)
    · rcases Nat.lt_trichotomy (X n) (Y n) with q | q | q
      · exact Or.inl ⟨n, by omega, q, h⟩
      · refine Or.inr (Or.inr (fun i hi => ?_))
        by_cases hn : i = n
        · rw [hn]; exact q
        · exact h i (by omega)
      · exact Or.inr (Or.inl ⟨n, by omega, q, fun i hi => (h i hi).symm⟩)
theorem lxl_trans {X Y Z : Nat → Nat} {n : Nat} (h1 : lxl X Y n) (h2 : lxl Y Z n) : lxl X Z n := by
  obtain ⟨j, a1, a2, a3⟩ := h1
  obtain ⟨k, b1, b2, b3⟩ := h2
  rcases Nat.lt_trichotomy j k with q | q | q
  · exact ⟨j, a1, by rw [← b3 j q]; exact a2, fun i hi => (a3 i hi).trans (b3 i (by omega))⟩
  · subst q
    exact ⟨j, a1, by omega, fun i hi => (a3 i hi).trans (b3 i hi)⟩
  · exact ⟨k, b1, by rw [a3 k q]; exact b2, fun i hi => (a3 i (by omega)).trans (b3 i hi)⟩
theorem lxl_irr {X : Nat → Nat} {n : Nat} (h : lxl X X n) : False := by
  obtain ⟨j, a1, a2, a3⟩ := h
  omega
/-- not before, and not before: the first isn't before the last -/
theorem lxl_le {X Y Z : Nat → Nat} {n : Nat} (h1 : ¬ lxl X Y n) (h2 : ¬ lxl Y Z n) : ¬ lxl X Z n := by
  intro h
  rcases lxl_total X Y n with q | q | q
  · exact h1 q
  · exact h2 (lxl_trans q h)
  · obtain ⟨j, a1, a2, a3⟩ := h
    exact h2 ⟨j, a1, by rw [← q j a1]; exact a2, fun i hi => by rw [← q i (by omega)]; exact a3 i hi⟩
section DPT
variable {a : Nat} {al : Nat → Nat → Bool} {cl : Nat → Nat} {mv sp : Nat → Nat → Nat}
theorem pcs_sfc (X : Nat → Nat) : ∀ d r, pcs cl mv sp X r + mv (X r) (X (r + 1)) + sfc cl mv sp X d (r + 1) = pcs cl mv sp X (r + 1 + d)
  | 0, r => rfl
  | d + 1, r => by
    have h := pcs_sfc X d (r + 1)
    rw [show r + 1 + (d + 1) = r + 1 + 1 + d by omega, ← h]
    show _ + (_ + _ + _) = _
    rw [show pcs cl mv sp X (r + 1) = pcs cl mv sp X r + mv (X r) (X (r + 1)) + sp (X (r + 1)) (cl (r + 1)) from rfl]
    omega
theorem pcs_eq (X : Nat → Nat) (d : Nat) : sfc cl mv sp X d 0 = pcs cl mv sp X d := by
  cases d with
  | zero => rfl
  | succ d =>
    have h := pcs_sfc (cl := cl) (mv := mv) (sp := sp) X d 0
    rw [show d + 1 = 0 + 1 + d by omega, ← h]
    rw [show 0 + 1 + d = d + 1 by omega]
    rfl
/-- what holds of the numbers: costs are small, each row has an act that is true -/
def okN (a : Nat) (al : Nat → Nat → Bool) (cl : Nat → Nat) (mv sp : Nat → Nat → Nat) (n : Nat) : Prop :=
  0 < n ∧ n ≤ 200 ∧ 0 < a ∧ (∀ b c, b < a → c < a → mv b c ≤ 10000) ∧ (∀ b k, b < a → k < n → sp b (cl k) ≤ 10000) ∧ ∀ k, k < n → ∃ b, b < a ∧ al k b = true
theorem tgA_le {n : Nat} (h : okN a al cl mv sp n) : ∀ d r b, r + d < n → b < a → al r b = true → tgA a al cl mv sp d r b ≤ 20000 * (d + 1)
  | 0, r, b, hr, hb, hal => by
    have := h.2.2.2.2.1 b r hb (by omega)
    unfold tgA
    rw [if_pos hal]
    omega
  | d + 1, r, b, hr, hb, hal => by
    have h1 := h.2.2.2.2.1 b r hb (by omega)
    obtain ⟨c, hc, hca⟩ := h.2.2.2.2.2 (r + 1) (by omega)
    have h2 := tgA_le h d (r + 1) c (by omega) hc hca
    have h3 := h.2.2.2.1 b c hb hc
    have h4 := rmin_le (p := al (r + 1)) (f := fun c => mv b c + tgA a al cl mv sp d (r + 1) c) hc hca
    unfold tgA
    rw [if_pos hal]
    omega
theorem tgA_big {d r b : Nat} (h : al r b = false) : tgA a al cl mv sp d r b = BIG := by
  cases d <;> (unfold tgA; rw [if_neg (by rw [h]; decide)])
/-- the choice of the next act -/
theorem tg_pick {n : Nat} (h : okN a al cl mv sp n) {d r : Nat} (hr : r + d < n) (g : Nat → Nat) (hg : ∀ c, c < a → g c ≤ 10000) :
    amin (fun c => g c + tgA a al cl mv sp d r c) (a - 1) < a ∧ al r (amin (fun c => g c + tgA a al cl mv sp d r c) (a - 1)) = true ∧
      g (amin (fun c => g c + tgA a al cl mv sp d r c) (a - 1)) + tgA a al cl mv sp d r (amin (fun c => g c + tgA a al cl mv sp d r c) (a - 1)) = rmin (al r) (fun c => g c + tgA a al cl mv sp d r c) a := by
  obtain ⟨c, hc, hca⟩ := h.2.2.2.2.2 r (by omega)
  have h1 := tgA_le h d r c hr hc hca
  have h2 := hg c hc
  have hn := h.2.1
  have hk := amin_rmin (p := al r) (f := fun c => g c + tgA a al cl mv sp d r c) (a := a) ⟨c, hc, hca, by show g c + _ < BIG; unfold BIG; omega⟩ (fun c _ hf => by
    show BIG ≤ g c + _
    rw [tgA_big hf]
    omega)
  exact hk
theorem tgA_lb {n : Nat} {Y : Nat → Nat} : ∀ d r, r + d < n → (∀ i, r ≤ i → i ≤ r + d → Y i < a ∧ al i (Y i) = true) → tgA a al cl mv sp d r (Y r) ≤ sfc cl mv sp Y d r
  | 0, r, _, h => by
    unfold tgA sfc
    rw [if_pos (h r (by omega) (by omega)).2]
    omega
  | d + 1, r, hr, h => by
    have ih := tgA_lb (n := n) (Y := Y) d (r + 1) (by omega) (fun i h1 h2 => h i (by omega) (by omega))
    have h1 := h (r + 1) (by omega) (by omega)
    have h2 := rmin_le (p := al (r + 1)) (f := fun c => mv (Y r) c + tgA a al cl mv sp d (r + 1) c) h1.1 h1.2
    unfold tgA sfc
    rw [if_pos (h r (by omega) (by omega)).2]
    have h3 : (fun c => mv (Y r) c + tgA a al cl mv sp d (r + 1) c) (Y (r + 1)) = mv (Y r) (Y (r + 1)) + tgA a al cl mv sp d (r + 1) (Y (r + 1)) := rfl
    omega
theorem tgo_eq {n r : Nat} (hr : r + 1 < n) (b : Nat) : tgo a al cl mv sp n r b = if al r b then sp b (cl r) + rmin (al (r + 1)) (fun c => mv b c + tgo a al cl mv sp n (r + 1) c) a else BIG := by
  unfold tgo
  rw [show n - 1 - r = (n - 1 - (r + 1)) + 1 by omega]
  rfl
theorem tgo_last {n : Nat} (hn : 0 < n) (b : Nat) : tgo a al cl mv sp n (n - 1) b = if al (n - 1) b then sp b (cl (n - 1)) else BIG := by
  unfold tgo
  rw [show n - 1 - (n - 1) = 0 by omega]
  rfl
theorem tgo_le {n r b : Nat} (h : okN a al cl mv sp n) (hr : r < n) (hb : b < a) (hal : al r b = true) : tgo a al cl mv sp n r b ≤ 20000 * (n - r) := by
  have := tgA_le h (n - 1 - r) r b (by omega) hb hal
  unfold tgo
  rw [show n - r = n - 1 - r + 1 by omega]
  exact this
theorem tgo_big {n r b : Nat} (h : al r b = false) : tgo a al cl mv sp n r b = BIG := tgA_big h
theorem bln_ok {n : Nat} (h : okN a al cl mv sp n) : ∀ k, k < n → bln a al cl mv sp n k < a ∧ al k (bln a al cl mv sp n k) = true
  | 0, hk => by
    have := tg_pick h (d := n - 1 - 0) (r := 0) (by omega) (fun _ => 0) (fun _ _ => by omega)
    simp only [Nat.zero_add] at this
    exact ⟨this.1, this.2.1⟩
  | k + 1, hk => by
    have ih := bln_ok h k (by omega)
    have := tg_pick h (d := n - 1 - (k + 1)) (r := k + 1) (by omega) (fun c => mv (bln a al cl mv sp n k) c) (fun c hc => h.2.2.2.1 _ _ ih.1 hc)
    exact ⟨this.1, this.2.1⟩
theorem bln_sfc {n : Nat} (h : okN a al cl mv sp n) : ∀ d r, r + d + 1 = n → sfc cl mv sp (bln a al cl mv sp n) d r = tgA a al cl mv sp d r (bln a al cl mv sp n r)
  | 0, r, hr => by
    unfold tgA sfc
    rw [if_pos (bln_ok h r (by omega)).2]
  | d + 1, r, hr => by
    have ih := bln_sfc h d (r + 1) (by omega)
    have hb := bln_ok h r (by omega)
    have hp := tg_pick h (d := n - 1 - (r + 1)) (r := r + 1) (by omega) (fun c => mv (bln a al cl mv sp n r) c) (fun c hc => h.2.2.2.1 _ _ hb.1 hc)
    have hd : n - 1 - (r + 1) = d := by omega
    have e : bln a al cl mv sp n (r + 1) = amin (fun c => mv (bln a al cl mv sp n r) c + tgA a al cl mv sp (n - 1 - (r + 1)) (r + 1) c) (a - 1) := rfl
    rw [← e, hd] at hp
    unfold tgA sfc
    rw [if_pos hb.2, ih]
    have h3 := hp.2.2
    omega
/-- the cost of the best line -/
def bcs (a : Nat) (al : Nat → Nat → Bool) (cl : Nat → Nat) (mv sp : Nat → Nat → Nat) (n : Nat) : Nat := tgo a al cl mv sp n 0 (bln a al cl mv sp n 0)
theorem bln_cost {n : Nat} (h : okN a al cl mv sp n) : pcs cl mv sp (bln a al cl mv sp n) (n - 1) = bcs a al cl mv sp n := by
  have hn := h.1
  have := bln_sfc h (n - 1) 0 (by omega)
  rw [pcs_eq] at this
  rw [this]
  rfl
/-- a line is best: true, none costs less, none of the same cost is ahead of it -/
def isBest (a : Nat) (al : Nat → Nat → Bool) (cl : Nat → Nat) (mv sp : Nat → Nat → Nat) (n : Nat) (X : Nat → Nat) : Prop :=
  vld a al X (n - 1) ∧ ∀ Y, vld a al Y (n - 1) → pcs cl mv sp X (n - 1) ≤ pcs cl mv sp Y (n - 1) ∧ (pcs cl mv sp X (n - 1) = pcs cl mv sp Y (n - 1) → ¬ lxl Y X n)
theorem bln_best {n : Nat} (h : okN a al cl mv sp n) : isBest a al cl mv sp n (bln a al cl mv sp n) := by
  have hn := h.1
  refine ⟨fun i hi => bln_ok h i (by omega), fun Y hY => ?_⟩
  have hlb : ∀ r, r < n → tgo a al cl mv sp n r (Y r) ≤ sfc cl mv sp Y (n - 1 - r) r := fun r hr => tgA_lb (n := n) (n - 1 - r) r (by omega) (fun i h1 h2 => hY i (by omega))
  have h0 := hlb 0 (by omega)
  rw [show n - 1 - 0 = n - 1 by omega, pcs_eq] at h0
  have hm := amin_min (fun b => tgo a al cl mv sp n 0 b) (a - 1) (Y 0) (by have := (hY 0 (by omega)).1; omega)
  have hc := bln_cost h
  have hb : bcs a al cl mv sp n = tgo a al cl mv sp n 0 (amin (fun b => tgo a al cl mv sp n 0 b) (a - 1)) := rfl
  refine ⟨by omega, fun heq hlx => ?_⟩
  obtain ⟨j, hj, hlt, hpre⟩ := hlx
  cases j with
  | zero =>
    have hf := amin_first (fun b => tgo a al cl mv sp n 0 b) (a - 1) (Y 0) hlt
    omega
  | succ j =>
    have hf := amin_first (fun b => mv (bln a al cl mv sp n j) b + tgo a al cl mv sp n (j + 1) b) (a - 1) (Y (j + 1)) hlt
    have e1 : amin (fun b => mv (bln a al cl mv sp n j) b + tgo a al cl mv sp n (j + 1) b) (a - 1) = bln a al cl mv sp n (j + 1) := rfl
    rw [e1] at hf
    have hf : mv (bln a al cl mv sp n j) (bln a al cl mv sp n (j + 1)) + tgo a al cl mv sp n (j + 1) (bln a al cl mv sp n (j + 1)) < mv (bln a al cl mv sp n j) (Y (j + 1)) + tgo a al cl mv sp n (j + 1) (Y (j + 1)) := hf
    have hl := hlb (j + 1) hj
    have s1 := pcs_sfc (cl := cl) (mv := mv) (sp := sp) Y (n - 1 - (j + 1)) j
    have s2 := pcs_sfc (cl := cl) (mv := mv) (sp := sp) (bln a al cl mv sp n) (n - 1 - (j + 1)) j
    have s3 := bln_sfc h (n - 1 - (j + 1)) (j + 1) (by omega)
    rw [show j + 1 + (n - 1 - (j + 1)) = n - 1 by omega] at s1 s2
    have hpc : ∀ k, k ≤ j → pcs cl mv sp Y k = pcs cl mv sp (bln a al cl mv sp n) k := by
      intro k
      induction k with
      | zero =>
        intro _
        unfold pcs
        rw [hpre 0 (by omega)]
      | succ k ih =>
        intro hk
        unfold pcs
        rw [ih (by omega), hpre k (by omega), hpre (k + 1) (by omega)]
    have e2 := hpc j (Nat.le_refl j)
    have e3 := hpre j (by omega)
    rw [e3] at s1
    have e4 : tgo a al cl mv sp n (j + 1) (bln a al cl mv sp n (j + 1)) = tgA a al cl mv sp (n - 1 - (j + 1)) (j + 1) (bln a al cl mv sp n (j + 1)) := rfl
    omega
/-- there is but one best line -/
theorem best_uniq {n : Nat} {X Z : Nat → Nat} (hX : isBest a al cl mv sp n X) (hZ : isBest a al cl mv sp n Z) : ∀ i, i < n → X i = Z i := by
  have h1 := hX.2 Z hZ.1
  have h2 := hZ.2 X hX.1
  rcases lxl_total X Z n with h | h | h
  · exact absurd h (h2.2 (by omega))
  · exact absurd h (h1.2 (by omega))
  · exact h
end DPT
