/-! The best ways to an act, from the first row on -/
theorem pcs_congr {cl : Nat → Nat} {mv sp : Nat → Nat → Nat} {X Y : Nat → Nat} : ∀ {k : Nat}, (∀ i, i ≤ k → X i = Y i) → pcs cl mv sp X k = pcs cl mv sp Y k
  | 0, h => by unfold pcs; rw [h 0 (by omega)]
  | k + 1, h => by
    have ih := pcs_congr (cl := cl) (mv := mv) (sp := sp) (X := X) (Y := Y) (k := k) (fun i hi => h i (by omega))
    unfold pcs
    rw [ih, h k (by omega), h (k + 1) (by omega)]
theorem vld_congr {a : Nat} {al : Nat → Nat → Bool} {X Y : Nat → Nat} {k : Nat} (h : ∀ i, i ≤ k → X i = Y i) (hv : vld a al X k) : vld a al Y k := fun i hi => by
  rw [← h i hi]
  exact hv i hi
theorem lxl_congr {X Y X' Y' : Nat → Nat} {n : Nat} (h1 : ∀ i, i < n → X i = X' i) (h2 : ∀ i, i < n → Y i = Y' i) (h : lxl X Y n) : lxl X' Y' n := by
  obtain ⟨j, a1, a2, a3⟩ := h
  exact ⟨j, a1, by rw [← h1 j a1, ← h2 j a1]; exact a2, fun i hi => by rw [← h1 i (by omega), ← h2 i (by omega)]; exact a3 i hi⟩
section OPT
variable {a : Nat} {al : Nat → Nat → Bool} {cl : Nat → Nat} {mv sp : Nat → Nat → Nat}
def opt (a : Nat) (al : Nat → Nat → Bool) (cl : Nat → Nat) (mv sp : Nat → Nat → Nat) (k b : Nat) (X : Nat → Nat) : Prop :=
  vld a al X k ∧ X k = b ∧ ∀ Y, vld a al Y k → Y k = b → pcs cl mv sp X k ≤ pcs cl mv sp Y k ∧ (pcs cl mv sp X k = pcs cl mv sp Y k → ¬ lxl Y X (k + 1))
/-- way c is no worse than way z for the next act b -/
def noW (cl : Nat → Nat) (mv sp : Nat → Nat → Nat) (k b : Nat) (P : Nat → Nat → Nat) (c z : Nat) : Prop :=
  pcs cl mv sp (P c) k + mv c b < pcs cl mv sp (P z) k + mv z b ∨ (pcs cl mv sp (P c) k + mv c b = pcs cl mv sp (P z) k + mv z b ∧ ¬ lxl (P z) (P c) (k + 1))
theorem noW_trans {k b c z y : Nat} {P : Nat → Nat → Nat} (h1 : noW cl mv sp k b P c z) (h2 : noW cl mv sp k b P z y) : noW cl mv sp k b P c y := by
  rcases h1 with h1 | ⟨h1, g1⟩ <;> rcases h2 with h2 | ⟨h2, g2⟩
  · exact Or.inl (by omega)
  · exact Or.inl (by omega)
  · exact Or.inl (by omega)
  · exact Or.inr ⟨by omega, lxl_le g2 g1⟩
theorem noW_refl {k b c : Nat} {P : Nat → Nat → Nat} : noW cl mv sp k b P c c := Or.inr ⟨rfl, fun h => lxl_irr h⟩
theorem opt_0 {b : Nat} {X : Nat → Nat} (hb : b < a) (hal : al 0 b = true) (hX : X 0 = b) : opt a al cl mv sp 0 b X := by
  refine ⟨fun i hi => ?_, hX, fun Y _ hY => ?_⟩
  · rw [Nat.le_zero.mp hi, hX]
    exact ⟨hb, hal⟩
  · have e : pcs cl mv sp X 0 = pcs cl mv sp Y 0 := by unfold pcs; rw [hX, hY]
    refine ⟨by omega, fun _ h => ?_⟩
    obtain ⟨j, h1, h2, -⟩ := h
    rw [show j = 0 by omega, hX, hY] at h2
    omega
theorem opt_step {k b c : Nat} {P : Nat → Nat → Nat} {X : Nat → Nat} (hP : ∀ z, z < a → al k z = true → opt a al cl mv sp k z (P z)) (hc : c < a) (hca : al k c = true) (hbest : ∀ z, z < a → al k z = true → noW cl mv sp k b P c z) (hb : b < a) (hal : al (k + 1) b = true) (hX : ∀ i, i ≤ k → X i = P c i) (hXb : X (k + 1) = b) : opt a al cl mv sp (k + 1) b X := by
  have hPc := hP c hc hca
  have e1 : pcs cl mv sp X k = pcs cl mv sp (P c) k := pcs_congr hX
  have e2 : X k = c := by rw [hX k (Nat.le_refl k)]; exact hPc.2.1
  have e3 : pcs cl mv sp X (k + 1) = pcs cl mv sp (P c) k + mv c b + sp b (cl (k + 1)) := by
    show pcs cl mv sp X k + mv (X k) (X (k + 1)) + sp (X (k + 1)) (cl (k + 1)) = _
    rw [e1, e2, hXb]
  refine ⟨fun i hi => ?_, hXb, fun Y hY hYb => ?_⟩
  · by_cases hik : i = k + 1
    · rw [hik, hXb]; exact ⟨hb, hal⟩
    · rw [hX i (by omega)]
      exact hPc.1 i (by omega)
  · have hz := hY k (by omega)
    have hPz := (hP (Y k) hz.1 hz.2).2.2 Y (fun i hi => hY i (by omega)) rfl
    have f3 : pcs cl mv sp Y (k + 1) = pcs cl mv sp Y k + mv (Y k) b + sp b (cl (k + 1)) := by
      show pcs cl mv sp Y k + mv (Y k) (Y (k + 1)) + sp (Y (k + 1)) (cl (k + 1)) = _
      rw [hYb]
    rcases hbest (Y k) hz.1 hz.2 with h | ⟨h, g⟩
    · exact ⟨by omega, fun q => by omega⟩
    · refine ⟨by omega, fun q hl => ?_⟩
      have g2 := hPz.2 (by omega)
      have g3 : ¬ lxl Y (P c) (k + 1) := lxl_le g2 g
      obtain ⟨j, h1, h2, h3⟩ := hl
      by_cases hj : j = k + 1
      · rw [hj, hYb, hXb] at h2
        omega
      · exact g3 ⟨j, by omega, by rw [← hX j (by omega)]; exact h2, fun i hi => by rw [← hX i (by omega)]; exact h3 i hi⟩
/-- way c is no worse than way z at the end -/
def noE (cl : Nat → Nat) (mv sp : Nat → Nat → Nat) (k : Nat) (P : Nat → Nat → Nat) (c z : Nat) : Prop :=
  pcs cl mv sp (P c) k < pcs cl mv sp (P z) k ∨ (pcs cl mv sp (P c) k = pcs cl mv sp (P z) k ∧ ¬ lxl (P z) (P c) (k + 1))
theorem noE_trans {k c z y : Nat} {P : Nat → Nat → Nat} (h1 : noE cl mv sp k P c z) (h2 : noE cl mv sp k P z y) : noE cl mv sp k P c y := by
  rcases h1 with h1 | ⟨h1, g1⟩ <;> rcases h2 with h2 | ⟨h2, g2⟩
  · exact Or.inl (by omega)
  · exact Or.inl (by omega)
  · exact Or.inl (by omega)
  · exact Or.inr ⟨by omega, lxl_le g2 g1⟩
theorem noE_refl {k c : Nat} {P : Nat → Nat → Nat} : noE cl mv sp k P c c := Or.inr ⟨rfl, fun h => lxl_irr h⟩
theorem opt_end {n c : Nat} {P : Nat → Nat → Nat} (hn : 0 < n) (hP : ∀ z, z < a → al (n - 1) z = true → opt a al cl mv sp (n - 1) z (P z)) (hc : c < a) (hca : al (n - 1) c = true) (hbest : ∀ z, z < a → al (n - 1) z = true → noE cl mv sp (n - 1) P c z) : isBest a al cl mv sp n (P c) := by
  refine ⟨(hP c hc hca).1, fun Y hY => ?_⟩
  have hz := hY (n - 1) (Nat.le_refl _)
  have hPz := (hP (Y (n - 1)) hz.1 hz.2).2.2 Y hY rfl
  rw [show n - 1 + 1 = n by omega] at hPz
  rcases hbest (Y (n - 1)) hz.1 hz.2 with h | ⟨h, g⟩
  · exact ⟨by omega, fun q => by omega⟩
  · rw [show n - 1 + 1 = n by omega] at g
    exact ⟨by omega, fun q => lxl_le (hPz.2 (by omega)) g⟩
theorem pcs_le {n : Nat} {X : Nat → Nat} (h : okN a al cl mv sp n) : ∀ k, k < n → vld a al X k → pcs cl mv sp X k ≤ 20000 * (k + 1)
  | 0, hk, hv => by
    have := h.2.2.2.2.1 (X 0) 0 (hv 0 (by omega)).1 hk
    unfold pcs
    omega
  | k + 1, hk, hv => by
    have ih := pcs_le (X := X) h k (by omega) (fun i hi => hv i (by omega))
    have h1 := h.2.2.2.2.1 (X (k + 1)) (k + 1) (hv (k + 1) (by omega)).1 hk
    have h2 := h.2.2.2.1 (X k) (X (k + 1)) (hv k (by omega)).1 (hv (k + 1) (by omega)).1
    unfold pcs
    omega
end OPT
theorem lexL_lxl {f g : Nat → Int32} {F G : Nat → Nat} {n : Nat} (hf : ∀ i, i < n → f i = nI (F i) ∧ F i < 2 ^ 31) (hg : ∀ i, i < n → g i = nI (G i) ∧ G i < 2 ^ 31) : lexL f g n = true ↔ lxl F G n := by
  rw [lexL_iff]
  constructor
  · rintro ⟨k, hk, h1, h2⟩
    refine ⟨k, hk, ?_, fun i hi => ?_⟩
    · rw [(hf k hk).1, (hg k hk).1] at h1
      exact (nI_ltI (hf k hk).2 (hg k hk).2).mp h1
    · have := h2 i hi
      rw [(hf i (by omega)).1, (hg i (by omega)).1] at this
      exact (nI_eq (hf i (by omega)).2 (hg i (by omega)).2).mp this
  · rintro ⟨k, hk, h1, h2⟩
    refine ⟨k, hk, ?_, fun i hi => ?_⟩
    · rw [(hf k hk).1, (hg k hk).1]
      exact (nI_ltI (hf k hk).2 (hg k hk).2).mpr h1
    · rw [(hf i (by omega)).1, (hg i (by omega)).1, h2 i hi]
