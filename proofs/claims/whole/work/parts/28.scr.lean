/-! Worlds in which some arrays of the reference hold other numbers -/
theorem gW_eq {D : va_G} {cl : List vw_C} {A : Nat → Prop} {ad : Nat → Nat} {co co1 : Nat → va_E} {dl : List Nat} {H : Heap} (h : co = co1) (hW : gW D cl A ad co dl H) : gW D cl A ad co1 dl H := by
  subst h
  exact hW
def wS (cI cJ : ClassId) (co : Nat → va_E) (f420 : Nat → Int32) (f421 : Nat → Int32) (f422 : Nat → Int32) (f423 : Nat → Int32) (f426 : Nat → Int32) : Nat → va_E := va_up (va_up (va_up (va_up (va_up co 420 (.inl (cI, 2400, .inl f420))) 421 (.inl (cI, 2400, .inl f421))) 422 (.inl (cI, 12, .inl f422))) 423 (.inl (cI, 12, .inl f423))) 426 (.inl (cI, 200, .inl f426))
theorem wS_420 {cI cJ : ClassId} {co : Nat → va_E} {f420 : Nat → Int32} {f421 : Nat → Int32} {f422 : Nat → Int32} {f423 : Nat → Int32} {f426 : Nat → Int32} : wS cI cJ co f420 f421 f422 f423 f426 420 = .inl (cI, 2400, .inl f420) := by simp [wS, va_up]
theorem wS_u420 {cI cJ : ClassId} {co : Nat → va_E} {f420 : Nat → Int32} {f421 : Nat → Int32} {f422 : Nat → Int32} {f423 : Nat → Int32} {f426 : Nat → Int32} {g : Nat → Int32} : va_up (wS cI cJ co f420 f421 f422 f423 f426) 420 (.inl (cI, 2400, .inl g)) = wS cI cJ co g f421 f422 f423 f426 := by
  funext i
  by_cases h : i = 420
  · subst h; simp [wS, va_up]
  · simp [wS, va_up, h]
theorem wS_421 {cI cJ : ClassId} {co : Nat → va_E} {f420 : Nat → Int32} {f421 : Nat → Int32} {f422 : Nat → Int32} {f423 : Nat → Int32} {f426 : Nat → Int32} : wS cI cJ co f420 f421 f422 f423 f426 421 = .inl (cI, 2400, .inl f421) := by simp [wS, va_up]
theorem wS_u421 {cI cJ : ClassId} {co : Nat → va_E} {f420 : Nat → Int32} {f421 : Nat → Int32} {f422 : Nat → Int32} {f423 : Nat → Int32} {f426 : Nat → Int32} {g : Nat → Int32} : va_up (wS cI cJ co f420 f421 f422 f423 f426) 421 (.inl (cI, 2400, .inl g)) = wS cI cJ co f420 g f422 f423 f426 := by
  funext i
  by_cases h : i = 421
  · subst h; simp [wS, va_up]
  · simp [wS, va_up, h]
theorem wS_422 {cI cJ : ClassId} {co : Nat → va_E} {f420 : Nat → Int32} {f421 : Nat → Int32} {f422 : Nat → Int32} {f423 : Nat → Int32} {f426 : Nat → Int32} : wS cI cJ co f420 f421 f422 f423 f426 422 = .inl (cI, 12, .inl f422) := by simp [wS, va_up]
theorem wS_u422 {cI cJ : ClassId} {co : Nat → va_E} {f420 : Nat → Int32} {f421 : Nat → Int32} {f422 : Nat → Int32} {f423 : Nat → Int32} {f426 : Nat → Int32} {g : Nat → Int32} : va_up (wS cI cJ co f420 f421 f422 f423 f426) 422 (.inl (cI, 12, .inl g)) = wS cI cJ co f420 f421 g f423 f426 := by
  funext i
  by_cases h : i = 422
  · subst h; simp [wS, va_up]
  · simp [wS, va_up, h]
theorem wS_423 {cI cJ : ClassId} {co : Nat → va_E} {f420 : Nat → Int32} {f421 : Nat → Int32} {f422 : Nat → Int32} {f423 : Nat → Int32} {f426 : Nat → Int32} : wS cI cJ co f420 f421 f422 f423 f426 423 = .inl (cI, 12, .inl f423) := by simp [wS, va_up]
theorem wS_u423 {cI cJ : ClassId} {co : Nat → va_E} {f420 : Nat → Int32} {f421 : Nat → Int32} {f422 : Nat → Int32} {f423 : Nat → Int32} {f426 : Nat → Int32} {g : Nat → Int32} : va_up (wS cI cJ co f420 f421 f422 f423 f426) 423 (.inl (cI, 12, .inl g)) = wS cI cJ co f420 f421 f422 g f426 := by
  funext i
  by_cases h : i = 423
  · subst h; simp [wS, va_up]
  · simp [wS, va_up, h]
theorem wS_426 {cI cJ : ClassId} {co : Nat → va_E} {f420 : Nat → Int32} {f421 : Nat → Int32} {f422 : Nat → Int32} {f423 : Nat → Int32} {f426 : Nat → Int32} : wS cI cJ co f420 f421 f422 f423 f426 426 = .inl (cI, 200, .inl f426) := by simp [wS, va_up]
theorem wS_u426 {cI cJ : ClassId} {co : Nat → va_E} {f420 : Nat → Int32} {f421 : Nat → Int32} {f422 : Nat → Int32} {f423 : Nat → Int32} {f426 : Nat → Int32} {g : Nat → Int32} : va_up (wS cI cJ co f420 f421 f422 f423 f426) 426 (.inl (cI, 200, .inl g)) = wS cI cJ co f420 f421 f422 f423 g := by
  funext i
  by_cases h : i = 426
  · subst h; simp [wS, va_up]
  · simp [wS, va_up, h]
theorem wS_o {cI cJ : ClassId} {co : Nat → va_E} {f420 : Nat → Int32} {f421 : Nat → Int32} {f422 : Nat → Int32} {f423 : Nat → Int32} {f426 : Nat → Int32} {i : Nat} (h : i ≠ 420 ∧ i ≠ 421 ∧ i ≠ 422 ∧ i ≠ 423 ∧ i ≠ 426) : wS cI cJ co f420 f421 f422 f423 f426 i = co i := by simp [wS, va_up, h]
theorem wS_self {cI cJ : ClassId} {co : Nat → va_E} {f420 : Nat → Int32} {f421 : Nat → Int32} {f422 : Nat → Int32} {f423 : Nat → Int32} {f426 : Nat → Int32} (h420 : co 420 = .inl (cI, 2400, .inl f420)) (h421 : co 421 = .inl (cI, 2400, .inl f421)) (h422 : co 422 = .inl (cI, 12, .inl f422)) (h423 : co 423 = .inl (cI, 12, .inl f423)) (h426 : co 426 = .inl (cI, 200, .inl f426)) : co = wS cI cJ co f420 f421 f422 f423 f426 := by
  funext i
  by_cases k420 : i = 420
  · subst k420; rw [wS_420]; exact h420
  by_cases k421 : i = 421
  · subst k421; rw [wS_421]; exact h421
  by_cases k422 : i = 422
  · subst k422; rw [wS_422]; exact h422
  by_cases k423 : i = 423
  · subst k423; rw [wS_423]; exact h423
  by_cases k426 : i = 426
  · subst k426; rw [wS_426]; exact h426
  exact (wS_o ⟨k420, k421, k422, k423, k426⟩).symm
theorem wS_tw {cI cJ : ClassId} {co : Nat → va_E} {f420 : Nat → Int32} {f421 : Nat → Int32} {f422 : Nat → Int32} {f423 : Nat → Int32} {f426 : Nat → Int32} {g420 : Nat → Int32} {g421 : Nat → Int32} {g422 : Nat → Int32} {g423 : Nat → Int32} {g426 : Nat → Int32} : wS cI cJ (wS cI cJ co f420 f421 f422 f423 f426) g420 g421 g422 g423 g426 = wS cI cJ co g420 g421 g422 g423 g426 := by
  funext i
  by_cases k420 : i = 420
  · subst k420; rw [wS_420, wS_420]
  by_cases k421 : i = 421
  · subst k421; rw [wS_421, wS_421]
  by_cases k422 : i = 422
  · subst k422; rw [wS_422, wS_422]
  by_cases k423 : i = 423
  · subst k423; rw [wS_423, wS_423]
  by_cases k426 : i = 426
  · subst k426; rw [wS_426, wS_426]
  rw [wS_o ⟨k420, k421, k422, k423, k426⟩, wS_o ⟨k420, k421, k422, k423, k426⟩, wS_o ⟨k420, k421, k422, k423, k426⟩]
def wB (cI cJ : ClassId) (co : Nat → va_E) (f424 : Nat → Int32) (f425 : Nat → Int32) : Nat → va_E := va_up (va_up co 424 (.inl (cI, 2400, .inl f424))) 425 (.inl (cI, 2400, .inl f425))
theorem wB_424 {cI cJ : ClassId} {co : Nat → va_E} {f424 : Nat → Int32} {f425 : Nat → Int32} : wB cI cJ co f424 f425 424 = .inl (cI, 2400, .inl f424) := by simp [wB, va_up]
theorem wB_u424 {cI cJ : ClassId} {co : Nat → va_E} {f424 : Nat → Int32} {f425 : Nat → Int32} {g : Nat → Int32} : va_up (wB cI cJ co f424 f425) 424 (.inl (cI, 2400, .inl g)) = wB cI cJ co g f425 := by
  funext i
  by_cases h : i = 424
  · subst h; simp [wB, va_up]
  · simp [wB, va_up, h]
theorem wB_425 {cI cJ : ClassId} {co : Nat → va_E} {f424 : Nat → Int32} {f425 : Nat → Int32} : wB cI cJ co f424 f425 425 = .inl (cI, 2400, .inl f425) := by simp [wB, va_up]
theorem wB_u425 {cI cJ : ClassId} {co : Nat → va_E} {f424 : Nat → Int32} {f425 : Nat → Int32} {g : Nat → Int32} : va_up (wB cI cJ co f424 f425) 425 (.inl (cI, 2400, .inl g)) = wB cI cJ co f424 g := by
  funext i
  by_cases h : i = 425
  · subst h; simp [wB, va_up]
  · simp [wB, va_up, h]
theorem wB_o {cI cJ : ClassId} {co : Nat → va_E} {f424 : Nat → Int32} {f425 : Nat → Int32} {i : Nat} (h : i ≠ 424 ∧ i ≠ 425) : wB cI cJ co f424 f425 i = co i := by simp [wB, va_up, h]
theorem wB_self {cI cJ : ClassId} {co : Nat → va_E} {f424 : Nat → Int32} {f425 : Nat → Int32} (h424 : co 424 = .inl (cI, 2400, .inl f424)) (h425 : co 425 = .inl (cI, 2400, .inl f425)) : co = wB cI cJ co f424 f425 := by
  funext i
  by_cases k424 : i = 424
  · subst k424; rw [wB_424]; exact h424
  by_cases k425 : i = 425
  · subst k425; rw [wB_425]; exact h425
  exact (wB_o ⟨k424, k425⟩).symm
theorem wB_tw {cI cJ : ClassId} {co : Nat → va_E} {f424 : Nat → Int32} {f425 : Nat → Int32} {g424 : Nat → Int32} {g425 : Nat → Int32} : wB cI cJ (wB cI cJ co f424 f425) g424 g425 = wB cI cJ co g424 g425 := by
  funext i
  by_cases k424 : i = 424
  · subst k424; rw [wB_424, wB_424]
  by_cases k425 : i = 425
  · subst k425; rw [wB_425, wB_425]
  rw [wB_o ⟨k424, k425⟩, wB_o ⟨k424, k425⟩, wB_o ⟨k424, k425⟩]
def wC (cI cJ : ClassId) (co : Nat → va_E) (f401 : Nat → Int32) (f402 : Nat → Int32) : Nat → va_E := va_up (va_up co 401 (.inl (cI, 144, .inl f401))) 402 (.inl (cI, 120, .inl f402))
theorem wC_401 {cI cJ : ClassId} {co : Nat → va_E} {f401 : Nat → Int32} {f402 : Nat → Int32} : wC cI cJ co f401 f402 401 = .inl (cI, 144, .inl f401) := by simp [wC, va_up]
theorem wC_u401 {cI cJ : ClassId} {co : Nat → va_E} {f401 : Nat → Int32} {f402 : Nat → Int32} {g : Nat → Int32} : va_up (wC cI cJ co f401 f402) 401 (.inl (cI, 144, .inl g)) = wC cI cJ co g f402 := by
  funext i
  by_cases h : i = 401
  · subst h; simp [wC, va_up]
  · simp [wC, va_up, h]
theorem wC_402 {cI cJ : ClassId} {co : Nat → va_E} {f401 : Nat → Int32} {f402 : Nat → Int32} : wC cI cJ co f401 f402 402 = .inl (cI, 120, .inl f402) := by simp [wC, va_up]
theorem wC_u402 {cI cJ : ClassId} {co : Nat → va_E} {f401 : Nat → Int32} {f402 : Nat → Int32} {g : Nat → Int32} : va_up (wC cI cJ co f401 f402) 402 (.inl (cI, 120, .inl g)) = wC cI cJ co f401 g := by
  funext i
  by_cases h : i = 402
  · subst h; simp [wC, va_up]
  · simp [wC, va_up, h]
theorem wC_o {cI cJ : ClassId} {co : Nat → va_E} {f401 : Nat → Int32} {f402 : Nat → Int32} {i : Nat} (h : i ≠ 401 ∧ i ≠ 402) : wC cI cJ co f401 f402 i = co i := by simp [wC, va_up, h]
theorem wC_self {cI cJ : ClassId} {co : Nat → va_E} {f401 : Nat → Int32} {f402 : Nat → Int32} (h401 : co 401 = .inl (cI, 144, .inl f401)) (h402 : co 402 = .inl (cI, 120, .inl f402)) : co = wC cI cJ co f401 f402 := by
  funext i
  by_cases k401 : i = 401
  · subst k401; rw [wC_401]; exact h401
  by_cases k402 : i = 402
  · subst k402; rw [wC_402]; exact h402
  exact (wC_o ⟨k401, k402⟩).symm
theorem wC_tw {cI cJ : ClassId} {co : Nat → va_E} {f401 : Nat → Int32} {f402 : Nat → Int32} {g401 : Nat → Int32} {g402 : Nat → Int32} : wC cI cJ (wC cI cJ co f401 f402) g401 g402 = wC cI cJ co g401 g402 := by
  funext i
  by_cases k401 : i = 401
  · subst k401; rw [wC_401, wC_401]
  by_cases k402 : i = 402
  · subst k402; rw [wC_402, wC_402]
  rw [wC_o ⟨k401, k402⟩, wC_o ⟨k401, k402⟩, wC_o ⟨k401, k402⟩]
def wV (cI cJ : ClassId) (co : Nat → va_E) (f401 : Nat → Int32) (f402 : Nat → Int32) (f403 : Nat → Int32) (f404 : Nat → Int32) : Nat → va_E := va_up (va_up (va_up (va_up co 401 (.inl (cI, 144, .inl f401))) 402 (.inl (cI, 120, .inl f402))) 403 (.inl (cI, 144, .inl f403))) 404 (.inl (cI, 120, .inl f404))
theorem wV_401 {cI cJ : ClassId} {co : Nat → va_E} {f401 : Nat → Int32} {f402 : Nat → Int32} {f403 : Nat → Int32} {f404 : Nat → Int32} : wV cI cJ co f401 f402 f403 f404 401 = .inl (cI, 144, .inl f401) := by simp [wV, va_up]
theorem wV_u401 {cI cJ : ClassId} {co : Nat → va_E} {f401 : Nat → Int32} {f402 : Nat → Int32} {f403 : Nat → Int32} {f404 : Nat → Int32} {g : Nat → Int32} : va_up (wV cI cJ co f401 f402 f403 f404) 401 (.inl (cI, 144, .inl g)) = wV cI cJ co g f402 f403 f404 := by
  funext i
  by_cases h : i = 401
  · subst h; simp [wV, va_up]
  · simp [wV, va_up, h]
theorem wV_402 {cI cJ : ClassId} {co : Nat → va_E} {f401 : Nat → Int32} {f402 : Nat → Int32} {f403 : Nat → Int32} {f404 : Nat → Int32} : wV cI cJ co f401 f402 f403 f404 402 = .inl (cI, 120, .inl f402) := by simp [wV, va_up]
theorem wV_u402 {cI cJ : ClassId} {co : Nat → va_E} {f401 : Nat → Int32} {f402 : Nat → Int32} {f403 : Nat → Int32} {f404 : Nat → Int32} {g : Nat → Int32} : va_up (wV cI cJ co f401 f402 f403 f404) 402 (.inl (cI, 120, .inl g)) = wV cI cJ co f401 g f403 f404 := by
  funext i
  by_cases h : i = 402
  · subst h; simp [wV, va_up]
  · simp [wV, va_up, h]
theorem wV_403 {cI cJ : ClassId} {co : Nat → va_E} {f401 : Nat → Int32} {f402 : Nat → Int32} {f403 : Nat → Int32} {f404 : Nat → Int32} : wV cI cJ co f401 f402 f403 f404 403 = .inl (cI, 144, .inl f403) := by simp [wV, va_up]
theorem wV_u403 {cI cJ : ClassId} {co : Nat → va_E} {f401 : Nat → Int32} {f402 : Nat → Int32} {f403 : Nat → Int32} {f404 : Nat → Int32} {g : Nat → Int32} : va_up (wV cI cJ co f401 f402 f403 f404) 403 (.inl (cI, 144, .inl g)) = wV cI cJ co f401 f402 g f404 := by
  funext i
  by_cases h : i = 403
  · subst h; simp [wV, va_up]
  · simp [wV, va_up, h]
theorem wV_404 {cI cJ : ClassId} {co : Nat → va_E} {f401 : Nat → Int32} {f402 : Nat → Int32} {f403 : Nat → Int32} {f404 : Nat → Int32} : wV cI cJ co f401 f402 f403 f404 404 = .inl (cI, 120, .inl f404) := by simp [wV, va_up]
theorem wV_u404 {cI cJ : ClassId} {co : Nat → va_E} {f401 : Nat → Int32} {f402 : Nat → Int32} {f403 : Nat → Int32} {f404 : Nat → Int32} {g : Nat → Int32} : va_up (wV cI cJ co f401 f402 f403 f404) 404 (.inl (cI, 120, .inl g)) = wV cI cJ co f401 f402 f403 g := by
  funext i
  by_cases h : i = 404
  · subst h; simp [wV, va_up]
  · simp [wV, va_up, h]
theorem wV_o {cI cJ : ClassId} {co : Nat → va_E} {f401 : Nat → Int32} {f402 : Nat → Int32} {f403 : Nat → Int32} {f404 : Nat → Int32} {i : Nat} (h : i ≠ 401 ∧ i ≠ 402 ∧ i ≠ 403 ∧ i ≠ 404) : wV cI cJ co f401 f402 f403 f404 i = co i := by simp [wV, va_up, h]
theorem wV_self {cI cJ : ClassId} {co : Nat → va_E} {f401 : Nat → Int32} {f402 : Nat → Int32} {f403 : Nat → Int32} {f404 : Nat → Int32} (h401 : co 401 = .inl (cI, 144, .inl f401)) (h402 : co 402 = .inl (cI, 120, .inl f402)) (h403 : co 403 = .inl (cI, 144, .inl f403)) (h404 : co 404 = .inl (cI, 120, .inl f404)) : co = wV cI cJ co f401 f402 f403 f404 := by
  funext i
  by_cases k401 : i = 401
  · subst k401; rw [wV_401]; exact h401
  by_cases k402 : i = 402
  · subst k402; rw [wV_402]; exact h402
  by_cases k403 : i = 403
  · subst k403; rw [wV_403]; exact h403
  by_cases k404 : i = 404
  · subst k404; rw [wV_404]; exact h404
  exact (wV_o ⟨k401, k402, k403, k404⟩).symm
theorem wV_tw {cI cJ : ClassId} {co : Nat → va_E} {f401 : Nat → Int32} {f402 : Nat → Int32} {f403 : Nat → Int32} {f404 : Nat → Int32} {g401 : Nat → Int32} {g402 : Nat → Int32} {g403 : Nat → Int32} {g404 : Nat → Int32} : wV cI cJ (wV cI cJ co f401 f402 f403 f404) g401 g402 g403 g404 = wV cI cJ co g401 g402 g403 g404 := by
  funext i
  by_cases k401 : i = 401
  · subst k401; rw [wV_401, wV_401]
  by_cases k402 : i = 402
  · subst k402; rw [wV_402, wV_402]
  by_cases k403 : i = 403
  · subst k403; rw [wV_403, wV_403]
  by_cases k404 : i = 404
  · subst k404; rw [wV_404, wV_404]
  rw [wV_o ⟨k401, k402, k403, k404⟩, wV_o ⟨k401, k402, k403, k404⟩, wV_o ⟨k401, k402, k403, k404⟩]
/-- the ways that the reference holds behind row k -/
def sInv (a : Nat) (al : Nat → Nat → Bool) (cl : Nat → Nat) (mv sp : Nat → Nat → Nat) (k z : Nat) (P : Nat → Nat → Nat) (S C : Nat → Int32) : Prop :=
  ∀ b, b < z → (al k b = true → opt a al cl mv sp k b (P b) ∧ C b = nI (pcs cl mv sp (P b) k) ∧ ∀ i, i ≤ k → S (200 * b + i) = nI (P b i)) ∧ (al k b = false → C b = nI BIG)
/-- the best way so far to act z -/
def sBst (al : Nat → Nat → Bool) (cl : Nat → Nat) (mv sp : Nat → Nat → Nat) (k z c : Nat) (P : Nat → Nat → Nat) (bs : Int32) (lN : Nat) : Prop :=
  (bs = -1 ∧ lN = BIG ∧ ∀ y, y < c → al k y = false) ∨ (∃ x, x < c ∧ bs = nI x ∧ al k x = true ∧ lN = pcs cl mv sp (P x) k + mv x z ∧ ∀ y, y < c → al k y = true → noW cl mv sp k z P x y)
