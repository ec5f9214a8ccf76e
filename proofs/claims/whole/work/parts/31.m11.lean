def wK (cI cJ : ClassId) (co : Nat → va_E) (f417 : Nat → Int32) (f418 : Nat → Int32) : Nat → va_E := va_up (va_up co 417 (.inl (cI, 200, .inl f417))) 418 (.inl (cI, 200, .inl f418))
theorem wK_417 {cI cJ : ClassId} {co : Nat → va_E} {f417 : Nat → Int32} {f418 : Nat → Int32} : wK cI cJ co f417 f418 417 = .inl (cI, 200, .inl f417) := by simp [wK, va_up]
theorem wK_u417 {cI cJ : ClassId} {co : Nat → va_E} {f417 : Nat → Int32} {f418 : Nat → Int32} {g : Nat → Int32} : va_up (wK cI cJ co f417 f418) 417 (.inl (cI, 200, .inl g)) = wK cI cJ co g f418 := by
  funext i
  by_cases h : i = 417
  · subst h; simp [wK, va_up]
  · simp [wK, va_up, h]
theorem wK_418 {cI cJ : ClassId} {co : Nat → va_E} {f417 : Nat → Int32} {f418 : Nat → Int32} : wK cI cJ co f417 f418 418 = .inl (cI, 200, .inl f418) := by simp [wK, va_up]
theorem wK_u418 {cI cJ : ClassId} {co : Nat → va_E} {f417 : Nat → Int32} {f418 : Nat → Int32} {g : Nat → Int32} : va_up (wK cI cJ co f417 f418) 418 (.inl (cI, 200, .inl g)) = wK cI cJ co f417 g := by
  funext i
  by_cases h : i = 418
  · subst h; simp [wK, va_up]
  · simp [wK, va_up, h]
theorem wK_o {cI cJ : ClassId} {co : Nat → va_E} {f417 : Nat → Int32} {f418 : Nat → Int32} {i : Nat} (h : i ≠ 417 ∧ i ≠ 418) : wK cI cJ co f417 f418 i = co i := by simp [wK, va_up, h]
theorem wK_self {cI cJ : ClassId} {co : Nat → va_E} {f417 : Nat → Int32} {f418 : Nat → Int32} (h417 : co 417 = .inl (cI, 200, .inl f417)) (h418 : co 418 = .inl (cI, 200, .inl f418)) : co = wK cI cJ co f417 f418 := by
  funext i
  by_cases k417 : i = 417
  · subst k417; rw [wK_417]; exact h417
  by_cases k418 : i = 418
  · subst k418; rw [wK_418]; exact h418
  exact (wK_o ⟨k417, k418⟩).symm
theorem wK_tw {cI cJ : ClassId} {co : Nat → va_E} {f417 : Nat → Int32} {f418 : Nat → Int32} {g417 : Nat → Int32} {g418 : Nat → Int32} : wK cI cJ (wK cI cJ co f417 f418) g417 g418 = wK cI cJ co g417 g418 := by
  funext i
  by_cases k417 : i = 417
  · subst k417; rw [wK_417, wK_417]
  by_cases k418 : i = 418
  · subst k418; rw [wK_418, wK_418]
  rw [wK_o ⟨k417, k418⟩, wK_o ⟨k417, k418⟩, wK_o ⟨k417, k418⟩]
def wX (cI cJ : ClassId) (co : Nat → va_E) (f417 : Nat → Int32) (f418 : Nat → Int32) (f420 : Nat → Int32) (f421 : Nat → Int32) (f422 : Nat → Int32) (f423 : Nat → Int32) (f424 : Nat → Int32) (f425 : Nat → Int32) (f426 : Nat → Int32) : Nat → va_E := va_up (va_up (va_up (va_up (va_up (va_up (va_up (va_up (va_up co 417 (.inl (cI, 200, .inl f417))) 418 (.inl (cI, 200, .inl f418))) 420 (.inl (cI, 2400, .inl f420))) 421 (.inl (cI, 2400, .inl f421))) 422 (.inl (cI, 12, .inl f422))) 423 (.inl (cI, 12, .inl f423))) 424 (.inl (cI, 2400, .inl f424))) 425 (.inl (cI, 2400, .inl f425))) 426 (.inl (cI, 200, .inl f426))
theorem wX_417 {cI cJ : ClassId} {co : Nat → va_E} {f417 : Nat → Int32} {f418 : Nat → Int32} {f420 : Nat → Int32} {f421 : Nat → Int32} {f422 : Nat → Int32} {f423 : Nat → Int32} {f424 : Nat → Int32} {f425 : Nat → Int32} {f426 : Nat → Int32} : wX cI cJ co f417 f418 f420 f421 f422 f423 f424 f425 f426 417 = .inl (cI, 200, .inl f417) := by simp [wX, va_up]
theorem wX_u417 {cI cJ : ClassId} {co : Nat → va_E} {f417 : Nat → Int32} {f418 : Nat → Int32} {f420 : Nat → Int32} {f421 : Nat → Int32} {f422 : Nat → Int32} {f423 : Nat → Int32} {f424 : Nat → Int32} {f425 : Nat → Int32} {f426 : Nat → Int32} {g : Nat → Int32} : va_up (wX cI cJ co f417 f418 f420 f421 f422 f423 f424 f425 f426) 417 (.inl (cI, 200, .inl g)) = wX cI cJ co g f418 f420 f421 f422 f423 f424 f425 f426 := by
  funext i
  by_cases h : i = 417
  · subst h; simp [wX, va_up]
  · simp [wX, va_up, h]
theorem wX_418 {cI cJ : ClassId} {co : Nat → va_E} {f417 : Nat → Int32} {f418 : Nat → Int32} {f420 : Nat → Int32} {f421 : Nat → Int32} {f422 : Nat → Int32} {f423 : Nat → Int32} {f424 : Nat → Int32} {f425 : Nat → Int32} {f426 : Nat → Int32} : wX cI cJ co f417 f418 f420 f421 f422 f423 f424 f425 f426 418 = .inl (cI, 200, .inl f418) := by simp [wX, va_up]
theorem wX_u418 {cI cJ : ClassId} {co : Nat → va_E} {f417 : Nat → Int32} {f418 : Nat → Int32} {f420 : Nat → Int32} {f421 : Nat → Int32} {f422 : Nat → Int32} {f423 : Nat → Int32} {f424 : Nat → Int32} {f425 : Nat → Int32} {f426 : Nat → Int32} {g : Nat → Int32} : va_up (wX cI cJ co f417 f418 f420 f421 f422 f423 f424 f425 f426) 418 (.inl (cI, 200, .inl g)) = wX cI cJ co f417 g f420 f421 f422 f423 f424 f425 f426 := by
  funext i
  by_cases h : i = 418
  · subst h; simp [wX, va_up]
  · simp [wX, va_up, h]
theorem wX_420 {cI cJ : ClassId} {co : Nat → va_E} {f417 : Nat → Int32} {f418 : Nat → Int32} {f420 : Nat → Int32} {f421 : Nat → Int32} {f422 : Nat → Int32} {f423 : Nat → Int32} {f424 : Nat → Int32} {f425 : Nat → Int32} {f426 : Nat → Int32} : wX cI cJ co f417 f418 f420 f421 f422 f423 f424 f425 f426 420 = .inl (cI, 2400, .inl f420) := by simp [wX, va_up]
theorem wX_u420 {cI cJ : ClassId} {co : Nat → va_E} {f417 : Nat → Int32} {f418 : Nat → Int32} {f420 : Nat → Int32} {f421 : Nat → Int32} {f422 : Nat → Int32} {f423 : Nat → Int32} {f424 : Nat → Int32} {f425 : Nat → Int32} {f426 : Nat → Int32} {g : Nat → Int32} : va_up (wX cI cJ co f417 f418 f420 f421 f422 f423 f424 f425 f426) 420 (.inl (cI, 2400, .inl g)) = wX cI cJ co f417 f418 g f421 f422 f423 f424 f425 f426 := by
  funext i
  by_cases h : i = 420
  · subst h; simp [wX, va_up]
  · simp [wX, va_up, h]
theorem wX_421 {cI cJ : ClassId} {co : Nat → va_E} {f417 : Nat → Int32} {f418 : Nat → Int32} {f420 : Nat → Int32} {f421 : Nat → Int32} {f422 : Nat → Int32} {f423 : Nat → Int32} {f424 : Nat → Int32} {f425 : Nat → Int32} {f426 : Nat → Int32} : wX cI cJ co f417 f418 f420 f421 f422 f423 f424 f425 f426 421 = .inl (cI, 2400, .inl f421) := by simp [wX, va_up]
theorem wX_u421 {cI cJ : ClassId} {co : Nat → va_E} {f417 : Nat → Int32} {f418 : Nat → Int32} {f420 : Nat → Int32} {f421 : Nat → Int32} {f422 : Nat → Int32} {f423 : Nat → Int32} {f424 : Nat → Int32} {f425 : Nat → Int32} {f426 : Nat → Int32} {g : Nat → Int32} : va_up (wX cI cJ co f417 f418 f420 f421 f422 f423 f424 f425 f426) 421 (.inl (cI, 2400, .inl g)) = wX cI cJ co f417 f418 f420 g f422 f423 f424 f425 f426 := by
  funext i
  by_cases h : i = 421
  · subst h; simp [wX, va_up]
  · simp [wX, va_up, h]
theorem wX_422 {cI cJ : ClassId} {co : Nat → va_E} {f417 : Nat → Int32} {f418 : Nat → Int32} {f420 : Nat → Int32} {f421 : Nat → Int32} {f422 : Nat → Int32} {f423 : Nat → Int32} {f424 : Nat → Int32} {f425 : Nat → Int32} {f426 : Nat → Int32} : wX cI cJ co f417 f418 f420 f421 f422 f423 f424 f425 f426 422 = .inl (cI, 12, .inl f422) := by simp [wX, va_up]
theorem wX_u422 {cI cJ : ClassId} {co : Nat → va_E} {f417 : Nat → Int32} {f418 : Nat → Int32} {f420 : Nat → Int32} {f421 : Nat → Int32} {f422 : Nat → Int32} {f423 : Nat → Int32} {f424 : Nat → Int32} {f425 : Nat → Int32} {f426 : Nat → Int32} {g : Nat → Int32} : va_up (wX cI cJ co f417 f418 f420 f421 f422 f423 f424 f425 f426) 422 (.inl (cI, 12, .inl g)) = wX cI cJ co f417 f418 f420 f421 g f423 f424 f425 f426 := by
  funext i
  by_cases h : i = 422
  · subst h; simp [wX, va_up]
  · simp [wX, va_up, h]
theorem wX_423 {cI cJ : ClassId} {co : Nat → va_E} {f417 : Nat → Int32} {f418 : Nat → Int32} {f420 : Nat → Int32} {f421 : Nat → Int32} {f422 : Nat → Int32} {f423 : Nat → Int32} {f424 : Nat → Int32} {f425 : Nat → Int32} {f426 : Nat → Int32} : wX cI cJ co f417 f418 f420 f421 f422 f423 f424 f425 f426 423 = .inl (cI, 12, .inl f423) := by simp [wX, va_up]
theorem wX_u423 {cI cJ : ClassId} {co : Nat → va_E} {f417 : Nat → Int32} {f418 : Nat → Int32} {f420 : Nat → Int32} {f421 : Nat → Int32} {f422 : Nat → Int32} {f423 : Nat → Int32} {f424 : Nat → Int32} {f425 : Nat → Int32} {f426 : Nat → Int32} {g : Nat → Int32} : va_up (wX cI cJ co f417 f418 f420 f421 f422 f423 f424 f425 f426) 423 (.inl (cI, 12, .inl g)) = wX cI cJ co f417 f418 f420 f421 f422 g f424 f425 f426 := by
  funext i
  by_cases h : i = 423
  · subst h; simp [wX, va_up]
  · simp [wX, va_up, h]
theorem wX_424 {cI cJ : ClassId} {co : Nat → va_E} {f417 : Nat → Int32} {f418 : Nat → Int32} {f420 : Nat → Int32} {f421 : Nat → Int32} {f422 : Nat → Int32} {f423 : Nat → Int32} {f424 : Nat → Int32} {f425 : Nat → Int32} {f426 : Nat → Int32} : wX cI cJ co f417 f418 f420 f421 f422 f423 f424 f425 f426 424 = .inl (cI, 2400, .inl f424) := by simp [wX, va_up]
theorem wX_u424 {cI cJ : ClassId} {co : Nat → va_E} {f417 : Nat → Int32} {f418 : Nat → Int32} {f420 : Nat → Int32} {f421 : Nat → Int32} {f422 : Nat → Int32} {f423 : Nat → Int32} {f424 : Nat → Int32} {f425 : Nat → Int32} {f426 : Nat → Int32} {g : Nat → Int32} : va_up (wX cI cJ co f417 f418 f420 f421 f422 f423 f424 f425 f426) 424 (.inl (cI, 2400, .inl g)) = wX cI cJ co f417 f418 f420 f421 f422 f423 g f425 f426 := by
  funext i
  by_cases h : i = 424
  · subst h; simp [wX, va_up]
  · simp [wX, va_up, h]
theorem wX_425 {cI cJ : ClassId} {co : Nat → va_E} {f417 : Nat → Int32} {f418 : Nat → Int32} {f420 : Nat → Int32} {f421 : Nat → Int32} {f422 : Nat → Int32} {f423 : Nat → Int32} {f424 : Nat → Int32} {f425 : Nat → Int32} {f426 : Nat → Int32} : wX cI cJ co f417 f418 f420 f421 f422 f423 f424 f425 f426 425 = .inl (cI, 2400, .inl f425) := by simp [wX, va_up]
theorem wX_u425 {cI cJ : ClassId} {co : Nat → va_E} {f417 : Nat → Int32} {f418 : Nat → Int32} {f420 : Nat → Int32} {f421 : Nat → Int32} {f422 : Nat → Int32} {f423 : Nat → Int32} {f424 : Nat → Int32} {f425 : Nat → Int32} {f426 : Nat → Int32} {g : Nat → Int32} : va_up (wX cI cJ co f417 f418 f420 f421 f422 f423 f424 f425 f426) 425 (.inl (cI, 2400, .inl g)) = wX cI cJ co f417 f418 f420 f421 f422 f423 f424 g f426 := by
  funext i
  by_cases h : i = 425
  · subst h; simp [wX, va_up]
  · simp [wX, va_up, h]
theorem wX_426 {cI cJ : ClassId} {co : Nat → va_E} {f417 : Nat → Int32} {f418 : Nat → Int32} {f420 : Nat → Int32} {f421 : Nat → Int32} {f422 : Nat → Int32} {f423 : Nat → Int32} {f424 : Nat → Int32} {f425 : Nat → Int32} {f426 : Nat → Int32} : wX cI cJ co f417 f418 f420 f421 f422 f423 f424 f425 f426 426 = .inl (cI, 200, .inl f426) := by simp [wX, va_up]
theorem wX_u426 {cI cJ : ClassId} {co : Nat → va_E} {f417 : Nat → Int32} {f418 : Nat → Int32} {f420 : Nat → Int32} {f421 : Nat → Int32} {f422 : Nat → Int32} {f423 : Nat → Int32} {f424 : Nat → Int32} {f425 : Nat → Int32} {f426 : Nat → Int32} {g : Nat → Int32} : va_up (wX cI cJ co f417 f418 f420 f421 f422 f423 f424 f425 f426) 426 (.inl (cI, 200, .inl g)) = wX cI cJ co f417 f418 f420 f421 f422 f423 f424 f425 g := by
  funext i
  by_cases h : i = 426
  · subst h; simp [wX, va_up]
  · simp [wX, va_up, h]
theorem wX_o {cI cJ : ClassId} {co : Nat → va_E} {f417 : Nat → Int32} {f418 : Nat → Int32} {f420 : Nat → Int32} {f421 : Nat → Int32} {f422 : Nat → Int32} {f423 : Nat → Int32} {f424 : Nat → Int32} {f425 : Nat → Int32} {f426 : Nat → Int32} {i : Nat} (h : i ≠ 417 ∧ i ≠ 418 ∧ i ≠ 420 ∧ i ≠ 421 ∧ i ≠ 422 ∧ i ≠ 423 ∧ i ≠ 424 ∧ i ≠ 425 ∧ i ≠ 426) : wX cI cJ co f417 f418 f420 f421 f422 f423 f424 f425 f426 i = co i := by simp [wX, va_up, h]
theorem wX_self {cI cJ : ClassId} {co : Nat → va_E} {f417 : Nat → Int32} {f418 : Nat → Int32} {f420 : Nat → Int32} {f421 : Nat → Int32} {f422 : Nat → Int32} {f423 : Nat → Int32} {f424 : Nat → Int32} {f425 : Nat → Int32} {f426 : Nat → Int32} (h417 : co 417 = .inl (cI, 200, .inl f417)) (h418 : co 418 = .inl (cI, 200, .inl f418)) (h420 : co 420 = .inl (cI, 2400, .inl f420)) (h421 : co 421 = .inl (cI, 2400, .inl f421)) (h422 : co 422 = .inl (cI, 12, .inl f422)) (h423 : co 423 = .inl (cI, 12, .inl f423)) (h424 : co 424 = .inl (cI, 2400, .inl f424)) (h425 : co 425 = .inl (cI, 2400, .inl f425)) (h426 : co 426 = .inl (cI, 200, .inl f426)) : co = wX cI cJ co f417 f418 f420 f421 f422 f423 f424 f425 f426 := by
  funext i
  by_cases k417 : i = 417
  · subst k417; rw [wX_417]; exact h417
  by_cases k418 : i = 418
  · subst k418; rw [wX_418]; exact h418
  by_cases k420 : i = 420
  · subst k420; rw [wX_420]; exact h420
  by_cases k421 : i = 421
  · subst k421; rw [wX_421]; exact h421
  by_cases k422 : i = 422
  · subst k422; rw [wX_422]; exact h422
  by_cases k423 : i = 423
  · subst k423; rw [wX_423]; exact h423
  by_cases k424 : i = 424
  · subst k424; rw [wX_424]; exact h424
  by_cases k425 : i = 425
  · subst k425; rw [wX_425]; exact h425
  by_cases k426 : i = 426
  · subst k426; rw [wX_426]; exact h426
  exact (wX_o ⟨k417, k418, k420, k421, k422, k423, k424, k425, k426⟩).symm
theorem wX_tw {cI cJ : ClassId} {co : Nat → va_E} {f417 : Nat → Int32} {f418 : Nat → Int32} {f420 : Nat → Int32} {f421 : Nat → Int32} {f422 : Nat → Int32} {f423 : Nat → Int32} {f424 : Nat → Int32} {f425 : Nat → Int32} {f426 : Nat → Int32} {g417 : Nat → Int32} {g418 : Nat → Int32} {g420 : Nat → Int32} {g421 : Nat → Int32} {g422 : Nat → Int32} {g423 : Nat → Int32} {g424 : Nat → Int32} {g425 : Nat → Int32} {g426 : Nat → Int32} : wX cI cJ (wX cI cJ co f417 f418 f420 f421 f422 f423 f424 f425 f426) g417 g418 g420 g421 g422 g423 g424 g425 g426 = wX cI cJ co g417 g418 g420 g421 g422 g423 g424 g425 g426 := by
  funext i
  by_cases k417 : i = 417
  · subst k417; rw [wX_417, wX_417]
  by_cases k418 : i = 418
  · subst k418; rw [wX_418, wX_418]
  by_cases k420 : i = 420
  · subst k420; rw [wX_420, wX_420]
  by_cases k421 : i = 421
  · subst k421; rw [wX_421, wX_421]
  by_cases k422 : i = 422
  · subst k422; rw [wX_422, wX_422]
  by_cases k423 : i = 423
  · subst k423; rw [wX_423, wX_423]
  by_cases k424 : i = 424
  · subst k424; rw [wX_424, wX_424]
  by_cases k425 : i = 425
  · subst k425; rw [wX_425, wX_425]
  by_cases k426 : i = 426
  · subst k426; rw [wX_426, wX_426]
  rw [wX_o ⟨k417, k418, k420, k421, k422, k423, k424, k425, k426⟩, wX_o ⟨k417, k418, k420, k421, k422, k423, k424, k425, k426⟩, wX_o ⟨k417, k418, k420, k421, k422, k423, k424, k425, k426⟩]
set_option maxHeartbeats 4000000 in
set_option maxRecDepth 100000 in
/-- keep -/
theorem c_M_keep (l : Launch) {D : va_G} {cI cJ cG : ClassId} {ad : Nat → Nat} {co : Nat → va_E} {dl : List Nat} {a rw sh pg ce mg kn cs sm : Nat} (hdl : ∀ i, 400 ≤ i → i < 427 → i ∈ dl) (h400 : co 400 = mO ad a rw sh pg ce mg kn cs sm) {fm : Nat → Int32} {fs : Nat → Int32} {cls : Nat → Int32} {shp : Nat → Int32} {tr : Nat → Int32} {ln : Nat → Int32} {nx : Nat → Int32} {so : Nat → Int32} {lg : Nat → Int32} {sc : Nat → Int32} {lc : Nat → Int32} {f0 : Nat → Int32} {g0 : Nat → Int32} {fd : Nat → Int32} (h401 : co 401 = .inl (cI, 144, .inl fm)) (h402 : co 402 = .inl (cI, 120, .inl fs)) (h406 : co 406 = .inl (cI, 200, .inl cls)) (h408 : co 408 = .inl (cI, 200, .inl shp)) (h409 : co 409 = .inl (cI, 200, .inl tr)) (h417 : co 417 = .inl (cI, 200, .inl ln)) (h418 : co 418 = .inl (cI, 200, .inl nx)) (h420 : co 420 = .inl (cI, 2400, .inl so)) (h421 : co 421 = .inl (cI, 2400, .inl lg)) (h422 : co 422 = .inl (cI, 12, .inl sc)) (h423 : co 423 = .inl (cI, 12, .inl lc)) (h424 : co 424 = .inl (cI, 2400, .inl f0)) (h425 : co 425 = .inl (cI, 2400, .inl g0)) (h426 : co 426 = .inl (cI, 200, .inl fd)) {cl : Nat → Nat} {mv sp : Nat → Nat → Nat} (ha : a ≤ 12) (hok : okN a (alw tr shp (-1)) cl mv sp rw) (hcl : ∀ k, k < rw → cls k = nI (cl k) ∧ cl k < 10) (hmv : ∀ i j, i < a → j < a → fm (12 * i + j) = nI (mv i j)) (hsp : ∀ i c, i < a → c < 10 → fs (10 * i + c) = nI (sp i c)) (hsh : ∀ k, k < rw → shp k ≠ -1) : gMv l y_M_keep (Cond.code y_M_keep b_M_keep 6 none :: wA) ({ frames := 2, cells := 0, slots := 0, locals := 51 }) D gCl (gTy cI cJ cG) gNl [.ref (ad 400)] ad co dl (fun co' => ∃ f420 f421 f422 f423 f424 f425 f426 : Nat → Int32, co' = va_up (wX cI cJ co (fun j => if j < rw then nI (bln a (alw tr shp (-1)) cl mv sp rw j) else ln j) (fun j => if j < rw then nxt a (alw tr shp (-1)) cl mv sp rw tr j else nx j) f420 f421 f422 f423 f424 f425 f426) 400 (mO ad a rw sh pg ce mg rw (bcs a (alw tr shp (-1)) cl mv sp rw) sm)) := by
  refine gMv_of (cc := b_M_keep) (maxL := 6) (ret := none) (by decide) rfl (Nat.le_of_ble_eq_true rfl) ?_
  intro pp ee s mm below meth cd ls hC hW hS hl
  obtain ⟨hx, hb, hr, hts0, hown, hlocks, hml, hK, hN⟩ := hC
  have hts : ∀ w ∈ wA, w.before _ s = true := fun w h => hts0 w (List.mem_cons_of_mem _ h)
  have hA : ∀ q, s.heap.size ≤ q → gA ad co dl s.heap.size q := fun q h => Or.inr h
  have hl : lv_has ls 6 [(0, .ref (ad 400))] := hl
  have hown : s.vm.findClass R_M = some mm.cls := hown
  have hn0 : 0 < rw := hok.1
  have hn2 : rw ≤ 200 := hok.2.1
  have ha0 : 0 < a := hok.2.2.1
  have hBIG : BIG = 1000000000 := rfl
  refine lv_aload_n hx hb d_M_keep_0 rfl (lv_at hl 0 rfl) ?_
  refine lv_aload_n hx hb d_M_keep_1 rfl (lv_at hl 0 rfl) ?_
  refine lv_iconst (v := (-1)) hx hb d_M_keep_2 (by decide) ?_
  refine g_cVi (As := [.int (-1)]) (rest := [.ref (ad 400)]) ⟨hx, hb, hml, hown, hts⟩ (c_M_search l hdl h400 h401 h402 h406 h408 h409 h420 h421 h422 h423 h426 (-1) ha hok hcl hmv hsp hsh) (gcwV 1 hts q_654 q_651 q_653 qs_11 q_9 (by decide +kernel) ⟨(Nat.le_of_ble_eq_true rfl), (Nat.le_of_ble_eq_true rfl)⟩) gNl_ok hN hK hW hS hA (hdl 400 (by decide) (by decide)) h400 rfl rfl hl.1 rfl (Nat.le_of_ble_eq_true rfl) d_M_keep_3 ⟨Nat.zero_le _, Nat.zero_le _⟩ (fun r co9 H locs hp9 hW hS => ?_)
  obtain ⟨f420, f421, f422, f423, f426, hco9, rfl, hfd⟩ := hp9
  rw [hco9] at hW
  refine g_put (ty := .int) (v := .int (nI (bcs a (alw tr shp (-1)) cl mv sp rw))) (C := R_M) (T := F_M) (N := 35) hx hb hts i_M fy_M fy_M_ok fn_M hown hK hW hS (i := 400) (hdl 400 (by decide) (by decide)) ((wS_o (by decide)).trans h400) rfl 24 (by decide) (hts _ q_512) (fun _ h9 => h9) rfl (by decide +kernel) rfl rfl (Nat.le_of_ble_eq_true rfl) d_M_keep_6 (fun H locs hW hS => ?_)
  refine lv_aload_n hx hb d_M_keep_9 rfl (lv_at hl 0 rfl) ?_
  refine lv_aload_n hx hb d_M_keep_10 rfl (lv_at hl 0 rfl) ?_
  refine g_get (C := R_M) (T := F_M) (N := 35) hx hb hts i_M hown hK hW (i := 400) (hdl 400 (by decide) (by decide)) (va_up_self _ _ _) rfl 5 (by decide) (hts _ q_493) (fun _ h9 => h9) rfl d_M_keep_11 ?_
  refine g_put (ty := .int) (v := .int (nI rw)) (C := R_M) (T := F_M) (N := 35) hx hb hts i_M fy_M fy_M_ok fn_M hown hK hW hS (i := 400) (hdl 400 (by decide) (by decide)) (va_up_self _ _ _) rfl 22 (by decide) (hts _ q_510) (fun _ h9 => h9) rfl (by decide +kernel) rfl rfl (Nat.le_of_ble_eq_true rfl) d_M_keep_14 (fun H locs hW hS => ?_)
  obtain ⟨co2, hco2, hW⟩ := gW_nm hW
  have k400 := (congrFun hco2 400).trans (va_up_self _ _ _)
  have k401 := (congrFun hco2 401).trans ((va_up_ne _ _ (by decide)).trans ((va_up_ne _ _ (by decide)).trans ((wS_o (by decide)).trans h401)))
  have k402 := (congrFun hco2 402).trans ((va_up_ne _ _ (by decide)).trans ((va_up_ne _ _ (by decide)).trans ((wS_o (by decide)).trans h402)))
  have k406 := (congrFun hco2 406).trans ((va_up_ne _ _ (by decide)).trans ((va_up_ne _ _ (by decide)).trans ((wS_o (by decide)).trans h406)))
  have k408 := (congrFun hco2 408).trans ((va_up_ne _ _ (by decide)).trans ((va_up_ne _ _ (by decide)).trans ((wS_o (by decide)).trans h408)))
  have k409 := (congrFun hco2 409).trans ((va_up_ne _ _ (by decide)).trans ((va_up_ne _ _ (by decide)).trans ((wS_o (by decide)).trans h409)))
  have k417 := (congrFun hco2 417).trans ((va_up_ne _ _ (by decide)).trans ((va_up_ne _ _ (by decide)).trans ((wS_o (by decide)).trans h417)))
  have k418 := (congrFun hco2 418).trans ((va_up_ne _ _ (by decide)).trans ((va_up_ne _ _ (by decide)).trans ((wS_o (by decide)).trans h418)))
  have k424 := (congrFun hco2 424).trans ((va_up_ne _ _ (by decide)).trans ((va_up_ne _ _ (by decide)).trans ((wS_o (by decide)).trans h424)))
  have k425 := (congrFun hco2 425).trans ((va_up_ne _ _ (by decide)).trans ((va_up_ne _ _ (by decide)).trans ((wS_o (by decide)).trans h425)))
  have k426 := (congrFun hco2 426).trans ((va_up_ne _ _ (by decide)).trans ((va_up_ne _ _ (by decide)).trans wS_426))
  refine lv_aload_n hx hb d_M_keep_17 rfl (lv_at hl 0 rfl) ?_
  refine g_cVv (As := []) (rest := []) ⟨hx, hb, hml, hown, hts⟩ (c_M_bothEnds l hdl k400 k401 k402 k406 k408 k409 k424 k425 ha hok hcl hmv hsp hsh) (gcwV 0 hts q_667 q_664 q_666 qs_14 q_9 (by decide +kernel) ⟨(Nat.le_of_ble_eq_true rfl), (Nat.le_of_ble_eq_true rfl)⟩) gNl_ok hN hK hW hS hA (hdl 400 (by decide) (by decide)) k400 rfl rfl hl.1 rfl (Nat.le_of_ble_eq_true rfl) d_M_keep_18 ⟨Nat.zero_le _, Nat.zero_le _⟩ (fun co9 H locs hp8 hW hS => ?_)
  obtain ⟨F, G, hco8, hF, hG⟩ := hp8
  rw [hco8] at hW
  obtain ⟨co3, hco3, hW⟩ := gW_nm hW
  have m400 := (congrFun hco3 400).trans ((wB_o (by decide)).trans k400)
  have m402 := (congrFun hco3 402).trans ((wB_o (by decide)).trans k402)
  have m406 := (congrFun hco3 406).trans ((wB_o (by decide)).trans k406)
  have m417 := (congrFun hco3 417).trans ((wB_o (by decide)).trans k417)
  have m418 := (congrFun hco3 418).trans ((wB_o (by decide)).trans k418)
  have m424 := (congrFun hco3 424).trans wB_424
  have m425 := (congrFun hco3 425).trans wB_425
  have m426 := (congrFun hco3 426).trans ((wB_o (by decide)).trans k426)
  have hW := gW_eq (wK_self (cJ := cJ) m417 m418) hW
  refine lv_iconst (v := nI 0) hx hb d_M_keep_21 (by decide) ?_
  refine lv_istore_n (lv' := [(1, .int (nI 0)), (0, .ref (ad 400))]) hx hb d_M_keep_22 rfl hl (by decide) rfl (fun ls hl => ?_)
  suffices hloop : ∀ (d k : Nat) (L1 N1 : Nat → Int32) (H : Heap) (locs : List Loc) (ls : Array Slot), (k ≤ rw) → (rw + 1 ≤ k + d) → (∀ j, L1 j = if j < k then nI (bln a (alw tr shp (-1)) cl mv sp rw j) else ln j) → (∀ j, N1 j = if j < k then nxt a (alw tr shp (-1)) cl mv sp rw tr j else nx j) → gW D gCl (gA ad co dl s.heap.size) ad (wK cI cJ co3 L1 N1) dl H → va_S (gA ad co dl s.heap.size) s.heap H locs → lv_has ls 6 [(0, .ref (ad 400)), (1, .int (nI k))] → W pp l ee _ s mm _ below meth cd H locs 0 0 _ (F0 mm 23 ls []) by
    exact hloop (rw + 1) 0 ln nx _ _ ls (by omega) (by omega) (fun _ => rfl) (fun _ => rfl) hW hS (lv_sub hl [1, 0] rfl)
  clear hW hS hl
  intro d
  induction d with
  | zero => intro k L1 N1 H locs ls hk hd hL1 hN1; omega
  | succ d ih1 =>
    intro k L1 N1 H locs ls hk hd hL1 hN1 hW hS hl
    refine lv_iload_n hx hb d_M_keep_23 rfl (lv_at hl 1 rfl) ?_
    refine lv_aload_n hx hb d_M_keep_24 rfl (lv_at hl 0 rfl) ?_
    refine g_get (C := R_M) (T := F_M) (N := 35) hx hb hts i_M hown hK hW (i := 400) (hdl 400 (by decide) (by decide)) ((wK_o (by decide)).trans m400) rfl 5 (by decide) (hts _ q_493) (fun _ h9 => h9) rfl d_M_keep_25 ?_
    refine n_icmp_ge (tgt := 199) hx hb (by omega) (by omega) d_M_keep_28 (by decide) (fun h1 => ?_) (fun h1 => ?_)
    · have hkr : k = rw := by omega
      rw [hkr] at hL1 hN1
      have e1 := funext hL1
      have e2 := funext hN1
      subst e1
      subst e2
      have hfin : wK cI cJ co3 (fun j => if j < rw then nI (bln a (alw tr shp (-1)) cl mv sp rw j) else ln j) (fun j => if j < rw then nxt a (alw tr shp (-1)) cl mv sp rw tr j else nx j) = va_up (wX cI cJ co (fun j => if j < rw then nI (bln a (alw tr shp (-1)) cl mv sp rw j) else ln j) (fun j => if j < rw then nxt a (alw tr shp (-1)) cl mv sp rw tr j else nx j) f420 f421 f422 f423 F G f426) 400 (mO ad a rw sh pg ce mg rw (bcs a (alw tr shp (-1)) cl mv sp rw) sm) := by
        rw [hco3, hco2]
        funext i
        by_cases q400 : i = 400
        · subst q400; simp [wK, wB, wS, wX, va_up]
        by_cases q417 : i = 417
        · subst q417; simp [wK, wB, wS, wX, va_up]
        by_cases q418 : i = 418
        · subst q418; simp [wK, wB, wS, wX, va_up]
        by_cases q420 : i = 420
        · subst q420; simp [wK, wB, wS, wX, va_up]
        by_cases q421 : i = 421
        · subst q421; simp [wK, wB, wS, wX, va_up]
        by_cases q422 : i = 422
        · subst q422; simp [wK, wB, wS, wX, va_up]
        by_cases q423 : i = 423
        · subst q423; simp [wK, wB, wS, wX, va_up]
        by_cases q424 : i = 424
        · subst q424; simp [wK, wB, wS, wX, va_up]
        by_cases q425 : i = 425
        · subst q425; simp [wK, wB, wS, wX, va_up]
        by_cases q426 : i = 426
        · subst q426; simp [wK, wB, wS, wX, va_up]
        simp [wK, wB, wS, wX, va_up, q400, q417, q418, q420, q421, q422, q423, q424, q425, q426]
      rw [hfin] at hW
      exact g_vret hx hb hr hlocks hW hS (⟨_, _, _, _, _, _, _, rfl⟩) d_M_keep_199
    · have hck := hcl k h1
      obtain ⟨X, hX⟩ : ∃ z, z = bln a (alw tr shp (-1)) cl mv sp rw k := ⟨_, rfl⟩
      have hXa := (bln_ok hok k h1).1
      rw [← hX] at hXa
      refine lv_aload_n hx hb d_M_keep_31 rfl (lv_at hl 0 rfl) ?_
      refine g_get (C := R_M) (T := F_M) (N := 35) hx hb hts i_M hown hK hW (i := 400) (hdl 400 (by decide) (by decide)) ((wK_o (by decide)).trans m400) rfl 23 (by decide) (hts _ q_511) (fun _ h9 => h9) rfl d_M_keep_32 ?_
      refine lv_iload_n hx hb d_M_keep_35 rfl (lv_at hl 1 rfl) ?_
      refine lv_aload_n hx hb d_M_keep_36 rfl (lv_at hl 0 rfl) ?_
      refine g_get (C := R_M) (T := F_M) (N := 35) hx hb hts i_M hown hK hW (i := 400) (hdl 400 (by decide) (by decide)) ((wK_o (by decide)).trans m400) rfl 34 (by decide) (hts _ q_522) (fun _ h9 => h9) rfl d_M_keep_37 ?_
      refine lv_iload_n hx hb d_M_keep_40 rfl (lv_at hl 1 rfl) ?_
      refine n_iald hx hb hK hW 0 (q := 426) (hdl 426 (by decide) (by decide)) ((wK_o (by decide)).trans m426) rfl (j := k) (by omega) (by omega) d_M_keep_41 ?_
      refine n_topi (show f426 k = nI X from by rw [hX]; exact hfd k h1) ?_
      refine n_iast (x := nI X) hx hb hK hW hS 0 (q := 417) (hdl 417 (by decide) (by decide)) wK_417 rfl (j := k) (by omega) (by omega) d_M_keep_42 (fun H locs hW hS => ?_)
      rw [wK_u417] at hW
      obtain ⟨L2, hL2⟩ : ∃ g, g = upd L1 k (nI X) := ⟨_, rfl⟩
      rw [← hL2] at hW
      have hL2k : L2 k = nI X := by rw [hL2]; exact pk_us
      refine lv_ldc hx hb hown (hts _ q_659) d_M_keep_43 ?_
      refine n_topi (show (1000000000 : Int32) = nI 1000000000 by decide) ?_
      refine lv_istore_n (lv' := [(2, .int (nI 1000000000)), (0, .ref (ad 400)), (1, .int (nI k))]) hx hb d_M_keep_45 rfl hl (by decide) rfl (fun ls hl => ?_)
      refine lv_iconst (v := nI 0) hx hb d_M_keep_46 (by decide) ?_
      refine lv_istore_n (lv' := [(3, .int (nI 0)), (2, .int (nI 1000000000)), (0, .ref (ad 400)), (1, .int (nI k))]) hx hb d_M_keep_47 rfl hl (by decide) rfl (fun ls hl => ?_)
      suffices hloop : ∀ (d2 z : Nat) (H : Heap) (locs : List Loc) (ls : Array Slot), (z ≤ a) → (a + 1 ≤ z + d2) → gW D gCl (gA ad co dl s.heap.size) ad (wK cI cJ co3 L2 N1) dl H → va_S (gA ad co dl s.heap.size) s.heap H locs → lv_has ls 6 [(0, .ref (ad 400)), (1, .int (nI k)), (2, .int (nI (rmin (fun b => decide (¬ b = X) && (alw tr shp (-1)) k b) (fun b => bfo a (alw tr shp (-1)) cl mv sp k b + tgo a (alw tr shp (-1)) cl mv sp rw k b) z))), (3, .int (nI z))] → W pp l ee _ s mm _ below meth cd H locs 0 0 _ (F0 mm 48 ls []) by
        exact hloop (a + 1) 0 _ _ ls (by omega) (by omega) hW hS (lv_sub hl [2, 3, 1, 0] rfl)
      clear hW hS hl
      intro d2
      induction d2 with
      | zero => intro z H locs ls hz hd2; omega
      | succ d2 ih2 =>
        intro z H locs ls hz hd2 hW hS hl
        have hrb := rmin_le_big (fun b => decide (¬ b = X) && (alw tr shp (-1)) k b) (fun b => bfo a (alw tr shp (-1)) cl mv sp k b + tgo a (alw tr shp (-1)) cl mv sp rw k b) z
        refine lv_iload_n hx hb d_M_keep_48 rfl (lv_at hl 3 rfl) ?_
        refine lv_aload_n hx hb d_M_keep_49 rfl (lv_at hl 0 rfl) ?_
        refine g_get (C := R_M) (T := F_M) (N := 35) hx hb hts i_M hown hK hW (i := 400) (hdl 400 (by decide) (by decide)) ((wK_o (by decide)).trans m400) rfl 0 (by decide) (hts _ q_488) (fun _ h9 => h9) rfl d_M_keep_50 ?_
        refine n_icmp_ge (tgt := 176) hx hb (by omega) (by omega) d_M_keep_53 (by decide) (fun h2 => ?_) (fun h2 => ?_)
        · have hza : z = a := by omega
          rw [hza] at hl hrb
          have hnx := nxt_eq ha hok h1 (hsh k h1) X hX _ rfl
          refine lv_aload_n hx hb d_M_keep_176 rfl (lv_at hl 0 rfl) ?_
          refine g_get (C := R_M) (T := F_M) (N := 35) hx hb hts i_M hown hK hW (i := 400) (hdl 400 (by decide) (by decide)) ((wK_o (by decide)).trans m400) rfl 25 (by decide) (hts _ q_513) (fun _ h9 => h9) rfl d_M_keep_177 ?_
          refine lv_iload_n hx hb d_M_keep_180 rfl (lv_at hl 1 rfl) ?_
          refine lv_iload_n hx hb d_M_keep_181 rfl (lv_at hl 2 rfl) ?_
          refine lv_ldc hx hb hown (hts _ q_659) d_M_keep_182 ?_
          refine n_topi (show (1000000000 : Int32) = nI 1000000000 by decide) ?_
          refine n_icmp_ge (tgt := 191) hx hb (by omega) (by omega) d_M_keep_184 (by decide) (fun h3 => ?_) (fun h3 => ?_)
          · refine lv_iconst (v := (-1)) hx hb d_M_keep_191 (by decide) ?_
            refine n_iast (x := (-1)) hx hb hK hW hS 0 (q := 418) (hdl 418 (by decide) (by decide)) wK_418 rfl (j := k) (by omega) (by omega) d_M_keep_192 (fun H locs hW hS => ?_)
            rw [wK_u418] at hW
            refine n_iinc (lv' := [(1, .int (nI (k + 1))), (0, .ref (ad 400)), (2, .int (nI (rmin (fun b => decide (¬ b = X) && (alw tr shp (-1)) k b) (fun b => bfo a (alw tr shp (-1)) cl mv sp k b + tgo a (alw tr shp (-1)) cl mv sp rw k b) a))), (3, .int (nI a))]) hx hb d_M_keep_193 hl (k := 1) rfl (by decide) rfl (fun ls hl => ?_)
            refine lv_goto (tgt := 23) hx hb d_M_keep_196 (by decide) ?_
            refine ih1 (k + 1) L2 (upd N1 k (-1)) _ _ ls (by omega) (by omega) (fun j => ?_) (fun j => ?_) hW hS (lv_sub hl [1, 0] rfl)
            · rw [hL2]
              by_cases hj : j = k
              · subst hj; rw [pk_us, if_pos (by omega), hX]
              · rw [pk_un hj, hL1 j]
                by_cases hj2 : j < k
                · rw [if_pos hj2, if_pos (by omega)]
                · rw [if_neg hj2, if_neg (by omega)]
            · by_cases hj : j = k
              · subst hj; rw [pk_us, if_pos (by omega), ← hnx, if_neg (by omega)]
              · rw [pk_un hj, hN1 j]
                by_cases hj2 : j < k
                · rw [if_pos hj2, if_pos (by omega)]
                · rw [if_neg hj2, if_neg (by omega)]
          · refine lv_iload_n hx hb d_M_keep_187 rfl (lv_at hl 2 rfl) ?_
            refine lv_goto (tgt := 192) hx hb d_M_keep_188 (by decide) ?_
            refine n_iast (x := nI (rmin (fun b => decide (¬ b = X) && (alw tr shp (-1)) k b) (fun b => bfo a (alw tr shp (-1)) cl mv sp k b + tgo a (alw tr shp (-1)) cl mv sp rw k b) a)) hx hb hK hW hS 0 (q := 418) (hdl 418 (by decide) (by decide)) wK_418 rfl (j := k) (by omega) (by omega) d_M_keep_192 (fun H locs hW hS => ?_)
            rw [wK_u418] at hW
            refine n_iinc (lv' := [(1, .int (nI (k + 1))), (0, .ref (ad 400)), (2, .int (nI (rmin (fun b => decide (¬ b = X) && (alw tr shp (-1)) k b) (fun b => bfo a (alw tr shp (-1)) cl mv sp k b + tgo a (alw tr shp (-1)) cl mv sp rw k b) a))), (3, .int (nI a))]) hx hb d_M_keep_193 hl (k := 1) rfl (by decide) rfl (fun ls hl => ?_)
            refine lv_goto (tgt := 23) hx hb d_M_keep_196 (by decide) ?_
            refine ih1 (k + 1) L2 (upd N1 k (nI (rmin (fun b => decide (¬ b = X) && (alw tr shp (-1)) k b) (fun b => bfo a (alw tr shp (-1)) cl mv sp k b + tgo a (alw tr shp (-1)) cl mv sp rw k b) a))) _ _ ls (by omega) (by omega) (fun j => ?_) (fun j => ?_) hW hS (lv_sub hl [1, 0] rfl)
            · rw [hL2]
              by_cases hj : j = k
              · subst hj; rw [pk_us, if_pos (by omega), hX]
              · rw [pk_un hj, hL1 j]
                by_cases hj2 : j < k
                · rw [if_pos hj2, if_pos (by omega)]
                · rw [if_neg hj2, if_neg (by omega)]
            · by_cases hj : j = k
              · subst hj; rw [pk_us, if_pos (by omega), ← hnx, if_pos (by omega)]
              · rw [pk_un hj, hN1 j]
                by_cases hj2 : j < k
                · rw [if_pos hj2, if_pos (by omega)]
                · rw [if_neg hj2, if_neg (by omega)]
        · refine lv_iload_n hx hb d_M_keep_56 rfl (lv_at hl 3 rfl) ?_
          refine lv_aload_n hx hb d_M_keep_57 rfl (lv_at hl 0 rfl) ?_
          refine g_get (C := R_M) (T := F_M) (N := 35) hx hb hts i_M hown hK hW (i := 400) (hdl 400 (by decide) (by decide)) ((wK_o (by decide)).trans m400) rfl 23 (by decide) (hts _ q_511) (fun _ h9 => h9) rfl d_M_keep_58 ?_
          refine lv_iload_n hx hb d_M_keep_61 rfl (lv_at hl 1 rfl) ?_
          refine n_iald hx hb hK hW 0 (q := 417) (hdl 417 (by decide) (by decide)) wK_417 rfl (j := k) (by omega) (by omega) d_M_keep_62 ?_
          refine n_topi (show L2 k = nI X from hL2k) ?_
          refine n_icmp_eq (tgt := 102) hx hb (by omega) (by omega) d_M_keep_63 (by decide) (fun h3 => ?_) (fun h3 => ?_)
          · refine lv_iconst (v := nI 0) hx hb d_M_keep_102 (by decide) ?_
            refine lv_istore (lv' := [(4, .int (nI 0)), (0, .ref (ad 400)), (1, .int (nI k)), (2, .int (nI (rmin (fun b => decide (¬ b = X) && (alw tr shp (-1)) k b) (fun b => bfo a (alw tr shp (-1)) cl mv sp k b + tgo a (alw tr shp (-1)) cl mv sp rw k b) z))), (3, .int (nI z))]) hx hb d_M_keep_103 hl (by decide) rfl (fun ls hl => ?_)
            refine lv_iload hx hb d_M_keep_105 (lv_at hl 0 rfl) ?_
            refine n_if_eq (tgt := 153) hx hb (by omega) d_M_keep_107 (by decide) (fun h9 => ?_) (fun h9 => absurd h9 (by omega))
            refine lv_ldc hx hb hown (hts _ q_659) d_M_keep_153 ?_
            refine n_topi (show (1000000000 : Int32) = nI 1000000000 by decide) ?_
            refine lv_istore (lv' := [(5, .int (nI 1000000000)), (4, .int (nI 0)), (0, .ref (ad 400)), (1, .int (nI k)), (2, .int (nI (rmin (fun b => decide (¬ b = X) && (alw tr shp (-1)) k b) (fun b => bfo a (alw tr shp (-1)) cl mv sp k b + tgo a (alw tr shp (-1)) cl mv sp rw k b) z))), (3, .int (nI z))]) hx hb d_M_keep_155 hl (by decide) rfl (fun ls hl => ?_)
            refine lv_iload hx hb d_M_keep_157 (lv_at hl 0 rfl) ?_
            refine lv_iload_n hx hb d_M_keep_159 rfl (lv_at hl 4 rfl) ?_
            refine n_icmp_ge (tgt := 168) hx hb (by omega) (by omega) d_M_keep_160 (by decide) (fun h5 => ?_) (fun h5 => ?_)
            · refine lv_iload_n hx hb d_M_keep_168 rfl (lv_at hl 4 rfl) ?_
              refine n_topi (show nI (rmin (fun b => decide (¬ b = X) && (alw tr shp (-1)) k b) (fun b => bfo a (alw tr shp (-1)) cl mv sp k b + tgo a (alw tr shp (-1)) cl mv sp rw k b) z) = nI (rmin (fun b => decide (¬ b = X) && (alw tr shp (-1)) k b) (fun b => bfo a (alw tr shp (-1)) cl mv sp k b + tgo a (alw tr shp (-1)) cl mv sp rw k b) (z + 1)) from by rw [rmin_no (by simp [h3])]) ?_
              refine lv_istore_n (lv' := [(2, .int (nI (rmin (fun b => decide (¬ b = X) && (alw tr shp (-1)) k b) (fun b => bfo a (alw tr shp (-1)) cl mv sp k b + tgo a (alw tr shp (-1)) cl mv sp rw k b) (z + 1)))), (5, .int (nI 1000000000)), (4, .int (nI 0)), (0, .ref (ad 400)), (1, .int (nI k)), (3, .int (nI z))]) hx hb d_M_keep_169 rfl hl (by decide) rfl (fun ls hl => ?_)
              refine n_iinc (lv' := [(3, .int (nI (z + 1))), (2, .int (nI (rmin (fun b => decide (¬ b = X) && (alw tr shp (-1)) k b) (fun b => bfo a (alw tr shp (-1)) cl mv sp k b + tgo a (alw tr shp (-1)) cl mv sp rw k b) (z + 1)))), (5, .int (nI 1000000000)), (4, .int (nI 0)), (0, .ref (ad 400)), (1, .int (nI k))]) hx hb d_M_keep_170 hl (k := 5) rfl (by decide) rfl (fun ls hl => ?_)
              refine lv_goto (tgt := 48) hx hb d_M_keep_173 (by decide) ?_
              exact ih2 (z + 1) _ _ ls (by omega) (by omega) hW hS (lv_sub hl [4, 5, 1, 0] rfl)
            · omega
          · have hFz := hF k z h1 h2
            have hGz := hG k z h1 h2
            have hb0 := bfo_le hok k z h1 h2
            have hs0 := hok.2.2.2.2.1 z k h2 h1
            cases hal : (alw tr shp (-1)) k z with
            | false =>
              rw [if_neg (by rw [hal]; decide)] at hFz
              refine lv_aload_n hx hb d_M_keep_66 rfl (lv_at hl 0 rfl) ?_
              refine g_get (C := R_M) (T := F_M) (N := 35) hx hb hts i_M hown hK hW (i := 400) (hdl 400 (by decide) (by decide)) ((wK_o (by decide)).trans m400) rfl 32 (by decide) (hts _ q_520) (fun _ h9 => h9) rfl d_M_keep_67 ?_
              refine lv_bipush (v := nI 12) hx hb d_M_keep_70 (by decide) ?_
              refine lv_iload_n hx hb d_M_keep_72 rfl (lv_at hl 1 rfl) ?_
              refine n_mul hx hb d_M_keep_73 ?_
              refine lv_iload_n hx hb d_M_keep_74 rfl (lv_at hl 3 rfl) ?_
              refine n_add hx hb d_M_keep_75 ?_
              refine n_iald hx hb hK hW 0 (q := 424) (hdl 424 (by decide) (by decide)) ((wK_o (by decide)).trans m424) rfl (j := (12 * k) + z) (by omega) (by omega) d_M_keep_76 ?_
              refine n_topi (show F ((12 * k) + z) = nI 1000000000 from hFz) ?_
              refine lv_ldc hx hb hown (hts _ q_659) d_M_keep_77 ?_
              refine n_topi (show (1000000000 : Int32) = nI 1000000000 by decide) ?_
              refine n_icmp_ge (tgt := 102) hx hb (by omega) (by omega) d_M_keep_79 (by decide) (fun h4 => ?_) (fun h4 => ?_)
              · refine lv_iconst (v := nI 0) hx hb d_M_keep_102 (by decide) ?_
                refine lv_istore (lv' := [(4, .int (nI 0)), (0, .ref (ad 400)), (1, .int (nI k)), (2, .int (nI (rmin (fun b => decide (¬ b = X) && (alw tr shp (-1)) k b) (fun b => bfo a (alw tr shp (-1)) cl mv sp k b + tgo a (alw tr shp (-1)) cl mv sp rw k b) z))), (3, .int (nI z))]) hx hb d_M_keep_103 hl (by decide) rfl (fun ls hl => ?_)
                refine lv_iload hx hb d_M_keep_105 (lv_at hl 0 rfl) ?_
                refine n_if_eq (tgt := 153) hx hb (by omega) d_M_keep_107 (by decide) (fun h9 => ?_) (fun h9 => absurd h9 (by omega))
                refine lv_ldc hx hb hown (hts _ q_659) d_M_keep_153 ?_
                refine n_topi (show (1000000000 : Int32) = nI 1000000000 by decide) ?_
                refine lv_istore (lv' := [(5, .int (nI 1000000000)), (4, .int (nI 0)), (0, .ref (ad 400)), (1, .int (nI k)), (2, .int (nI (rmin (fun b => decide (¬ b = X) && (alw tr shp (-1)) k b) (fun b => bfo a (alw tr shp (-1)) cl mv sp k b + tgo a (alw tr shp (-1)) cl mv sp rw k b) z))), (3, .int (nI z))]) hx hb d_M_keep_155 hl (by decide) rfl (fun ls hl => ?_)
                refine lv_iload hx hb d_M_keep_157 (lv_at hl 0 rfl) ?_
                refine lv_iload_n hx hb d_M_keep_159 rfl (lv_at hl 4 rfl) ?_
                refine n_icmp_ge (tgt := 168) hx hb (by omega) (by omega) d_M_keep_160 (by decide) (fun h5 => ?_) (fun h5 => ?_)
                · refine lv_iload_n hx hb d_M_keep_168 rfl (lv_at hl 4 rfl) ?_
                  refine n_topi (show nI (rmin (fun b => decide (¬ b = X) && (alw tr shp (-1)) k b) (fun b => bfo a (alw tr shp (-1)) cl mv sp k b + tgo a (alw tr shp (-1)) cl mv sp rw k b) z) = nI (rmin (fun b => decide (¬ b = X) && (alw tr shp (-1)) k b) (fun b => bfo a (alw tr shp (-1)) cl mv sp k b + tgo a (alw tr shp (-1)) cl mv sp rw k b) (z + 1)) from by rw [rmin_no (by simp [hal])]) ?_
                  refine lv_istore_n (lv' := [(2, .int (nI (rmin (fun b => decide (¬ b = X) && (alw tr shp (-1)) k b) (fun b => bfo a (alw tr shp (-1)) cl mv sp k b + tgo a (alw tr shp (-1)) cl mv sp rw k b) (z + 1)))), (5, .int (nI 1000000000)), (4, .int (nI 0)), (0, .ref (ad 400)), (1, .int (nI k)), (3, .int (nI z))]) hx hb d_M_keep_169 rfl hl (by decide) rfl (fun ls hl => ?_)
                  refine n_iinc (lv' := [(3, .int (nI (z + 1))), (2, .int (nI (rmin (fun b => decide (¬ b = X) && (alw tr shp (-1)) k b) (fun b => bfo a (alw tr shp (-1)) cl mv sp k b + tgo a (alw tr shp (-1)) cl mv sp rw k b) (z + 1)))), (5, .int (nI 1000000000)), (4, .int (nI 0)), (0, .ref (ad 400)), (1, .int (nI k))]) hx hb d_M_keep_170 hl (k := 5) rfl (by decide) rfl (fun ls hl => ?_)
                  refine lv_goto (tgt := 48) hx hb d_M_keep_173 (by decide) ?_
                  exact ih2 (z + 1) _ _ ls (by omega) (by omega) hW hS (lv_sub hl [4, 5, 1, 0] rfl)
                · omega
              · omega
            | true =>
              rw [if_pos hal] at hFz
              have ht0 := tgo_le hok h1 h2 hal
              refine lv_aload_n hx hb d_M_keep_66 rfl (lv_at hl 0 rfl) ?_
              refine g_get (C := R_M) (T := F_M) (N := 35) hx hb hts i_M hown hK hW (i := 400) (hdl 400 (by decide) (by decide)) ((wK_o (by decide)).trans m400) rfl 32 (by decide) (hts _ q_520) (fun _ h9 => h9) rfl d_M_keep_67 ?_
              refine lv_bipush (v := nI 12) hx hb d_M_keep_70 (by decide) ?_
              refine lv_iload_n hx hb d_M_keep_72 rfl (lv_at hl 1 rfl) ?_
              refine n_mul hx hb d_M_keep_73 ?_
              refine lv_iload_n hx hb d_M_keep_74 rfl (lv_at hl 3 rfl) ?_
              refine n_add hx hb d_M_keep_75 ?_
              refine n_iald hx hb hK hW 0 (q := 424) (hdl 424 (by decide) (by decide)) ((wK_o (by decide)).trans m424) rfl (j := (12 * k) + z) (by omega) (by omega) d_M_keep_76 ?_
              refine n_topi (show F ((12 * k) + z) = nI (bfo a (alw tr shp (-1)) cl mv sp k z + sp z (cl k)) from hFz) ?_
              refine lv_ldc hx hb hown (hts _ q_659) d_M_keep_77 ?_
              refine n_topi (show (1000000000 : Int32) = nI 1000000000 by decide) ?_
              refine n_icmp_ge (tgt := 102) hx hb (by omega) (by omega) d_M_keep_79 (by decide) (fun h4 => ?_) (fun h4 => ?_)
              · omega
              · refine lv_aload_n hx hb d_M_keep_82 rfl (lv_at hl 0 rfl) ?_
                refine g_get (C := R_M) (T := F_M) (N := 35) hx hb hts i_M hown hK hW (i := 400) (hdl 400 (by decide) (by decide)) ((wK_o (by decide)).trans m400) rfl 33 (by decide) (hts _ q_521) (fun _ h9 => h9) rfl d_M_keep_83 ?_
                refine lv_bipush (v := nI 12) hx hb d_M_keep_86 (by decide) ?_
                refine lv_iload_n hx hb d_M_keep_88 rfl (lv_at hl 1 rfl) ?_
                refine n_mul hx hb d_M_keep_89 ?_
                refine lv_iload_n hx hb d_M_keep_90 rfl (lv_at hl 3 rfl) ?_
                refine n_add hx hb d_M_keep_91 ?_
                refine n_iald hx hb hK hW 0 (q := 425) (hdl 425 (by decide) (by decide)) ((wK_o (by decide)).trans m425) rfl (j := (12 * k) + z) (by omega) (by omega) d_M_keep_92 ?_
                refine n_topi (show G ((12 * k) + z) = nI (tgo a (alw tr shp (-1)) cl mv sp rw k z) from hGz) ?_
                refine lv_ldc hx hb hown (hts _ q_659) d_M_keep_93 ?_
                refine n_topi (show (1000000000 : Int32) = nI 1000000000 by decide) ?_
                refine n_icmp_ge (tgt := 102) hx hb (by omega) (by omega) d_M_keep_95 (by decide) (fun h5 => ?_) (fun h5 => ?_)
                · omega
                · refine lv_iconst (v := nI 1) hx hb d_M_keep_98 (by decide) ?_
                  refine lv_goto (tgt := 103) hx hb d_M_keep_99 (by decide) ?_
                  refine lv_istore (lv' := [(4, .int (nI 1)), (0, .ref (ad 400)), (1, .int (nI k)), (2, .int (nI (rmin (fun b => decide (¬ b = X) && (alw tr shp (-1)) k b) (fun b => bfo a (alw tr shp (-1)) cl mv sp k b + tgo a (alw tr shp (-1)) cl mv sp rw k b) z))), (3, .int (nI z))]) hx hb d_M_keep_103 hl (by decide) rfl (fun ls hl => ?_)
                  refine lv_iload hx hb d_M_keep_105 (lv_at hl 0 rfl) ?_
                  refine n_if_eq (tgt := 153) hx hb (by omega) d_M_keep_107 (by decide) (fun h9 => absurd h9 (by omega)) (fun h9 => ?_)
                  refine lv_aload_n hx hb d_M_keep_110 rfl (lv_at hl 1 rfl) ?_
                  refine g_get (C := R_M) (T := F_M) (N := 35) hx hb hts i_M hown hK hW (i := 400) (hdl 400 (by decide) (by decide)) ((wK_o (by decide)).trans m400) rfl 32 (by decide) (hts _ q_520) (fun _ h9 => h9) rfl d_M_keep_111 ?_
                  refine lv_bipush (v := nI 12) hx hb d_M_keep_114 (by decide) ?_
                  refine lv_iload_n hx hb d_M_keep_116 rfl (lv_at hl 2 rfl) ?_
                  refine n_mul hx hb d_M_keep_117 ?_
                  refine lv_iload_n hx hb d_M_keep_118 rfl (lv_at hl 4 rfl) ?_
                  refine n_add hx hb d_M_keep_119 ?_
                  refine n_iald hx hb hK hW 0 (q := 424) (hdl 424 (by decide) (by decide)) ((wK_o (by decide)).trans m424) rfl (j := (12 * k) + z) (by omega) (by omega) d_M_keep_120 ?_
                  refine n_topi (show F ((12 * k) + z) = nI (bfo a (alw tr shp (-1)) cl mv sp k z + sp z (cl k)) from hFz) ?_
                  refine lv_aload_n hx hb d_M_keep_121 rfl (lv_at hl 1 rfl) ?_
                  refine g_get (C := R_M) (T := F_M) (N := 35) hx hb hts i_M hown hK hW (i := 400) (hdl 400 (by decide) (by decide)) ((wK_o (by decide)).trans m400) rfl 33 (by decide) (hts _ q_521) (fun _ h9 => h9) rfl d_M_keep_122 ?_
                  refine lv_bipush (v := nI 12) hx hb d_M_keep_125 (by decide) ?_
                  refine lv_iload_n hx hb d_M_keep_127 rfl (lv_at hl 2 rfl) ?_
                  refine n_mul hx hb d_M_keep_128 ?_
                  refine lv_iload_n hx hb d_M_keep_129 rfl (lv_at hl 4 rfl) ?_
                  refine n_add hx hb d_M_keep_130 ?_
                  refine n_iald hx hb hK hW 0 (q := 425) (hdl 425 (by decide) (by decide)) ((wK_o (by decide)).trans m425) rfl (j := (12 * k) + z) (by omega) (by omega) d_M_keep_131 ?_
                  refine n_topi (show G ((12 * k) + z) = nI (tgo a (alw tr shp (-1)) cl mv sp rw k z) from hGz) ?_
                  refine n_add hx hb d_M_keep_132 ?_
                  refine lv_aload_n hx hb d_M_keep_133 rfl (lv_at hl 1 rfl) ?_
                  refine g_get (C := R_M) (T := F_M) (N := 35) hx hb hts i_M hown hK hW (i := 400) (hdl 400 (by decide) (by decide)) ((wK_o (by decide)).trans m400) rfl 2 (by decide) (hts _ q_490) (fun _ h9 => h9) rfl d_M_keep_134 ?_
                  refine lv_bipush (v := nI 10) hx hb d_M_keep_137 (by decide) ?_
                  refine lv_iload_n hx hb d_M_keep_139 rfl (lv_at hl 4 rfl) ?_
                  refine n_mul hx hb d_M_keep_140 ?_
                  refine lv_aload_n hx hb d_M_keep_141 rfl (lv_at hl 1 rfl) ?_
                  refine g_get (C := R_M) (T := F_M) (N := 35) hx hb hts i_M hown hK hW (i := 400) (hdl 400 (by decide) (by decide)) ((wK_o (by decide)).trans m400) rfl 7 (by decide) (hts _ q_495) (fun _ h9 => h9) rfl d_M_keep_142 ?_
                  refine lv_iload_n hx hb d_M_keep_145 rfl (lv_at hl 2 rfl) ?_
                  refine n_iald hx hb hK hW 0 (q := 406) (hdl 406 (by decide) (by decide)) ((wK_o (by decide)).trans m406) rfl (j := k) (by omega) (by omega) d_M_keep_146 ?_
                  refine n_topi (show cls k = nI (cl k) from hck.1) ?_
                  refine n_add hx hb d_M_keep_147 ?_
                  refine n_iald hx hb hK hW 0 (q := 402) (hdl 402 (by decide) (by decide)) ((wK_o (by decide)).trans m402) rfl (j := (10 * z) + (cl k)) (by omega) (by omega) d_M_keep_148 ?_
                  refine n_topi (show fs ((10 * z) + (cl k)) = nI (sp z (cl k)) from hsp z (cl k) h2 hck.2) ?_
                  refine n_sub hx hb (by omega) d_M_keep_149 ?_
                  refine n_topi (show nI (((bfo a (alw tr shp (-1)) cl mv sp k z + sp z (cl k)) + (tgo a (alw tr shp (-1)) cl mv sp rw k z)) - (sp z (cl k))) = nI (bfo a (alw tr shp (-1)) cl mv sp k z + tgo a (alw tr shp (-1)) cl mv sp rw k z) from by congr 1; omega) ?_
                  refine lv_goto (tgt := 155) hx hb d_M_keep_150 (by decide) ?_
                  refine lv_istore (lv' := [(5, .int (nI (bfo a (alw tr shp (-1)) cl mv sp k z + tgo a (alw tr shp (-1)) cl mv sp rw k z))), (4, .int (nI 1)), (0, .ref (ad 400)), (1, .int (nI k)), (2, .int (nI (rmin (fun b => decide (¬ b = X) && (alw tr shp (-1)) k b) (fun b => bfo a (alw tr shp (-1)) cl mv sp k b + tgo a (alw tr shp (-1)) cl mv sp rw k b) z))), (3, .int (nI z))]) hx hb d_M_keep_155 hl (by decide) rfl (fun ls hl => ?_)
                  refine lv_iload hx hb d_M_keep_157 (lv_at hl 0 rfl) ?_
                  refine lv_iload_n hx hb d_M_keep_159 rfl (lv_at hl 4 rfl) ?_
                  refine n_icmp_ge (tgt := 168) hx hb (by omega) (by omega) d_M_keep_160 (by decide) (fun h6 => ?_) (fun h6 => ?_)
                  · refine lv_iload_n hx hb d_M_keep_168 rfl (lv_at hl 4 rfl) ?_
                    refine n_topi (show nI (rmin (fun b => decide (¬ b = X) && (alw tr shp (-1)) k b) (fun b => bfo a (alw tr shp (-1)) cl mv sp k b + tgo a (alw tr shp (-1)) cl mv sp rw k b) z) = nI (rmin (fun b => decide (¬ b = X) && (alw tr shp (-1)) k b) (fun b => bfo a (alw tr shp (-1)) cl mv sp k b + tgo a (alw tr shp (-1)) cl mv sp rw k b) (z + 1)) from by rw [rmin_ge (by simp [h3, hal]) h6]) ?_
                    refine lv_istore_n (lv' := [(2, .int (nI (rmin (fun b => decide (¬ b = X) && (alw tr shp (-1)) k b) (fun b => bfo a (alw tr shp (-1)) cl mv sp k b + tgo a (alw tr shp (-1)) cl mv sp rw k b) (z + 1)))), (5, .int (nI (bfo a (alw tr shp (-1)) cl mv sp k z + tgo a (alw tr shp (-1)) cl mv sp rw k z))), (4, .int (nI 1)), (0, .ref (ad 400)), (1, .int (nI k)), (3, .int (nI z))]) hx hb d_M_keep_169 rfl hl (by decide) rfl (fun ls hl => ?_)
                    refine n_iinc (lv' := [(3, .int (nI (z + 1))), (2, .int (nI (rmin (fun b => decide (¬ b = X) && (alw tr shp (-1)) k b) (fun b => bfo a (alw tr shp (-1)) cl mv sp k b + tgo a (alw tr shp (-1)) cl mv sp rw k b) (z + 1)))), (5, .int (nI (bfo a (alw tr shp (-1)) cl mv sp k z + tgo a (alw tr shp (-1)) cl mv sp rw k z))), (4, .int (nI 1)), (0, .ref (ad 400)), (1, .int (nI k))]) hx hb d_M_keep_170 hl (k := 5) rfl (by decide) rfl (fun ls hl => ?_)
                    refine lv_goto (tgt := 48) hx hb d_M_keep_173 (by decide) ?_
                    exact ih2 (z + 1) _ _ ls (by omega) (by omega) hW hS (lv_sub hl [4, 5, 1, 0] rfl)
                  · refine lv_iload hx hb d_M_keep_163 (lv_at hl 0 rfl) ?_
                    refine lv_goto (tgt := 169) hx hb d_M_keep_165 (by decide) ?_
                    refine n_topi (show nI (bfo a (alw tr shp (-1)) cl mv sp k z + tgo a (alw tr shp (-1)) cl mv sp rw k z) = nI (rmin (fun b => decide (¬ b = X) && (alw tr shp (-1)) k b) (fun b => bfo a (alw tr shp (-1)) cl mv sp k b + tgo a (alw tr shp (-1)) cl mv sp rw k b) (z + 1)) from by rw [rmin_lt (by simp [h3, hal]) h6]) ?_
                    refine lv_istore_n (lv' := [(2, .int (nI (rmin (fun b => decide (¬ b = X) && (alw tr shp (-1)) k b) (fun b => bfo a (alw tr shp (-1)) cl mv sp k b + tgo a (alw tr shp (-1)) cl mv sp rw k b) (z + 1)))), (5, .int (nI (bfo a (alw tr shp (-1)) cl mv sp k z + tgo a (alw tr shp (-1)) cl mv sp rw k z))), (4, .int (nI 1)), (0, .ref (ad 400)), (1, .int (nI k)), (3, .int (nI z))]) hx hb d_M_keep_169 rfl hl (by decide) rfl (fun ls hl => ?_)
                    refine n_iinc (lv' := [(3, .int (nI (z + 1))), (2, .int (nI (rmin (fun b => decide (¬ b = X) && (alw tr shp (-1)) k b) (fun b => bfo a (alw tr shp (-1)) cl mv sp k b + tgo a (alw tr shp (-1)) cl mv sp rw k b) (z + 1)))), (5, .int (nI (bfo a (alw tr shp (-1)) cl mv sp k z + tgo a (alw tr shp (-1)) cl mv sp rw k z))), (4, .int (nI 1)), (0, .ref (ad 400)), (1, .int (nI k))]) hx hb d_M_keep_170 hl (k := 5) rfl (by decide) rfl (fun ls hl => ?_)
                    refine lv_goto (tgt := 48) hx hb d_M_keep_173 (by decide) ?_
                    exact ih2 (z + 1) _ _ ls (by omega) (by omega) hW hS (lv_sub hl [4, 5, 1, 0] rfl)
set_option maxHeartbeats 4000000 in
set_option maxRecDepth 100000 in
/-- run -/
theorem c_M_run (l : Launch) {D : va_G} {cI cJ cG : ClassId} {ad : Nat → Nat} {co : Nat → va_E} {dl : List Nat} {a rw sh pg ce mg kn cs sm : Nat} (hdl : ∀ i, 400 ≤ i → i < 427 → i ∈ dl) (h400 : co 400 = mO ad a rw sh pg ce mg kn cs sm) {fm : Nat → Int32} {fs : Nat → Int32} {cls : Nat → Int32} {shp : Nat → Int32} {tr : Nat → Int32} {ln : Nat → Int32} {nx : Nat → Int32} {so : Nat → Int32} {lg : Nat → Int32} {sc : Nat → Int32} {lc : Nat → Int32} {f0 : Nat → Int32} {g0 : Nat → Int32} {fd : Nat → Int32} (h401 : co 401 = .inl (cI, 144, .inl fm)) (h402 : co 402 = .inl (cI, 120, .inl fs)) (h406 : co 406 = .inl (cI, 200, .inl cls)) (h408 : co 408 = .inl (cI, 200, .inl shp)) (h409 : co 409 = .inl (cI, 200, .inl tr)) (h417 : co 417 = .inl (cI, 200, .inl ln)) (h418 : co 418 = .inl (cI, 200, .inl nx)) (h420 : co 420 = .inl (cI, 2400, .inl so)) (h421 : co 421 = .inl (cI, 2400, .inl lg)) (h422 : co 422 = .inl (cI, 12, .inl sc)) (h423 : co 423 = .inl (cI, 12, .inl lc)) (h424 : co 424 = .inl (cI, 2400, .inl f0)) (h425 : co 425 = .inl (cI, 2400, .inl g0)) (h426 : co 426 = .inl (cI, 200, .inl fd)) {cl : Nat → Nat} {mv sp : Nat → Nat → Nat} (ha : a ≤ 12) (hn : rw ≤ 200) (hok : 0 < rw → okN a (alw tr shp (-1)) cl mv sp rw) (hcl : ∀ k, k < rw → cls k = nI (cl k) ∧ cl k < 10) (hmv : ∀ i j, i < a → j < a → fm (12 * i + j) = nI (mv i j)) (hsp : ∀ i c, i < a → c < 10 → fs (10 * i + c) = nI (sp i c)) (hsh : ∀ k, k < rw → shp k ≠ -1) : gMi l y_M_run (Cond.code y_M_run b_M_run 1 (some .int) :: wA) ({ frames := 3, cells := 0, slots := 0, locals := 76 }) D gCl (gTy cI cJ cG) gNl [.ref (ad 400)] ad co dl (fun r co' => (rw = 0 ∧ r = -1 ∧ co' = co) ∨ (0 < rw ∧ r = nI (bcs a (alw tr shp (-1)) cl mv sp rw) ∧ ∃ f420 f421 f422 f423 f424 f425 f426 : Nat → Int32, co' = va_up (wX cI cJ co (fun j => if j < rw then nI (bln a (alw tr shp (-1)) cl mv sp rw j) else ln j) (fun j => if j < rw then nxt a (alw tr shp (-1)) cl mv sp rw tr j else nx j) f420 f421 f422 f423 f424 f425 f426) 400 (mO ad a rw sh pg ce mg rw (bcs a (alw tr shp (-1)) cl mv sp rw) sm))) := by
  refine gMi_of (cc := b_M_run) (maxL := 1) (ret := some .int) (by decide) rfl (Nat.le_of_ble_eq_true rfl) ?_
  intro pp ee s mm below meth cd ls hC hW hS hl
  obtain ⟨hx, hb, hr, hts0, hown, hlocks, hml, hK, hN⟩ := hC
  have hts : ∀ w ∈ wA, w.before _ s = true := fun w h => hts0 w (List.mem_cons_of_mem _ h)
  have hA : ∀ q, s.heap.size ≤ q → gA ad co dl s.heap.size q := fun q h => Or.inr h
  have hl : lv_has ls 1 [(0, .ref (ad 400))] := hl
  have hown : s.vm.findClass R_M = some mm.cls := hown
  refine lv_aload_n hx hb d_M_run_0 rfl (lv_at hl 0 rfl) ?_
  refine g_get (C := R_M) (T := F_M) (N := 35) hx hb hts i_M hown hK hW (i := 400) (hdl 400 (by decide) (by decide)) h400 rfl 5 (by decide) (hts _ q_493) (fun _ h9 => h9) rfl d_M_run_1 ?_
  refine n_if_ne (tgt := 9) hx hb (by omega) d_M_run_4 (by decide) (fun h1 => ?_) (fun h1 => ?_)
  · refine lv_aload_n hx hb d_M_run_9 rfl (lv_at hl 0 rfl) ?_
    refine g_cVv (As := []) (rest := []) ⟨hx, hb, hml, hown, hts⟩ (c_M_keep l hdl h400 h401 h402 h406 h408 h409 h417 h418 h420 h421 h422 h423 h424 h425 h426 ha (hok h1) hcl hmv hsp hsh) (gcwV 0 hts q_650 q_647 q_649 qs_10 q_9 (by decide +kernel) ⟨(Nat.le_of_ble_eq_true rfl), (Nat.le_of_ble_eq_true rfl)⟩) gNl_ok hN hK hW hS hA (hdl 400 (by decide) (by decide)) h400 rfl rfl hl.1 rfl (Nat.le_of_ble_eq_true rfl) d_M_run_10 ⟨Nat.zero_le _, Nat.zero_le _⟩ (fun co9 H locs hp9 hW hS => ?_)
    obtain ⟨f420, f421, f422, f423, f424, f425, f426, hco9⟩ := hp9
    rw [hco9] at hW
    refine lv_aload_n hx hb d_M_run_13 rfl (lv_at hl 0 rfl) ?_
    refine g_get (C := R_M) (T := F_M) (N := 35) hx hb hts i_M hown hK hW (i := 400) (hdl 400 (by decide) (by decide)) (va_up_self _ _ _) rfl 24 (by decide) (hts _ q_512) (fun _ h9 => h9) rfl d_M_run_14 ?_
    exact g_iret hx hb hr hlocks hW hS (Or.inr ⟨h1, rfl, _, _, _, _, _, _, _, rfl⟩) d_M_run_17
  · refine lv_iconst (v := (-1)) hx hb d_M_run_7 (by decide) ?_
    exact g_iret hx hb hr hlocks hW hS (Or.inl ⟨h1, rfl, rfl⟩) d_M_run_8
