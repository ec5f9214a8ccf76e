def wF (cI cJ : ClassId) (co : Nat → va_E) (f401 : Nat → Int32) (f402 : Nat → Int32) (f403 : Nat → Int32) (f404 : Nat → Int32) (f417 : Nat → Int32) (f418 : Nat → Int32) (f419 : Nat → Int64) (f420 : Nat → Int32) (f421 : Nat → Int32) (f422 : Nat → Int32) (f423 : Nat → Int32) (f424 : Nat → Int32) (f425 : Nat → Int32) (f426 : Nat → Int32) : Nat → va_E := va_up (va_up (va_up (va_up (va_up (va_up (va_up (va_up (va_up (va_up (va_up (va_up (va_up (va_up co 401 (.inl (cI, 144, .inl f401))) 402 (.inl (cI, 120, .inl f402))) 403 (.inl (cI, 144, .inl f403))) 404 (.inl (cI, 120, .inl f404))) 417 (.inl (cI, 200, .inl f417))) 418 (.inl (cI, 200, .inl f418))) 419 (.inl (cJ, 21, .inr (.inl f419)))) 420 (.inl (cI, 2400, .inl f420))) 421 (.inl (cI, 2400, .inl f421))) 422 (.inl (cI, 12, .inl f422))) 423 (.inl (cI, 12, .inl f423))) 424 (.inl (cI, 2400, .inl f424))) 425 (.inl (cI, 2400, .inl f425))) 426 (.inl (cI, 200, .inl f426))
theorem wF_401 {cI cJ : ClassId} {co : Nat → va_E} {f401 : Nat → Int32} {f402 : Nat → Int32} {f403 : Nat → Int32} {f404 : Nat → Int32} {f417 : Nat → Int32} {f418 : Nat → Int32} {f419 : Nat → Int64} {f420 : Nat → Int32} {f421 : Nat → Int32} {f422 : Nat → Int32} {f423 : Nat → Int32} {f424 : Nat → Int32} {f425 : Nat → Int32} {f426 : Nat → Int32} : wF cI cJ co f401 f402 f403 f404 f417 f418 f419 f420 f421 f422 f423 f424 f425 f426 401 = .inl (cI, 144, .inl f401) := by simp [wF, va_up]
theorem wF_u401 {cI cJ : ClassId} {co : Nat → va_E} {f401 : Nat → Int32} {f402 : Nat → Int32} {f403 : Nat → Int32} {f404 : Nat → Int32} {f417 : Nat → Int32} {f418 : Nat → Int32} {f419 : Nat → Int64} {f420 : Nat → Int32} {f421 : Nat → Int32} {f422 : Nat → Int32} {f423 : Nat → Int32} {f424 : Nat → Int32} {f425 : Nat → Int32} {f426 : Nat → Int32} {g : Nat → Int32} : va_up (wF cI cJ co f401 f402 f403 f404 f417 f418 f419 f420 f421 f422 f423 f424 f425 f426) 401 (.inl (cI, 144, .inl g)) = wF cI cJ co g f402 f403 f404 f417 f418 f419 f420 f421 f422 f423 f424 f425 f426 := by
  funext i
  by_cases h : i = 401
  · subst h; simp [wF, va_up]
  · simp [wF, va_up, h]
theorem wF_402 {cI cJ : ClassId} {co : Nat → va_E} {f401 : Nat → Int32} {f402 : Nat → Int32} {f403 : Nat → Int32} {f404 : Nat → Int32} {f417 : Nat → Int32} {f418 : Nat → Int32} {f419 : Nat → Int64} {f420 : Nat → Int32} {f421 : Nat → Int32} {f422 : Nat → Int32} {f423 : Nat → Int32} {f424 : Nat → Int32} {f425 : Nat → Int32} {f426 : Nat → Int32} : wF cI cJ co f401 f402 f403 f404 f417 f418 f419 f420 f421 f422 f423 f424 f425 f426 402 = .inl (cI, 120, .inl f402) := by simp [wF, va_up]
theorem wF_u402 {cI cJ : ClassId} {co : Nat → va_E} {f401 : Nat → Int32} {f402 : Nat → Int32} {f403 : Nat → Int32} {f404 : Nat → Int32} {f417 : Nat → Int32} {f418 : Nat → Int32} {f419 : Nat → Int64} {f420 : Nat → Int32} {f421 : Nat → Int32} {f422 : Nat → Int32} {f423 : Nat → Int32} {f424 : Nat → Int32} {f425 : Nat → Int32} {f426 : Nat → Int32} {g : Nat → Int32} : va_up (wF cI cJ co f401 f402 f403 f404 f417 f418 f419 f420 f421 f422 f423 f424 f425 f426) 402 (.inl (cI, 120, .inl g)) = wF cI cJ co f401 g f403 f404 f417 f418 f419 f420 f421 f422 f423 f424 f425 f426 := by
  funext i
  by_cases h : i = 402
  · subst h; simp [wF, va_up]
  · simp [wF, va_up, h]
theorem wF_403 {cI cJ : ClassId} {co : Nat → va_E} {f401 : Nat → Int32} {f402 : Nat → Int32} {f403 : Nat → Int32} {f404 : Nat → Int32} {f417 : Nat → Int32} {f418 : Nat → Int32} {f419 : Nat → Int64} {f420 : Nat → Int32} {f421 : Nat → Int32} {f422 : Nat → Int32} {f423 : Nat → Int32} {f424 : Nat → Int32} {f425 : Nat → Int32} {f426 : Nat → Int32} : wF cI cJ co f401 f402 f403 f404 f417 f418 f419 f420 f421 f422 f423 f424 f425 f426 403 = .inl (cI, 144, .inl f403) := by simp [wF, va_up]
theorem wF_u403 {cI cJ : ClassId} {co : Nat → va_E} {f401 : Nat → Int32} {f402 : Nat → Int32} {f403 : Nat → Int32} {f404 : Nat → Int32} {f417 : Nat → Int32} {f418 : Nat → Int32} {f419 : Nat → Int64} {f420 : Nat → Int32} {f421 : Nat → Int32} {f422 : Nat → Int32} {f423 : Nat → Int32} {f424 : Nat → Int32} {f425 : Nat → Int32} {f426 : Nat → Int32} {g : Nat → Int32} : va_up (wF cI cJ co f401 f402 f403 f404 f417 f418 f419 f420 f421 f422 f423 f424 f425 f426) 403 (.inl (cI, 144, .inl g)) = wF cI cJ co f401 f402 g f404 f417 f418 f419 f420 f421 f422 f423 f424 f425 f426 := by
  funext i
  by_cases h : i = 403
  · subst h; simp [wF, va_up]
  · simp [wF, va_up, h]
theorem wF_404 {cI cJ : ClassId} {co : Nat → va_E} {f401 : Nat → Int32} {f402 : Nat → Int32} {f403 : Nat → Int32} {f404 : Nat → Int32} {f417 : Nat → Int32} {f418 : Nat → Int32} {f419 : Nat → Int64} {f420 : Nat → Int32} {f421 : Nat → Int32} {f422 : Nat → Int32} {f423 : Nat → Int32} {f424 : Nat → Int32} {f425 : Nat → Int32} {f426 : Nat → Int32} : wF cI cJ co f401 f402 f403 f404 f417 f418 f419 f420 f421 f422 f423 f424 f425 f426 404 = .inl (cI, 120, .inl f404) := by simp [wF, va_up]
theorem wF_u404 {cI cJ : ClassId} {co : Nat → va_E} {f401 : Nat → Int32} {f402 : Nat → Int32} {f403 : Nat → Int32} {f404 : Nat → Int32} {f417 : Nat → Int32} {f418 : Nat → Int32} {f419 : Nat → Int64} {f420 : Nat → Int32} {f421 : Nat → Int32} {f422 : Nat → Int32} {f423 : Nat → Int32} {f424 : Nat → Int32} {f425 : Nat → Int32} {f426 : Nat → Int32} {g : Nat → Int32} : va_up (wF cI cJ co f401 f402 f403 f404 f417 f418 f419 f420 f421 f422 f423 f424 f425 f426) 404 (.inl (cI, 120, .inl g)) = wF cI cJ co f401 f402 f403 g f417 f418 f419 f420 f421 f422 f423 f424 f425 f426 := by
  funext i
  by_cases h : i = 404
  · subst h; simp [wF, va_up]
  · simp [wF, va_up, h]
theorem wF_417 {cI cJ : ClassId} {co : Nat → va_E} {f401 : Nat → Int32} {f402 : Nat → Int32} {f403 : Nat → Int32} {f404 : Nat → Int32} {f417 : Nat → Int32} {f418 : Nat → Int32} {f419 : Nat → Int64} {f420 : Nat → Int32} {f421 : Nat → Int32} {f422 : Nat → Int32} {f423 : Nat → Int32} {f424 : Nat → Int32} {f425 : Nat → Int32} {f426 : Nat → Int32} : wF cI cJ co f401 f402 f403 f404 f417 f418 f419 f420 f421 f422 f423 f424 f425 f426 417 = .inl (cI, 200, .inl f417) := by simp [wF, va_up]
theorem wF_u417 {cI cJ : ClassId} {co : Nat → va_E} {f401 : Nat → Int32} {f402 : Nat → Int32} {f403 : Nat → Int32} {f404 : Nat → Int32} {f417 : Nat → Int32} {f418 : Nat → Int32} {f419 : Nat → Int64} {f420 : Nat → Int32} {f421 : Nat → Int32} {f422 : Nat → Int32} {f423 : Nat → Int32} {f424 : Nat → Int32} {f425 : Nat → Int32} {f426 : Nat → Int32} {g : Nat → Int32} : va_up (wF cI cJ co f401 f402 f403 f404 f417 f418 f419 f420 f421 f422 f423 f424 f425 f426) 417 (.inl (cI, 200, .inl g)) = wF cI cJ co f401 f402 f403 f404 g f418 f419 f420 f421 f422 f423 f424 f425 f426 := by
  funext i
  by_cases h : i = 417
  · subst h; simp [wF, va_up]
  · simp [wF, va_up, h]
theorem wF_418 {cI cJ : ClassId} {co : Nat → va_E} {f401 : Nat → Int32} {f402 : Nat → Int32} {f403 : Nat → Int32} {f404 : Nat → Int32} {f417 : Nat → Int32} {f418 : Nat → Int32} {f419 : Nat → Int64} {f420 : Nat → Int32} {f421 : Nat → Int32} {f422 : Nat → Int32} {f423 : Nat → Int32} {f424 : Nat → Int32} {f425 : Nat → Int32} {f426 : Nat → Int32} : wF cI cJ co f401 f402 f403 f404 f417 f418 f419 f420 f421 f422 f423 f424 f425 f426 418 = .inl (cI, 200, .inl f418) := by simp [wF, va_up]
theorem wF_u418 {cI cJ : ClassId} {co : Nat → va_E} {f401 : Nat → Int32} {f402 : Nat → Int32} {f403 : Nat → Int32} {f404 : Nat → Int32} {f417 : Nat → Int32} {f418 : Nat → Int32} {f419 : Nat → Int64} {f420 : Nat → Int32} {f421 : Nat → Int32} {f422 : Nat → Int32} {f423 : Nat → Int32} {f424 : Nat → Int32} {f425 : Nat → Int32} {f426 : Nat → Int32} {g : Nat → Int32} : va_up (wF cI cJ co f401 f402 f403 f404 f417 f418 f419 f420 f421 f422 f423 f424 f425 f426) 418 (.inl (cI, 200, .inl g)) = wF cI cJ co f401 f402 f403 f404 f417 g f419 f420 f421 f422 f423 f424 f425 f426 := by
  funext i
  by_cases h : i = 418
  · subst h; simp [wF, va_up]
  · simp [wF, va_up, h]
theorem wF_419 {cI cJ : ClassId} {co : Nat → va_E} {f401 : Nat → Int32} {f402 : Nat → Int32} {f403 : Nat → Int32} {f404 : Nat → Int32} {f417 : Nat → Int32} {f418 : Nat → Int32} {f419 : Nat → Int64} {f420 : Nat → Int32} {f421 : Nat → Int32} {f422 : Nat → Int32} {f423 : Nat → Int32} {f424 : Nat → Int32} {f425 : Nat → Int32} {f426 : Nat → Int32} : wF cI cJ co f401 f402 f403 f404 f417 f418 f419 f420 f421 f422 f423 f424 f425 f426 419 = .inl (cJ, 21, .inr (.inl f419)) := by simp [wF, va_up]
theorem wF_u419 {cI cJ : ClassId} {co : Nat → va_E} {f401 : Nat → Int32} {f402 : Nat → Int32} {f403 : Nat → Int32} {f404 : Nat → Int32} {f417 : Nat → Int32} {f418 : Nat → Int32} {f419 : Nat → Int64} {f420 : Nat → Int32} {f421 : Nat → Int32} {f422 : Nat → Int32} {f423 : Nat → Int32} {f424 : Nat → Int32} {f425 : Nat → Int32} {f426 : Nat → Int32} {g : Nat → Int64} : va_up (wF cI cJ co f401 f402 f403 f404 f417 f418 f419 f420 f421 f422 f423 f424 f425 f426) 419 (.inl (cJ, 21, .inr (.inl g))) = wF cI cJ co f401 f402 f403 f404 f417 f418 g f420 f421 f422 f423 f424 f425 f426 := by
  funext i
  by_cases h : i = 419
  · subst h; simp [wF, va_up]
  · simp [wF, va_up, h]
theorem wF_420 {cI cJ : ClassId} {co : Nat → va_E} {f401 : Nat → Int32} {f402 : Nat → Int32} {f403 : Nat → Int32} {f404 : Nat → Int32} {f417 : Nat → Int32} {f418 : Nat → Int32} {f419 : Nat → Int64} {f420 : Nat → Int32} {f421 : Nat → Int32} {f422 : Nat → Int32} {f423 : Nat → Int32} {f424 : Nat → Int32} {f425 : Nat → Int32} {f426 : Nat → Int32} : wF cI cJ co f401 f402 f403 f404 f417 f418 f419 f420 f421 f422 f423 f424 f425 f426 420 = .inl (cI, 2400, .inl f420) := by simp [wF, va_up]
theorem wF_u420 {cI cJ : ClassId} {co : Nat → va_E} {f401 : Nat → Int32} {f402 : Nat → Int32} {f403 : Nat → Int32} {f404 : Nat → Int32} {f417 : Nat → Int32} {f418 : Nat → Int32} {f419 : Nat → Int64} {f420 : Nat → Int32} {f421 : Nat → Int32} {f422 : Nat → Int32} {f423 : Nat → Int32} {f424 : Nat → Int32} {f425 : Nat → Int32} {f426 : Nat → Int32} {g : Nat → Int32} : va_up (wF cI cJ co f401 f402 f403 f404 f417 f418 f419 f420 f421 f422 f423 f424 f425 f426) 420 (.inl (cI, 2400, .inl g)) = wF cI cJ co f401 f402 f403 f404 f417 f418 f419 g f421 f422 f423 f424 f425 f426 := by
  funext i
  by_cases h : i = 420
  · subst h; simp [wF, va_up]
  · simp [wF, va_up, h]
theorem wF_421 {cI cJ : ClassId} {co : Nat → va_E} {f401 : Nat → Int32} {f402 : Nat → Int32} {f403 : Nat → Int32} {f404 : Nat → Int32} {f417 : Nat → Int32} {f418 : Nat → Int32} {f419 : Nat → Int64} {f420 : Nat → Int32} {f421 : Nat → Int32} {f422 : Nat → Int32} {f423 : Nat → Int32} {f424 : Nat → Int32} {f425 : Nat → Int32} {f426 : Nat → Int32} : wF cI cJ co f401 f402 f403 f404 f417 f418 f419 f420 f421 f422 f423 f424 f425 f426 421 = .inl (cI, 2400, .inl f421) := by simp [wF, va_up]
theorem wF_u421 {cI cJ : ClassId} {co : Nat → va_E} {f401 : Nat → Int32} {f402 : Nat → Int32} {f403 : Nat → Int32} {f404 : Nat → Int32} {f417 : Nat → Int32} {f418 : Nat → Int32} {f419 : Nat → Int64} {f420 : Nat → Int32} {f421 : Nat → Int32} {f422 : Nat → Int32} {f423 : Nat → Int32} {f424 : Nat → Int32} {f425 : Nat → Int32} {f426 : Nat → Int32} {g : Nat → Int32} : va_up (wF cI cJ co f401 f402 f403 f404 f417 f418 f419 f420 f421 f422 f423 f424 f425 f426) 421 (.inl (cI, 2400, .inl g)) = wF cI cJ co f401 f402 f403 f404 f417 f418 f419 f420 g f422 f423 f424 f425 f426 := by
  funext i
  by_cases h : i = 421
  · subst h; simp [wF, va_up]
  · simp [wF, va_up, h]
theorem wF_422 {cI cJ : ClassId} {co : Nat → va_E} {f401 : Nat → Int32} {f402 : Nat → Int32} {f403 : Nat → Int32} {f404 : Nat → Int32} {f417 : Nat → Int32} {f418 : Nat → Int32} {f419 : Nat → Int64} {f420 : Nat → Int32} {f421 : Nat → Int32} {f422 : Nat → Int32} {f423 : Nat → Int32} {f424 : Nat → Int32} {f425 : Nat → Int32} {f426 : Nat → Int32} : wF cI cJ co f401 f402 f403 f404 f417 f418 f419 f420 f421 f422 f423 f424 f425 f426 422 = .inl (cI, 12, .inl f422) := by simp [wF, va_up]
theorem wF_u422 {cI cJ : ClassId} {co : Nat → va_E} {f401 : Nat → Int32} {f402 : Nat → Int32} {f403 : Nat → Int32} {f404 : Nat → Int32} {f417 : Nat → Int32} {f418 : Nat → Int32} {f419 : Nat → Int64} {f420 : Nat → Int32} {f421 : Nat → Int32} {f422 : Nat → Int32} {f423 : Nat → Int32} {f424 : Nat → Int32} {f425 : Nat → Int32} {f426 : Nat → Int32} {g : Nat → Int32} : va_up (wF cI cJ co f401 f402 f403 f404 f417 f418 f419 f420 f421 f422 f423 f424 f425 f426) 422 (.inl (cI, 12, .inl g)) = wF cI cJ co f401 f402 f403 f404 f417 f418 f419 f420 f421 g f423 f424 f425 f426 := by
  funext i
  by_cases h : i = 422
  · subst h; simp [wF, va_up]
  · simp [wF, va_up, h]
theorem wF_423 {cI cJ : ClassId} {co : Nat → va_E} {f401 : Nat → Int32} {f402 : Nat → Int32} {f403 : Nat → Int32} {f404 : Nat → Int32} {f417 : Nat → Int32} {f418 : Nat → Int32} {f419 : Nat → Int64} {f420 : Nat → Int32} {f421 : Nat → Int32} {f422 : Nat → Int32} {f423 : Nat → Int32} {f424 : Nat → Int32} {f425 : Nat → Int32} {f426 : Nat → Int32} : wF cI cJ co f401 f402 f403 f404 f417 f418 f419 f420 f421 f422 f423 f424 f425 f426 423 = .inl (cI, 12, .inl f423) := by simp [wF, va_up]
theorem wF_u423 {cI cJ : ClassId} {co : Nat → va_E} {f401 : Nat → Int32} {f402 : Nat → Int32} {f403 : Nat → Int32} {f404 : Nat → Int32} {f417 : Nat → Int32} {f418 : Nat → Int32} {f419 : Nat → Int64} {f420 : Nat → Int32} {f421 : Nat → Int32} {f422 : Nat → Int32} {f423 : Nat → Int32} {f424 : Nat → Int32} {f425 : Nat → Int32} {f426 : Nat → Int32} {g : Nat → Int32} : va_up (wF cI cJ co f401 f402 f403 f404 f417 f418 f419 f420 f421 f422 f423 f424 f425 f426) 423 (.inl (cI, 12, .inl g)) = wF cI cJ co f401 f402 f403 f404 f417 f418 f419 f420 f421 f422 g f424 f425 f426 := by
  funext i
  by_cases h : i = 423
  · subst h; simp [wF, va_up]
  · simp [wF, va_up, h]
theorem wF_424 {cI cJ : ClassId} {co : Nat → va_E} {f401 : Nat → Int32} {f402 : Nat → Int32} {f403 : Nat → Int32} {f404 : Nat → Int32} {f417 : Nat → Int32} {f418 : Nat → Int32} {f419 : Nat → Int64} {f420 : Nat → Int32} {f421 : Nat → Int32} {f422 : Nat → Int32} {f423 : Nat → Int32} {f424 : Nat → Int32} {f425 : Nat → Int32} {f426 : Nat → Int32} : wF cI cJ co f401 f402 f403 f404 f417 f418 f419 f420 f421 f422 f423 f424 f425 f426 424 = .inl (cI, 2400, .inl f424) := by simp [wF, va_up]
theorem wF_u424 {cI cJ : ClassId} {co : Nat → va_E} {f401 : Nat → Int32} {f402 : Nat → Int32} {f403 : Nat → Int32} {f404 : Nat → Int32} {f417 : Nat → Int32} {f418 : Nat → Int32} {f419 : Nat → Int64} {f420 : Nat → Int32} {f421 : Nat → Int32} {f422 : Nat → Int32} {f423 : Nat → Int32} {f424 : Nat → Int32} {f425 : Nat → Int32} {f426 : Nat → Int32} {g : Nat → Int32} : va_up (wF cI cJ co f401 f402 f403 f404 f417 f418 f419 f420 f421 f422 f423 f424 f425 f426) 424 (.inl (cI, 2400, .inl g)) = wF cI cJ co f401 f402 f403 f404 f417 f418 f419 f420 f421 f422 f423 g f425 f426 := by
  funext i
  by_cases h : i = 424
  · subst h; simp [wF, va_up]
  · simp [wF, va_up, h]
theorem wF_425 {cI cJ : ClassId} {co : Nat → va_E} {f401 : Nat → Int32} {f402 : Nat → Int32} {f403 : Nat → Int32} {f404 : Nat → Int32} {f417 : Nat → Int32} {f418 : Nat → Int32} {f419 : Nat → Int64} {f420 : Nat → Int32} {f421 : Nat → Int32} {f422 : Nat → Int32} {f423 : Nat → Int32} {f424 : Nat → Int32} {f425 : Nat → Int32} {f426 : Nat → Int32} : wF cI cJ co f401 f402 f403 f404 f417 f418 f419 f420 f421 f422 f423 f424 f425 f426 425 = .inl (cI, 2400, .inl f425) := by simp [wF, va_up]
theorem wF_u425 {cI cJ : ClassId} {co : Nat → va_E} {f401 : Nat → Int32} {f402 : Nat → Int32} {f403 : Nat → Int32} {f404 : Nat → Int32} {f417 : Nat → Int32} {f418 : Nat → Int32} {f419 : Nat → Int64} {f420 : Nat → Int32} {f421 : Nat → Int32} {f422 : Nat → Int32} {f423 : Nat → Int32} {f424 : Nat → Int32} {f425 : Nat → Int32} {f426 : Nat → Int32} {g : Nat → Int32} : va_up (wF cI cJ co f401 f402 f403 f404 f417 f418 f419 f420 f421 f422 f423 f424 f425 f426) 425 (.inl (cI, 2400, .inl g)) = wF cI cJ co f401 f402 f403 f404 f417 f418 f419 f420 f421 f422 f423 f424 g f426 := by
  funext i
  by_cases h : i = 425
  · subst h; simp [wF, va_up]
  · simp [wF, va_up, h]
theorem wF_426 {cI cJ : ClassId} {co : Nat → va_E} {f401 : Nat → Int32} {f402 : Nat → Int32} {f403 : Nat → Int32} {f404 : Nat → Int32} {f417 : Nat → Int32} {f418 : Nat → Int32} {f419 : Nat → Int64} {f420 : Nat → Int32} {f421 : Nat → Int32} {f422 : Nat → Int32} {f423 : Nat → Int32} {f424 : Nat → Int32} {f425 : Nat → Int32} {f426 : Nat → Int32} : wF cI cJ co f401 f402 f403 f404 f417 f418 f419 f420 f421 f422 f423 f424 f425 f426 426 = .inl (cI, 200, .inl f426) := by simp [wF, va_up]
theorem wF_u426 {cI cJ : ClassId} {co : Nat → va_E} {f401 : Nat → Int32} {f402 : Nat → Int32} {f403 : Nat → Int32} {f404 : Nat → Int32} {f417 : Nat → Int32} {f418 : Nat → Int32} {f419 : Nat → Int64} {f420 : Nat → Int32} {f421 : Nat → Int32} {f422 : Nat → Int32} {f423 : Nat → Int32} {f424 : Nat → Int32} {f425 : Nat → Int32} {f426 : Nat → Int32} {g : Nat → Int32} : va_up (wF cI cJ co f401 f402 f403 f404 f417 f418 f419 f420 f421 f422 f423 f424 f425 f426) 426 (.inl (cI, 200, .inl g)) = wF cI cJ co f401 f402 f403 f404 f417 f418 f419 f420 f421 f422 f423 f424 f425 g := by
  funext i
  by_cases h : i = 426
  · subst h; simp [wF, va_up]
  · simp [wF, va_up, h]
theorem wF_o {cI cJ : ClassId} {co : Nat → va_E} {f401 : Nat → Int32} {f402 : Nat → Int32} {f403 : Nat → Int32} {f404 : Nat → Int32} {f417 : Nat → Int32} {f418 : Nat → Int32} {f419 : Nat → Int64} {f420 : Nat → Int32} {f421 : Nat → Int32} {f422 : Nat → Int32} {f423 : Nat → Int32} {f424 : Nat → Int32} {f425 : Nat → Int32} {f426 : Nat → Int32} {i : Nat} (h : i ≠ 401 ∧ i ≠ 402 ∧ i ≠ 403 ∧ i ≠ 404 ∧ i ≠ 417 ∧ i ≠ 418 ∧ i ≠ 419 ∧ i ≠ 420 ∧ i ≠ 421 ∧ i ≠ 422 ∧ i ≠ 423 ∧ i ≠ 424 ∧ i ≠ 425 ∧ i ≠ 426) : wF cI cJ co f401 f402 f403 f404 f417 f418 f419 f420 f421 f422 f423 f424 f425 f426 i = co i := by simp [wF, va_up, h]
theorem wF_self {cI cJ : ClassId} {co : Nat → va_E} {f401 : Nat → Int32} {f402 : Nat → Int32} {f403 : Nat → Int32} {f404 : Nat → Int32} {f417 : Nat → Int32} {f418 : Nat → Int32} {f419 : Nat → Int64} {f420 : Nat → Int32} {f421 : Nat → Int32} {f422 : Nat → Int32} {f423 : Nat → Int32} {f424 : Nat → Int32} {f425 : Nat → Int32} {f426 : Nat → Int32} (h401 : co 401 = .inl (cI, 144, .inl f401)) (h402 : co 402 = .inl (cI, 120, .inl f402)) (h403 : co 403 = .inl (cI, 144, .inl f403)) (h404 : co 404 = .inl (cI, 120, .inl f404)) (h417 : co 417 = .inl (cI, 200, .inl f417)) (h418 : co 418 = .inl (cI, 200, .inl f418)) (h419 : co 419 = .inl (cJ, 21, .inr (.inl f419))) (h420 : co 420 = .inl (cI, 2400, .inl f420)) (h421 : co 421 = .inl (cI, 2400, .inl f421)) (h422 : co 422 = .inl (cI, 12, .inl f422)) (h423 : co 423 = .inl (cI, 12, .inl f423)) (h424 : co 424 = .inl (cI, 2400, .inl f424)) (h425 : co 425 = .inl (cI, 2400, .inl f425)) (h426 : co 426 = .inl (cI, 200, .inl f426)) : co = wF cI cJ co f401 f402 f403 f404 f417 f418 f419 f420 f421 f422 f423 f424 f425 f426 := by
  funext i
  by_cases k401 : i = 401
  · subst k401; rw [wF_401]; exact h401
  by_cases k402 : i = 402
  · subst k402; rw [wF_402]; exact h402
  by_cases k403 : i = 403
  · subst k403; rw [wF_403]; exact h403
  by_cases k404 : i = 404
  · subst k404; rw [wF_404]; exact h404
  by_cases k417 : i = 417
  · subst k417; rw [wF_417]; exact h417
  by_cases k418 : i = 418
  · subst k418; rw [wF_418]; exact h418
  by_cases k419 : i = 419
  · subst k419; rw [wF_419]; exact h419
  by_cases k420 : i = 420
  · subst k420; rw [wF_420]; exact h420
  by_cases k421 : i = 421
  · subst k421; rw [wF_421]; exact h421
  by_cases k422 : i = 422
  · subst k422; rw [wF_422]; exact h422
  by_cases k423 : i = 423
  · subst k423; rw [wF_423]; exact h423
  by_cases k424 : i = 424
  · subst k424; rw [wF_424]; exact h424
  by_cases k425 : i = 425
  · subst k425; rw [wF_425]; exact h425
  by_cases k426 : i = 426
  · subst k426; rw [wF_426]; exact h426
  exact (wF_o ⟨k401, k402, k403, k404, k417, k418, k419, k420, k421, k422, k423, k424, k425, k426⟩).symm
theorem wF_tw {cI cJ : ClassId} {co : Nat → va_E} {f401 : Nat → Int32} {f402 : Nat → Int32} {f403 : Nat → Int32} {f404 : Nat → Int32} {f417 : Nat → Int32} {f418 : Nat → Int32} {f419 : Nat → Int64} {f420 : Nat → Int32} {f421 : Nat → Int32} {f422 : Nat → Int32} {f423 : Nat → Int32} {f424 : Nat → Int32} {f425 : Nat → Int32} {f426 : Nat → Int32} {g401 : Nat → Int32} {g402 : Nat → Int32} {g403 : Nat → Int32} {g404 : Nat → Int32} {g417 : Nat → Int32} {g418 : Nat → Int32} {g419 : Nat → Int64} {g420 : Nat → Int32} {g421 : Nat → Int32} {g422 : Nat → Int32} {g423 : Nat → Int32} {g424 : Nat → Int32} {g425 : Nat → Int32} {g426 : Nat → Int32} : wF cI cJ (wF cI cJ co f401 f402 f403 f404 f417 f418 f419 f420 f421 f422 f423 f424 f425 f426) g401 g402 g403 g404 g417 g418 g419 g420 g421 g422 g423 g424 g425 g426 = wF cI cJ co g401 g402 g403 g404 g417 g418 g419 g420 g421 g422 g423 g424 g425 g426 := by
  funext i
  by_cases k401 : i = 401
  · subst k401; rw [wF_401, wF_401]
  by_cases k402 : i = 402
  · subst k402; rw [wF_402, wF_402]
  by_cases k403 : i = 403
  · subst k403; rw [wF_403, wF_403]
  by_cases k404 : i = 404
  · subst k404; rw [wF_404, wF_404]
  by_cases k417 : i = 417
  · subst k417; rw [wF_417, wF_417]
  by_cases k418 : i = 418
  · subst k418; rw [wF_418, wF_418]
  by_cases k419 : i = 419
  · subst k419; rw [wF_419, wF_419]
  by_cases k420 : i = 420
  · subst k420; rw [wF_420, wF_420]
  by_cases k421 : i = 421
  · subst k421; rw [wF_421, wF_421]
  by_cases k422 : i = 422
  · subst k422; rw [wF_422, wF_422]
  by_cases k423 : i = 423
  · subst k423; rw [wF_423, wF_423]
  by_cases k424 : i = 424
  · subst k424; rw [wF_424, wF_424]
  by_cases k425 : i = 425
  · subst k425; rw [wF_425, wF_425]
  by_cases k426 : i = 426
  · subst k426; rw [wF_426, wF_426]
  rw [wF_o ⟨k401, k402, k403, k404, k417, k418, k419, k420, k421, k422, k423, k424, k425, k426⟩, wF_o ⟨k401, k402, k403, k404, k417, k418, k419, k420, k421, k422, k423, k424, k425, k426⟩, wF_o ⟨k401, k402, k403, k404, k417, k418, k419, k420, k421, k422, k423, k424, k425, k426⟩]
set_option maxHeartbeats 4000000 in
set_option maxRecDepth 100000 in
/-- fit -/
theorem c_M_fit (l : Launch) {D : va_G} {cI cJ cG : ClassId} {ad : Nat → Nat} {co : Nat → va_E} {dl : List Nat} {a rw sh pg ce mg kn cs sm : Nat} (hdl : ∀ i, 400 ≤ i → i < 427 → i ∈ dl) (h400 : co 400 = mO ad a rw sh pg ce mg kn cs sm) {fm : Nat → Int32} {fs : Nat → Int32} {om : Nat → Int32} {os : Nat → Int32} {cls : Nat → Int32} {shp : Nat → Int32} {tr : Nat → Int32} {ln : Nat → Int32} {nx : Nat → Int32} {su : Nat → Int64} {so : Nat → Int32} {lg : Nat → Int32} {sc : Nat → Int32} {lc : Nat → Int32} {f0 : Nat → Int32} {g0 : Nat → Int32} {fd : Nat → Int32} (h401 : co 401 = .inl (cI, 144, .inl fm)) (h402 : co 402 = .inl (cI, 120, .inl fs)) (h403 : co 403 = .inl (cI, 144, .inl om)) (h404 : co 404 = .inl (cI, 120, .inl os)) (h406 : co 406 = .inl (cI, 200, .inl cls)) (h408 : co 408 = .inl (cI, 200, .inl shp)) (h409 : co 409 = .inl (cI, 200, .inl tr)) (h417 : co 417 = .inl (cI, 200, .inl ln)) (h418 : co 418 = .inl (cI, 200, .inl nx)) (h419 : co 419 = .inl (cJ, 21, .inr (.inl su))) (h420 : co 420 = .inl (cI, 2400, .inl so)) (h421 : co 421 = .inl (cI, 2400, .inl lg)) (h422 : co 422 = .inl (cI, 12, .inl sc)) (h423 : co 423 = .inl (cI, 12, .inl lc)) (h424 : co 424 = .inl (cI, 2400, .inl f0)) (h425 : co 425 = .inl (cI, 2400, .inl g0)) (h426 : co 426 = .inl (cI, 200, .inl fd)) {cl : Nat → Nat} {mv sp : Nat → Nat → Nat} (x : Int32) (ha : a ≤ 12) (hn2 : rw ≤ 200) (hok : 0 < rw → okN a (alw tr shp (-1)) cl mv sp rw) (hcl : ∀ k, k < rw → cls k = nI (cl k) ∧ cl k < 10) (hmv : ∀ i j, i < a → j < a → fm (12 * i + j) = nI (mv i j)) (hsp : ∀ i c, i < a → c < 10 → fs (10 * i + c) = nI (sp i c)) (hsh : ∀ k, k < rw → shp k ≠ -1) : gMi l y_M_fit (Cond.code y_M_fit b_M_fit 4 (some .int) :: wA) ({ frames := 3, cells := 0, slots := 0, locals := 76 }) D gCl (gTy cI cJ cG) gNl [.ref (ad 400), .int x] ad co dl (fun r co' => (refF x rw ∧ r = -1 ∧ co' = co) ∨ (¬ refF x rw ∧ ∃ J, J = (fitN (fkp a (alw tr shp (-1)) cl rw mv sp) x.toNatClampNeg 0) ∧ r = nI J ∧ ∃ g401 g402 g403 g404 g420 g421 g422 g423 g424 g425 g426 : Nat → Int32, co' = va_up (wF cI cJ co g401 g402 g403 g404 (fun i => if i < rw then nI (bln a (alw tr shp (-1)) cl (fitQ a (alw tr shp (-1)) cl rw mv sp J).1 (fitQ a (alw tr shp (-1)) cl rw mv sp J).2 rw i) else ln i) (fun i => if i < rw then nxt a (alw tr shp (-1)) cl (fitQ a (alw tr shp (-1)) cl rw mv sp J).1 (fitQ a (alw tr shp (-1)) cl rw mv sp J).2 rw tr i else nx i) (fun i => if i ≤ J then (nI (fcs a (alw tr shp (-1)) cl rw mv sp i)).toInt64 else su i) g420 g421 g422 g423 g424 g425 g426) 400 (mO ad a rw sh pg ce mg rw (fcs a (alw tr shp (-1)) cl rw mv sp J) (J + 1)) ∧ (∀ i j, i < a → j < a → g401 (12 * i + j) = nI ((fitQ a (alw tr shp (-1)) cl rw mv sp J).1 i j)) ∧ ∀ i c, i < a → c < 10 → g402 (10 * i + c) = nI ((fitQ a (alw tr shp (-1)) cl rw mv sp J).2 i c))) := by
  refine gMi_of (cc := b_M_fit) (maxL := 4) (ret := some .int) (by decide) rfl (Nat.le_of_ble_eq_true rfl) ?_
  intro pp ee s mm below meth cd ls hC hW hS hl
  obtain ⟨hx, hb, hr, hts0, hown, hlocks, hml, hK, hN⟩ := hC
  have hts : ∀ w ∈ wA, w.before _ s = true := fun w h => hts0 w (List.mem_cons_of_mem _ h)
  have hA : ∀ q, s.heap.size ≤ q → gA ad co dl s.heap.size q := fun q h => Or.inr h
  have hl : lv_has ls 4 [(0, .ref (ad 400)), (1, .int x)] := hl
  have hown : s.vm.findClass R_M = some mm.cls := hown
  refine lv_iload_n hx hb d_M_fit_0 rfl (lv_at hl 1 rfl) ?_
  refine lv_iconst (v := nI 1) hx hb d_M_fit_1 (by decide) ?_
  refine lv_icmp_lt (tgt := 18) hx hb d_M_fit_2 (by decide) (fun h1 => ?_) (fun h1 => ?_)
  · refine lv_iconst (v := (-1)) hx hb d_M_fit_18 (by decide) ?_
    exact g_iret hx hb hr hlocks hW hS (Or.inl ⟨Or.inl h1, rfl, rfl⟩) d_M_fit_19
  · obtain ⟨R, hR1, hR2, rfl⟩ := fit_ge1 h1
    refine lv_iload_n hx hb d_M_fit_5 rfl (lv_at hl 1 rfl) ?_
    refine lv_bipush (v := nI 20) hx hb d_M_fit_6 (by decide) ?_
    refine n_icmp_gt (tgt := 18) hx hb (by omega) (by omega) d_M_fit_8 (by decide) (fun h2 => ?_) (fun h2 => ?_)
    · refine lv_iconst (v := (-1)) hx hb d_M_fit_18 (by decide) ?_
      exact g_iret hx hb hr hlocks hW hS (Or.inl ⟨Or.inr (Or.inl (nI_lt h2 hR2)), rfl, rfl⟩) d_M_fit_19
    · refine lv_aload_n hx hb d_M_fit_11 rfl (lv_at hl 0 rfl) ?_
      refine g_get (C := R_M) (T := F_M) (N := 35) hx hb hts i_M hown hK hW (i := 400) (hdl 400 (by decide) (by decide)) h400 rfl 5 (by decide) (hts _ q_493) (fun _ h9 => h9) rfl d_M_fit_12 ?_
      refine n_if_ne (tgt := 20) hx hb (by omega) d_M_fit_15 (by decide) (fun h3 => ?_) (fun h3 => ?_)
      · have hnr : ¬ refF (nI R) rw := by
          rintro (q | q | q)
          · exact h1 q
          · exact absurd ((nI_ltI (by omega) hR2).mp q) (by omega)
          · omega
        have hok := hok h3
        have hq := fitQ_ok hok
        have hbc : ∀ j, fcs a (alw tr shp (-1)) cl rw mv sp j ≤ 4000000 := fun j => bcs_le (hq j)
        refine lv_aload_n hx hb d_M_fit_20 rfl (lv_at hl 0 rfl) ?_
        refine g_cVv (As := []) (rest := []) ⟨hx, hb, hml, hown, hts⟩ (c_M_keep l hdl h400 h401 h402 h406 h408 h409 h417 h418 h420 h421 h422 h423 h424 h425 h426 ha hok hcl hmv hsp hsh) (gcwV 0 hts q_650 q_647 q_649 qs_10 q_9 (by decide +kernel) ⟨(Nat.le_of_ble_eq_true rfl), (Nat.le_of_ble_eq_true rfl)⟩) gNl_ok hN hK hW hS hA (hdl 400 (by decide) (by decide)) h400 rfl rfl hl.1 rfl (Nat.le_of_ble_eq_true rfl) d_M_fit_21 ⟨Nat.zero_le _, Nat.zero_le _⟩ (fun co9 H locs hp9 hW hS => ?_)
        obtain ⟨e420, e421, e422, e423, e424, e425, e426, hco9⟩ := hp9
        rw [hco9] at hW
        obtain ⟨c1, hc1, hW⟩ := gW_nm hW
        have k400 := (congrFun hc1 400).trans (va_up_self _ _ _)
        have k401 := (congrFun hc1 401).trans ((va_up_ne _ _ (by decide)).trans ((wX_o (by decide)).trans h401))
        have k402 := (congrFun hc1 402).trans ((va_up_ne _ _ (by decide)).trans ((wX_o (by decide)).trans h402))
        have k403 := (congrFun hc1 403).trans ((va_up_ne _ _ (by decide)).trans ((wX_o (by decide)).trans h403))
        have k404 := (congrFun hc1 404).trans ((va_up_ne _ _ (by decide)).trans ((wX_o (by decide)).trans h404))
        have k406 := (congrFun hc1 406).trans ((va_up_ne _ _ (by decide)).trans ((wX_o (by decide)).trans h406))
        have k408 := (congrFun hc1 408).trans ((va_up_ne _ _ (by decide)).trans ((wX_o (by decide)).trans h408))
        have k409 := (congrFun hc1 409).trans ((va_up_ne _ _ (by decide)).trans ((wX_o (by decide)).trans h409))
        have k417 := (congrFun hc1 417).trans ((va_up_ne _ _ (by decide)).trans wX_417)
        have k418 := (congrFun hc1 418).trans ((va_up_ne _ _ (by decide)).trans wX_418)
        have k419 := (congrFun hc1 419).trans ((va_up_ne _ _ (by decide)).trans ((wX_o (by decide)).trans h419))
        have k420 := (congrFun hc1 420).trans ((va_up_ne _ _ (by decide)).trans wX_420)
        have k421 := (congrFun hc1 421).trans ((va_up_ne _ _ (by decide)).trans wX_421)
        have k422 := (congrFun hc1 422).trans ((va_up_ne _ _ (by decide)).trans wX_422)
        have k423 := (congrFun hc1 423).trans ((va_up_ne _ _ (by decide)).trans wX_423)
        have k424 := (congrFun hc1 424).trans ((va_up_ne _ _ (by decide)).trans wX_424)
        have k425 := (congrFun hc1 425).trans ((va_up_ne _ _ (by decide)).trans wX_425)
        have k426 := (congrFun hc1 426).trans ((va_up_ne _ _ (by decide)).trans wX_426)
        have k400 : c1 400 = mO ad a rw sh pg ce mg rw (fcs a (alw tr shp (-1)) cl rw mv sp 0) (sm) := k400
        have k417 : c1 417 = .inl (cI, 200, .inl (fun i => if i < rw then nI (bln a (alw tr shp (-1)) cl (fitQ a (alw tr shp (-1)) cl rw mv sp 0).1 (fitQ a (alw tr shp (-1)) cl rw mv sp 0).2 rw i) else ln i)) := k417
        have k418 : c1 418 = .inl (cI, 200, .inl (fun i => if i < rw then nxt a (alw tr shp (-1)) cl (fitQ a (alw tr shp (-1)) cl rw mv sp 0).1 (fitQ a (alw tr shp (-1)) cl rw mv sp 0).2 rw tr i else nx i)) := k418
        refine lv_aload_n hx hb d_M_fit_24 rfl (lv_at hl 0 rfl) ?_
        refine lv_iconst (v := nI 1) hx hb d_M_fit_25 (by decide) ?_
        refine g_put (ty := .int) (v := .int (nI 1)) (C := R_M) (T := F_M) (N := 35) hx hb hts i_M fy_M fy_M_ok fn_M hown hK hW hS (i := 400) (hdl 400 (by decide) (by decide)) k400 rfl 26 (by decide) (hts _ q_514) (fun _ h9 => h9) rfl (by decide +kernel) rfl rfl (Nat.le_of_ble_eq_true rfl) d_M_fit_26 (fun H locs hW hS => ?_)
        refine lv_aload_n hx hb d_M_fit_29 rfl (lv_at hl 0 rfl) ?_
        refine g_get (C := R_M) (T := F_M) (N := 35) hx hb hts i_M hown hK hW (i := 400) (hdl 400 (by decide) (by decide)) (va_up_self _ _ _) rfl 27 (by decide) (hts _ q_515) (fun _ h9 => h9) rfl d_M_fit_30 ?_
        refine lv_iconst (v := nI 0) hx hb d_M_fit_33 (by decide) ?_
        refine lv_aload_n hx hb d_M_fit_34 rfl (lv_at hl 0 rfl) ?_
        refine g_get (C := R_M) (T := F_M) (N := 35) hx hb hts i_M hown hK hW (i := 400) (hdl 400 (by decide) (by decide)) (va_up_self _ _ _) rfl 24 (by decide) (hts _ q_512) (fun _ h9 => h9) rfl d_M_fit_35 ?_
        refine lv_i2l (v := (nI (fcs a (alw tr shp (-1)) cl rw mv sp 0)).toInt64) hx hb d_M_fit_38 rfl ?_
        refine n_last (x := (nI (fcs a (alw tr shp (-1)) cl rw mv sp 0)).toInt64) hx hb hK hW hS 1 (q := 419) (hdl 419 (by decide) (by decide)) ((va_up_ne _ _ (by decide)).trans k419) rfl (j := 0) (by omega) (by omega) d_M_fit_39 (fun H locs hW hS => ?_)
        refine lv_iconst (v := nI 1) hx hb d_M_fit_40 (by decide) ?_
        refine lv_istore_n (lv' := [(2, .int (nI 1)), (0, .ref (ad 400)), (1, .int (nI R))]) hx hb d_M_fit_41 rfl hl (by decide) rfl (fun ls hl => ?_)
        refine lv_iconst (v := nI 0) hx hb d_M_fit_42 (by decide) ?_
        refine lv_istore_n (lv' := [(3, .int (nI 0)), (2, .int (nI 1)), (0, .ref (ad 400)), (1, .int (nI R))]) hx hb d_M_fit_43 rfl hl (by decide) rfl (fun ls hl => ?_)
        have hsu0 : vp_updL su 0 (nI (fcs a (alw tr shp (-1)) cl rw mv sp 0)).toInt64 = (fun i => if i ≤ 0 then (nI (fcs a (alw tr shp (-1)) cl rw mv sp i)).toInt64 else su i) := by
          funext i
          by_cases hi : i = 0
          · subst hi; rw [pk_uLs, if_pos (Nat.le_refl 0)]
          · rw [pk_uLn hi, if_neg (by omega)]
        have s1 : co 401 = .inl (cI, 144, .inl fm) := h401
        have s2 : co 402 = .inl (cI, 120, .inl fs) := h402
        have s3 : co 403 = .inl (cI, 144, .inl om) := h403
        have s4 : co 404 = .inl (cI, 120, .inl os) := h404
        have hfin : va_up (va_up c1 400 (mO ad a rw sh pg ce mg rw (fcs a (alw tr shp (-1)) cl rw mv sp 0) (1))) 419 (.inl (cJ, 21, .inr (.inl (vp_updL su 0 (nI (fcs a (alw tr shp (-1)) cl rw mv sp 0)).toInt64)))) = va_up (wF cI cJ co fm fs om os (fun i => if i < rw then nI (bln a (alw tr shp (-1)) cl (fitQ a (alw tr shp (-1)) cl rw mv sp 0).1 (fitQ a (alw tr shp (-1)) cl rw mv sp 0).2 rw i) else ln i) (fun i => if i < rw then nxt a (alw tr shp (-1)) cl (fitQ a (alw tr shp (-1)) cl rw mv sp 0).1 (fitQ a (alw tr shp (-1)) cl rw mv sp 0).2 rw tr i else nx i) (fun i => if i ≤ 0 then (nI (fcs a (alw tr shp (-1)) cl rw mv sp i)).toInt64 else su i) e420 e421 e422 e423 e424 e425 e426) 400 (mO ad a rw sh pg ce mg rw (fcs a (alw tr shp (-1)) cl rw mv sp 0) (0 + 1)) := by
          rw [hsu0, hc1]
          funext i
          by_cases q400 : i = 400
          · subst q400; simp [wX, wF, va_up, s1, s2, s3, s4]
            try rfl
          by_cases q401 : i = 401
          · subst q401; simp [wX, wF, va_up, s1, s2, s3, s4]
            try rfl
          by_cases q402 : i = 402
          · subst q402; simp [wX, wF, va_up, s1, s2, s3, s4]
            try rfl
          by_cases q403 : i = 403
          · subst q403; simp [wX, wF, va_up, s1, s2, s3, s4]
            try rfl
          by_cases q404 : i = 404
          · subst q404; simp [wX, wF, va_up, s1, s2, s3, s4]
            try rfl
          by_cases q417 : i = 417
          · subst q417; simp [wX, wF, va_up, s1, s2, s3, s4]
            try rfl
          by_cases q418 : i = 418
          · subst q418; simp [wX, wF, va_up, s1, s2, s3, s4]
            try rfl
          by_cases q419 : i = 419
          · subst q419; simp [wX, wF, va_up, s1, s2, s3, s4]
            try rfl
          by_cases q420 : i = 420
          · subst q420; simp [wX, wF, va_up, s1, s2, s3, s4]
            try rfl
          by_cases q421 : i = 421
          · subst q421; simp [wX, wF, va_up, s1, s2, s3, s4]
            try rfl
          by_cases q422 : i = 422
          · subst q422; simp [wX, wF, va_up, s1, s2, s3, s4]
            try rfl
          by_cases q423 : i = 423
          · subst q423; simp [wX, wF, va_up, s1, s2, s3, s4]
            try rfl
          by_cases q424 : i = 424
          · subst q424; simp [wX, wF, va_up, s1, s2, s3, s4]
            try rfl
          by_cases q425 : i = 425
          · subst q425; simp [wX, wF, va_up, s1, s2, s3, s4]
            try rfl
          by_cases q426 : i = 426
          · subst q426; simp [wX, wF, va_up, s1, s2, s3, s4]
            try rfl
          simp [wX, wF, va_up, q400, q401, q402, q403, q404, q417, q418, q419, q420, q421, q422, q423, q424, q425, q426]
        have hW := gW_eq hfin hW
        have hl := hl
        rw [show nI 1 = bI true by decide] at hl
        suffices hloop : ∀ (d n9 j : Nat) (mo9 : Bool) (g401 g402 g403 g404 g420 g421 g422 g423 g424 g425 g426 : Nat → Int32) (H : Heap) (locs : List Loc) (ls : Array Slot), (n9 ≤ R) → (R + 1 ≤ n9 + d) → (j ≤ n9) → ((mo9 = true ∧ j = n9 ∧ fitN (fkp a (alw tr shp (-1)) cl rw mv sp) R 0 = fitN (fkp a (alw tr shp (-1)) cl rw mv sp) (R - n9) j) ∨ (mo9 = false ∧ fitN (fkp a (alw tr shp (-1)) cl rw mv sp) R 0 = j)) → (∀ i k, i < a → k < a → g401 (12 * i + k) = nI ((fitQ a (alw tr shp (-1)) cl rw mv sp j).1 i k)) → (∀ i c, i < a → c < 10 → g402 (10 * i + c) = nI ((fitQ a (alw tr shp (-1)) cl rw mv sp j).2 i c)) → gW D gCl (gA ad co dl s.heap.size) ad (va_up (wF cI cJ co g401 g402 g403 g404 (fun i => if i < rw then nI (bln a (alw tr shp (-1)) cl (fitQ a (alw tr shp (-1)) cl rw mv sp j).1 (fitQ a (alw tr shp (-1)) cl rw mv sp j).2 rw i) else ln i) (fun i => if i < rw then nxt a (alw tr shp (-1)) cl (fitQ a (alw tr shp (-1)) cl rw mv sp j).1 (fitQ a (alw tr shp (-1)) cl rw mv sp j).2 rw tr i else nx i) (fun i => if i ≤ j then (nI (fcs a (alw tr shp (-1)) cl rw mv sp i)).toInt64 else su i) g420 g421 g422 g423 g424 g425 g426) 400 (mO ad a rw sh pg ce mg rw (fcs a (alw tr shp (-1)) cl rw mv sp j) (j + 1))) dl H → va_S (gA ad co dl s.heap.size) s.heap H locs → lv_has ls 4 [(0, .ref (ad 400)), (1, .int (nI R)), (2, .int (bI mo9)), (3, .int (nI n9))] → W pp l ee _ s mm _ below meth cd H locs 0 0 _ (F0 mm 44 ls []) by
          exact hloop (R + 1) 0 0 true fm fs om os e420 e421 e422 e423 e424 e425 e426 _ _ ls (by omega) (by omega) (Nat.le_refl 0) (Or.inl ⟨rfl, rfl, rfl⟩) hmv hsp hW hS (lv_sub hl [2, 3, 1, 0] rfl)
        clear hW hS hl
        intro d
        induction d with
        | zero => intro n9 j mo9 g401 g402 g403 g404 g420 g421 g422 g423 g424 g425 g426 H locs ls hn9 hd hj9 hjj hg1 hg2; omega
        | succ d ih1 =>
          intro n9 j mo9 g401 g402 g403 g404 g420 g421 g422 g423 g424 g425 g426 H locs ls hn9 hd hj9 hjj hg1 hg2 hW hS hl
          refine lv_iload_n hx hb d_M_fit_44 rfl (lv_at hl 3 rfl) ?_
          refine lv_iload_n hx hb d_M_fit_45 rfl (lv_at hl 1 rfl) ?_
          refine n_icmp_ge (tgt := 126) hx hb (by omega) (by omega) d_M_fit_46 (by decide) (fun h4 => ?_) (fun h4 => ?_)
          · refine lv_aload_n hx hb d_M_fit_126 rfl (lv_at hl 0 rfl) ?_
            refine g_get (C := R_M) (T := F_M) (N := 35) hx hb hts i_M hown hK hW (i := 400) (hdl 400 (by decide) (by decide)) (va_up_self _ _ _) rfl 26 (by decide) (hts _ q_514) (fun _ h9 => h9) rfl d_M_fit_127 ?_
            refine lv_iconst (v := nI 1) hx hb d_M_fit_130 (by decide) ?_
            refine n_sub hx hb (by omega) d_M_fit_131 ?_
            have hJ : fitN (fkp a (alw tr shp (-1)) cl rw mv sp) R 0 = j := by
              rcases hjj with ⟨z1, z2, z3⟩ | ⟨z1, z2⟩
              · rw [z3, show R - n9 = 0 by omega]; rfl
              · exact z2
            refine g_iret hx hb hr hlocks hW hS (Or.inr ⟨hnr, j, ?_, ?_, g401, g402, g403, g404, g420, g421, g422, g423, g424, g425, g426, rfl, hg1, hg2⟩) d_M_fit_132
            · rw [nI_clamp hR2, hJ]
            · congr 1
          · refine lv_iload_n hx hb d_M_fit_49 rfl (lv_at hl 2 rfl) ?_
            refine n_ifz_eq (tgt := 126) hx hb d_M_fit_50 (by decide) (fun h5 => ?_) (fun h5 => ?_)
            · refine lv_aload_n hx hb d_M_fit_126 rfl (lv_at hl 0 rfl) ?_
              refine g_get (C := R_M) (T := F_M) (N := 35) hx hb hts i_M hown hK hW (i := 400) (hdl 400 (by decide) (by decide)) (va_up_self _ _ _) rfl 26 (by decide) (hts _ q_514) (fun _ h9 => h9) rfl d_M_fit_127 ?_
              refine lv_iconst (v := nI 1) hx hb d_M_fit_130 (by decide) ?_
              refine n_sub hx hb (by omega) d_M_fit_131 ?_
              have hJ : fitN (fkp a (alw tr shp (-1)) cl rw mv sp) R 0 = j := by
                rcases hjj with ⟨z1, z2, z3⟩ | ⟨z1, z2⟩
                · rw [z1] at h5; cases h5
                · exact z2
              refine g_iret hx hb hr hlocks hW hS (Or.inr ⟨hnr, j, ?_, ?_, g401, g402, g403, g404, g420, g421, g422, g423, g424, g425, g426, rfl, hg1, hg2⟩) d_M_fit_132
              · rw [nI_clamp hR2, hJ]
              · congr 1
            · obtain ⟨z2, z3⟩ : j = n9 ∧ fitN (fkp a (alw tr shp (-1)) cl rw mv sp) R 0 = fitN (fkp a (alw tr shp (-1)) cl rw mv sp) (R - n9) j := by
                rcases hjj with ⟨z1, z2, z3⟩ | ⟨z1, z2⟩
                · exact ⟨z2, z3⟩
                · rw [z1] at h5; cases h5
              subst z2
              clear hjj hj9
              rw [show R - j = (R - (j + 1)) + 1 by omega] at z3
              have hXa := bln_ok (hq j)
              have hbj := hbc j
              have hbj1 := hbc (j + 1)
              obtain ⟨c1, hc1, hW⟩ := gW_nm hW
              have k400 := (congrFun hc1 400).trans (va_up_self _ _ _)
              have k401 := (congrFun hc1 401).trans ((va_up_ne _ _ (by decide)).trans wF_401)
              have k402 := (congrFun hc1 402).trans ((va_up_ne _ _ (by decide)).trans wF_402)
              have k403 := (congrFun hc1 403).trans ((va_up_ne _ _ (by decide)).trans wF_403)
              have k404 := (congrFun hc1 404).trans ((va_up_ne _ _ (by decide)).trans wF_404)
              have k406 := (congrFun hc1 406).trans ((va_up_ne _ _ (by decide)).trans ((wF_o (by decide)).trans h406))
              have k408 := (congrFun hc1 408).trans ((va_up_ne _ _ (by decide)).trans ((wF_o (by decide)).trans h408))
              have k409 := (congrFun hc1 409).trans ((va_up_ne _ _ (by decide)).trans ((wF_o (by decide)).trans h409))
              have k417 := (congrFun hc1 417).trans ((va_up_ne _ _ (by decide)).trans wF_417)
              have k418 := (congrFun hc1 418).trans ((va_up_ne _ _ (by decide)).trans wF_418)
              have k419 := (congrFun hc1 419).trans ((va_up_ne _ _ (by decide)).trans wF_419)
              have k420 := (congrFun hc1 420).trans ((va_up_ne _ _ (by decide)).trans wF_420)
              have k421 := (congrFun hc1 421).trans ((va_up_ne _ _ (by decide)).trans wF_421)
              have k422 := (congrFun hc1 422).trans ((va_up_ne _ _ (by decide)).trans wF_422)
              have k423 := (congrFun hc1 423).trans ((va_up_ne _ _ (by decide)).trans wF_423)
              have k424 := (congrFun hc1 424).trans ((va_up_ne _ _ (by decide)).trans wF_424)
              have k425 := (congrFun hc1 425).trans ((va_up_ne _ _ (by decide)).trans wF_425)
              have k426 := (congrFun hc1 426).trans ((va_up_ne _ _ (by decide)).trans wF_426)
              have k400 : c1 400 = mO ad a rw sh pg ce mg rw (fcs a (alw tr shp (-1)) cl rw mv sp j) (j + 1) := k400
              refine lv_aload_n hx hb d_M_fit_53 rfl (lv_at hl 0 rfl) ?_
              refine lv_iconst (v := nI 0) hx hb d_M_fit_54 (by decide) ?_
              refine n_topi (show nI 0 = bI false from by decide) ?_
              refine g_cVv (As := [.int (bI false)]) (rest := []) ⟨hx, hb, hml, hown, hts⟩ (c_M_save l hdl k400 k401 k402 k403 k404 false) (gcwV 1 hts q_675 q_672 q_674 qs_15 q_9 (by decide +kernel) ⟨(Nat.le_of_ble_eq_true rfl), (Nat.le_of_ble_eq_true rfl)⟩) gNl_ok hN hK hW hS hA (hdl 400 (by decide) (by decide)) k400 rfl rfl hl.1 rfl (Nat.le_of_ble_eq_true rfl) d_M_fit_55 ⟨Nat.zero_le _, Nat.zero_le _⟩ (fun co9 H locs hp8 hW hS => ?_)
              obtain ⟨a401, a402, a403, a404, hco8, hs1, hs2⟩ := hp8
              rw [hco8] at hW
              have ha1 : ∀ i k, i < a → k < a → a401 (12 * i + k) = nI ((fitQ a (alw tr shp (-1)) cl rw mv sp j).1 i k) := fun i k hi hk => by rw [(hs1 (12 * i + k) (by omega)).1]; exact hg1 i k hi hk
              have ha2 : ∀ i c, i < a → c < 10 → a402 (10 * i + c) = nI ((fitQ a (alw tr shp (-1)) cl rw mv sp j).2 i c) := fun i c hi hc => by rw [(hs2 (10 * i + c) (by omega)).1]; exact hg2 i c hi hc
              obtain ⟨c2, hc2, hW⟩ := gW_nm hW
              have m400 := (congrFun hc2 400).trans ((wV_o (by decide)).trans k400)
              have m401 := (congrFun hc2 401).trans wV_401
              have m402 := (congrFun hc2 402).trans wV_402
              have m403 := (congrFun hc2 403).trans wV_403
              have m404 := (congrFun hc2 404).trans wV_404
              have m406 := (congrFun hc2 406).trans ((wV_o (by decide)).trans k406)
              have m408 := (congrFun hc2 408).trans ((wV_o (by decide)).trans k408)
              have m409 := (congrFun hc2 409).trans ((wV_o (by decide)).trans k409)
              have m417 := (congrFun hc2 417).trans ((wV_o (by decide)).trans k417)
              have m418 := (congrFun hc2 418).trans ((wV_o (by decide)).trans k418)
              have m419 := (congrFun hc2 419).trans ((wV_o (by decide)).trans k419)
              have m420 := (congrFun hc2 420).trans ((wV_o (by decide)).trans k420)
              have m421 := (congrFun hc2 421).trans ((wV_o (by decide)).trans k421)
              have m422 := (congrFun hc2 422).trans ((wV_o (by decide)).trans k422)
              have m423 := (congrFun hc2 423).trans ((wV_o (by decide)).trans k423)
              have m424 := (congrFun hc2 424).trans ((wV_o (by decide)).trans k424)
              have m425 := (congrFun hc2 425).trans ((wV_o (by decide)).trans k425)
              have m426 := (congrFun hc2 426).trans ((wV_o (by decide)).trans k426)
              refine lv_aload_n hx hb d_M_fit_58 rfl (lv_at hl 0 rfl) ?_
              refine g_cVv (As := []) (rest := []) ⟨hx, hb, hml, hown, hts⟩ (c_M_count l hdl m400 m401 m402 m406 m417 (X := bln a (alw tr shp (-1)) cl (fitQ a (alw tr shp (-1)) cl rw mv sp j).1 (fitQ a (alw tr shp (-1)) cl rw mv sp j).2 rw) ha h3 hn2 hcl (fun k hk => ⟨if_pos hk, (hXa k hk).1⟩) ha1 ha2) (gcwV 0 hts q_679 q_676 q_678 qs_16 q_9 (by decide +kernel) ⟨(Nat.le_of_ble_eq_true rfl), (Nat.le_of_ble_eq_true rfl)⟩) gNl_ok hN hK hW hS hA (hdl 400 (by decide) (by decide)) m400 rfl rfl hl.1 rfl (Nat.le_of_ble_eq_true rfl) d_M_fit_59 ⟨Nat.zero_le _, Nat.zero_le _⟩ (fun co9 H locs hp7 hW hS => ?_)
              obtain ⟨b401, b402, hco7, hb1, hb2⟩ := hp7
              rw [hco7] at hW
              have hb1 : ∀ i k, i < a → k < a → b401 (12 * i + k) = nI ((fitQ a (alw tr shp (-1)) cl rw mv sp (j + 1)).1 i k) := hb1
              have hb2 : ∀ i c, i < a → c < 10 → b402 (10 * i + c) = nI ((fitQ a (alw tr shp (-1)) cl rw mv sp (j + 1)).2 i c) := hb2
              obtain ⟨c3, hc3, hW⟩ := gW_nm hW
              have n400 := (congrFun hc3 400).trans ((wC_o (by decide)).trans m400)
              have n401 := (congrFun hc3 401).trans wC_401
              have n402 := (congrFun hc3 402).trans wC_402
              have n403 := (congrFun hc3 403).trans ((wC_o (by decide)).trans m403)
              have n404 := (congrFun hc3 404).trans ((wC_o (by decide)).trans m404)
              have n406 := (congrFun hc3 406).trans ((wC_o (by decide)).trans m406)
              have n408 := (congrFun hc3 408).trans ((wC_o (by decide)).trans m408)
              have n409 := (congrFun hc3 409).trans ((wC_o (by decide)).trans m409)
              have n417 := (congrFun hc3 417).trans ((wC_o (by decide)).trans m417)
              have n418 := (congrFun hc3 418).trans ((wC_o (by decide)).trans m418)
              have n419 := (congrFun hc3 419).trans ((wC_o (by decide)).trans m419)
              have n420 := (congrFun hc3 420).trans ((wC_o (by decide)).trans m420)
              have n421 := (congrFun hc3 421).trans ((wC_o (by decide)).trans m421)
              have n422 := (congrFun hc3 422).trans ((wC_o (by decide)).trans m422)
              have n423 := (congrFun hc3 423).trans ((wC_o (by decide)).trans m423)
              have n424 := (congrFun hc3 424).trans ((wC_o (by decide)).trans m424)
              have n425 := (congrFun hc3 425).trans ((wC_o (by decide)).trans m425)
              have n426 := (congrFun hc3 426).trans ((wC_o (by decide)).trans m426)
              refine lv_aload_n hx hb d_M_fit_62 rfl (lv_at hl 0 rfl) ?_
              refine lv_iconst (v := (-1)) hx hb d_M_fit_63 (by decide) ?_
              refine g_cVi (As := [.int (-1)]) (rest := []) ⟨hx, hb, hml, hown, hts⟩ (c_M_search l hdl n400 n401 n402 n406 n408 n409 n420 n421 n422 n423 n426 (-1) ha (hq (j + 1)) hcl hb1 hb2 hsh) (gcwV 1 hts q_654 q_651 q_653 qs_11 q_9 (by decide +kernel) ⟨(Nat.le_of_ble_eq_true rfl), (Nat.le_of_ble_eq_true rfl)⟩) gNl_ok hN hK hW hS hA (hdl 400 (by decide) (by decide)) n400 rfl rfl hl.1 rfl (Nat.le_of_ble_eq_true rfl) d_M_fit_64 ⟨Nat.zero_le _, Nat.zero_le _⟩ (fun r co9 H locs hp6 hW hS => ?_)
              obtain ⟨d420, d421, d422, d423, d426, hco6, rfl, hfd⟩ := hp6
              rw [hco6] at hW
              rw [show bcs a (alw tr shp (-1)) cl (fitQ a (alw tr shp (-1)) cl rw mv sp (j + 1)).1 (fitQ a (alw tr shp (-1)) cl rw mv sp (j + 1)).2 rw = fcs a (alw tr shp (-1)) cl rw mv sp (j + 1) from rfl]
              obtain ⟨c4, hc4, hW⟩ := gW_nm hW
              have o400 := (congrFun hc4 400).trans ((wS_o (by decide)).trans n400)
              have o401 := (congrFun hc4 401).trans ((wS_o (by decide)).trans n401)
              have o402 := (congrFun hc4 402).trans ((wS_o (by decide)).trans n402)
              have o403 := (congrFun hc4 403).trans ((wS_o (by decide)).trans n403)
              have o404 := (congrFun hc4 404).trans ((wS_o (by decide)).trans n404)
              have o406 := (congrFun hc4 406).trans ((wS_o (by decide)).trans n406)
              have o408 := (congrFun hc4 408).trans ((wS_o (by decide)).trans n408)
              have o409 := (congrFun hc4 409).trans ((wS_o (by decide)).trans n409)
              have o417 := (congrFun hc4 417).trans ((wS_o (by decide)).trans n417)
              have o418 := (congrFun hc4 418).trans ((wS_o (by decide)).trans n418)
              have o419 := (congrFun hc4 419).trans ((wS_o (by decide)).trans n419)
              have o420 := (congrFun hc4 420).trans wS_420
              have o421 := (congrFun hc4 421).trans wS_421
              have o422 := (congrFun hc4 422).trans wS_422
              have o423 := (congrFun hc4 423).trans wS_423
              have o424 := (congrFun hc4 424).trans ((wS_o (by decide)).trans n424)
              have o425 := (congrFun hc4 425).trans ((wS_o (by decide)).trans n425)
              have o426 := (congrFun hc4 426).trans wS_426
              refine lv_aload_n hx hb d_M_fit_67 rfl (lv_at hl 0 rfl) ?_
              refine g_get (C := R_M) (T := F_M) (N := 35) hx hb hts i_M hown hK hW (i := 400) (hdl 400 (by decide) (by decide)) o400 rfl 24 (by decide) (hts _ q_512) (fun _ h9 => h9) rfl d_M_fit_68 ?_
              refine n_icmp_ge (tgt := 78) hx hb (by omega) (by omega) d_M_fit_71 (by decide) (fun h6 => ?_) (fun h6 => ?_)
              · refine lv_iconst (v := nI 0) hx hb d_M_fit_78 (by decide) ?_
                refine n_topi (show nI 0 = bI false from by decide) ?_
                refine lv_istore_n (lv' := [(2, .int (bI false)), (0, .ref (ad 400)), (1, .int (nI R)), (3, .int (nI j))]) hx hb d_M_fit_79 rfl hl (by decide) rfl (fun ls hl => ?_)
                refine lv_iload_n hx hb d_M_fit_80 rfl (lv_at hl 0 rfl) ?_
                refine n_ifz_eq (tgt := 115) hx hb d_M_fit_81 (by decide) (fun h7 => ?_) (fun h7 => ?_)
                · refine lv_aload_n hx hb d_M_fit_115 rfl (lv_at hl 1 rfl) ?_
                  refine lv_iconst (v := nI 1) hx hb d_M_fit_116 (by decide) ?_
                  refine n_topi (show nI 1 = bI true from by decide) ?_
                  refine g_cVv (As := [.int (bI true)]) (rest := []) ⟨hx, hb, hml, hown, hts⟩ (c_M_save l hdl o400 o401 o402 o403 o404 true) (gcwV 1 hts q_675 q_672 q_674 qs_15 q_9 (by decide +kernel) ⟨(Nat.le_of_ble_eq_true rfl), (Nat.le_of_ble_eq_true rfl)⟩) gNl_ok hN hK hW hS hA (hdl 400 (by decide) (by decide)) o400 rfl rfl hl.1 rfl (Nat.le_of_ble_eq_true rfl) d_M_fit_117 ⟨Nat.zero_le _, Nat.zero_le _⟩ (fun co9 H locs hp5 hW hS => ?_)
                  obtain ⟨v401, v402, v403, v404, hco5, hv1, hv2⟩ := hp5
                  rw [hco5] at hW
                  have hfin : wV cI cJ c4 v401 v402 v403 v404 = va_up (wF cI cJ co v401 v402 v403 v404 (fun i => if i < rw then nI (bln a (alw tr shp (-1)) cl (fitQ a (alw tr shp (-1)) cl rw mv sp j).1 (fitQ a (alw tr shp (-1)) cl rw mv sp j).2 rw i) else ln i) (fun i => if i < rw then nxt a (alw tr shp (-1)) cl (fitQ a (alw tr shp (-1)) cl rw mv sp j).1 (fitQ a (alw tr shp (-1)) cl rw mv sp j).2 rw tr i else nx i) (fun i => if i ≤ j then (nI (fcs a (alw tr shp (-1)) cl rw mv sp i)).toInt64 else su i) d420 d421 d422 d423 g424 g425 d426) 400 (mO ad a rw sh pg ce mg rw (fcs a (alw tr shp (-1)) cl rw mv sp j) (j + 1)) := by
                    rw [hc4, hc3, hc2, hc1]
                    funext i
                    by_cases q400 : i = 400
                    · subst q400; simp [wV, wC, wS, wF, va_up]
                    by_cases q401 : i = 401
                    · subst q401; simp [wV, wC, wS, wF, va_up]
                    by_cases q402 : i = 402
                    · subst q402; simp [wV, wC, wS, wF, va_up]
                    by_cases q403 : i = 403
                    · subst q403; simp [wV, wC, wS, wF, va_up]
                    by_cases q404 : i = 404
                    · subst q404; simp [wV, wC, wS, wF, va_up]
                    by_cases q417 : i = 417
                    · subst q417; simp [wV, wC, wS, wF, va_up]
                    by_cases q418 : i = 418
                    · subst q418; simp [wV, wC, wS, wF, va_up]
                    by_cases q419 : i = 419
                    · subst q419; simp [wV, wC, wS, wF, va_up]
                    by_cases q420 : i = 420
                    · subst q420; simp [wV, wC, wS, wF, va_up]
                    by_cases q421 : i = 421
                    · subst q421; simp [wV, wC, wS, wF, va_up]
                    by_cases q422 : i = 422
                    · subst q422; simp [wV, wC, wS, wF, va_up]
                    by_cases q423 : i = 423
                    · subst q423; simp [wV, wC, wS, wF, va_up]
                    by_cases q424 : i = 424
                    · subst q424; simp [wV, wC, wS, wF, va_up]
                    by_cases q425 : i = 425
                    · subst q425; simp [wV, wC, wS, wF, va_up]
                    by_cases q426 : i = 426
                    · subst q426; simp [wV, wC, wS, wF, va_up]
                    simp [wV, wC, wS, wF, va_up, q400, q401, q402, q403, q404, q417, q418, q419, q420, q421, q422, q423, q424, q425, q426]
                  have hW := gW_eq hfin hW
                  refine n_iinc (lv' := [(3, .int (nI (j + 1))), (2, .int (bI false)), (0, .ref (ad 400)), (1, .int (nI R))]) hx hb d_M_fit_120 hl (k := 3) rfl (by decide) rfl (fun ls hl => ?_)
                  refine lv_goto (tgt := 44) hx hb d_M_fit_123 (by decide) ?_
                  refine ih1 (j + 1) j false v401 v402 v403 v404 d420 d421 d422 d423 g424 g425 d426 _ _ ls (by omega) (by omega) (by omega) (Or.inr ⟨rfl, ?_⟩) (fun i k hi hk => ?_) (fun i c hi hc => ?_) hW hS (lv_sub hl [2, 3, 1, 0] rfl)
                  · rw [z3, fitN, if_neg (by simp only [fkp, decide_eq_true_eq]; omega)]
                  · rw [(hv1 (12 * i + k) (by omega)).1]
                    show a403 (12 * i + k) = _
                    rw [(hs1 (12 * i + k) (by omega)).2]; exact hg1 i k hi hk
                  · rw [(hv2 (10 * i + c) (by omega)).1]
                    show a404 (10 * i + c) = _
                    rw [(hs2 (10 * i + c) (by omega)).2]; exact hg2 i c hi hc
                · cases h7
              · refine lv_iconst (v := nI 1) hx hb d_M_fit_74 (by decide) ?_
                refine lv_goto (tgt := 79) hx hb d_M_fit_75 (by decide) ?_
                refine n_topi (show nI 1 = bI true from by decide) ?_
                refine lv_istore_n (lv' := [(2, .int (bI true)), (0, .ref (ad 400)), (1, .int (nI R)), (3, .int (nI j))]) hx hb d_M_fit_79 rfl hl (by decide) rfl (fun ls hl => ?_)
                refine lv_iload_n hx hb d_M_fit_80 rfl (lv_at hl 0 rfl) ?_
                refine n_ifz_eq (tgt := 115) hx hb d_M_fit_81 (by decide) (fun h7 => ?_) (fun h7 => ?_)
                · cases h7
                · refine lv_aload_n hx hb d_M_fit_84 rfl (lv_at hl 1 rfl) ?_
                  refine g_cVv (As := []) (rest := []) ⟨hx, hb, hml, hown, hts⟩ (c_M_keep l hdl o400 o401 o402 o406 o408 o409 o417 o418 o420 o421 o422 o423 o424 o425 o426 ha (hq (j + 1)) hcl hb1 hb2 hsh) (gcwV 0 hts q_650 q_647 q_649 qs_10 q_9 (by decide +kernel) ⟨(Nat.le_of_ble_eq_true rfl), (Nat.le_of_ble_eq_true rfl)⟩) gNl_ok hN hK hW hS hA (hdl 400 (by decide) (by decide)) o400 rfl rfl hl.1 rfl (Nat.le_of_ble_eq_true rfl) d_M_fit_85 ⟨Nat.zero_le _, Nat.zero_le _⟩ (fun co9 H locs hp5 hW hS => ?_)
                  obtain ⟨e420, e421, e422, e423, e424, e425, e426, hco5⟩ := hp5
                  rw [hco5] at hW
                  obtain ⟨c5, hc5, hW⟩ := gW_nm hW
                  have r400 := (congrFun hc5 400).trans (va_up_self _ _ _)
                  have r419 := (congrFun hc5 419).trans ((va_up_ne _ _ (by decide)).trans ((wX_o (by decide)).trans o419))
                  have r400 : c5 400 = mO ad a rw sh pg ce mg rw (fcs a (alw tr shp (-1)) cl rw mv sp (j + 1)) (j + 1) := r400
                  refine lv_aload_n hx hb d_M_fit_88 rfl (lv_at hl 1 rfl) ?_
                  refine g_get (C := R_M) (T := F_M) (N := 35) hx hb hts i_M hown hK hW (i := 400) (hdl 400 (by decide) (by decide)) r400 rfl 27 (by decide) (hts _ q_515) (fun _ h9 => h9) rfl d_M_fit_89 ?_
                  refine lv_aload_n hx hb d_M_fit_92 rfl (lv_at hl 1 rfl) ?_
                  refine g_get (C := R_M) (T := F_M) (N := 35) hx hb hts i_M hown hK hW (i := 400) (hdl 400 (by decide) (by decide)) r400 rfl 26 (by decide) (hts _ q_514) (fun _ h9 => h9) rfl d_M_fit_93 ?_
                  refine lv_aload_n hx hb d_M_fit_96 rfl (lv_at hl 1 rfl) ?_
                  refine g_get (C := R_M) (T := F_M) (N := 35) hx hb hts i_M hown hK hW (i := 400) (hdl 400 (by decide) (by decide)) r400 rfl 24 (by decide) (hts _ q_512) (fun _ h9 => h9) rfl d_M_fit_97 ?_
                  refine lv_i2l (v := (nI (fcs a (alw tr shp (-1)) cl rw mv sp (j + 1))).toInt64) hx hb d_M_fit_100 rfl ?_
                  refine n_last (x := (nI (fcs a (alw tr shp (-1)) cl rw mv sp (j + 1))).toInt64) hx hb hK hW hS 1 (q := 419) (hdl 419 (by decide) (by decide)) r419 rfl (j := j + 1) (by omega) (by omega) d_M_fit_101 (fun H locs hW hS => ?_)
                  refine lv_aload_n hx hb d_M_fit_102 rfl (lv_at hl 1 rfl) ?_
                  refine lv_dup hx hb d_M_fit_103 rfl ?_
                  refine g_get (C := R_M) (T := F_M) (N := 35) hx hb hts i_M hown hK hW (i := 400) (hdl 400 (by decide) (by decide)) ((va_up_ne _ _ (by decide)).trans r400) rfl 26 (by decide) (hts _ q_514) (fun _ h9 => h9) rfl d_M_fit_104 ?_
                  refine lv_iconst (v := nI 1) hx hb d_M_fit_107 (by decide) ?_
                  refine n_add hx hb d_M_fit_108 ?_
                  refine g_put (ty := .int) (v := .int (nI ((j + 1) + 1))) (C := R_M) (T := F_M) (N := 35) hx hb hts i_M fy_M fy_M_ok fn_M hown hK hW hS (i := 400) (hdl 400 (by decide) (by decide)) ((va_up_ne _ _ (by decide)).trans r400) rfl 26 (by decide) (hts _ q_514) (fun _ h9 => h9) rfl (by decide +kernel) rfl rfl (Nat.le_of_ble_eq_true rfl) d_M_fit_109 (fun H locs hW hS => ?_)
                  refine lv_goto (tgt := 120) hx hb d_M_fit_112 (by decide) ?_
                  refine n_iinc (lv' := [(3, .int (nI (j + 1))), (2, .int (bI true)), (0, .ref (ad 400)), (1, .int (nI R))]) hx hb d_M_fit_120 hl (k := 3) rfl (by decide) rfl (fun ls hl => ?_)
                  refine lv_goto (tgt := 44) hx hb d_M_fit_123 (by decide) ?_
                  have hsu : vp_updL (fun i => if i ≤ j then (nI (fcs a (alw tr shp (-1)) cl rw mv sp i)).toInt64 else su i) (j + 1) (nI (fcs a (alw tr shp (-1)) cl rw mv sp (j + 1))).toInt64 = (fun i => if i ≤ (j + 1) then (nI (fcs a (alw tr shp (-1)) cl rw mv sp i)).toInt64 else su i) := by
                    funext i
                    by_cases hi : i = j + 1
                    · subst hi; rw [pk_uLs, if_pos (Nat.le_refl _)]
                    · rw [pk_uLn hi]
                      by_cases hi2 : i ≤ j
                      · rw [if_pos hi2, if_pos (by omega)]
                      · rw [if_neg hi2, if_neg (by omega)]
                  have hln : (fun i => if i < rw then nI (bln a (alw tr shp (-1)) cl (fitQ a (alw tr shp (-1)) cl rw mv sp (j + 1)).1 (fitQ a (alw tr shp (-1)) cl rw mv sp (j + 1)).2 rw i) else (fun i => if i < rw then nI (bln a (alw tr shp (-1)) cl (fitQ a (alw tr shp (-1)) cl rw mv sp j).1 (fitQ a (alw tr shp (-1)) cl rw mv sp j).2 rw i) else ln i) i) = (fun i => if i < rw then nI (bln a (alw tr shp (-1)) cl (fitQ a (alw tr shp (-1)) cl rw mv sp (j + 1)).1 (fitQ a (alw tr shp (-1)) cl rw mv sp (j + 1)).2 rw i) else ln i) := by
                    funext i
                    by_cases hi : i < rw
                    · rw [if_pos hi, if_pos hi]
                    · rw [if_neg hi, if_neg hi]; exact if_neg hi
                  have hnxn : (fun i => if i < rw then nxt a (alw tr shp (-1)) cl (fitQ a (alw tr shp (-1)) cl rw mv sp (j + 1)).1 (fitQ a (alw tr shp (-1)) cl rw mv sp (j + 1)).2 rw tr i else (fun i => if i < rw then nxt a (alw tr shp (-1)) cl (fitQ a (alw tr shp (-1)) cl rw mv sp j).1 (fitQ a (alw tr shp (-1)) cl rw mv sp j).2 rw tr i else nx i) i) = (fun i => if i < rw then nxt a (alw tr shp (-1)) cl (fitQ a (alw tr shp (-1)) cl rw mv sp (j + 1)).1 (fitQ a (alw tr shp (-1)) cl rw mv sp (j + 1)).2 rw tr i else nx i) := by
                    funext i
                    by_cases hi : i < rw
                    · rw [if_pos hi, if_pos hi]
                    · rw [if_neg hi, if_neg hi]; exact if_neg hi
                  rw [hln, hnxn] at hc5
                  have hfin : va_up (va_up c5 419 (.inl (cJ, 21, .inr (.inl (vp_updL (fun i => if i ≤ j then (nI (fcs a (alw tr shp (-1)) cl rw mv sp i)).toInt64 else su i) (j + 1) (nI (fcs a (alw tr shp (-1)) cl rw mv sp (j + 1))).toInt64))))) 400 (mO ad a rw sh pg ce mg rw (fcs a (alw tr shp (-1)) cl rw mv sp (j + 1)) (j + 1 + 1)) = va_up (wF cI cJ co b401 b402 a403 a404 (fun i => if i < rw then nI (bln a (alw tr shp (-1)) cl (fitQ a (alw tr shp (-1)) cl rw mv sp (j + 1)).1 (fitQ a (alw tr shp (-1)) cl rw mv sp (j + 1)).2 rw i) else ln i) (fun i => if i < rw then nxt a (alw tr shp (-1)) cl (fitQ a (alw tr shp (-1)) cl rw mv sp (j + 1)).1 (fitQ a (alw tr shp (-1)) cl rw mv sp (j + 1)).2 rw tr i else nx i) (fun i => if i ≤ (j + 1) then (nI (fcs a (alw tr shp (-1)) cl rw mv sp i)).toInt64 else su i) e420 e421 e422 e423 e424 e425 e426) 400 (mO ad a rw sh pg ce mg rw (fcs a (alw tr shp (-1)) cl rw mv sp (j + 1)) (j + 1 + 1)) := by
                    rw [hsu, hc5, hc4, hc3, hc2, hc1]
                    funext i
                    by_cases q400 : i = 400
                    · subst q400; simp [wV, wC, wS, wX, wF, va_up]
                    by_cases q401 : i = 401
                    · subst q401; simp [wV, wC, wS, wX, wF, va_up]
                    by_cases q402 : i = 402
                    · subst q402; simp [wV, wC, wS, wX, wF, va_up]
                    by_cases q403 : i = 403
                    · subst q403; simp [wV, wC, wS, wX, wF, va_up]
                    by_cases q404 : i = 404
                    · subst q404; simp [wV, wC, wS, wX, wF, va_up]
                    by_cases q417 : i = 417
                    · subst q417; simp [wV, wC, wS, wX, wF, va_up]
                    by_cases q418 : i = 418
                    · subst q418; simp [wV, wC, wS, wX, wF, va_up]
                    by_cases q419 : i = 419
                    · subst q419; simp [wV, wC, wS, wX, wF, va_up]
                    by_cases q420 : i = 420
                    · subst q420; simp [wV, wC, wS, wX, wF, va_up]
                    by_cases q421 : i = 421
                    · subst q421; simp [wV, wC, wS, wX, wF, va_up]
                    by_cases q422 : i = 422
                    · subst q422; simp [wV, wC, wS, wX, wF, va_up]
                    by_cases q423 : i = 423
                    · subst q423; simp [wV, wC, wS, wX, wF, va_up]
                    by_cases q424 : i = 424
                    · subst q424; simp [wV, wC, wS, wX, wF, va_up]
                    by_cases q425 : i = 425
                    · subst q425; simp [wV, wC, wS, wX, wF, va_up]
                    by_cases q426 : i = 426
                    · subst q426; simp [wV, wC, wS, wX, wF, va_up]
                    simp [wV, wC, wS, wX, wF, va_up, q400, q401, q402, q403, q404, q417, q418, q419, q420, q421, q422, q423, q424, q425, q426]
                  have hW := gW_eq hfin hW
                  exact ih1 (j + 1) (j + 1) true b401 b402 a403 a404 e420 e421 e422 e423 e424 e425 e426 _ _ ls (by omega) (by omega) (Nat.le_refl _) (Or.inl ⟨rfl, rfl, by rw [z3, fitN, if_pos (by simp only [fkp, decide_eq_true_eq]; omega)]⟩) hb1 hb2 hW hS (lv_sub hl [2, 3, 1, 0] rfl)
      · refine lv_iconst (v := (-1)) hx hb d_M_fit_18 (by decide) ?_
        exact g_iret hx hb hr hlocks hW hS (Or.inl ⟨Or.inr (Or.inr h3), rfl, rfl⟩) d_M_fit_19
