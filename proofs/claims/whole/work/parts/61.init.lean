set_option maxHeartbeats 4000000 in
set_option maxRecDepth 100000 in
/-- Tracks() -/
theorem c_T_init (l : Launch) {D : va_G} {cI cJ cG : ClassId} {ad : Nat → Nat} {co : Nat → va_E} {dl : List Nat} (hfr : ∀ j, 1 ≤ j → j < 7 → j ≠ 1 → j ∉ dl) (hrv : 1 ∈ dl) (hr0 : co 1 = .inr (5, [.null, .null, .null, .null, .null, .int (nI 0)])) : gMn l y_T_init (Cond.code y_T_init b_T_init 1 none :: wA) ({ frames := 1, cells := 5, slots := 1000, locals := 60 }) D gCl (gTy cI cJ cG) gNl [.ref (ad 1)] ad co dl ((((((dl ++ [2]) ++ [3]) ++ [4]) ++ [5]) ++ [6])) (5) (1000) (fun ad' co' => (∀ j, ¬ (1 ≤ j ∧ j < 7) → ad' j = ad j ∧ co' j = co j) ∧ ad' 1 = ad 1 ∧ co' 1 = oT ad' 0 ∧ co' 2 = .inl (cJ, 200, .inr (.inl (fun _ => 0))) ∧ co' 3 = .inl (cI, 200, .inl (fun _ => nI 0)) ∧ co' 4 = .inl (cI, 200, .inl (fun _ => nI 0)) ∧ co' 5 = .inl (cI, 200, .inl (fun _ => nI 0)) ∧ co' 6 = .inl (cI, 200, .inl (fun _ => nI 0))) := by
  refine gMn_of (cc := b_T_init) (maxL := 1) (by decide) rfl rfl (Nat.le_of_ble_eq_true rfl) ?_
  intro pp ee s mm below meth cd ls hC hin hO hW hS hl
  obtain ⟨hx, hb, hr, hts0, hown, hlocks, hml, hK, hN⟩ := hC
  have hts : ∀ w ∈ wA, w.before _ s = true := fun w h => hts0 w (List.mem_cons_of_mem _ h)
  have hA : ∀ q, s.heap.size ≤ q → gA ad co dl s.heap.size q := fun q h => Or.inr h
  obtain ⟨b0, hb0⟩ : ∃ q, ad 1 = q := ⟨_, rfl⟩
  have hl : lv_has ls 1 [(0, .ref b0)] := by rw [← hb0]; exact hl
  have hown : s.vm.findClass R_T = some mm.cls := hown
  refine lv_aload_n hx hb d_T_init_0 rfl (lv_at hl 0 rfl) ?_
  refine W.objInit hx hb hown (hts _ q_31) (hts _ q_18) (hts _ qo_code) rfl (by rw [hml]; exact hl.1) rfl d_T_init_1 (Nat.le_of_ble_eq_true rfl) (Nat.le_of_ble_eq_true rfl) ?_
  refine W.eq (g2 := F0 mm 4 ls []) rfl ?_
  refine lv_aload_n hx hb d_T_init_4 rfl (lv_at hl 0 rfl) ?_
  refine lv_sipush (v := nI 200) hx hb d_T_init_5 (by decide) ?_
  refine g_newL hx hb (hts _ q_60) hK hW hS hA (i := 2) (N := 200) (hfr 2 (by decide) (by decide) (by decide)) (by decide) (Nat.le_of_ble_eq_true rfl) (Nat.le_of_ble_eq_true rfl) d_T_init_8 (fun q2 ad2 co2 H hq2 ga2 gc2 gn2 hW hS => ?_)
  have r1 : co2 1 = .inr (5, [.null, .null, .null, .null, .null, .int (nI 0)]) := ((gc2 1 (by decide)).trans hr0)
  have a1 := ((ga2 1 (by decide)).trans hb0)
  have m1 : 1 ∈ (dl ++ [2]) := (mem1.mpr (Or.inl hrv))
  refine g_putFR (ty := .array .long) (v := .ref q2) (C := R_T) (T := F_T) (N := 6) hx hb hts i_T fy_T fy_T_ok fn_T hown hK hW hS (i := 1) a1 m1 r1 rfl 0 (by decide) (hts _ q_32) (fun _ h9 => h9) rfl hin rfl (by decide +kernel) rfl rfl (Nat.le_of_ble_eq_true rfl) d_T_init_10 (fun H locs hW hS => ?_)
  obtain ⟨cp1, hp1, hW⟩ := gW_nm hW
  have r2 : cp1 1 = .inr (5, [.ref q2, .null, .null, .null, .null, .int (nI 0)]) := ((congrFun hp1 1).trans (va_up_self _ _ _))
  have a2 := a1
  have m2 : 1 ∈ (dl ++ [2]) := m1
  refine lv_aload_n hx hb d_T_init_13 rfl (lv_at hl 0 rfl) ?_
  refine lv_sipush (v := nI 200) hx hb d_T_init_14 (by decide) ?_
  refine g_newI hx hb (hts _ q_61) hK hW hS hA (i := 3) (N := 200) (fun h9 => (mem1.mp h9).elim (hfr 3 (by decide) (by decide) (by decide)) (by decide)) (by decide) (Nat.le_of_ble_eq_true rfl) (Nat.le_of_ble_eq_true rfl) d_T_init_17 (fun q3 ad3 co3 H hq3 ga3 gc3 gn3 hW hS => ?_)
  have r3 : co3 1 = .inr (5, [.ref q2, .null, .null, .null, .null, .int (nI 0)]) := ((gc3 1 (by decide)).trans r2)
  have a3 := ((ga3 1 (by decide)).trans a2)
  have m3 : 1 ∈ ((dl ++ [2]) ++ [3]) := (mem1.mpr (Or.inl m2))
  refine g_putFR (ty := .array .int) (v := .ref q3) (C := R_T) (T := F_T) (N := 6) hx hb hts i_T fy_T fy_T_ok fn_T hown hK hW hS (i := 1) a3 m3 r3 rfl 1 (by decide) (hts _ q_34) (fun _ h9 => h9) rfl hin rfl (by decide +kernel) rfl rfl (Nat.le_of_ble_eq_true rfl) d_T_init_19 (fun H locs hW hS => ?_)
  obtain ⟨cp2, hp2, hW⟩ := gW_nm hW
  have r4 : cp2 1 = .inr (5, [.ref q2, .ref q3, .null, .null, .null, .int (nI 0)]) := ((congrFun hp2 1).trans (va_up_self _ _ _))
  have a4 := a3
  have m4 : 1 ∈ ((dl ++ [2]) ++ [3]) := m3
  refine lv_aload_n hx hb d_T_init_22 rfl (lv_at hl 0 rfl) ?_
  refine lv_sipush (v := nI 200) hx hb d_T_init_23 (by decide) ?_
  refine g_newI hx hb (hts _ q_61) hK hW hS hA (i := 4) (N := 200) (fun h9 => (mem1.mp h9).elim (fun h9 => (mem1.mp h9).elim (hfr 4 (by decide) (by decide) (by decide)) (by decide)) (by decide)) (by decide) (Nat.le_of_ble_eq_true rfl) (Nat.le_of_ble_eq_true rfl) d_T_init_26 (fun q4 ad4 co4 H hq4 ga4 gc4 gn4 hW hS => ?_)
  have r5 : co4 1 = .inr (5, [.ref q2, .ref q3, .null, .null, .null, .int (nI 0)]) := ((gc4 1 (by decide)).trans r4)
  have a5 := ((ga4 1 (by decide)).trans a4)
  have m5 : 1 ∈ (((dl ++ [2]) ++ [3]) ++ [4]) := (mem1.mpr (Or.inl m4))
  refine g_putFR (ty := .array .int) (v := .ref q4) (C := R_T) (T := F_T) (N := 6) hx hb hts i_T fy_T fy_T_ok fn_T hown hK hW hS (i := 1) a5 m5 r5 rfl 2 (by decide) (hts _ q_37) (fun _ h9 => h9) rfl hin rfl (by decide +kernel) rfl rfl (Nat.le_of_ble_eq_true rfl) d_T_init_28 (fun H locs hW hS => ?_)
  obtain ⟨cp3, hp3, hW⟩ := gW_nm hW
  have r6 : cp3 1 = .inr (5, [.ref q2, .ref q3, .ref q4, .null, .null, .int (nI 0)]) := ((congrFun hp3 1).trans (va_up_self _ _ _))
  have a6 := a5
  have m6 : 1 ∈ (((dl ++ [2]) ++ [3]) ++ [4]) := m5
  refine lv_aload_n hx hb d_T_init_31 rfl (lv_at hl 0 rfl) ?_
  refine lv_sipush (v := nI 200) hx hb d_T_init_32 (by decide) ?_
  refine g_newI hx hb (hts _ q_61) hK hW hS hA (i := 5) (N := 200) (fun h9 => (mem1.mp h9).elim (fun h9 => (mem1.mp h9).elim (fun h9 => (mem1.mp h9).elim (hfr 5 (by decide) (by decide) (by decide)) (by decide)) (by decide)) (by decide)) (by decide) (Nat.le_of_ble_eq_true rfl) (Nat.le_of_ble_eq_true rfl) d_T_init_35 (fun q5 ad5 co5 H hq5 ga5 gc5 gn5 hW hS => ?_)
  have r7 : co5 1 = .inr (5, [.ref q2, .ref q3, .ref q4, .null, .null, .int (nI 0)]) := ((gc5 1 (by decide)).trans r6)
  have a7 := ((ga5 1 (by decide)).trans a6)
  have m7 : 1 ∈ ((((dl ++ [2]) ++ [3]) ++ [4]) ++ [5]) := (mem1.mpr (Or.inl m6))
  refine g_putFR (ty := .array .int) (v := .ref q5) (C := R_T) (T := F_T) (N := 6) hx hb hts i_T fy_T fy_T_ok fn_T hown hK hW hS (i := 1) a7 m7 r7 rfl 3 (by decide) (hts _ q_38) (fun _ h9 => h9) rfl hin rfl (by decide +kernel) rfl rfl (Nat.le_of_ble_eq_true rfl) d_T_init_37 (fun H locs hW hS => ?_)
  obtain ⟨cp4, hp4, hW⟩ := gW_nm hW
  have r8 : cp4 1 = .inr (5, [.ref q2, .ref q3, .ref q4, .ref q5, .null, .int (nI 0)]) := ((congrFun hp4 1).trans (va_up_self _ _ _))
  have a8 := a7
  have m8 : 1 ∈ ((((dl ++ [2]) ++ [3]) ++ [4]) ++ [5]) := m7
  refine lv_aload_n hx hb d_T_init_40 rfl (lv_at hl 0 rfl) ?_
  refine lv_sipush (v := nI 200) hx hb d_T_init_41 (by decide) ?_
  refine g_newI hx hb (hts _ q_61) hK hW hS hA (i := 6) (N := 200) (fun h9 => (mem1.mp h9).elim (fun h9 => (mem1.mp h9).elim (fun h9 => (mem1.mp h9).elim (fun h9 => (mem1.mp h9).elim (hfr 6 (by decide) (by decide) (by decide)) (by decide)) (by decide)) (by decide)) (by decide)) (by decide) (Nat.le_of_ble_eq_true rfl) (Nat.le_of_ble_eq_true rfl) d_T_init_44 (fun q6 ad6 co6 H hq6 ga6 gc6 gn6 hW hS => ?_)
  have r9 : co6 1 = .inr (5, [.ref q2, .ref q3, .ref q4, .ref q5, .null, .int (nI 0)]) := ((gc6 1 (by decide)).trans r8)
  have a9 := ((ga6 1 (by decide)).trans a8)
  have m9 : 1 ∈ (((((dl ++ [2]) ++ [3]) ++ [4]) ++ [5]) ++ [6]) := (mem1.mpr (Or.inl m8))
  refine g_putFR (ty := .array .int) (v := .ref q6) (C := R_T) (T := F_T) (N := 6) hx hb hts i_T fy_T fy_T_ok fn_T hown hK hW hS (i := 1) a9 m9 r9 rfl 4 (by decide) (hts _ q_39) (fun _ h9 => h9) rfl hin rfl (by decide +kernel) rfl rfl (Nat.le_of_ble_eq_true rfl) d_T_init_46 (fun H locs hW hS => ?_)
  obtain ⟨cp5, hp5, hW⟩ := gW_nm hW
  have r10 : cp5 1 = .inr (5, [.ref q2, .ref q3, .ref q4, .ref q5, .ref q6, .int (nI 0)]) := ((congrFun hp5 1).trans (va_up_self _ _ _))
  have a10 := a9
  have m10 : 1 ∈ (((((dl ++ [2]) ++ [3]) ++ [4]) ++ [5]) ++ [6]) := m9
  refine lv_aload_n hx hb d_T_init_49 rfl (lv_at hl 0 rfl) ?_
  refine lv_iconst (v := nI 0) hx hb d_T_init_50 (by decide) ?_
  refine g_putR (ty := .int) (v := .int (nI 0)) (C := R_T) (T := F_T) (N := 6) hx hb hts i_T fy_T fy_T_ok fn_T hown hK hW hS (i := 1) a10 m10 r10 rfl 5 (by decide) (hts _ q_42) (fun _ h9 => h9) rfl (by decide +kernel) rfl rfl (Nat.le_of_ble_eq_true rfl) d_T_init_51 (fun H locs hW hS => ?_)
  obtain ⟨cp6, hp6, hW⟩ := gW_nm hW
  have r11 : cp6 1 = .inr (5, [.ref q2, .ref q3, .ref q4, .ref q5, .ref q6, .int (nI 0)]) := ((congrFun hp6 1).trans (va_up_self _ _ _))
  have a11 := a10
  have m11 : 1 ∈ (((((dl ++ [2]) ++ [3]) ++ [4]) ++ [5]) ++ [6]) := m10
  have e2 : ad6 2 = q2 := ((ga6 2 (by decide)).trans ((ga5 2 (by decide)).trans ((ga4 2 (by decide)).trans ((ga3 2 (by decide)).trans hq2))))
  have e3 : ad6 3 = q3 := ((ga6 3 (by decide)).trans ((ga5 3 (by decide)).trans ((ga4 3 (by decide)).trans hq3)))
  have e4 : ad6 4 = q4 := ((ga6 4 (by decide)).trans ((ga5 4 (by decide)).trans hq4))
  have e5 : ad6 5 = q5 := ((ga6 5 (by decide)).trans hq5)
  have e6 : ad6 6 = q6 := hq6
  refine W.widen (k := 5) (n := 1000) (Nat.le_of_ble_eq_true rfl) (Nat.le_of_ble_eq_true rfl) ?_
  refine g_nret (post := fun ad' co' => (∀ j, ¬ (1 ≤ j ∧ j < 7) → ad' j = ad j ∧ co' j = co j) ∧ ad' 1 = ad 1 ∧ co' 1 = oT ad' 0 ∧ co' 2 = .inl (cJ, 200, .inr (.inl (fun _ => 0))) ∧ co' 3 = .inl (cI, 200, .inl (fun _ => nI 0)) ∧ co' 4 = .inl (cI, 200, .inl (fun _ => nI 0)) ∧ co' 5 = .inl (cI, 200, .inl (fun _ => nI 0)) ∧ co' 6 = .inl (cI, 200, .inl (fun _ => nI 0))) hx hb hr hlocks hW hS ⟨fun j hj => ⟨((ga6 j (by omega)).trans ((ga5 j (by omega)).trans ((ga4 j (by omega)).trans ((ga3 j (by omega)).trans ((ga2 j (by omega)).trans rfl))))), ((congrFun hp6 j).trans ((va_up_ne _ _ (by omega)).trans ((congrFun hp5 j).trans ((va_up_ne _ _ (by omega)).trans ((gc6 j (by omega)).trans ((congrFun hp4 j).trans ((va_up_ne _ _ (by omega)).trans ((gc5 j (by omega)).trans ((congrFun hp3 j).trans ((va_up_ne _ _ (by omega)).trans ((gc4 j (by omega)).trans ((congrFun hp2 j).trans ((va_up_ne _ _ (by omega)).trans ((gc3 j (by omega)).trans ((congrFun hp1 j).trans ((va_up_ne _ _ (by omega)).trans ((gc2 j (by omega)).trans rfl)))))))))))))))))⟩, a11.trans hb0.symm, ?_, ((congrFun hp6 2).trans ((va_up_ne _ _ (by decide)).trans ((congrFun hp5 2).trans ((va_up_ne _ _ (by decide)).trans ((gc6 2 (by decide)).trans ((congrFun hp4 2).trans ((va_up_ne _ _ (by decide)).trans ((gc5 2 (by decide)).trans ((congrFun hp3 2).trans ((va_up_ne _ _ (by decide)).trans ((gc4 2 (by decide)).trans ((congrFun hp2 2).trans ((va_up_ne _ _ (by decide)).trans ((gc3 2 (by decide)).trans ((congrFun hp1 2).trans ((va_up_ne _ _ (by decide)).trans gn2)))))))))))))))), ((congrFun hp6 3).trans ((va_up_ne _ _ (by decide)).trans ((congrFun hp5 3).trans ((va_up_ne _ _ (by decide)).trans ((gc6 3 (by decide)).trans ((congrFun hp4 3).trans ((va_up_ne _ _ (by decide)).trans ((gc5 3 (by decide)).trans ((congrFun hp3 3).trans ((va_up_ne _ _ (by decide)).trans ((gc4 3 (by decide)).trans ((congrFun hp2 3).trans ((va_up_ne _ _ (by decide)).trans gn3))))))))))))), ((congrFun hp6 4).trans ((va_up_ne _ _ (by decide)).trans ((congrFun hp5 4).trans ((va_up_ne _ _ (by decide)).trans ((gc6 4 (by decide)).trans ((congrFun hp4 4).trans ((va_up_ne _ _ (by decide)).trans ((gc5 4 (by decide)).trans ((congrFun hp3 4).trans ((va_up_ne _ _ (by decide)).trans gn4)))))))))), ((congrFun hp6 5).trans ((va_up_ne _ _ (by decide)).trans ((congrFun hp5 5).trans ((va_up_ne _ _ (by decide)).trans ((gc6 5 (by decide)).trans ((congrFun hp4 5).trans ((va_up_ne _ _ (by decide)).trans gn5))))))), ((congrFun hp6 6).trans ((va_up_ne _ _ (by decide)).trans ((congrFun hp5 6).trans ((va_up_ne _ _ (by decide)).trans gn6))))⟩ d_T_init_54
  rw [r11, ← e2, ← e3, ← e4, ← e5, ← e6]; skip
set_option maxHeartbeats 4000000 in
set_option maxRecDepth 100000 in
/-- LatestRun() -/
theorem c_N_init (l : Launch) {D : va_G} {cI cJ cG : ClassId} {ad : Nat → Nat} {co : Nat → va_E} {dl : List Nat} (hfr : ∀ j, 22 ≤ j → j < 25 → j ≠ 22 → j ∉ dl) (hrv : 22 ∈ dl) (hr0 : co 22 = .inr (1, [.null, .null, .int (nI 0), .int (nI 0)])) : gMn l y_N_init (Cond.code y_N_init b_N_init 1 none :: wA) ({ frames := 1, cells := 2, slots := 400, locals := 60 }) D gCl (gTy cI cJ cG) gNl [.ref (ad 22)] ad co dl (((dl ++ [23]) ++ [24])) (2) (400) (fun ad' co' => (∀ j, ¬ (22 ≤ j ∧ j < 25) → ad' j = ad j ∧ co' j = co j) ∧ ad' 22 = ad 22 ∧ co' 22 = oN ad' 0 0 ∧ co' 23 = .inl (cI, 200, .inl (fun _ => nI 0)) ∧ co' 24 = .inl (cI, 200, .inl (fun _ => nI 0))) := by
  refine gMn_of (cc := b_N_init) (maxL := 1) (by decide) rfl rfl (Nat.le_of_ble_eq_true rfl) ?_
  intro pp ee s mm below meth cd ls hC hin hO hW hS hl
  obtain ⟨hx, hb, hr, hts0, hown, hlocks, hml, hK, hN⟩ := hC
  have hts : ∀ w ∈ wA, w.before _ s = true := fun w h => hts0 w (List.mem_cons_of_mem _ h)
  have hA : ∀ q, s.heap.size ≤ q → gA ad co dl s.heap.size q := fun q h => Or.inr h
  obtain ⟨b0, hb0⟩ : ∃ q, ad 22 = q := ⟨_, rfl⟩
  have hl : lv_has ls 1 [(0, .ref b0)] := by rw [← hb0]; exact hl
  have hown : s.vm.findClass R_N = some mm.cls := hown
  refine lv_aload_n hx hb d_N_init_0 rfl (lv_at hl 0 rfl) ?_
  refine W.objInit hx hb hown (hts _ q_119) (hts _ q_18) (hts _ qo_code) rfl (by rw [hml]; exact hl.1) rfl d_N_init_1 (Nat.le_of_ble_eq_true rfl) (Nat.le_of_ble_eq_true rfl) ?_
  refine W.eq (g2 := F0 mm 4 ls []) rfl ?_
  refine lv_aload_n hx hb d_N_init_4 rfl (lv_at hl 0 rfl) ?_
  refine lv_sipush (v := nI 200) hx hb d_N_init_5 (by decide) ?_
  refine g_newI hx hb (hts _ q_61) hK hW hS hA (i := 23) (N := 200) (hfr 23 (by decide) (by decide) (by decide)) (by decide) (Nat.le_of_ble_eq_true rfl) (Nat.le_of_ble_eq_true rfl) d_N_init_8 (fun q23 ad23 co23 H hq23 ga23 gc23 gn23 hW hS => ?_)
  have r1 : co23 22 = .inr (1, [.null, .null, .int (nI 0), .int (nI 0)]) := ((gc23 22 (by decide)).trans hr0)
  have a1 := ((ga23 22 (by decide)).trans hb0)
  have m1 : 22 ∈ (dl ++ [23]) := (mem1.mpr (Or.inl hrv))
  refine g_putFR (ty := .array .int) (v := .ref q23) (C := R_N) (T := F_N) (N := 4) hx hb hts i_N fy_N fy_N_ok fn_N hown hK hW hS (i := 22) a1 m1 r1 rfl 0 (by decide) (hts _ q_120) (fun _ h9 => h9) rfl hin rfl (by decide +kernel) rfl rfl (Nat.le_of_ble_eq_true rfl) d_N_init_10 (fun H locs hW hS => ?_)
  obtain ⟨cp1, hp1, hW⟩ := gW_nm hW
  have r2 : cp1 22 = .inr (1, [.ref q23, .null, .int (nI 0), .int (nI 0)]) := ((congrFun hp1 22).trans (va_up_self _ _ _))
  have a2 := a1
  have m2 : 22 ∈ (dl ++ [23]) := m1
  refine lv_aload_n hx hb d_N_init_13 rfl (lv_at hl 0 rfl) ?_
  refine lv_sipush (v := nI 200) hx hb d_N_init_14 (by decide) ?_
  refine g_newI hx hb (hts _ q_61) hK hW hS hA (i := 24) (N := 200) (fun h9 => (mem1.mp h9).elim (hfr 24 (by decide) (by decide) (by decide)) (by decide)) (by decide) (Nat.le_of_ble_eq_true rfl) (Nat.le_of_ble_eq_true rfl) d_N_init_17 (fun q24 ad24 co24 H hq24 ga24 gc24 gn24 hW hS => ?_)
  have r3 : co24 22 = .inr (1, [.ref q23, .null, .int (nI 0), .int (nI 0)]) := ((gc24 22 (by decide)).trans r2)
  have a3 := ((ga24 22 (by decide)).trans a2)
  have m3 : 22 ∈ ((dl ++ [23]) ++ [24]) := (mem1.mpr (Or.inl m2))
  refine g_putFR (ty := .array .int) (v := .ref q24) (C := R_N) (T := F_N) (N := 4) hx hb hts i_N fy_N fy_N_ok fn_N hown hK hW hS (i := 22) a3 m3 r3 rfl 1 (by decide) (hts _ q_122) (fun _ h9 => h9) rfl hin rfl (by decide +kernel) rfl rfl (Nat.le_of_ble_eq_true rfl) d_N_init_19 (fun H locs hW hS => ?_)
  obtain ⟨cp2, hp2, hW⟩ := gW_nm hW
  have r4 : cp2 22 = .inr (1, [.ref q23, .ref q24, .int (nI 0), .int (nI 0)]) := ((congrFun hp2 22).trans (va_up_self _ _ _))
  have a4 := a3
  have m4 : 22 ∈ ((dl ++ [23]) ++ [24]) := m3
  refine lv_aload_n hx hb d_N_init_22 rfl (lv_at hl 0 rfl) ?_
  refine lv_iconst (v := nI 0) hx hb d_N_init_23 (by decide) ?_
  refine g_putR (ty := .int) (v := .int (nI 0)) (C := R_N) (T := F_N) (N := 4) hx hb hts i_N fy_N fy_N_ok fn_N hown hK hW hS (i := 22) a4 m4 r4 rfl 2 (by decide) (hts _ q_124) (fun _ h9 => h9) rfl (by decide +kernel) rfl rfl (Nat.le_of_ble_eq_true rfl) d_N_init_24 (fun H locs hW hS => ?_)
  obtain ⟨cp3, hp3, hW⟩ := gW_nm hW
  have r5 : cp3 22 = .inr (1, [.ref q23, .ref q24, .int (nI 0), .int (nI 0)]) := ((congrFun hp3 22).trans (va_up_self _ _ _))
  have a5 := a4
  have m5 : 22 ∈ ((dl ++ [23]) ++ [24]) := m4
  refine lv_aload_n hx hb d_N_init_27 rfl (lv_at hl 0 rfl) ?_
  refine lv_iconst (v := nI 0) hx hb d_N_init_28 (by decide) ?_
  refine g_putR (ty := .int) (v := .int (nI 0)) (C := R_N) (T := F_N) (N := 4) hx hb hts i_N fy_N fy_N_ok fn_N hown hK hW hS (i := 22) a5 m5 r5 rfl 3 (by decide) (hts _ q_126) (fun _ h9 => h9) rfl (by decide +kernel) rfl rfl (Nat.le_of_ble_eq_true rfl) d_N_init_29 (fun H locs hW hS => ?_)
  obtain ⟨cp4, hp4, hW⟩ := gW_nm hW
  have r6 : cp4 22 = .inr (1, [.ref q23, .ref q24, .int (nI 0), .int (nI 0)]) := ((congrFun hp4 22).trans (va_up_self _ _ _))
  have a6 := a5
  have m6 : 22 ∈ ((dl ++ [23]) ++ [24]) := m5
  have e23 : ad24 23 = q23 := ((ga24 23 (by decide)).trans hq23)
  have e24 : ad24 24 = q24 := hq24
  refine W.widen (k := 2) (n := 400) (Nat.le_of_ble_eq_true rfl) (Nat.le_of_ble_eq_true rfl) ?_
  refine g_nret (post := fun ad' co' => (∀ j, ¬ (22 ≤ j ∧ j < 25) → ad' j = ad j ∧ co' j = co j) ∧ ad' 22 = ad 22 ∧ co' 22 = oN ad' 0 0 ∧ co' 23 = .inl (cI, 200, .inl (fun _ => nI 0)) ∧ co' 24 = .inl (cI, 200, .inl (fun _ => nI 0))) hx hb hr hlocks hW hS ⟨fun j hj => ⟨((ga24 j (by omega)).trans ((ga23 j (by omega)).trans rfl)), ((congrFun hp4 j).trans ((va_up_ne _ _ (by omega)).trans ((congrFun hp3 j).trans ((va_up_ne _ _ (by omega)).trans ((congrFun hp2 j).trans ((va_up_ne _ _ (by omega)).trans ((gc24 j (by omega)).trans ((congrFun hp1 j).trans ((va_up_ne _ _ (by omega)).trans ((gc23 j (by omega)).trans rfl))))))))))⟩, a6.trans hb0.symm, ?_, ((congrFun hp4 23).trans ((va_up_ne _ _ (by decide)).trans ((congrFun hp3 23).trans ((va_up_ne _ _ (by decide)).trans ((congrFun hp2 23).trans ((va_up_ne _ _ (by decide)).trans ((gc24 23 (by decide)).trans ((congrFun hp1 23).trans ((va_up_ne _ _ (by decide)).trans gn23))))))))), ((congrFun hp4 24).trans ((va_up_ne _ _ (by decide)).trans ((congrFun hp3 24).trans ((va_up_ne _ _ (by decide)).trans ((congrFun hp2 24).trans ((va_up_ne _ _ (by decide)).trans gn24))))))⟩ d_N_init_32
  rw [r6, ← e23, ← e24]; skip
set_option maxHeartbeats 4000000 in
set_option maxRecDepth 100000 in
/-- Pages() -/
theorem c_P_init (l : Launch) {D : va_G} {cI cJ cG : ClassId} {ad : Nat → Nat} {co : Nat → va_E} {dl : List Nat} (hfr : ∀ j, 25 ≤ j → j < 29 → j ≠ 25 → j ∉ dl) (hrv : 25 ∈ dl) (hr0 : co 25 = .inr (3, [.null, .null, .null, .int (nI 0)])) : gMn l y_P_init (Cond.code y_P_init b_P_init 1 none :: wA) ({ frames := 1, cells := 3, slots := 150, locals := 60 }) D gCl (gTy cI cJ cG) gNl [.ref (ad 25)] ad co dl ((((dl ++ [26]) ++ [27]) ++ [28])) (3) (150) (fun ad' co' => (∀ j, ¬ (25 ≤ j ∧ j < 29) → ad' j = ad j ∧ co' j = co j) ∧ ad' 25 = ad 25 ∧ co' 25 = oP ad' 0 ∧ co' 26 = .inl (cJ, 50, .inr (.inl (fun _ => 0))) ∧ co' 27 = .inl (cJ, 50, .inr (.inl (fun _ => 0))) ∧ co' 28 = .inl (cI, 50, .inl (fun _ => nI 0))) := by
  refine gMn_of (cc := b_P_init) (maxL := 1) (by decide) rfl rfl (Nat.le_of_ble_eq_true rfl) ?_
  intro pp ee s mm below meth cd ls hC hin hO hW hS hl
  obtain ⟨hx, hb, hr, hts0, hown, hlocks, hml, hK, hN⟩ := hC
  have hts : ∀ w ∈ wA, w.before _ s = true := fun w h => hts0 w (List.mem_cons_of_mem _ h)
  have hA : ∀ q, s.heap.size ≤ q → gA ad co dl s.heap.size q := fun q h => Or.inr h
  obtain ⟨b0, hb0⟩ : ∃ q, ad 25 = q := ⟨_, rfl⟩
  have hl : lv_has ls 1 [(0, .ref b0)] := by rw [← hb0]; exact hl
  have hown : s.vm.findClass R_P = some mm.cls := hown
  refine lv_aload_n hx hb d_P_init_0 rfl (lv_at hl 0 rfl) ?_
  refine W.objInit hx hb hown (hts _ q_142) (hts _ q_18) (hts _ qo_code) rfl (by rw [hml]; exact hl.1) rfl d_P_init_1 (Nat.le_of_ble_eq_true rfl) (Nat.le_of_ble_eq_true rfl) ?_
  refine W.eq (g2 := F0 mm 4 ls []) rfl ?_
  refine lv_aload_n hx hb d_P_init_4 rfl (lv_at hl 0 rfl) ?_
  refine lv_bipush (v := nI 50) hx hb d_P_init_5 (by decide) ?_
  refine g_newL hx hb (hts _ q_60) hK hW hS hA (i := 26) (N := 50) (hfr 26 (by decide) (by decide) (by decide)) (by decide) (Nat.le_of_ble_eq_true rfl) (Nat.le_of_ble_eq_true rfl) d_P_init_7 (fun q26 ad26 co26 H hq26 ga26 gc26 gn26 hW hS => ?_)
  have r1 : co26 25 = .inr (3, [.null, .null, .null, .int (nI 0)]) := ((gc26 25 (by decide)).trans hr0)
  have a1 := ((ga26 25 (by decide)).trans hb0)
  have m1 : 25 ∈ (dl ++ [26]) := (mem1.mpr (Or.inl hrv))
  refine g_putFR (ty := .array .long) (v := .ref q26) (C := R_P) (T := F_P) (N := 4) hx hb hts i_P fy_P fy_P_ok fn_P hown hK hW hS (i := 25) a1 m1 r1 rfl 0 (by decide) (hts _ q_143) (fun _ h9 => h9) rfl hin rfl (by decide +kernel) rfl rfl (Nat.le_of_ble_eq_true rfl) d_P_init_9 (fun H locs hW hS => ?_)
  obtain ⟨cp1, hp1, hW⟩ := gW_nm hW
  have r2 : cp1 25 = .inr (3, [.ref q26, .null, .null, .int (nI 0)]) := ((congrFun hp1 25).trans (va_up_self _ _ _))
  have a2 := a1
  have m2 : 25 ∈ (dl ++ [26]) := m1
  refine lv_aload_n hx hb d_P_init_12 rfl (lv_at hl 0 rfl) ?_
  refine lv_bipush (v := nI 50) hx hb d_P_init_13 (by decide) ?_
  refine g_newL hx hb (hts _ q_60) hK hW hS hA (i := 27) (N := 50) (fun h9 => (mem1.mp h9).elim (hfr 27 (by decide) (by decide) (by decide)) (by decide)) (by decide) (Nat.le_of_ble_eq_true rfl) (Nat.le_of_ble_eq_true rfl) d_P_init_15 (fun q27 ad27 co27 H hq27 ga27 gc27 gn27 hW hS => ?_)
  have r3 : co27 25 = .inr (3, [.ref q26, .null, .null, .int (nI 0)]) := ((gc27 25 (by decide)).trans r2)
  have a3 := ((ga27 25 (by decide)).trans a2)
  have m3 : 25 ∈ ((dl ++ [26]) ++ [27]) := (mem1.mpr (Or.inl m2))
  refine g_putFR (ty := .array .long) (v := .ref q27) (C := R_P) (T := F_P) (N := 4) hx hb hts i_P fy_P fy_P_ok fn_P hown hK hW hS (i := 25) a3 m3 r3 rfl 1 (by decide) (hts _ q_144) (fun _ h9 => h9) rfl hin rfl (by decide +kernel) rfl rfl (Nat.le_of_ble_eq_true rfl) d_P_init_17 (fun H locs hW hS => ?_)
  obtain ⟨cp2, hp2, hW⟩ := gW_nm hW
  have r4 : cp2 25 = .inr (3, [.ref q26, .ref q27, .null, .int (nI 0)]) := ((congrFun hp2 25).trans (va_up_self _ _ _))
  have a4 := a3
  have m4 : 25 ∈ ((dl ++ [26]) ++ [27]) := m3
  refine lv_aload_n hx hb d_P_init_20 rfl (lv_at hl 0 rfl) ?_
  refine lv_bipush (v := nI 50) hx hb d_P_init_21 (by decide) ?_
  refine g_newI hx hb (hts _ q_61) hK hW hS hA (i := 28) (N := 50) (fun h9 => (mem1.mp h9).elim (fun h9 => (mem1.mp h9).elim (hfr 28 (by decide) (by decide) (by decide)) (by decide)) (by decide)) (by decide) (Nat.le_of_ble_eq_true rfl) (Nat.le_of_ble_eq_true rfl) d_P_init_23 (fun q28 ad28 co28 H hq28 ga28 gc28 gn28 hW hS => ?_)
  have r5 : co28 25 = .inr (3, [.ref q26, .ref q27, .null, .int (nI 0)]) := ((gc28 25 (by decide)).trans r4)
  have a5 := ((ga28 25 (by decide)).trans a4)
  have m5 : 25 ∈ (((dl ++ [26]) ++ [27]) ++ [28]) := (mem1.mpr (Or.inl m4))
  refine g_putFR (ty := .array .int) (v := .ref q28) (C := R_P) (T := F_P) (N := 4) hx hb hts i_P fy_P fy_P_ok fn_P hown hK hW hS (i := 25) a5 m5 r5 rfl 2 (by decide) (hts _ q_145) (fun _ h9 => h9) rfl hin rfl (by decide +kernel) rfl rfl (Nat.le_of_ble_eq_true rfl) d_P_init_25 (fun H locs hW hS => ?_)
  obtain ⟨cp3, hp3, hW⟩ := gW_nm hW
  have r6 : cp3 25 = .inr (3, [.ref q26, .ref q27, .ref q28, .int (nI 0)]) := ((congrFun hp3 25).trans (va_up_self _ _ _))
  have a6 := a5
  have m6 : 25 ∈ (((dl ++ [26]) ++ [27]) ++ [28]) := m5
  refine lv_aload_n hx hb d_P_init_28 rfl (lv_at hl 0 rfl) ?_
  refine lv_iconst (v := nI 0) hx hb d_P_init_29 (by decide) ?_
  refine g_putR (ty := .int) (v := .int (nI 0)) (C := R_P) (T := F_P) (N := 4) hx hb hts i_P fy_P fy_P_ok fn_P hown hK hW hS (i := 25) a6 m6 r6 rfl 3 (by decide) (hts _ q_146) (fun _ h9 => h9) rfl (by decide +kernel) rfl rfl (Nat.le_of_ble_eq_true rfl) d_P_init_30 (fun H locs hW hS => ?_)
  obtain ⟨cp4, hp4, hW⟩ := gW_nm hW
  have r7 : cp4 25 = .inr (3, [.ref q26, .ref q27, .ref q28, .int (nI 0)]) := ((congrFun hp4 25).trans (va_up_self _ _ _))
  have a7 := a6
  have m7 : 25 ∈ (((dl ++ [26]) ++ [27]) ++ [28]) := m6
  have e26 : ad28 26 = q26 := ((ga28 26 (by decide)).trans ((ga27 26 (by decide)).trans hq26))
  have e27 : ad28 27 = q27 := ((ga28 27 (by decide)).trans hq27)
  have e28 : ad28 28 = q28 := hq28
  refine W.widen (k := 3) (n := 150) (Nat.le_of_ble_eq_true rfl) (Nat.le_of_ble_eq_true rfl) ?_
  refine g_nret (post := fun ad' co' => (∀ j, ¬ (25 ≤ j ∧ j < 29) → ad' j = ad j ∧ co' j = co j) ∧ ad' 25 = ad 25 ∧ co' 25 = oP ad' 0 ∧ co' 26 = .inl (cJ, 50, .inr (.inl (fun _ => 0))) ∧ co' 27 = .inl (cJ, 50, .inr (.inl (fun _ => 0))) ∧ co' 28 = .inl (cI, 50, .inl (fun _ => nI 0))) hx hb hr hlocks hW hS ⟨fun j hj => ⟨((ga28 j (by omega)).trans ((ga27 j (by omega)).trans ((ga26 j (by omega)).trans rfl))), ((congrFun hp4 j).trans ((va_up_ne _ _ (by omega)).trans ((congrFun hp3 j).trans ((va_up_ne _ _ (by omega)).trans ((gc28 j (by omega)).trans ((congrFun hp2 j).trans ((va_up_ne _ _ (by omega)).trans ((gc27 j (by omega)).trans ((congrFun hp1 j).trans ((va_up_ne _ _ (by omega)).trans ((gc26 j (by omega)).trans rfl)))))))))))⟩, a7.trans hb0.symm, ?_, ((congrFun hp4 26).trans ((va_up_ne _ _ (by decide)).trans ((congrFun hp3 26).trans ((va_up_ne _ _ (by decide)).trans ((gc28 26 (by decide)).trans ((congrFun hp2 26).trans ((va_up_ne _ _ (by decide)).trans ((gc27 26 (by decide)).trans ((congrFun hp1 26).trans ((va_up_ne _ _ (by decide)).trans gn26)))))))))), ((congrFun hp4 27).trans ((va_up_ne _ _ (by decide)).trans ((congrFun hp3 27).trans ((va_up_ne _ _ (by decide)).trans ((gc28 27 (by decide)).trans ((congrFun hp2 27).trans ((va_up_ne _ _ (by decide)).trans gn27))))))), ((congrFun hp4 28).trans ((va_up_ne _ _ (by decide)).trans ((congrFun hp3 28).trans ((va_up_ne _ _ (by decide)).trans gn28))))⟩ d_P_init_33
  rw [r7, ← e26, ← e27, ← e28]; skip
set_option maxHeartbeats 4000000 in
set_option maxRecDepth 100000 in
/-- Cells() -/
theorem c_C_init (l : Launch) {D : va_G} {cI cJ cG : ClassId} {ad : Nat → Nat} {co : Nat → va_E} {dl : List Nat} (hfr : ∀ j, 29 ≤ j → j < 34 → j ≠ 29 → j ∉ dl) (hrv : 29 ∈ dl) (hr0 : co 29 = .inr (0, [.null, .null, .null, .null, .int (nI 0)])) : gMn l y_C_init (Cond.code y_C_init b_C_init 1 none :: wA) ({ frames := 1, cells := 4, slots := 1200, locals := 60 }) D gCl (gTy cI cJ cG) gNl [.ref (ad 29)] ad co dl (((((dl ++ [30]) ++ [31]) ++ [32]) ++ [33])) (4) (1200) (fun ad' co' => (∀ j, ¬ (29 ≤ j ∧ j < 34) → ad' j = ad j ∧ co' j = co j) ∧ ad' 29 = ad 29 ∧ co' 29 = oC ad' 0 ∧ co' 30 = .inl (cI, 300, .inl (fun _ => nI 0)) ∧ co' 31 = .inl (cI, 300, .inl (fun _ => nI 0)) ∧ co' 32 = .inl (cI, 300, .inl (fun _ => nI 0)) ∧ co' 33 = .inl (cJ, 300, .inr (.inl (fun _ => 0)))) := by
  refine gMn_of (cc := b_C_init) (maxL := 1) (by decide) rfl rfl (Nat.le_of_ble_eq_true rfl) ?_
  intro pp ee s mm below meth cd ls hC hin hO hW hS hl
  obtain ⟨hx, hb, hr, hts0, hown, hlocks, hml, hK, hN⟩ := hC
  have hts : ∀ w ∈ wA, w.before _ s = true := fun w h => hts0 w (List.mem_cons_of_mem _ h)
  have hA : ∀ q, s.heap.size ≤ q → gA ad co dl s.heap.size q := fun q h => Or.inr h
  obtain ⟨b0, hb0⟩ : ∃ q, ad 29 = q := ⟨_, rfl⟩
  have hl : lv_has ls 1 [(0, .ref b0)] := by rw [← hb0]; exact hl
  have hown : s.vm.findClass R_C = some mm.cls := hown
  refine lv_aload_n hx hb d_C_init_0 rfl (lv_at hl 0 rfl) ?_
  refine W.objInit hx hb hown (hts _ q_162) (hts _ q_18) (hts _ qo_code) rfl (by rw [hml]; exact hl.1) rfl d_C_init_1 (Nat.le_of_ble_eq_true rfl) (Nat.le_of_ble_eq_true rfl) ?_
  refine W.eq (g2 := F0 mm 4 ls []) rfl ?_
  refine lv_aload_n hx hb d_C_init_4 rfl (lv_at hl 0 rfl) ?_
  refine lv_sipush (v := nI 300) hx hb d_C_init_5 (by decide) ?_
  refine g_newI hx hb (hts _ q_61) hK hW hS hA (i := 30) (N := 300) (hfr 30 (by decide) (by decide) (by decide)) (by decide) (Nat.le_of_ble_eq_true rfl) (Nat.le_of_ble_eq_true rfl) d_C_init_8 (fun q30 ad30 co30 H hq30 ga30 gc30 gn30 hW hS => ?_)
  have r1 : co30 29 = .inr (0, [.null, .null, .null, .null, .int (nI 0)]) := ((gc30 29 (by decide)).trans hr0)
  have a1 := ((ga30 29 (by decide)).trans hb0)
  have m1 : 29 ∈ (dl ++ [30]) := (mem1.mpr (Or.inl hrv))
  refine g_putFR (ty := .array .int) (v := .ref q30) (C := R_C) (T := F_C) (N := 5) hx hb hts i_C fy_C fy_C_ok fn_C hown hK hW hS (i := 29) a1 m1 r1 rfl 0 (by decide) (hts _ q_163) (fun _ h9 => h9) rfl hin rfl (by decide +kernel) rfl rfl (Nat.le_of_ble_eq_true rfl) d_C_init_10 (fun H locs hW hS => ?_)
  obtain ⟨cp1, hp1, hW⟩ := gW_nm hW
  have r2 : cp1 29 = .inr (0, [.ref q30, .null, .null, .null, .int (nI 0)]) := ((congrFun hp1 29).trans (va_up_self _ _ _))
  have a2 := a1
  have m2 : 29 ∈ (dl ++ [30]) := m1
  refine lv_aload_n hx hb d_C_init_13 rfl (lv_at hl 0 rfl) ?_
  refine lv_sipush (v := nI 300) hx hb d_C_init_14 (by decide) ?_
  refine g_newI hx hb (hts _ q_61) hK hW hS hA (i := 31) (N := 300) (fun h9 => (mem1.mp h9).elim (hfr 31 (by decide) (by decide) (by decide)) (by decide)) (by decide) (Nat.le_of_ble_eq_true rfl) (Nat.le_of_ble_eq_true rfl) d_C_init_17 (fun q31 ad31 co31 H hq31 ga31 gc31 gn31 hW hS => ?_)
  have r3 : co31 29 = .inr (0, [.ref q30, .null, .null, .null, .int (nI 0)]) := ((gc31 29 (by decide)).trans r2)
  have a3 := ((ga31 29 (by decide)).trans a2)
  have m3 : 29 ∈ ((dl ++ [30]) ++ [31]) := (mem1.mpr (Or.inl m2))
  refine g_putFR (ty := .array .int) (v := .ref q31) (C := R_C) (T := F_C) (N := 5) hx hb hts i_C fy_C fy_C_ok fn_C hown hK hW hS (i := 29) a3 m3 r3 rfl 1 (by decide) (hts _ q_164) (fun _ h9 => h9) rfl hin rfl (by decide +kernel) rfl rfl (Nat.le_of_ble_eq_true rfl) d_C_init_19 (fun H locs hW hS => ?_)
  obtain ⟨cp2, hp2, hW⟩ := gW_nm hW
  have r4 : cp2 29 = .inr (0, [.ref q30, .ref q31, .null, .null, .int (nI 0)]) := ((congrFun hp2 29).trans (va_up_self _ _ _))
  have a4 := a3
  have m4 : 29 ∈ ((dl ++ [30]) ++ [31]) := m3
  refine lv_aload_n hx hb d_C_init_22 rfl (lv_at hl 0 rfl) ?_
  refine lv_sipush (v := nI 300) hx hb d_C_init_23 (by decide) ?_
  refine g_newI hx hb (hts _ q_61) hK hW hS hA (i := 32) (N := 300) (fun h9 => (mem1.mp h9).elim (fun h9 => (mem1.mp h9).elim (hfr 32 (by decide) (by decide) (by decide)) (by decide)) (by decide)) (by decide) (Nat.le_of_ble_eq_true rfl) (Nat.le_of_ble_eq_true rfl) d_C_init_26 (fun q32 ad32 co32 H hq32 ga32 gc32 gn32 hW hS => ?_)
  have r5 : co32 29 = .inr (0, [.ref q30, .ref q31, .null, .null, .int (nI 0)]) := ((gc32 29 (by decide)).trans r4)
  have a5 := ((ga32 29 (by decide)).trans a4)
  have m5 : 29 ∈ (((dl ++ [30]) ++ [31]) ++ [32]) := (mem1.mpr (Or.inl m4))
  refine g_putFR (ty := .array .int) (v := .ref q32) (C := R_C) (T := F_C) (N := 5) hx hb hts i_C fy_C fy_C_ok fn_C hown hK hW hS (i := 29) a5 m5 r5 rfl 2 (by decide) (hts _ q_165) (fun _ h9 => h9) rfl hin rfl (by decide +kernel) rfl rfl (Nat.le_of_ble_eq_true rfl) d_C_init_28 (fun H locs hW hS => ?_)
  obtain ⟨cp3, hp3, hW⟩ := gW_nm hW
  have r6 : cp3 29 = .inr (0, [.ref q30, .ref q31, .ref q32, .null, .int (nI 0)]) := ((congrFun hp3 29).trans (va_up_self _ _ _))
  have a6 := a5
  have m6 : 29 ∈ (((dl ++ [30]) ++ [31]) ++ [32]) := m5
  refine lv_aload_n hx hb d_C_init_31 rfl (lv_at hl 0 rfl) ?_
  refine lv_sipush (v := nI 300) hx hb d_C_init_32 (by decide) ?_
  refine g_newL hx hb (hts _ q_60) hK hW hS hA (i := 33) (N := 300) (fun h9 => (mem1.mp h9).elim (fun h9 => (mem1.mp h9).elim (fun h9 => (mem1.mp h9).elim (hfr 33 (by decide) (by decide) (by decide)) (by decide)) (by decide)) (by decide)) (by decide) (Nat.le_of_ble_eq_true rfl) (Nat.le_of_ble_eq_true rfl) d_C_init_35 (fun q33 ad33 co33 H hq33 ga33 gc33 gn33 hW hS => ?_)
  have r7 : co33 29 = .inr (0, [.ref q30, .ref q31, .ref q32, .null, .int (nI 0)]) := ((gc33 29 (by decide)).trans r6)
  have a7 := ((ga33 29 (by decide)).trans a6)
  have m7 : 29 ∈ ((((dl ++ [30]) ++ [31]) ++ [32]) ++ [33]) := (mem1.mpr (Or.inl m6))
  refine g_putFR (ty := .array .long) (v := .ref q33) (C := R_C) (T := F_C) (N := 5) hx hb hts i_C fy_C fy_C_ok fn_C hown hK hW hS (i := 29) a7 m7 r7 rfl 3 (by decide) (hts _ q_166) (fun _ h9 => h9) rfl hin rfl (by decide +kernel) rfl rfl (Nat.le_of_ble_eq_true rfl) d_C_init_37 (fun H locs hW hS => ?_)
  obtain ⟨cp4, hp4, hW⟩ := gW_nm hW
  have r8 : cp4 29 = .inr (0, [.ref q30, .ref q31, .ref q32, .ref q33, .int (nI 0)]) := ((congrFun hp4 29).trans (va_up_self _ _ _))
  have a8 := a7
  have m8 : 29 ∈ ((((dl ++ [30]) ++ [31]) ++ [32]) ++ [33]) := m7
  refine lv_aload_n hx hb d_C_init_40 rfl (lv_at hl 0 rfl) ?_
  refine lv_iconst (v := nI 0) hx hb d_C_init_41 (by decide) ?_
  refine g_putR (ty := .int) (v := .int (nI 0)) (C := R_C) (T := F_C) (N := 5) hx hb hts i_C fy_C fy_C_ok fn_C hown hK hW hS (i := 29) a8 m8 r8 rfl 4 (by decide) (hts _ q_167) (fun _ h9 => h9) rfl (by decide +kernel) rfl rfl (Nat.le_of_ble_eq_true rfl) d_C_init_42 (fun H locs hW hS => ?_)
  obtain ⟨cp5, hp5, hW⟩ := gW_nm hW
  have r9 : cp5 29 = .inr (0, [.ref q30, .ref q31, .ref q32, .ref q33, .int (nI 0)]) := ((congrFun hp5 29).trans (va_up_self _ _ _))
  have a9 := a8
  have m9 : 29 ∈ ((((dl ++ [30]) ++ [31]) ++ [32]) ++ [33]) := m8
  have e30 : ad33 30 = q30 := ((ga33 30 (by decide)).trans ((ga32 30 (by decide)).trans ((ga31 30 (by decide)).trans hq30)))
  have e31 : ad33 31 = q31 := ((ga33 31 (by decide)).trans ((ga32 31 (by decide)).trans hq31))
  have e32 : ad33 32 = q32 := ((ga33 32 (by decide)).trans hq32)
  have e33 : ad33 33 = q33 := hq33
  refine W.widen (k := 4) (n := 1200) (Nat.le_of_ble_eq_true rfl) (Nat.le_of_ble_eq_true rfl) ?_
  refine g_nret (post := fun ad' co' => (∀ j, ¬ (29 ≤ j ∧ j < 34) → ad' j = ad j ∧ co' j = co j) ∧ ad' 29 = ad 29 ∧ co' 29 = oC ad' 0 ∧ co' 30 = .inl (cI, 300, .inl (fun _ => nI 0)) ∧ co' 31 = .inl (cI, 300, .inl (fun _ => nI 0)) ∧ co' 32 = .inl (cI, 300, .inl (fun _ => nI 0)) ∧ co' 33 = .inl (cJ, 300, .inr (.inl (fun _ => 0)))) hx hb hr hlocks hW hS ⟨fun j hj => ⟨((ga33 j (by omega)).trans ((ga32 j (by omega)).trans ((ga31 j (by omega)).trans ((ga30 j (by omega)).trans rfl)))), ((congrFun hp5 j).trans ((va_up_ne _ _ (by omega)).trans ((congrFun hp4 j).trans ((va_up_ne _ _ (by omega)).trans ((gc33 j (by omega)).trans ((congrFun hp3 j).trans ((va_up_ne _ _ (by omega)).trans ((gc32 j (by omega)).trans ((congrFun hp2 j).trans ((va_up_ne _ _ (by omega)).trans ((gc31 j (by omega)).trans ((congrFun hp1 j).trans ((va_up_ne _ _ (by omega)).trans ((gc30 j (by omega)).trans rfl))))))))))))))⟩, a9.trans hb0.symm, ?_, ((congrFun hp5 30).trans ((va_up_ne _ _ (by decide)).trans ((congrFun hp4 30).trans ((va_up_ne _ _ (by decide)).trans ((gc33 30 (by decide)).trans ((congrFun hp3 30).trans ((va_up_ne _ _ (by decide)).trans ((gc32 30 (by decide)).trans ((congrFun hp2 30).trans ((va_up_ne _ _ (by decide)).trans ((gc31 30 (by decide)).trans ((congrFun hp1 30).trans ((va_up_ne _ _ (by decide)).trans gn30))))))))))))), ((congrFun hp5 31).trans ((va_up_ne _ _ (by decide)).trans ((congrFun hp4 31).trans ((va_up_ne _ _ (by decide)).trans ((gc33 31 (by decide)).trans ((congrFun hp3 31).trans ((va_up_ne _ _ (by decide)).trans ((gc32 31 (by decide)).trans ((congrFun hp2 31).trans ((va_up_ne _ _ (by decide)).trans gn31)))))))))), ((congrFun hp5 32).trans ((va_up_ne _ _ (by decide)).trans ((congrFun hp4 32).trans ((va_up_ne _ _ (by decide)).trans ((gc33 32 (by decide)).trans ((congrFun hp3 32).trans ((va_up_ne _ _ (by decide)).trans gn32))))))), ((congrFun hp5 33).trans ((va_up_ne _ _ (by decide)).trans ((congrFun hp4 33).trans ((va_up_ne _ _ (by decide)).trans gn33))))⟩ d_C_init_45
  rw [r9, ← e30, ← e31, ← e32, ← e33]; skip
