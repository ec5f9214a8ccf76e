theorem ner {lo hi j c : Nat} (hj : ¬ (lo ≤ j ∧ j < hi)) (h : lo ≤ c ∧ c < hi) : j ≠ c := fun e => hj (e ▸ h)
theorem oG_eq {ad ad' : Nat → Nat} {cG : ClassId} {n b : Nat} (h : ∀ i, i < n → ad' (b + i) = ad (b + i)) : oG ad cG n b = oG ad' cG n b := by
  have e : (fun i => if i < n then some (ad (b + i)) else none) = (fun i => if i < n then some (ad' (b + i)) else none) := by
    funext i
    by_cases hi : i < n
    · rw [if_pos hi, if_pos hi, h i hi]
    · rw [if_neg hi, if_neg hi]
  show Sum.inl _ = Sum.inl _
  rw [e]
set_option maxHeartbeats 4000000 in
set_option maxRecDepth 100000 in
/-- Table(acts) -/
theorem c_B_init_7 (l : Launch) {D : va_G} {cI cJ cG : ClassId} {ad : Nat → Nat} {co : Nat → va_E} {dl : List Nat} {a : Nat} (ha : a ≤ 12) (hfr : ∀ j, ((7 ≤ j ∧ j < 10) ∨ (40 ≤ j ∧ j < 80)) → j ≠ 7 → j ∉ dl) (hrv : 7 ∈ dl) (hr0 : co 7 = .inr (4, [.null, .null])) : gMn l y_B_init (Cond.code y_B_init b_B_init 2 none :: wA) ({ frames := 1, cells := 26, slots := 288, locals := 60 }) D gCl (gTy cI cJ cG) gNl [.ref (ad 7), .int (nI a)] ad co dl ((dl ++ 8 :: (List.range a).map (fun r => 40 + r)) ++ 9 :: (List.range a).map (fun r => 60 + r)) (26) (288) (fun ad' co' => (∀ j, ¬ (7 ≤ j ∧ j < 10) → ¬ (40 ≤ j ∧ j < 80) → ad' j = ad j ∧ co' j = co j) ∧ ad' 7 = ad 7 ∧ co' 7 = oB ad' 8 9 ∧ co' 8 = oG ad' cG a 40 ∧ co' 9 = oG ad' cG a 60 ∧ (∀ i, i < a → co' (40 + i) = .inl (cI, a, .inl (fun _ => nI 0))) ∧ ∀ i, i < a → co' (60 + i) = .inl (cI, 10, .inl (fun _ => nI 0))) := by
  refine gMn_of (cc := b_B_init) (maxL := 2) (by decide) rfl rfl (Nat.le_of_ble_eq_true rfl) ?_
  intro pp ee s mm below meth cd ls hC hin hO hW hS hl
  obtain ⟨hx, hb, hr, hts0, hown, hlocks, hml, hK, hN⟩ := hC
  have hts : ∀ w ∈ wA, w.before _ s = true := fun w h => hts0 w (List.mem_cons_of_mem _ h)
  have hA : ∀ q, s.heap.size ≤ q → gA ad co dl s.heap.size q := fun q h => Or.inr h
  obtain ⟨b0, hb0⟩ : ∃ q, ad 7 = q := ⟨_, rfl⟩
  have hl : lv_has ls 2 [(0, .ref b0), (1, .int (nI a))] := by rw [← hb0]; exact hl
  have hown : s.vm.findClass R_B = some mm.cls := hown
  have haa : a * a ≤ 144 := Nat.mul_le_mul ha ha
  refine lv_aload_n hx hb d_B_init_0 rfl (lv_at hl 0 rfl) ?_
  refine W.objInit hx hb hown (hts _ q_67) (hts _ q_18) (hts _ qo_code) rfl (by rw [hml]; exact hl.1) rfl d_B_init_1 (Nat.le_of_ble_eq_true rfl) (Nat.le_of_ble_eq_true rfl) ?_
  refine W.eq (g2 := F0 mm 4 ls []) rfl ?_
  refine lv_aload_n hx hb d_B_init_4 rfl (lv_at hl 0 rfl) ?_
  refine lv_iload_n hx hb d_B_init_5 rfl (lv_at hl 1 rfl) ?_
  refine lv_iload_n hx hb d_B_init_6 rfl (lv_at hl 1 rfl) ?_
  refine g_mna hx hb hown (hts _ q_68) hO (hts _ q_61) hK hW hS hA (i := 8) (B := 40) (N := a) (K := a) (hfr _ (by omega) (by omega)) (fun r hr => (hfr _ (by omega) (by omega))) (by omega) (by omega) (by omega) (by show _ ≤ 26; omega) (by show _ ≤ 288; omega) d_B_init_7 (fun q8 ad8 co8 H hq8 ga8 gc8 gn8 gr8 hW hS => ?_)
  have r1 : co8 7 = .inr (4, [.null, .null]) := ((gc8 7 (by omega) (by omega)).trans hr0)
  have a1 := ((ga8 7 (by omega) (by omega)).trans hb0)
  have m1 : 7 ∈ (dl ++ 8 :: (List.range a).map (fun r => 40 + r)) := (memG.mpr (Or.inl hrv))
  refine g_putFR (ty := .array (.array .int)) (v := .ref q8) (C := R_B) (T := F_B) (N := 2) hx hb hts i_B fy_B fy_B_ok fn_B hown hK hW hS (i := 7) a1 m1 r1 rfl 0 (by decide) (hts _ q_70) (fun _ h9 => h9) rfl hin rfl (by decide +kernel) rfl rfl (Nat.le_of_ble_eq_true rfl) d_B_init_11 (fun H locs hW hS => ?_)
  obtain ⟨cp1, hp1, hW⟩ := gW_nm hW
  have r2 : cp1 7 = .inr (4, [.ref q8, .null]) := ((congrFun hp1 7).trans (va_up_self _ _ _))
  have a2 := a1
  have m2 : 7 ∈ (dl ++ 8 :: (List.range a).map (fun r => 40 + r)) := m1
  refine lv_aload_n hx hb d_B_init_14 rfl (lv_at hl 0 rfl) ?_
  refine lv_iload_n hx hb d_B_init_15 rfl (lv_at hl 1 rfl) ?_
  refine lv_bipush (v := nI 10) hx hb d_B_init_16 (by decide) ?_
  refine g_mna hx hb hown (hts _ q_68) hO (hts _ q_61) hK hW hS hA (i := 9) (B := 60) (N := a) (K := 10) (fun h9 => (memG.mp h9).elim (hfr _ (by omega) (by omega)) (by omega)) (fun r hr => (fun h9 => (memG.mp h9).elim (hfr _ (by omega) (by omega)) (by omega))) (by omega) (by omega) (by omega) (by show _ ≤ 26; omega) (by show _ ≤ 288; omega) d_B_init_18 (fun q9 ad9 co9 H hq9 ga9 gc9 gn9 gr9 hW hS => ?_)
  have r3 : co9 7 = .inr (4, [.ref q8, .null]) := ((gc9 7 (by omega) (by omega)).trans r2)
  have a3 := ((ga9 7 (by omega) (by omega)).trans a2)
  have m3 : 7 ∈ ((dl ++ 8 :: (List.range a).map (fun r => 40 + r)) ++ 9 :: (List.range a).map (fun r => 60 + r)) := (memG.mpr (Or.inl m2))
  refine g_putFR (ty := .array (.array .int)) (v := .ref q9) (C := R_B) (T := F_B) (N := 2) hx hb hts i_B fy_B fy_B_ok fn_B hown hK hW hS (i := 7) a3 m3 r3 rfl 1 (by decide) (hts _ q_73) (fun _ h9 => h9) rfl hin rfl (by decide +kernel) rfl rfl (Nat.le_of_ble_eq_true rfl) d_B_init_22 (fun H locs hW hS => ?_)
  obtain ⟨cp2, hp2, hW⟩ := gW_nm hW
  have r4 : cp2 7 = .inr (4, [.ref q8, .ref q9]) := ((congrFun hp2 7).trans (va_up_self _ _ _))
  have a4 := a3
  have m4 : 7 ∈ ((dl ++ 8 :: (List.range a).map (fun r => 40 + r)) ++ 9 :: (List.range a).map (fun r => 60 + r)) := m3
  have e8 : ad9 8 = q8 := ((ga9 8 (by omega) (by omega)).trans hq8)
  have e9 : ad9 9 = q9 := hq9
  refine W.widen (k := 26) (n := 288) (by omega) (by omega) ?_
  refine g_nret (post := fun ad' co' => (∀ j, ¬ (7 ≤ j ∧ j < 10) → ¬ (40 ≤ j ∧ j < 80) → ad' j = ad j ∧ co' j = co j) ∧ ad' 7 = ad 7 ∧ co' 7 = oB ad' 8 9 ∧ co' 8 = oG ad' cG a 40 ∧ co' 9 = oG ad' cG a 60 ∧ (∀ i, i < a → co' (40 + i) = .inl (cI, a, .inl (fun _ => nI 0))) ∧ ∀ i, i < a → co' (60 + i) = .inl (cI, 10, .inl (fun _ => nI 0))) hx hb hr hlocks hW hS ⟨fun j hj hj2 => ⟨((ga9 j (by omega) (by omega)).trans ((ga8 j (by omega) (by omega)).trans rfl)), ((congrFun hp2 j).trans ((va_up_ne _ _ (by omega)).trans ((gc9 j (by omega) (by omega)).trans ((congrFun hp1 j).trans ((va_up_ne _ _ (by omega)).trans ((gc8 j (by omega) (by omega)).trans rfl))))))⟩, a4.trans hb0.symm, ?_, ((congrFun hp2 8).trans ((va_up_ne _ _ (by decide)).trans ((gc9 8 (by omega) (by omega)).trans ((congrFun hp1 8).trans ((va_up_ne _ _ (by decide)).trans gn8))))).trans (oG_eq (fun i hi => ((ga9 (40 + i) (by omega) (by omega)).trans rfl))), ((congrFun hp2 9).trans ((va_up_ne _ _ (by decide)).trans gn9)), fun i hi => ((congrFun hp2 (40 + i)).trans ((va_up_ne _ _ (by omega)).trans ((gc9 (40 + i) (by omega) (by omega)).trans ((congrFun hp1 (40 + i)).trans ((va_up_ne _ _ (by omega)).trans (gr8 i hi)))))), fun i hi => ((congrFun hp2 (60 + i)).trans ((va_up_ne _ _ (by omega)).trans (gr9 i hi)))⟩ d_B_init_25
  rw [r4, ← e8, ← e9]
set_option maxHeartbeats 4000000 in
set_option maxRecDepth 100000 in
/-- Table(acts) -/
theorem c_B_init_10 (l : Launch) {D : va_G} {cI cJ cG : ClassId} {ad : Nat → Nat} {co : Nat → va_E} {dl : List Nat} {a : Nat} (ha : a ≤ 12) (hfr : ∀ j, ((10 ≤ j ∧ j < 13) ∨ (80 ≤ j ∧ j < 120)) → j ≠ 10 → j ∉ dl) (hrv : 10 ∈ dl) (hr0 : co 10 = .inr (4, [.null, .null])) : gMn l y_B_init (Cond.code y_B_init b_B_init 2 none :: wA) ({ frames := 1, cells := 26, slots := 288, locals := 60 }) D gCl (gTy cI cJ cG) gNl [.ref (ad 10), .int (nI a)] ad co dl ((dl ++ 11 :: (List.range a).map (fun r => 80 + r)) ++ 12 :: (List.range a).map (fun r => 100 + r)) (26) (288) (fun ad' co' => (∀ j, ¬ (10 ≤ j ∧ j < 13) → ¬ (80 ≤ j ∧ j < 120) → ad' j = ad j ∧ co' j = co j) ∧ ad' 10 = ad 10 ∧ co' 10 = oB ad' 11 12 ∧ co' 11 = oG ad' cG a 80 ∧ co' 12 = oG ad' cG a 100 ∧ (∀ i, i < a → co' (80 + i) = .inl (cI, a, .inl (fun _ => nI 0))) ∧ ∀ i, i < a → co' (100 + i) = .inl (cI, 10, .inl (fun _ => nI 0))) := by
  refine gMn_of (cc := b_B_init) (maxL := 2) (by decide) rfl rfl (Nat.le_of_ble_eq_true rfl) ?_
  intro pp ee s mm below meth cd ls hC hin hO hW hS hl
  obtain ⟨hx, hb, hr, hts0, hown, hlocks, hml, hK, hN⟩ := hC
  have hts : ∀ w ∈ wA, w.before _ s = true := fun w h => hts0 w (List.mem_cons_of_mem _ h)
  have hA : ∀ q, s.heap.size ≤ q → gA ad co dl s.heap.size q := fun q h => Or.inr h
  obtain ⟨b0, hb0⟩ : ∃ q, ad 10 = q := ⟨_, rfl⟩
  have hl : lv_has ls 2 [(0, .ref b0), (1, .int (nI a))] := by rw [← hb0]; exact hl
  have hown : s.vm.findClass R_B = some mm.cls := hown
  have haa : a * a ≤ 144 := Nat.mul_le_mul ha ha
  refine lv_aload_n hx hb d_B_init_0 rfl (lv_at hl 0 rfl) ?_
  refine W.objInit hx hb hown (hts _ q_67) (hts _ q_18) (hts _ qo_code) rfl (by rw [hml]; exact hl.1) rfl d_B_init_1 (Nat.le_of_ble_eq_true rfl) (Nat.le_of_ble_eq_true rfl) ?_
  refine W.eq (g2 := F0 mm 4 ls []) rfl ?_
  refine lv_aload_n hx hb d_B_init_4 rfl (lv_at hl 0 rfl) ?_
  refine lv_iload_n hx hb d_B_init_5 rfl (lv_at hl 1 rfl) ?_
  refine lv_iload_n hx hb d_B_init_6 rfl (lv_at hl 1 rfl) ?_
  refine g_mna hx hb hown (hts _ q_68) hO (hts _ q_61) hK hW hS hA (i := 11) (B := 80) (N := a) (K := a) (hfr _ (by omega) (by omega)) (fun r hr => (hfr _ (by omega) (by omega))) (by omega) (by omega) (by omega) (by show _ ≤ 26; omega) (by show _ ≤ 288; omega) d_B_init_7 (fun q11 ad11 co11 H hq11 ga11 gc11 gn11 gr11 hW hS => ?_)
  have r1 : co11 10 = .inr (4, [.null, .null]) := ((gc11 10 (by omega) (by omega)).trans hr0)
  have a1 := ((ga11 10 (by omega) (by omega)).trans hb0)
  have m1 : 10 ∈ (dl ++ 11 :: (List.range a).map (fun r => 80 + r)) := (memG.mpr (Or.inl hrv))
  refine g_putFR (ty := .array (.array .int)) (v := .ref q11) (C := R_B) (T := F_B) (N := 2) hx hb hts i_B fy_B fy_B_ok fn_B hown hK hW hS (i := 10) a1 m1 r1 rfl 0 (by decide) (hts _ q_70) (fun _ h9 => h9) rfl hin rfl (by decide +kernel) rfl rfl (Nat.le_of_ble_eq_true rfl) d_B_init_11 (fun H locs hW hS => ?_)
  obtain ⟨cp1, hp1, hW⟩ := gW_nm hW
  have r2 : cp1 10 = .inr (4, [.ref q11, .null]) := ((congrFun hp1 10).trans (va_up_self _ _ _))
  have a2 := a1
  have m2 : 10 ∈ (dl ++ 11 :: (List.range a).map (fun r => 80 + r)) := m1
  refine lv_aload_n hx hb d_B_init_14 rfl (lv_at hl 0 rfl) ?_
  refine lv_iload_n hx hb d_B_init_15 rfl (lv_at hl 1 rfl) ?_
  refine lv_bipush (v := nI 10) hx hb d_B_init_16 (by decide) ?_
  refine g_mna hx hb hown (hts _ q_68) hO (hts _ q_61) hK hW hS hA (i := 12) (B := 100) (N := a) (K := 10) (fun h9 => (memG.mp h9).elim (hfr _ (by omega) (by omega)) (by omega)) (fun r hr => (fun h9 => (memG.mp h9).elim (hfr _ (by omega) (by omega)) (by omega))) (by omega) (by omega) (by omega) (by show _ ≤ 26; omega) (by show _ ≤ 288; omega) d_B_init_18 (fun q12 ad12 co12 H hq12 ga12 gc12 gn12 gr12 hW hS => ?_)
  have r3 : co12 10 = .inr (4, [.ref q11, .null]) := ((gc12 10 (by omega) (by omega)).trans r2)
  have a3 := ((ga12 10 (by omega) (by omega)).trans a2)
  have m3 : 10 ∈ ((dl ++ 11 :: (List.range a).map (fun r => 80 + r)) ++ 12 :: (List.range a).map (fun r => 100 + r)) := (memG.mpr (Or.inl m2))
  refine g_putFR (ty := .array (.array .int)) (v := .ref q12) (C := R_B) (T := F_B) (N := 2) hx hb hts i_B fy_B fy_B_ok fn_B hown hK hW hS (i := 10) a3 m3 r3 rfl 1 (by decide) (hts _ q_73) (fun _ h9 => h9) rfl hin rfl (by decide +kernel) rfl rfl (Nat.le_of_ble_eq_true rfl) d_B_init_22 (fun H locs hW hS => ?_)
  obtain ⟨cp2, hp2, hW⟩ := gW_nm hW
  have r4 : cp2 10 = .inr (4, [.ref q11, .ref q12]) := ((congrFun hp2 10).trans (va_up_self _ _ _))
  have a4 := a3
  have m4 : 10 ∈ ((dl ++ 11 :: (List.range a).map (fun r => 80 + r)) ++ 12 :: (List.range a).map (fun r => 100 + r)) := m3
  have e11 : ad12 11 = q11 := ((ga12 11 (by omega) (by omega)).trans hq11)
  have e12 : ad12 12 = q12 := hq12
  refine W.widen (k := 26) (n := 288) (by omega) (by omega) ?_
  refine g_nret (post := fun ad' co' => (∀ j, ¬ (10 ≤ j ∧ j < 13) → ¬ (80 ≤ j ∧ j < 120) → ad' j = ad j ∧ co' j = co j) ∧ ad' 10 = ad 10 ∧ co' 10 = oB ad' 11 12 ∧ co' 11 = oG ad' cG a 80 ∧ co' 12 = oG ad' cG a 100 ∧ (∀ i, i < a → co' (80 + i) = .inl (cI, a, .inl (fun _ => nI 0))) ∧ ∀ i, i < a → co' (100 + i) = .inl (cI, 10, .inl (fun _ => nI 0))) hx hb hr hlocks hW hS ⟨fun j hj hj2 => ⟨((ga12 j (by omega) (by omega)).trans ((ga11 j (by omega) (by omega)).trans rfl)), ((congrFun hp2 j).trans ((va_up_ne _ _ (by omega)).trans ((gc12 j (by omega) (by omega)).trans ((congrFun hp1 j).trans ((va_up_ne _ _ (by omega)).trans ((gc11 j (by omega) (by omega)).trans rfl))))))⟩, a4.trans hb0.symm, ?_, ((congrFun hp2 11).trans ((va_up_ne _ _ (by decide)).trans ((gc12 11 (by omega) (by omega)).trans ((congrFun hp1 11).trans ((va_up_ne _ _ (by decide)).trans gn11))))).trans (oG_eq (fun i hi => ((ga12 (80 + i) (by omega) (by omega)).trans rfl))), ((congrFun hp2 12).trans ((va_up_ne _ _ (by decide)).trans gn12)), fun i hi => ((congrFun hp2 (80 + i)).trans ((va_up_ne _ _ (by omega)).trans ((gc12 (80 + i) (by omega) (by omega)).trans ((congrFun hp1 (80 + i)).trans ((va_up_ne _ _ (by omega)).trans (gr11 i hi)))))), fun i hi => ((congrFun hp2 (100 + i)).trans ((va_up_ne _ _ (by omega)).trans (gr12 i hi)))⟩ d_B_init_25
  rw [r4, ← e11, ← e12]
set_option maxHeartbeats 4000000 in
set_option maxRecDepth 100000 in
/-- Table(acts) -/
theorem c_B_init_13 (l : Launch) {D : va_G} {cI cJ cG : ClassId} {ad : Nat → Nat} {co : Nat → va_E} {dl : List Nat} {a : Nat} (ha : a ≤ 12) (hfr : ∀ j, ((13 ≤ j ∧ j < 16) ∨ (120 ≤ j ∧ j < 160)) → j ≠ 13 → j ∉ dl) (hrv : 13 ∈ dl) (hr0 : co 13 = .inr (4, [.null, .null])) : gMn l y_B_init (Cond.code y_B_init b_B_init 2 none :: wA) ({ frames := 1, cells := 26, slots := 288, locals := 60 }) D gCl (gTy cI cJ cG) gNl [.ref (ad 13), .int (nI a)] ad co dl ((dl ++ 14 :: (List.range a).map (fun r => 120 + r)) ++ 15 :: (List.range a).map (fun r => 140 + r)) (26) (288) (fun ad' co' => (∀ j, ¬ (13 ≤ j ∧ j < 16) → ¬ (120 ≤ j ∧ j < 160) → ad' j = ad j ∧ co' j = co j) ∧ ad' 13 = ad 13 ∧ co' 13 = oB ad' 14 15 ∧ co' 14 = oG ad' cG a 120 ∧ co' 15 = oG ad' cG a 140 ∧ (∀ i, i < a → co' (120 + i) = .inl (cI, a, .inl (fun _ => nI 0))) ∧ ∀ i, i < a → co' (140 + i) = .inl (cI, 10, .inl (fun _ => nI 0))) := by
  refine gMn_of (cc := b_B_init) (maxL := 2) (by decide) rfl rfl (Nat.le_of_ble_eq_true rfl) ?_
  intro pp ee s mm below meth cd ls hC hin hO hW hS hl
  obtain ⟨hx, hb, hr, hts0, hown, hlocks, hml, hK, hN⟩ := hC
  have hts : ∀ w ∈ wA, w.before _ s = true := fun w h => hts0 w (List.mem_cons_of_mem _ h)
  have hA : ∀ q, s.heap.size ≤ q → gA ad co dl s.heap.size q := fun q h => Or.inr h
  obtain ⟨b0, hb0⟩ : ∃ q, ad 13 = q := ⟨_, rfl⟩
  have hl : lv_has ls 2 [(0, .ref b0), (1, .int (nI a))] := by rw [← hb0]; exact hl
  have hown : s.vm.findClass R_B = some mm.cls := hown
  have haa : a * a ≤ 144 := Nat.mul_le_mul ha ha
  refine lv_aload_n hx hb d_B_init_0 rfl (lv_at hl 0 rfl) ?_
  refine W.objInit hx hb hown (hts _ q_67) (hts _ q_18) (hts _ qo_code) rfl (by rw [hml]; exact hl.1) rfl d_B_init_1 (Nat.le_of_ble_eq_true rfl) (Nat.le_of_ble_eq_true rfl) ?_
  refine W.eq (g2 := F0 mm 4 ls []) rfl ?_
  refine lv_aload_n hx hb d_B_init_4 rfl (lv_at hl 0 rfl) ?_
  refine lv_iload_n hx hb d_B_init_5 rfl (lv_at hl 1 rfl) ?_
  refine lv_iload_n hx hb d_B_init_6 rfl (lv_at hl 1 rfl) ?_
  refine g_mna hx hb hown (hts _ q_68) hO (hts _ q_61) hK hW hS hA (i := 14) (B := 120) (N := a) (K := a) (hfr _ (by omega) (by omega)) (fun r hr => (hfr _ (by omega) (by omega))) (by omega) (by omega) (by omega) (by show _ ≤ 26; omega) (by show _ ≤ 288; omega) d_B_init_7 (fun q14 ad14 co14 H hq14 ga14 gc14 gn14 gr14 hW hS => ?_)
  have r1 : co14 13 = .inr (4, [.null, .null]) := ((gc14 13 (by omega) (by omega)).trans hr0)
  have a1 := ((ga14 13 (by omega) (by omega)).trans hb0)
  have m1 : 13 ∈ (dl ++ 14 :: (List.range a).map (fun r => 120 + r)) := (memG.mpr (Or.inl hrv))
  refine g_putFR (ty := .array (.array .int)) (v := .ref q14) (C := R_B) (T := F_B) (N := 2) hx hb hts i_B fy_B fy_B_ok fn_B hown hK hW hS (i := 13) a1 m1 r1 rfl 0 (by decide) (hts _ q_70) (fun _ h9 => h9) rfl hin rfl (by decide +kernel) rfl rfl (Nat.le_of_ble_eq_true rfl) d_B_init_11 (fun H locs hW hS => ?_)
  obtain ⟨cp1, hp1, hW⟩ := gW_nm hW
  have r2 : cp1 13 = .inr (4, [.ref q14, .null]) := ((congrFun hp1 13).trans (va_up_self _ _ _))
  have a2 := a1
  have m2 : 13 ∈ (dl ++ 14 :: (List.range a).map (fun r => 120 + r)) := m1
  refine lv_aload_n hx hb d_B_init_14 rfl (lv_at hl 0 rfl) ?_
  refine lv_iload_n hx hb d_B_init_15 rfl (lv_at hl 1 rfl) ?_
  refine lv_bipush (v := nI 10) hx hb d_B_init_16 (by decide) ?_
  refine g_mna hx hb hown (hts _ q_68) hO (hts _ q_61) hK hW hS hA (i := 15) (B := 140) (N := a) (K := 10) (fun h9 => (memG.mp h9).elim (hfr _ (by omega) (by omega)) (by omega)) (fun r hr => (fun h9 => (memG.mp h9).elim (hfr _ (by omega) (by omega)) (by omega))) (by omega) (by omega) (by omega) (by show _ ≤ 26; omega) (by show _ ≤ 288; omega) d_B_init_18 (fun q15 ad15 co15 H hq15 ga15 gc15 gn15 gr15 hW hS => ?_)
  have r3 : co15 13 = .inr (4, [.ref q14, .null]) := ((gc15 13 (by omega) (by omega)).trans r2)
  have a3 := ((ga15 13 (by omega) (by omega)).trans a2)
  have m3 : 13 ∈ ((dl ++ 14 :: (List.range a).map (fun r => 120 + r)) ++ 15 :: (List.range a).map (fun r => 140 + r)) := (memG.mpr (Or.inl m2))
  refine g_putFR (ty := .array (.array .int)) (v := .ref q15) (C := R_B) (T := F_B) (N := 2) hx hb hts i_B fy_B fy_B_ok fn_B hown hK hW hS (i := 13) a3 m3 r3 rfl 1 (by decide) (hts _ q_73) (fun _ h9 => h9) rfl hin rfl (by decide +kernel) rfl rfl (Nat.le_of_ble_eq_true rfl) d_B_init_22 (fun H locs hW hS => ?_)
  obtain ⟨cp2, hp2, hW⟩ := gW_nm hW
  have r4 : cp2 13 = .inr (4, [.ref q14, .ref q15]) := ((congrFun hp2 13).trans (va_up_self _ _ _))
  have a4 := a3
  have m4 : 13 ∈ ((dl ++ 14 :: (List.range a).map (fun r => 120 + r)) ++ 15 :: (List.range a).map (fun r => 140 + r)) := m3
  have e14 : ad15 14 = q14 := ((ga15 14 (by omega) (by omega)).trans hq14)
  have e15 : ad15 15 = q15 := hq15
  refine W.widen (k := 26) (n := 288) (by omega) (by omega) ?_
  refine g_nret (post := fun ad' co' => (∀ j, ¬ (13 ≤ j ∧ j < 16) → ¬ (120 ≤ j ∧ j < 160) → ad' j = ad j ∧ co' j = co j) ∧ ad' 13 = ad 13 ∧ co' 13 = oB ad' 14 15 ∧ co' 14 = oG ad' cG a 120 ∧ co' 15 = oG ad' cG a 140 ∧ (∀ i, i < a → co' (120 + i) = .inl (cI, a, .inl (fun _ => nI 0))) ∧ ∀ i, i < a → co' (140 + i) = .inl (cI, 10, .inl (fun _ => nI 0))) hx hb hr hlocks hW hS ⟨fun j hj hj2 => ⟨((ga15 j (by omega) (by omega)).trans ((ga14 j (by omega) (by omega)).trans rfl)), ((congrFun hp2 j).trans ((va_up_ne _ _ (by omega)).trans ((gc15 j (by omega) (by omega)).trans ((congrFun hp1 j).trans ((va_up_ne _ _ (by omega)).trans ((gc14 j (by omega) (by omega)).trans rfl))))))⟩, a4.trans hb0.symm, ?_, ((congrFun hp2 14).trans ((va_up_ne _ _ (by decide)).trans ((gc15 14 (by omega) (by omega)).trans ((congrFun hp1 14).trans ((va_up_ne _ _ (by decide)).trans gn14))))).trans (oG_eq (fun i hi => ((ga15 (120 + i) (by omega) (by omega)).trans rfl))), ((congrFun hp2 15).trans ((va_up_ne _ _ (by decide)).trans gn15)), fun i hi => ((congrFun hp2 (120 + i)).trans ((va_up_ne _ _ (by omega)).trans ((gc15 (120 + i) (by omega) (by omega)).trans ((congrFun hp1 (120 + i)).trans ((va_up_ne _ _ (by omega)).trans (gr14 i hi)))))), fun i hi => ((congrFun hp2 (140 + i)).trans ((va_up_ne _ _ (by omega)).trans (gr15 i hi)))⟩ d_B_init_25
  rw [r4, ← e14, ← e15]
set_option maxHeartbeats 4000000 in
set_option maxRecDepth 100000 in
/-- LineFinder(acts) -/
theorem c_F_init (l : Launch) {D : va_G} {cI cJ cG : ClassId} {ad : Nat → Nat} {co : Nat → va_E} {dl : List Nat} {a : Nat} (ha : a ≤ 12) (hfr : ∀ j, ((16 ≤ j ∧ j < 22) ∨ (200 ≤ j ∧ j < 400)) → j ≠ 16 → j ∉ dl) (hrv : 16 ∈ dl) (hr0 : co 16 = .inr (2, [.null, .int (nI 0), .int (nI 0), .null, .null, .null, .null])) : gMn l y_F_init (Cond.code y_F_init b_F_init 2 none :: wA) ({ frames := 1, cells := 205, slots := 2836, locals := 60 }) D gCl (gTy cI cJ cG) gNl [.ref (ad 16), .int (nI a)] ad co dl (((((dl ++ [17]) ++ 18 :: (List.range 200).map (fun r => 200 + r)) ++ [19]) ++ [20]) ++ [21]) (205) (2836) (fun ad' co' => (∀ j, ¬ (16 ≤ j ∧ j < 22) → ¬ (200 ≤ j ∧ j < 400) → ad' j = ad j ∧ co' j = co j) ∧ ad' 16 = ad 16 ∧ co' 16 = oF ad' 0 a 20 21 ∧ co' 17 = .inl (cI, 200, .inl (fun _ => nI 0)) ∧ co' 18 = oG ad' cG 200 200 ∧ co' 19 = .inl (cI, a, .inl (fun _ => nI 0)) ∧ co' 20 = .inl (cI, a, .inl (fun _ => nI 0)) ∧ co' 21 = .inl (cI, a, .inl (fun _ => nI 0)) ∧ ∀ r, r < 200 → co' (200 + r) = .inl (cI, a, .inl (fun _ => nI 0))) := by
  refine gMn_of (cc := b_F_init) (maxL := 2) (by decide) rfl rfl (Nat.le_of_ble_eq_true rfl) ?_
  intro pp ee s mm below meth cd ls hC hin hO hW hS hl
  obtain ⟨hx, hb, hr, hts0, hown, hlocks, hml, hK, hN⟩ := hC
  have hts : ∀ w ∈ wA, w.before _ s = true := fun w h => hts0 w (List.mem_cons_of_mem _ h)
  have hA : ∀ q, s.heap.size ≤ q → gA ad co dl s.heap.size q := fun q h => Or.inr h
  obtain ⟨b0, hb0⟩ : ∃ q, ad 16 = q := ⟨_, rfl⟩
  have hl : lv_has ls 2 [(0, .ref b0), (1, .int (nI a))] := by rw [← hb0]; exact hl
  have hown : s.vm.findClass R_F = some mm.cls := hown
  refine lv_aload_n hx hb d_F_init_0 rfl (lv_at hl 0 rfl) ?_
  refine W.objInit hx hb hown (hts _ q_86) (hts _ q_18) (hts _ qo_code) rfl (by rw [hml]; exact hl.1) rfl d_F_init_1 (Nat.le_of_ble_eq_true rfl) (Nat.le_of_ble_eq_true rfl) ?_
  refine W.eq (g2 := F0 mm 4 ls []) rfl ?_
  refine lv_aload_n hx hb d_F_init_4 rfl (lv_at hl 0 rfl) ?_
  refine lv_sipush (v := nI 200) hx hb d_F_init_5 (by decide) ?_
  refine g_newI hx hb (hts _ q_61) hK hW hS hA (i := 17) (N := 200) (hfr _ (by omega) (by omega)) (by decide) (by show _ ≤ 205; omega) (by show _ ≤ 2836; omega) d_F_init_8 (fun q17 ad17 co17 H hq17 ga17 gc17 gn17 hW hS => ?_)
  have r1 : co17 16 = .inr (2, [.null, .int (nI 0), .int (nI 0), .null, .null, .null, .null]) := ((gc17 16 (by decide)).trans hr0)
  have a1 := ((ga17 16 (by decide)).trans hb0)
  have m1 : 16 ∈ (dl ++ [17]) := (mem1.mpr (Or.inl hrv))
  refine g_putFR (ty := .array .int) (v := .ref q17) (C := R_F) (T := F_F) (N := 7) hx hb hts i_F fy_F fy_F_ok fn_F hown hK hW hS (i := 16) a1 m1 r1 rfl 0 (by decide) (hts _ q_88) (fun _ h9 => h9) rfl hin rfl (by decide +kernel) rfl rfl (Nat.le_of_ble_eq_true rfl) d_F_init_10 (fun H locs hW hS => ?_)
  obtain ⟨cp1, hp1, hW⟩ := gW_nm hW
  have r2 : cp1 16 = .inr (2, [.ref q17, .int (nI 0), .int (nI 0), .null, .null, .null, .null]) := ((congrFun hp1 16).trans (va_up_self _ _ _))
  have a2 := a1
  have m2 : 16 ∈ (dl ++ [17]) := m1
  refine lv_aload_n hx hb d_F_init_13 rfl (lv_at hl 0 rfl) ?_
  refine lv_iconst (v := nI 0) hx hb d_F_init_14 (by decide) ?_
  refine g_putR (ty := .int) (v := .int (nI 0)) (C := R_F) (T := F_F) (N := 7) hx hb hts i_F fy_F fy_F_ok fn_F hown hK hW hS (i := 16) a2 m2 r2 rfl 1 (by decide) (hts _ q_91) (fun _ h9 => h9) rfl (by decide +kernel) rfl rfl (Nat.le_of_ble_eq_true rfl) d_F_init_15 (fun H locs hW hS => ?_)
  obtain ⟨cp2, hp2, hW⟩ := gW_nm hW
  have r3 : cp2 16 = .inr (2, [.ref q17, .int (nI 0), .int (nI 0), .null, .null, .null, .null]) := ((congrFun hp2 16).trans (va_up_self _ _ _))
  have a3 := a2
  have m3 : 16 ∈ (dl ++ [17]) := m2
  refine lv_aload_n hx hb d_F_init_18 rfl (lv_at hl 0 rfl) ?_
  refine lv_iload_n hx hb d_F_init_19 rfl (lv_at hl 1 rfl) ?_
  refine g_putFR (ty := .int) (v := .int (nI a)) (C := R_F) (T := F_F) (N := 7) hx hb hts i_F fy_F fy_F_ok fn_F hown hK hW hS (i := 16) a3 m3 r3 rfl 2 (by decide) (hts _ q_94) (fun _ h9 => h9) rfl hin rfl (by decide +kernel) rfl rfl (Nat.le_of_ble_eq_true rfl) d_F_init_20 (fun H locs hW hS => ?_)
  obtain ⟨cp3, hp3, hW⟩ := gW_nm hW
  have r4 : cp3 16 = .inr (2, [.ref q17, .int (nI 0), .int (nI a), .null, .null, .null, .null]) := ((congrFun hp3 16).trans (va_up_self _ _ _))
  have a4 := a3
  have m4 : 16 ∈ (dl ++ [17]) := m3
  refine lv_aload_n hx hb d_F_init_23 rfl (lv_at hl 0 rfl) ?_
  refine lv_sipush (v := nI 200) hx hb d_F_init_24 (by decide) ?_
  refine lv_iload_n hx hb d_F_init_27 rfl (lv_at hl 1 rfl) ?_
  refine g_mna hx hb hown (hts _ q_87) hO (hts _ q_61) hK hW hS hA (i := 18) (B := 200) (N := 200) (K := a) (fun h9 => (mem1.mp h9).elim (hfr _ (by omega) (by omega)) (by omega)) (fun r hr => (fun h9 => (mem1.mp h9).elim (hfr _ (by omega) (by omega)) (by omega))) (by omega) (by omega) (by omega) (by show _ ≤ 205; omega) (by show _ ≤ 2836; omega) d_F_init_28 (fun q18 ad18 co18 H hq18 ga18 gc18 gn18 gr18 hW hS => ?_)
  have r5 : co18 16 = .inr (2, [.ref q17, .int (nI 0), .int (nI a), .null, .null, .null, .null]) := ((gc18 16 (by omega) (by omega)).trans r4)
  have a5 := ((ga18 16 (by omega) (by omega)).trans a4)
  have m5 : 16 ∈ ((dl ++ [17]) ++ 18 :: (List.range 200).map (fun r => 200 + r)) := (memG.mpr (Or.inl m4))
  refine g_putFR (ty := .array (.array .int)) (v := .ref q18) (C := R_F) (T := F_F) (N := 7) hx hb hts i_F fy_F fy_F_ok fn_F hown hK hW hS (i := 16) a5 m5 r5 rfl 3 (by decide) (hts _ q_95) (fun _ h9 => h9) rfl hin rfl (by decide +kernel) rfl rfl (Nat.le_of_ble_eq_true rfl) d_F_init_32 (fun H locs hW hS => ?_)
  obtain ⟨cp4, hp4, hW⟩ := gW_nm hW
  have r6 : cp4 16 = .inr (2, [.ref q17, .int (nI 0), .int (nI a), .ref q18, .null, .null, .null]) := ((congrFun hp4 16).trans (va_up_self _ _ _))
  have a6 := a5
  have m6 : 16 ∈ ((dl ++ [17]) ++ 18 :: (List.range 200).map (fun r => 200 + r)) := m5
  refine lv_aload_n hx hb d_F_init_35 rfl (lv_at hl 0 rfl) ?_
  refine lv_iload_n hx hb d_F_init_36 rfl (lv_at hl 1 rfl) ?_
  refine g_newI hx hb (hts _ q_61) hK hW hS hA (i := 19) (N := a) (fun h9 => (memG.mp h9).elim (fun h9 => (mem1.mp h9).elim (hfr _ (by omega) (by omega)) (by omega)) (by omega)) (by omega) (by show _ ≤ 205; omega) (by show _ ≤ 2836; omega) d_F_init_37 (fun q19 ad19 co19 H hq19 ga19 gc19 gn19 hW hS => ?_)
  have r7 : co19 16 = .inr (2, [.ref q17, .int (nI 0), .int (nI a), .ref q18, .null, .null, .null]) := ((gc19 16 (by decide)).trans r6)
  have a7 := ((ga19 16 (by decide)).trans a6)
  have m7 : 16 ∈ (((dl ++ [17]) ++ 18 :: (List.range 200).map (fun r => 200 + r)) ++ [19]) := (mem1.mpr (Or.inl m6))
  refine g_putFR (ty := .array .int) (v := .ref q19) (C := R_F) (T := F_F) (N := 7) hx hb hts i_F fy_F fy_F_ok fn_F hown hK hW hS (i := 16) a7 m7 r7 rfl 4 (by decide) (hts _ q_96) (fun _ h9 => h9) rfl hin rfl (by decide +kernel) rfl rfl (Nat.le_of_ble_eq_true rfl) d_F_init_39 (fun H locs hW hS => ?_)
  obtain ⟨cp5, hp5, hW⟩ := gW_nm hW
  have r8 : cp5 16 = .inr (2, [.ref q17, .int (nI 0), .int (nI a), .ref q18, .ref q19, .null, .null]) := ((congrFun hp5 16).trans (va_up_self _ _ _))
  have a8 := a7
  have m8 : 16 ∈ (((dl ++ [17]) ++ 18 :: (List.range 200).map (fun r => 200 + r)) ++ [19]) := m7
  refine lv_aload_n hx hb d_F_init_42 rfl (lv_at hl 0 rfl) ?_
  refine lv_iload_n hx hb d_F_init_43 rfl (lv_at hl 1 rfl) ?_
  refine g_newI hx hb (hts _ q_61) hK hW hS hA (i := 20) (N := a) (fun h9 => (mem1.mp h9).elim (fun h9 => (memG.mp h9).elim (fun h9 => (mem1.mp h9).elim (hfr _ (by omega) (by omega)) (by omega)) (by omega)) (by omega)) (by omega) (by show _ ≤ 205; omega) (by show _ ≤ 2836; omega) d_F_init_44 (fun q20 ad20 co20 H hq20 ga20 gc20 gn20 hW hS => ?_)
  have r9 : co20 16 = .inr (2, [.ref q17, .int (nI 0), .int (nI a), .ref q18, .ref q19, .null, .null]) := ((gc20 16 (by decide)).trans r8)
  have a9 := ((ga20 16 (by decide)).trans a8)
  have m9 : 16 ∈ ((((dl ++ [17]) ++ 18 :: (List.range 200).map (fun r => 200 + r)) ++ [19]) ++ [20]) := (mem1.mpr (Or.inl m8))
  refine g_putR (ty := .array .int) (v := .ref q20) (C := R_F) (T := F_F) (N := 7) hx hb hts i_F fy_F fy_F_ok fn_F hown hK hW hS (i := 16) a9 m9 r9 rfl 5 (by decide) (hts _ q_97) (fun _ h9 => h9) rfl (by decide +kernel) rfl rfl (Nat.le_of_ble_eq_true rfl) d_F_init_46 (fun H locs hW hS => ?_)
  obtain ⟨cp6, hp6, hW⟩ := gW_nm hW
  have r10 : cp6 16 = .inr (2, [.ref q17, .int (nI 0), .int (nI a), .ref q18, .ref q19, .ref q20, .null]) := ((congrFun hp6 16).trans (va_up_self _ _ _))
  have a10 := a9
  have m10 : 16 ∈ ((((dl ++ [17]) ++ 18 :: (List.range 200).map (fun r => 200 + r)) ++ [19]) ++ [20]) := m9
  refine lv_aload_n hx hb d_F_init_49 rfl (lv_at hl 0 rfl) ?_
  refine lv_iload_n hx hb d_F_init_50 rfl (lv_at hl 1 rfl) ?_
  refine g_newI hx hb (hts _ q_61) hK hW hS hA (i := 21) (N := a) (fun h9 => (mem1.mp h9).elim (fun h9 => (mem1.mp h9).elim (fun h9 => (memG.mp h9).elim (fun h9 => (mem1.mp h9).elim (hfr _ (by omega) (by omega)) (by omega)) (by omega)) (by omega)) (by omega)) (by omega) (by show _ ≤ 205; omega) (by show _ ≤ 2836; omega) d_F_init_51 (fun q21 ad21 co21 H hq21 ga21 gc21 gn21 hW hS => ?_)
  have r11 : co21 16 = .inr (2, [.ref q17, .int (nI 0), .int (nI a), .ref q18, .ref q19, .ref q20, .null]) := ((gc21 16 (by decide)).trans r10)
  have a11 := ((ga21 16 (by decide)).trans a10)
  have m11 : 16 ∈ (((((dl ++ [17]) ++ 18 :: (List.range 200).map (fun r => 200 + r)) ++ [19]) ++ [20]) ++ [21]) := (mem1.mpr (Or.inl m10))
  refine g_putR (ty := .array .int) (v := .ref q21) (C := R_F) (T := F_F) (N := 7) hx hb hts i_F fy_F fy_F_ok fn_F hown hK hW hS (i := 16) a11 m11 r11 rfl 6 (by decide) (hts _ q_98) (fun _ h9 => h9) rfl (by decide +kernel) rfl rfl (Nat.le_of_ble_eq_true rfl) d_F_init_53 (fun H locs hW hS => ?_)
  obtain ⟨cp7, hp7, hW⟩ := gW_nm hW
  have r12 : cp7 16 = .inr (2, [.ref q17, .int (nI 0), .int (nI a), .ref q18, .ref q19, .ref q20, .ref q21]) := ((congrFun hp7 16).trans (va_up_self _ _ _))
  have a12 := a11
  have m12 : 16 ∈ (((((dl ++ [17]) ++ 18 :: (List.range 200).map (fun r => 200 + r)) ++ [19]) ++ [20]) ++ [21]) := m11
  have e17 : ad21 17 = q17 := ((ga21 17 (by decide)).trans ((ga20 17 (by decide)).trans ((ga19 17 (by decide)).trans ((ga18 17 (by omega) (by omega)).trans hq17))))
  have e18 : ad21 18 = q18 := ((ga21 18 (by decide)).trans ((ga20 18 (by decide)).trans ((ga19 18 (by decide)).trans hq18)))
  have e19 : ad21 19 = q19 := ((ga21 19 (by decide)).trans ((ga20 19 (by decide)).trans hq19))
  have e20 : ad21 20 = q20 := ((ga21 20 (by decide)).trans hq20)
  have e21 : ad21 21 = q21 := hq21
  refine W.widen (k := 205) (n := 2836) (by omega) (by omega) ?_
  refine g_nret (post := fun ad' co' => (∀ j, ¬ (16 ≤ j ∧ j < 22) → ¬ (200 ≤ j ∧ j < 400) → ad' j = ad j ∧ co' j = co j) ∧ ad' 16 = ad 16 ∧ co' 16 = oF ad' 0 a 20 21 ∧ co' 17 = .inl (cI, 200, .inl (fun _ => nI 0)) ∧ co' 18 = oG ad' cG 200 200 ∧ co' 19 = .inl (cI, a, .inl (fun _ => nI 0)) ∧ co' 20 = .inl (cI, a, .inl (fun _ => nI 0)) ∧ co' 21 = .inl (cI, a, .inl (fun _ => nI 0)) ∧ ∀ r, r < 200 → co' (200 + r) = .inl (cI, a, .inl (fun _ => nI 0))) hx hb hr hlocks hW hS ⟨fun j hj hj2 => ⟨((ga21 j (by omega)).trans ((ga20 j (by omega)).trans ((ga19 j (by omega)).trans ((ga18 j (by omega) (by omega)).trans ((ga17 j (by omega)).trans rfl))))), ((congrFun hp7 j).trans ((va_up_ne _ _ (by omega)).trans ((gc21 j (by omega)).trans ((congrFun hp6 j).trans ((va_up_ne _ _ (by omega)).trans ((gc20 j (by omega)).trans ((congrFun hp5 j).trans ((va_up_ne _ _ (by omega)).trans ((gc19 j (by omega)).trans ((congrFun hp4 j).trans ((va_up_ne _ _ (by omega)).trans ((gc18 j (by omega) (by omega)).trans ((congrFun hp3 j).trans ((va_up_ne _ _ (by omega)).trans ((congrFun hp2 j).trans ((va_up_ne _ _ (by omega)).trans ((congrFun hp1 j).trans ((va_up_ne _ _ (by omega)).trans ((gc17 j (by omega)).trans rfl)))))))))))))))))))⟩, a12.trans hb0.symm, ?_, ((congrFun hp7 17).trans ((va_up_ne _ _ (by decide)).trans ((gc21 17 (by decide)).trans ((congrFun hp6 17).trans ((va_up_ne _ _ (by decide)).trans ((gc20 17 (by decide)).trans ((congrFun hp5 17).trans ((va_up_ne _ _ (by decide)).trans ((gc19 17 (by decide)).trans ((congrFun hp4 17).trans ((va_up_ne _ _ (by decide)).trans ((gc18 17 (by omega) (by omega)).trans ((congrFun hp3 17).trans ((va_up_ne _ _ (by decide)).trans ((congrFun hp2 17).trans ((va_up_ne _ _ (by decide)).trans ((congrFun hp1 17).trans ((va_up_ne _ _ (by decide)).trans gn17)))))))))))))))))), ((congrFun hp7 18).trans ((va_up_ne _ _ (by decide)).trans ((gc21 18 (by decide)).trans ((congrFun hp6 18).trans ((va_up_ne _ _ (by decide)).trans ((gc20 18 (by decide)).trans ((congrFun hp5 18).trans ((va_up_ne _ _ (by decide)).trans ((gc19 18 (by decide)).trans ((congrFun hp4 18).trans ((va_up_ne _ _ (by decide)).trans gn18))))))))))).trans (oG_eq (fun i hi => ((ga21 (200 + i) (by omega)).trans ((ga20 (200 + i) (by omega)).trans ((ga19 (200 + i) (by omega)).trans rfl))))), ((congrFun hp7 19).trans ((va_up_ne _ _ (by decide)).trans ((gc21 19 (by decide)).trans ((congrFun hp6 19).trans ((va_up_ne _ _ (by decide)).trans ((gc20 19 (by decide)).trans ((congrFun hp5 19).trans ((va_up_ne _ _ (by decide)).trans gn19)))))))), ((congrFun hp7 20).trans ((va_up_ne _ _ (by decide)).trans ((gc21 20 (by decide)).trans ((congrFun hp6 20).trans ((va_up_ne _ _ (by decide)).trans gn20))))), ((congrFun hp7 21).trans ((va_up_ne _ _ (by decide)).trans gn21)), fun r hr => ((congrFun hp7 (200 + r)).trans ((va_up_ne _ _ (by omega)).trans ((gc21 (200 + r) (by omega)).trans ((congrFun hp6 (200 + r)).trans ((va_up_ne _ _ (by omega)).trans ((gc20 (200 + r) (by omega)).trans ((congrFun hp5 (200 + r)).trans ((va_up_ne _ _ (by omega)).trans ((gc19 (200 + r) (by omega)).trans ((congrFun hp4 (200 + r)).trans ((va_up_ne _ _ (by omega)).trans (gr18 r hr))))))))))))⟩ d_F_init_56
  rw [r12, ← e17, ← e18, ← e19, ← e20, ← e21]
