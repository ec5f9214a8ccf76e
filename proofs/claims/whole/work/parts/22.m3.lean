set_option maxHeartbeats 4000000 in
set_option maxRecDepth 100000 in
/-- move -/
theorem c_M_move (l : Launch) {D : va_G} {cI cJ cG : ClassId} {ad : Nat → Nat} {co : Nat → va_E} {dl : List Nat} {a rw sh pg ce mg kn cs sm : Nat} (hdl : ∀ i, 400 ≤ i → i < 427 → i ∈ dl) (h400 : co 400 = mO ad a rw sh pg ce mg kn cs sm) {mv : Nat → Int32} (h401 : co 401 = .inl (cI, 144, .inl mv)) (x y c : Int32) (ha : a ≤ 12) : gMi l y_M_move (Cond.code y_M_move b_M_move 4 (some .boolean) :: wA) ({ frames := 1, cells := 0, slots := 0, locals := 21 }) D gCl (gTy cI cJ cG) gNl [.ref (ad 400), .int x, .int y, .int c] ad co dl (fun r co' => r = bI (okMove a x y c) ∧ co' = if okMove a x y c then va_up co 401 (.inl (cI, 144, .inl (upd mv (12 * x.toNatClampNeg + y.toNatClampNeg) c))) else co) := by
  refine gMi_of (cc := b_M_move) (maxL := 4) (ret := some .boolean) (by decide) rfl (Nat.le_of_ble_eq_true rfl) ?_
  intro pp ee s mm below meth cd ls hC hW hS hl
  obtain ⟨hx, hb, hr, hts0, hown, hlocks, hml, hK, hN⟩ := hC
  have hts : ∀ w ∈ wA, w.before _ s = true := fun w h => hts0 w (List.mem_cons_of_mem _ h)
  have hA : ∀ q, s.heap.size ≤ q → gA ad co dl s.heap.size q := fun q h => Or.inr h
  have hl : lv_has ls 4 [(0, .ref (ad 400)), (1, .int x), (2, .int y), (3, .int c)] := hl
  have hown : s.vm.findClass R_M = some mm.cls := hown
  refine lv_aload_n hx hb d_M_move_0 rfl (lv_at hl 0 rfl) ?_
  refine lv_iload_n hx hb d_M_move_1 rfl (lv_at hl 1 rfl) ?_
  refine g_cVi (As := [.int x]) (rest := []) ⟨hx, hb, hml, hown, hts⟩ (c_M_isAct l hdl h400 x (by omega)) (gcwV 1 hts q_601 q_598 q_600 qs_8 q_9 (by decide +kernel) ⟨(Nat.le_of_ble_eq_true rfl), (Nat.le_of_ble_eq_true rfl)⟩) gNl_ok hN hK hW hS hA (hdl 400 (by decide) (by decide)) h400 rfl rfl hl.1 rfl (Nat.le_of_ble_eq_true rfl) d_M_move_2 ⟨Nat.zero_le _, Nat.zero_le _⟩ (fun r co9 H locs hp9 hW hS => ?_)
  obtain ⟨rfl, hco9⟩ := hp9
  rw [hco9] at hW
  refine n_ifz_eq (tgt := 27) hx hb d_M_move_5 (by decide) (fun g1 => ?_) (fun g1 => ?_)
  · refine lv_iconst (v := nI 0) hx hb d_M_move_27 (by decide) ?_
    exact g_zret hx hb hr (by rfl) hlocks hW hS (⟨bI_0 (by simp [okMove, g1]), (if_neg (by simp [okMove, g1])).symm⟩) d_M_move_28
  · refine lv_aload_n hx hb d_M_move_8 rfl (lv_at hl 0 rfl) ?_
    refine lv_iload_n hx hb d_M_move_9 rfl (lv_at hl 2 rfl) ?_
    refine g_cVi (As := [.int y]) (rest := []) ⟨hx, hb, hml, hown, hts⟩ (c_M_isAct l hdl h400 y (by omega)) (gcwV 1 hts q_601 q_598 q_600 qs_8 q_9 (by decide +kernel) ⟨(Nat.le_of_ble_eq_true rfl), (Nat.le_of_ble_eq_true rfl)⟩) gNl_ok hN hK hW hS hA (hdl 400 (by decide) (by decide)) h400 rfl rfl hl.1 rfl (Nat.le_of_ble_eq_true rfl) d_M_move_10 ⟨Nat.zero_le _, Nat.zero_le _⟩ (fun r co9 H locs hp9 hW hS => ?_)
    obtain ⟨rfl, hco9⟩ := hp9
    rw [hco9] at hW
    refine n_ifz_eq (tgt := 27) hx hb d_M_move_13 (by decide) (fun g2 => ?_) (fun g2 => ?_)
    · refine lv_iconst (v := nI 0) hx hb d_M_move_27 (by decide) ?_
      exact g_zret hx hb hr (by rfl) hlocks hW hS (⟨bI_0 (by simp [okMove, g2]), (if_neg (by simp [okMove, g2])).symm⟩) d_M_move_28
    · obtain ⟨i, hi, rfl⟩ := inB_of (by omega) g1
      obtain ⟨j, hj, rfl⟩ := inB_of (by omega) g2
      refine lv_iload_n hx hb d_M_move_16 rfl (lv_at hl 3 rfl) ?_
      refine lv_if_lt (tgt := 27) hx hb d_M_move_17 (by decide) (fun g3 => ?_) (fun g3 => ?_)
      · refine lv_iconst (v := nI 0) hx hb d_M_move_27 (by decide) ?_
        exact g_zret hx hb hr (by rfl) hlocks hW hS (⟨bI_0 (by simp [okMove, inB_neg g3]), (if_neg (by simp [okMove, inB_neg g3])).symm⟩) d_M_move_28
      · obtain ⟨k, hkp, rfl⟩ := nI_of g3
        refine lv_iload_n hx hb d_M_move_20 rfl (lv_at hl 3 rfl) ?_
        refine lv_sipush (v := nI 10000) hx hb d_M_move_21 (by decide) ?_
        refine n_icmp_le (tgt := 29) hx hb (by omega) (by omega) d_M_move_24 (by decide) (fun hk => ?_) (fun hk => ?_)
        · have g9 : okMove a (nI i) (nI j) (nI k) = true := by simp [okMove, g1, g2, inB_lt (n := 10001) (show k < 10001 by omega) (by decide)]
          refine lv_aload_n hx hb d_M_move_29 rfl (lv_at hl 0 rfl) ?_
          refine g_get (C := R_M) (T := F_M) (N := 35) hx hb hts i_M hown hK hW (i := 400) (hdl 400 (by decide) (by decide)) h400 rfl 1 (by decide) (hts _ q_489) (fun _ h9 => h9) rfl d_M_move_30 ?_
          refine lv_bipush (v := nI 12) hx hb d_M_move_33 (by decide) ?_
          refine lv_iload_n hx hb d_M_move_35 rfl (lv_at hl 1 rfl) ?_
          refine n_mul hx hb d_M_move_36 ?_
          refine lv_iload_n hx hb d_M_move_37 rfl (lv_at hl 2 rfl) ?_
          refine n_add hx hb d_M_move_38 ?_
          refine lv_iload_n hx hb d_M_move_39 rfl (lv_at hl 3 rfl) ?_
          refine n_iast (x := nI k) hx hb hK hW hS 0 (q := 401) (hdl 401 (by decide) (by decide)) h401 rfl (j := (12 * i) + j) (by omega) (by omega) d_M_move_40 (fun H locs hW hS => ?_)
          refine lv_iconst (v := nI 1) hx hb d_M_move_41 (by decide) ?_
          exact g_zret hx hb hr (by rfl) hlocks hW hS (⟨bI_1 g9, by rw [if_pos g9, nI_clamp (show i < 2 ^ 31 by omega), nI_clamp (show j < 2 ^ 31 by omega)]⟩) d_M_move_42
        · refine lv_iconst (v := nI 0) hx hb d_M_move_27 (by decide) ?_
          exact g_zret hx hb hr (by rfl) hlocks hW hS (⟨bI_0 (by simp [okMove, inB_ge hkp (show 10001 ≤ k by omega)]), (if_neg (by simp [okMove, inB_ge hkp (show 10001 ≤ k by omega)])).symm⟩) d_M_move_28
set_option maxHeartbeats 4000000 in
set_option maxRecDepth 100000 in
/-- speed -/
theorem c_M_speed (l : Launch) {D : va_G} {cI cJ cG : ClassId} {ad : Nat → Nat} {co : Nat → va_E} {dl : List Nat} {a rw sh pg ce mg kn cs sm : Nat} (hdl : ∀ i, 400 ≤ i → i < 427 → i ∈ dl) (h400 : co 400 = mO ad a rw sh pg ce mg kn cs sm) {sp : Nat → Int32} (h402 : co 402 = .inl (cI, 120, .inl sp)) (x y c : Int32) (ha : a ≤ 12) : gMi l y_M_speed (Cond.code y_M_speed b_M_speed 4 (some .boolean) :: wA) ({ frames := 1, cells := 0, slots := 0, locals := 21 }) D gCl (gTy cI cJ cG) gNl [.ref (ad 400), .int x, .int y, .int c] ad co dl (fun r co' => r = bI (okSpeed a x y c) ∧ co' = if okSpeed a x y c then va_up co 402 (.inl (cI, 120, .inl (upd sp (10 * x.toNatClampNeg + y.toNatClampNeg) c))) else co) := by
  refine gMi_of (cc := b_M_speed) (maxL := 4) (ret := some .boolean) (by decide) rfl (Nat.le_of_ble_eq_true rfl) ?_
  intro pp ee s mm below meth cd ls hC hW hS hl
  obtain ⟨hx, hb, hr, hts0, hown, hlocks, hml, hK, hN⟩ := hC
  have hts : ∀ w ∈ wA, w.before _ s = true := fun w h => hts0 w (List.mem_cons_of_mem _ h)
  have hA : ∀ q, s.heap.size ≤ q → gA ad co dl s.heap.size q := fun q h => Or.inr h
  have hl : lv_has ls 4 [(0, .ref (ad 400)), (1, .int x), (2, .int y), (3, .int c)] := hl
  have hown : s.vm.findClass R_M = some mm.cls := hown
  refine lv_aload_n hx hb d_M_speed_0 rfl (lv_at hl 0 rfl) ?_
  refine lv_iload_n hx hb d_M_speed_1 rfl (lv_at hl 1 rfl) ?_
  refine g_cVi (As := [.int x]) (rest := []) ⟨hx, hb, hml, hown, hts⟩ (c_M_isAct l hdl h400 x (by omega)) (gcwV 1 hts q_601 q_598 q_600 qs_8 q_9 (by decide +kernel) ⟨(Nat.le_of_ble_eq_true rfl), (Nat.le_of_ble_eq_true rfl)⟩) gNl_ok hN hK hW hS hA (hdl 400 (by decide) (by decide)) h400 rfl rfl hl.1 rfl (Nat.le_of_ble_eq_true rfl) d_M_speed_2 ⟨Nat.zero_le _, Nat.zero_le _⟩ (fun r co9 H locs hp9 hW hS => ?_)
  obtain ⟨rfl, hco9⟩ := hp9
  rw [hco9] at hW
  refine n_ifz_eq (tgt := 29) hx hb d_M_speed_5 (by decide) (fun g1 => ?_) (fun g1 => ?_)
  · refine lv_iconst (v := nI 0) hx hb d_M_speed_29 (by decide) ?_
    exact g_zret hx hb hr (by rfl) hlocks hW hS (⟨bI_0 (by simp [okSpeed, g1]), (if_neg (by simp [okSpeed, g1])).symm⟩) d_M_speed_30
  · refine lv_iload_n hx hb d_M_speed_8 rfl (lv_at hl 2 rfl) ?_
    refine lv_if_lt (tgt := 29) hx hb d_M_speed_9 (by decide) (fun g2 => ?_) (fun g2 => ?_)
    · refine lv_iconst (v := nI 0) hx hb d_M_speed_29 (by decide) ?_
      exact g_zret hx hb hr (by rfl) hlocks hW hS (⟨bI_0 (by simp [okSpeed, inB_neg g2]), (if_neg (by simp [okSpeed, inB_neg g2])).symm⟩) d_M_speed_30
    · obtain ⟨j, hjp, rfl⟩ := nI_of g2
      refine lv_iload_n hx hb d_M_speed_12 rfl (lv_at hl 2 rfl) ?_
      refine lv_bipush (v := nI 9) hx hb d_M_speed_13 (by decide) ?_
      refine n_icmp_gt (tgt := 29) hx hb (by omega) (by omega) d_M_speed_15 (by decide) (fun hj => ?_) (fun hj => ?_)
      · refine lv_iconst (v := nI 0) hx hb d_M_speed_29 (by decide) ?_
        exact g_zret hx hb hr (by rfl) hlocks hW hS (⟨bI_0 (by simp [okSpeed, inB_ge hjp (show 10 ≤ j by omega)]), (if_neg (by simp [okSpeed, inB_ge hjp (show 10 ≤ j by omega)])).symm⟩) d_M_speed_30
      · obtain ⟨i, hi, rfl⟩ := inB_of (by omega) g1
        refine lv_iload_n hx hb d_M_speed_18 rfl (lv_at hl 3 rfl) ?_
        refine lv_if_lt (tgt := 29) hx hb d_M_speed_19 (by decide) (fun g3 => ?_) (fun g3 => ?_)
        · refine lv_iconst (v := nI 0) hx hb d_M_speed_29 (by decide) ?_
          exact g_zret hx hb hr (by rfl) hlocks hW hS (⟨bI_0 (by simp [okSpeed, inB_neg g3]), (if_neg (by simp [okSpeed, inB_neg g3])).symm⟩) d_M_speed_30
        · obtain ⟨k, hkp, rfl⟩ := nI_of g3
          refine lv_iload_n hx hb d_M_speed_22 rfl (lv_at hl 3 rfl) ?_
          refine lv_sipush (v := nI 10000) hx hb d_M_speed_23 (by decide) ?_
          refine n_icmp_le (tgt := 31) hx hb (by omega) (by omega) d_M_speed_26 (by decide) (fun hk => ?_) (fun hk => ?_)
          · have g9 : okSpeed a (nI i) (nI j) (nI k) = true := by simp [okSpeed, g1, inB_lt (n := 10) (show j < 10 by omega) (by decide), inB_lt (n := 10001) (show k < 10001 by omega) (by decide)]
            refine lv_aload_n hx hb d_M_speed_31 rfl (lv_at hl 0 rfl) ?_
            refine g_get (C := R_M) (T := F_M) (N := 35) hx hb hts i_M hown hK hW (i := 400) (hdl 400 (by decide) (by decide)) h400 rfl 2 (by decide) (hts _ q_490) (fun _ h9 => h9) rfl d_M_speed_32 ?_
            refine lv_bipush (v := nI 10) hx hb d_M_speed_35 (by decide) ?_
            refine lv_iload_n hx hb d_M_speed_37 rfl (lv_at hl 1 rfl) ?_
            refine n_mul hx hb d_M_speed_38 ?_
            refine lv_iload_n hx hb d_M_speed_39 rfl (lv_at hl 2 rfl) ?_
            refine n_add hx hb d_M_speed_40 ?_
            refine lv_iload_n hx hb d_M_speed_41 rfl (lv_at hl 3 rfl) ?_
            refine n_iast (x := nI k) hx hb hK hW hS 0 (q := 402) (hdl 402 (by decide) (by decide)) h402 rfl (j := (10 * i) + j) (by omega) (by omega) d_M_speed_42 (fun H locs hW hS => ?_)
            refine lv_iconst (v := nI 1) hx hb d_M_speed_43 (by decide) ?_
            exact g_zret hx hb hr (by rfl) hlocks hW hS (⟨bI_1 g9, by rw [if_pos g9, nI_clamp (show i < 2 ^ 31 by omega), nI_clamp (show j < 2 ^ 31 by omega)]⟩) d_M_speed_44
          · refine lv_iconst (v := nI 0) hx hb d_M_speed_29 (by decide) ?_
            exact g_zret hx hb hr (by rfl) hlocks hW hS (⟨bI_0 (by simp [okSpeed, inB_ge hkp (show 10001 ≤ k by omega)]), (if_neg (by simp [okSpeed, inB_ge hkp (show 10001 ≤ k by omega)])).symm⟩) d_M_speed_30
set_option maxHeartbeats 4000000 in
set_option maxRecDepth 100000 in
/-- ship -/
theorem c_M_ship (l : Launch) {D : va_G} {cI cJ cG : ClassId} {ad : Nat → Nat} {co : Nat → va_E} {dl : List Nat} {a rw sh pg ce mg kn cs sm : Nat} (hdl : ∀ i, 400 ≤ i → i < 427 → i ∈ dl) (h400 : co 400 = mO ad a rw sh pg ce mg kn cs sm)   (x : Int32) : gMi l y_M_ship (Cond.code y_M_ship b_M_ship 2 (some .boolean) :: wA) ({ frames := 0, cells := 0, slots := 0, locals := 0 }) D gCl (gTy cI cJ cG) gNl [.ref (ad 400), .int x] ad co dl (fun r co' => r = bI (inB x 10) ∧ co' = if inB x 10 then va_up co 400 (mO ad a rw (x.toNatClampNeg) pg ce mg kn cs sm) else co) := by
  refine gMi_of (cc := b_M_ship) (maxL := 2) (ret := some .boolean) (by decide) rfl (Nat.le_of_ble_eq_true rfl) ?_
  intro pp ee s mm below meth cd ls hC hW hS hl
  obtain ⟨hx, hb, hr, hts0, hown, hlocks, hml, hK, hN⟩ := hC
  have hts : ∀ w ∈ wA, w.before _ s = true := fun w h => hts0 w (List.mem_cons_of_mem _ h)
  have hA : ∀ q, s.heap.size ≤ q → gA ad co dl s.heap.size q := fun q h => Or.inr h
  have hl : lv_has ls 2 [(0, .ref (ad 400)), (1, .int x)] := hl
  have hown : s.vm.findClass R_M = some mm.cls := hown
  refine lv_iload_n hx hb d_M_ship_0 rfl (lv_at hl 1 rfl) ?_
  refine lv_if_lt (tgt := 10) hx hb d_M_ship_1 (by decide) (fun g1 => ?_) (fun g1 => ?_)
  · refine lv_iconst (v := nI 0) hx hb d_M_ship_10 (by decide) ?_
    exact g_zret hx hb hr (by rfl) hlocks hW hS (⟨bI_0 (inB_neg g1), (if_neg (by simp [inB_neg g1])).symm⟩) d_M_ship_11
  · obtain ⟨j, hjp, rfl⟩ := nI_of g1
    refine lv_iload_n hx hb d_M_ship_4 rfl (lv_at hl 1 rfl) ?_
    refine lv_bipush (v := nI 9) hx hb d_M_ship_5 (by decide) ?_
    refine n_icmp_le (tgt := 12) hx hb (by omega) (by omega) d_M_ship_7 (by decide) (fun hj => ?_) (fun hj => ?_)
    · have g9 : inB (nI j) 10 = true := inB_lt (by omega) (by decide)
      refine lv_aload_n hx hb d_M_ship_12 rfl (lv_at hl 0 rfl) ?_
      refine lv_iload_n hx hb d_M_ship_13 rfl (lv_at hl 1 rfl) ?_
      refine g_put (ty := .int) (v := .int (nI j)) (C := R_M) (T := F_M) (N := 35) hx hb hts i_M fy_M fy_M_ok fn_M hown hK hW hS (i := 400) (hdl 400 (by decide) (by decide)) h400 rfl 11 (by decide) (hts _ q_499) (fun _ h9 => h9) rfl (by decide +kernel) rfl rfl (Nat.le_of_ble_eq_true rfl) d_M_ship_14 (fun H locs hW hS => ?_)
      refine lv_iconst (v := nI 1) hx hb d_M_ship_17 (by decide) ?_
      exact g_zret hx hb hr (by rfl) hlocks hW hS (⟨bI_1 g9, by rw [if_pos g9, nI_clamp hjp]; rfl⟩) d_M_ship_18
    · refine lv_iconst (v := nI 0) hx hb d_M_ship_10 (by decide) ?_
      exact g_zret hx hb hr (by rfl) hlocks hW hS (⟨bI_0 (inB_ge hjp (show 10 ≤ j by omega)), (if_neg (by simp [inB_ge hjp (show 10 ≤ j by omega)])).symm⟩) d_M_ship_11
set_option maxHeartbeats 4000000 in
set_option maxRecDepth 100000 in
/-- margin -/
theorem c_M_margin (l : Launch) {D : va_G} {cI cJ cG : ClassId} {ad : Nat → Nat} {co : Nat → va_E} {dl : List Nat} {a rw sh pg ce mg kn cs sm : Nat} (hdl : ∀ i, 400 ≤ i → i < 427 → i ∈ dl) (h400 : co 400 = mO ad a rw sh pg ce mg kn cs sm)   (x : Int32) : gMi l y_M_margin (Cond.code y_M_margin b_M_margin 2 (some .boolean) :: wA) ({ frames := 0, cells := 0, slots := 0, locals := 0 }) D gCl (gTy cI cJ cG) gNl [.ref (ad 400), .int x] ad co dl (fun r co' => r = bI (inB x 100001) ∧ co' = if inB x 100001 then va_up co 400 (mO ad a rw sh pg ce (x.toNatClampNeg) kn cs sm) else co) := by
  refine gMi_of (cc := b_M_margin) (maxL := 2) (ret := some .boolean) (by decide) rfl (Nat.le_of_ble_eq_true rfl) ?_
  intro pp ee s mm below meth cd ls hC hW hS hl
  obtain ⟨hx, hb, hr, hts0, hown, hlocks, hml, hK, hN⟩ := hC
  have hts : ∀ w ∈ wA, w.before _ s = true := fun w h => hts0 w (List.mem_cons_of_mem _ h)
  have hA : ∀ q, s.heap.size ≤ q → gA ad co dl s.heap.size q := fun q h => Or.inr h
  have hl : lv_has ls 2 [(0, .ref (ad 400)), (1, .int x)] := hl
  have hown : s.vm.findClass R_M = some mm.cls := hown
  refine lv_iload_n hx hb d_M_margin_0 rfl (lv_at hl 1 rfl) ?_
  refine lv_if_lt (tgt := 10) hx hb d_M_margin_1 (by decide) (fun g1 => ?_) (fun g1 => ?_)
  · refine lv_iconst (v := nI 0) hx hb d_M_margin_10 (by decide) ?_
    exact g_zret hx hb hr (by rfl) hlocks hW hS (⟨bI_0 (inB_neg g1), (if_neg (by simp [inB_neg g1])).symm⟩) d_M_margin_11
  · obtain ⟨j, hjp, rfl⟩ := nI_of g1
    refine lv_iload_n hx hb d_M_margin_4 rfl (lv_at hl 1 rfl) ?_
    refine lv_ldc hx hb hown (hts _ q_626) d_M_margin_5 ?_
    refine n_topi (show (100000 : Int32) = nI 100000 by decide) ?_
    refine n_icmp_le (tgt := 12) hx hb (by omega) (by omega) d_M_margin_7 (by decide) (fun hj => ?_) (fun hj => ?_)
    · have g9 : inB (nI j) 100001 = true := inB_lt (by omega) (by decide)
      refine lv_aload_n hx hb d_M_margin_12 rfl (lv_at hl 0 rfl) ?_
      refine lv_iload_n hx hb d_M_margin_13 rfl (lv_at hl 1 rfl) ?_
      refine g_put (ty := .int) (v := .int (nI j)) (C := R_M) (T := F_M) (N := 35) hx hb hts i_M fy_M fy_M_ok fn_M hown hK hW hS (i := 400) (hdl 400 (by decide) (by decide)) h400 rfl 21 (by decide) (hts _ q_509) (fun _ h9 => h9) rfl (by decide +kernel) rfl rfl (Nat.le_of_ble_eq_true rfl) d_M_margin_14 (fun H locs hW hS => ?_)
      refine lv_iconst (v := nI 1) hx hb d_M_margin_17 (by decide) ?_
      exact g_zret hx hb hr (by rfl) hlocks hW hS (⟨bI_1 g9, by rw [if_pos g9, nI_clamp hjp]; rfl⟩) d_M_margin_18
    · refine lv_iconst (v := nI 0) hx hb d_M_margin_10 (by decide) ?_
      exact g_zret hx hb hr (by rfl) hlocks hW hS (⟨bI_0 (inB_ge hjp (show 100001 ≤ j by omega)), (if_neg (by simp [inB_ge hjp (show 100001 ≤ j by omega)])).symm⟩) d_M_margin_11
set_option maxHeartbeats 4000000 in
set_option maxRecDepth 100000 in
/-- truth -/
theorem c_M_truth (l : Launch) {D : va_G} {cI cJ cG : ClassId} {ad : Nat → Nat} {co : Nat → va_E} {dl : List Nat} {a rw sh pg ce mg kn cs sm : Nat} (hdl : ∀ i, 400 ≤ i → i < 427 → i ∈ dl) (h400 : co 400 = mO ad a rw sh pg ce mg kn cs sm) {tr : Nat → Int32} (h409 : co 409 = .inl (cI, 200, .inl tr)) (x y : Int32) (ha : a ≤ 12) (hn : rw ≤ 200) : gMi l y_M_truth (Cond.code y_M_truth b_M_truth 3 (some .boolean) :: wA) ({ frames := 1, cells := 0, slots := 0, locals := 21 }) D gCl (gTy cI cJ cG) gNl [.ref (ad 400), .int x, .int y] ad co dl (fun r co' => r = bI (okTruth rw a x y) ∧ co' = if okTruth rw a x y then va_up co 409 (.inl (cI, 200, .inl (upd tr x.toNatClampNeg y))) else co) := by
  refine gMi_of (cc := b_M_truth) (maxL := 3) (ret := some .boolean) (by decide) rfl (Nat.le_of_ble_eq_true rfl) ?_
  intro pp ee s mm below meth cd ls hC hW hS hl
  obtain ⟨hx, hb, hr, hts0, hown, hlocks, hml, hK, hN⟩ := hC
  have hts : ∀ w ∈ wA, w.before _ s = true := fun w h => hts0 w (List.mem_cons_of_mem _ h)
  have hA : ∀ q, s.heap.size ≤ q → gA ad co dl s.heap.size q := fun q h => Or.inr h
  have hl : lv_has ls 3 [(0, .ref (ad 400)), (1, .int x), (2, .int y)] := hl
  have hown : s.vm.findClass R_M = some mm.cls := hown
  refine lv_aload_n hx hb d_M_truth_0 rfl (lv_at hl 0 rfl) ?_
  refine lv_iload_n hx hb d_M_truth_1 rfl (lv_at hl 1 rfl) ?_
  refine g_cVi (As := [.int x]) (rest := []) ⟨hx, hb, hml, hown, hts⟩ (c_M_isRow l hdl h400 x (by omega)) (gcwV 1 hts q_621 q_618 q_620 qs_9 q_9 (by decide +kernel) ⟨(Nat.le_of_ble_eq_true rfl), (Nat.le_of_ble_eq_true rfl)⟩) gNl_ok hN hK hW hS hA (hdl 400 (by decide) (by decide)) h400 rfl rfl hl.1 rfl (Nat.le_of_ble_eq_true rfl) d_M_truth_2 ⟨Nat.zero_le _, Nat.zero_le _⟩ (fun r co9 H locs hp9 hW hS => ?_)
  obtain ⟨rfl, hco9⟩ := hp9
  rw [hco9] at hW
  refine n_ifz_eq (tgt := 16) hx hb d_M_truth_5 (by decide) (fun g1 => ?_) (fun g1 => ?_)
  · refine lv_iconst (v := nI 0) hx hb d_M_truth_16 (by decide) ?_
    exact g_zret hx hb hr (by rfl) hlocks hW hS (⟨bI_0 (by simp [okTruth, g1]), (if_neg (by simp [okTruth, g1])).symm⟩) d_M_truth_17
  · refine lv_aload_n hx hb d_M_truth_8 rfl (lv_at hl 0 rfl) ?_
    refine lv_iload_n hx hb d_M_truth_9 rfl (lv_at hl 2 rfl) ?_
    refine g_cVi (As := [.int y]) (rest := []) ⟨hx, hb, hml, hown, hts⟩ (c_M_isAct l hdl h400 y (by omega)) (gcwV 1 hts q_601 q_598 q_600 qs_8 q_9 (by decide +kernel) ⟨(Nat.le_of_ble_eq_true rfl), (Nat.le_of_ble_eq_true rfl)⟩) gNl_ok hN hK hW hS hA (hdl 400 (by decide) (by decide)) h400 rfl rfl hl.1 rfl (Nat.le_of_ble_eq_true rfl) d_M_truth_10 ⟨Nat.zero_le _, Nat.zero_le _⟩ (fun r co9 H locs hp9 hW hS => ?_)
    obtain ⟨rfl, hco9⟩ := hp9
    rw [hco9] at hW
    refine n_ifz_ne (tgt := 18) hx hb d_M_truth_13 (by decide) (fun g2 => ?_) (fun g2 => ?_)
    · obtain ⟨i, hi, rfl⟩ := inB_of (by omega) g1
      obtain ⟨j, hj, rfl⟩ := inB_of (by omega) g2
      have g9 : okTruth rw a (nI i) (nI j) = true := by simp [okTruth, g1, g2]
      refine lv_aload_n hx hb d_M_truth_18 rfl (lv_at hl 0 rfl) ?_
      refine g_get (C := R_M) (T := F_M) (N := 35) hx hb hts i_M hown hK hW (i := 400) (hdl 400 (by decide) (by decide)) h400 rfl 10 (by decide) (hts _ q_498) (fun _ h9 => h9) rfl d_M_truth_19 ?_
      refine lv_iload_n hx hb d_M_truth_22 rfl (lv_at hl 1 rfl) ?_
      refine lv_iload_n hx hb d_M_truth_23 rfl (lv_at hl 2 rfl) ?_
      refine n_iast (x := nI j) hx hb hK hW hS 0 (q := 409) (hdl 409 (by decide) (by decide)) h409 rfl (j := i) (by omega) (by omega) d_M_truth_24 (fun H locs hW hS => ?_)
      refine lv_iconst (v := nI 1) hx hb d_M_truth_25 (by decide) ?_
      exact g_zret hx hb hr (by rfl) hlocks hW hS (⟨bI_1 g9, by rw [if_pos g9, nI_clamp (show i < 2 ^ 31 by omega)]⟩) d_M_truth_26
    · refine lv_iconst (v := nI 0) hx hb d_M_truth_16 (by decide) ?_
      exact g_zret hx hb hr (by rfl) hlocks hW hS (⟨bI_0 (by simp [okTruth, g2]), (if_neg (by simp [okTruth, g2])).symm⟩) d_M_truth_17
