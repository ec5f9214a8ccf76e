set_option maxHeartbeats 4000000 in
set_option maxRecDepth 100000 in
/-- move -/
theorem c_K_move (l : Launch) {D : va_G} {cI cJ cG : ClassId} {ad : Nat → Nat} {co : Nat → va_E} {dl : List Nat} {a sh mg : Nat} {kr : Int32}  (hdl : ∀ i, kD a i → i ∈ dl) (w0 : co 0 = oK ad a kr sh mg)   (w7 : co 7 = oB ad 8 9) (w8 : co 8 = oG ad cG a 40) (w9 : co 9 = oG ad cG a 60) {MV SP : Nat → Nat → Int32} (wm1 : ∀ i, i < a → co (40 + i) = .inl (cI, a, .inl (MV i))) (wm2 : ∀ i, i < a → co (60 + i) = .inl (cI, 10, .inl (SP i))) (x y v : Int32) (ha : a ≤ 12) : gMi l y_K_move (Cond.code y_K_move b_K_move 4 (some .boolean) :: wA) ({ frames := 2, cells := 0, slots := 0, locals := 42 }) D gCl (gTy cI cJ cG) gNl [.ref (ad 0), .int x, .int y, .int v] ad co dl (fun r co' => r = bI (okMove a x y v) ∧ co' = if okMove a x y v then va_up co (40 + x.toNatClampNeg) (.inl (cI, a, .inl (upd (MV x.toNatClampNeg) y.toNatClampNeg v))) else co) := by
  refine gMi_of (cc := b_K_move) (maxL := 4) (ret := some .boolean) (by decide) rfl (Nat.le_of_ble_eq_true rfl) ?_
  intro pp ee s mm below meth cd ls hC hW hS hl
  obtain ⟨hx, hb, hr, hts0, hown, hlocks, hml, hK, hN⟩ := hC
  have hts : ∀ w ∈ wA, w.before _ s = true := fun w h => hts0 w (List.mem_cons_of_mem _ h)
  have hA : ∀ q, s.heap.size ≤ q → gA ad co dl s.heap.size q := fun q h => Or.inr h
  have hl : lv_has ls 4 [(0, .ref (ad 0)), (1, .int x), (2, .int y), (3, .int v)] := hl
  have hown : s.vm.findClass R_K = some mm.cls := hown
  refine lv_aload_n hx hb d_K_move_0 rfl (lv_at hl 0 rfl) ?_
  refine lv_iload_n hx hb d_K_move_1 rfl (lv_at hl 1 rfl) ?_
  refine g_cVi (As := [.int x]) (rest := []) ⟨hx, hb, hml, hown, hts⟩ (c_K_isAct l hdl w0 x ha) (gcwV 1 hts q_227 q_224 q_226 qs_0 q_1 (by decide +kernel) ⟨(Nat.le_of_ble_eq_true rfl), (Nat.le_of_ble_eq_true rfl)⟩) gNl_ok hN hK hW hS hA (hdl (0) (by unfold kD; omega)) w0 rfl rfl hl.1 rfl (Nat.le_of_ble_eq_true rfl) d_K_move_2 ⟨Nat.zero_le _, Nat.zero_le _⟩ (fun r co9 H locs hp9 hW hS => ?_)
  obtain ⟨rfl, hco9⟩ := hp9
  rw [hco9] at hW
  refine n_ifz_eq (tgt := 23) hx hb d_K_move_5 (by decide) (fun g1 => ?_) (fun g1 => ?_)
  · refine lv_iconst (v := nI 0) hx hb d_K_move_23 (by decide) ?_
    exact g_zret hx hb hr (by rfl) hlocks hW hS (⟨bI_0 (by simp [okMove, g1]), (if_neg (by simp [okMove, g1])).symm⟩) d_K_move_24
  · refine lv_aload_n hx hb d_K_move_8 rfl (lv_at hl 0 rfl) ?_
    refine lv_iload_n hx hb d_K_move_9 rfl (lv_at hl 2 rfl) ?_
    refine g_cVi (As := [.int y]) (rest := []) ⟨hx, hb, hml, hown, hts⟩ (c_K_isAct l hdl w0 y ha) (gcwV 1 hts q_227 q_224 q_226 qs_0 q_1 (by decide +kernel) ⟨(Nat.le_of_ble_eq_true rfl), (Nat.le_of_ble_eq_true rfl)⟩) gNl_ok hN hK hW hS hA (hdl (0) (by unfold kD; omega)) w0 rfl rfl hl.1 rfl (Nat.le_of_ble_eq_true rfl) d_K_move_10 ⟨Nat.zero_le _, Nat.zero_le _⟩ (fun r co9 H locs hp9 hW hS => ?_)
    obtain ⟨rfl, hco9⟩ := hp9
    rw [hco9] at hW
    refine n_ifz_eq (tgt := 23) hx hb d_K_move_13 (by decide) (fun g2 => ?_) (fun g2 => ?_)
    · refine lv_iconst (v := nI 0) hx hb d_K_move_23 (by decide) ?_
      exact g_zret hx hb hr (by rfl) hlocks hW hS (⟨bI_0 (by simp [okMove, g2]), (if_neg (by simp [okMove, g2])).symm⟩) d_K_move_24
    · refine lv_iload_n hx hb d_K_move_16 rfl (lv_at hl 3 rfl) ?_
      refine g_cSi (As := [.int v]) (rest := []) ⟨hx, hb, hml, hown, hts⟩ (c_K_isCost l v) (gcwS 1 hts q_233 q_231 q_232 q_1 (by decide +kernel) ⟨(Nat.le_of_ble_eq_true rfl), (Nat.le_of_ble_eq_true rfl)⟩) gNl_ok hN hK hW hS hA rfl hl.1 rfl (Nat.le_of_ble_eq_true rfl) d_K_move_17 ⟨Nat.zero_le _, Nat.zero_le _⟩ (fun r co9 H locs hp9 hW hS => ?_)
      obtain ⟨rfl, hco9⟩ := hp9
      rw [hco9] at hW
      refine n_ifz_ne (tgt := 25) hx hb d_K_move_20 (by decide) (fun g3 => ?_) (fun g3 => ?_)
      · have g9 : okMove a x y v = true := by simp [okMove, g1, g2, g3]
        obtain ⟨i, hi, rfl⟩ := inB_of (by omega) g1
        obtain ⟨j, hj, rfl⟩ := inB_of (by omega) g2
        refine lv_aload_n hx hb d_K_move_25 rfl (lv_at hl 0 rfl) ?_
        refine g_get (C := R_K) (T := F_K) (N := 13) hx hb hts i_K hown hK hW (i := 0) (hdl (0) (by unfold kD; omega)) w0 rfl 2 (by decide) (hts _ q_182) (fun _ h9 => h9) rfl d_K_move_26 ?_
        refine g_get (C := R_B) (T := F_B) (N := 2) hx hb hts i_B hown hK hW (i := 7) (hdl (7) (by unfold kD; omega)) w7 rfl 0 (by decide) (hts _ q_71) (fun _ h9 => h9) rfl d_K_move_29 ?_
        refine lv_iload_n hx hb d_K_move_32 rfl (lv_at hl 1 rfl) ?_
        refine n_aald hx hb hK hW 2 (q := 8) (hdl (8) (by unfold kD; omega)) w8 rfl rfl (j := i) (by omega) (by omega) (b := ad (40 + i)) (if_pos (by omega)) d_K_move_33 ?_
        refine lv_iload_n hx hb d_K_move_34 rfl (lv_at hl 2 rfl) ?_
        refine lv_iload_n hx hb d_K_move_35 rfl (lv_at hl 3 rfl) ?_
        refine n_iast (x := v) hx hb hK hW hS 0 (q := 40 + i) (hdl (40 + i) (by unfold kD; omega)) (wm1 i (by omega)) rfl (j := j) (by omega) (by omega) d_K_move_36 (fun H locs hW hS => ?_)
        refine lv_iconst (v := nI 1) hx hb d_K_move_37 (by decide) ?_
        exact g_zret hx hb hr (by rfl) hlocks hW hS (⟨bI_1 g9, by rw [if_pos g9, nI_clamp (show i < 2 ^ 31 by omega), nI_clamp (show j < 2 ^ 31 by omega)]⟩) d_K_move_38
      · refine lv_iconst (v := nI 0) hx hb d_K_move_23 (by decide) ?_
        exact g_zret hx hb hr (by rfl) hlocks hW hS (⟨bI_0 (by simp [okMove, g3]), (if_neg (by simp [okMove, g3])).symm⟩) d_K_move_24
set_option maxHeartbeats 4000000 in
set_option maxRecDepth 100000 in
/-- speed -/
theorem c_K_speed (l : Launch) {D : va_G} {cI cJ cG : ClassId} {ad : Nat → Nat} {co : Nat → va_E} {dl : List Nat} {a sh mg : Nat} {kr : Int32}  (hdl : ∀ i, kD a i → i ∈ dl) (w0 : co 0 = oK ad a kr sh mg)   (w7 : co 7 = oB ad 8 9) (w8 : co 8 = oG ad cG a 40) (w9 : co 9 = oG ad cG a 60) {MV SP : Nat → Nat → Int32} (wm1 : ∀ i, i < a → co (40 + i) = .inl (cI, a, .inl (MV i))) (wm2 : ∀ i, i < a → co (60 + i) = .inl (cI, 10, .inl (SP i))) (x y v : Int32) (ha : a ≤ 12) : gMi l y_K_speed (Cond.code y_K_speed b_K_speed 4 (some .boolean) :: wA) ({ frames := 2, cells := 0, slots := 0, locals := 42 }) D gCl (gTy cI cJ cG) gNl [.ref (ad 0), .int x, .int y, .int v] ad co dl (fun r co' => r = bI (okSpeed a x y v) ∧ co' = if okSpeed a x y v then va_up co (60 + x.toNatClampNeg) (.inl (cI, 10, .inl (upd (SP x.toNatClampNeg) y.toNatClampNeg v))) else co) := by
  refine gMi_of (cc := b_K_speed) (maxL := 4) (ret := some .boolean) (by decide) rfl (Nat.le_of_ble_eq_true rfl) ?_
  intro pp ee s mm below meth cd ls hC hW hS hl
  obtain ⟨hx, hb, hr, hts0, hown, hlocks, hml, hK, hN⟩ := hC
  have hts : ∀ w ∈ wA, w.before _ s = true := fun w h => hts0 w (List.mem_cons_of_mem _ h)
  have hA : ∀ q, s.heap.size ≤ q → gA ad co dl s.heap.size q := fun q h => Or.inr h
  have hl : lv_has ls 4 [(0, .ref (ad 0)), (1, .int x), (2, .int y), (3, .int v)] := hl
  have hown : s.vm.findClass R_K = some mm.cls := hown
  refine lv_aload_n hx hb d_K_speed_0 rfl (lv_at hl 0 rfl) ?_
  refine lv_iload_n hx hb d_K_speed_1 rfl (lv_at hl 1 rfl) ?_
  refine g_cVi (As := [.int x]) (rest := []) ⟨hx, hb, hml, hown, hts⟩ (c_K_isAct l hdl w0 x ha) (gcwV 1 hts q_227 q_224 q_226 qs_0 q_1 (by decide +kernel) ⟨(Nat.le_of_ble_eq_true rfl), (Nat.le_of_ble_eq_true rfl)⟩) gNl_ok hN hK hW hS hA (hdl (0) (by unfold kD; omega)) w0 rfl rfl hl.1 rfl (Nat.le_of_ble_eq_true rfl) d_K_speed_2 ⟨Nat.zero_le _, Nat.zero_le _⟩ (fun r co9 H locs hp9 hW hS => ?_)
  obtain ⟨rfl, hco9⟩ := hp9
  rw [hco9] at hW
  refine n_ifz_eq (tgt := 24) hx hb d_K_speed_5 (by decide) (fun g1 => ?_) (fun g1 => ?_)
  · refine lv_iconst (v := nI 0) hx hb d_K_speed_24 (by decide) ?_
    exact g_zret hx hb hr (by rfl) hlocks hW hS (⟨bI_0 (by simp [okSpeed, g1]), (if_neg (by simp [okSpeed, g1])).symm⟩) d_K_speed_25
  · refine lv_iload_n hx hb d_K_speed_8 rfl (lv_at hl 2 rfl) ?_
    refine lv_bipush (v := nI 10) hx hb d_K_speed_9 (by decide) ?_
    refine g_cSi (As := [.int y, .int (nI 10)]) (rest := []) ⟨hx, hb, hml, hown, hts⟩ (c_K_isBelow l y 10 (by decide)) (gcwS 2 hts q_230 q_228 q_229 q_1 (by decide +kernel) ⟨(Nat.le_of_ble_eq_true rfl), (Nat.le_of_ble_eq_true rfl)⟩) gNl_ok hN hK hW hS hA rfl hl.1 rfl (Nat.le_of_ble_eq_true rfl) d_K_speed_11 ⟨Nat.zero_le _, Nat.zero_le _⟩ (fun r co9 H locs hp9 hW hS => ?_)
    obtain ⟨rfl, hco9⟩ := hp9
    rw [hco9] at hW
    refine n_ifz_eq (tgt := 24) hx hb d_K_speed_14 (by decide) (fun g2 => ?_) (fun g2 => ?_)
    · refine lv_iconst (v := nI 0) hx hb d_K_speed_24 (by decide) ?_
      exact g_zret hx hb hr (by rfl) hlocks hW hS (⟨bI_0 (by simp [okSpeed, g2]), (if_neg (by simp [okSpeed, g2])).symm⟩) d_K_speed_25
    · refine lv_iload_n hx hb d_K_speed_17 rfl (lv_at hl 3 rfl) ?_
      refine g_cSi (As := [.int v]) (rest := []) ⟨hx, hb, hml, hown, hts⟩ (c_K_isCost l v) (gcwS 1 hts q_233 q_231 q_232 q_1 (by decide +kernel) ⟨(Nat.le_of_ble_eq_true rfl), (Nat.le_of_ble_eq_true rfl)⟩) gNl_ok hN hK hW hS hA rfl hl.1 rfl (Nat.le_of_ble_eq_true rfl) d_K_speed_18 ⟨Nat.zero_le _, Nat.zero_le _⟩ (fun r co9 H locs hp9 hW hS => ?_)
      obtain ⟨rfl, hco9⟩ := hp9
      rw [hco9] at hW
      refine n_ifz_ne (tgt := 26) hx hb d_K_speed_21 (by decide) (fun g3 => ?_) (fun g3 => ?_)
      · have g9 : okSpeed a x y v = true := by simp [okSpeed, g1, g2, g3]
        obtain ⟨i, hi, rfl⟩ := inB_of (by omega) g1
        obtain ⟨j, hj, rfl⟩ := inB_of (by decide) g2
        refine lv_aload_n hx hb d_K_speed_26 rfl (lv_at hl 0 rfl) ?_
        refine g_get (C := R_K) (T := F_K) (N := 13) hx hb hts i_K hown hK hW (i := 0) (hdl (0) (by unfold kD; omega)) w0 rfl 2 (by decide) (hts _ q_182) (fun _ h9 => h9) rfl d_K_speed_27 ?_
        refine g_get (C := R_B) (T := F_B) (N := 2) hx hb hts i_B hown hK hW (i := 7) (hdl (7) (by unfold kD; omega)) w7 rfl 1 (by decide) (hts _ q_74) (fun _ h9 => h9) rfl d_K_speed_30 ?_
        refine lv_iload_n hx hb d_K_speed_33 rfl (lv_at hl 1 rfl) ?_
        refine n_aald hx hb hK hW 2 (q := 9) (hdl (9) (by unfold kD; omega)) w9 rfl rfl (j := i) (by omega) (by omega) (b := ad (60 + i)) (if_pos (by omega)) d_K_speed_34 ?_
        refine lv_iload_n hx hb d_K_speed_35 rfl (lv_at hl 2 rfl) ?_
        refine lv_iload_n hx hb d_K_speed_36 rfl (lv_at hl 3 rfl) ?_
        refine n_iast (x := v) hx hb hK hW hS 0 (q := 60 + i) (hdl (60 + i) (by unfold kD; omega)) (wm2 i (by omega)) rfl (j := j) (by omega) (by omega) d_K_speed_37 (fun H locs hW hS => ?_)
        refine lv_iconst (v := nI 1) hx hb d_K_speed_38 (by decide) ?_
        exact g_zret hx hb hr (by rfl) hlocks hW hS (⟨bI_1 g9, by rw [if_pos g9, nI_clamp (show i < 2 ^ 31 by omega), nI_clamp (show j < 2 ^ 31 by omega)]⟩) d_K_speed_39
      · refine lv_iconst (v := nI 0) hx hb d_K_speed_24 (by decide) ?_
        exact g_zret hx hb hr (by rfl) hlocks hW hS (⟨bI_0 (by simp [okSpeed, g3]), (if_neg (by simp [okSpeed, g3])).symm⟩) d_K_speed_25
set_option maxHeartbeats 4000000 in
set_option maxRecDepth 100000 in
/-- row -/
theorem c_K_row (l : Launch) {D : va_G} {cI cJ cG : ClassId} {ad : Nat → Nat} {co : Nat → va_E} {dl : List Nat} {a sh mg n : Nat} {kr : Int32}  (hdl : ∀ i, kD a i → i ∈ dl) (w0 : co 0 = oK ad a kr sh mg) (w1 : co 1 = oT ad n) {sec : Nat → Int64} {cls : Nat → Int32} {trn : Nat → Int32} {shp : Nat → Int32} {tr : Nat → Int32} (w2 : co 2 = .inl (cJ, 200, .inr (.inl sec))) (w3 : co 3 = .inl (cI, 200, .inl cls)) (w4 : co 4 = .inl (cI, 200, .inl trn)) (w5 : co 5 = .inl (cI, 200, .inl shp)) (w6 : co 6 = .inl (cI, 200, .inl tr)) (x : Int64) (y z : Int32) (hn : n ≤ 200) : gMi l y_K_row (Cond.code y_K_row b_K_row 5 (some .boolean) :: wA) ({ frames := 1, cells := 0, slots := 0, locals := 25 }) D gCl (gTy cI cJ cG) gNl [.ref (ad 0), .long x, .int y, .int z] ad co dl (fun r co' => r = bI (okRow n sec x y z) ∧ co' = if okRow n sec x y z then va_up (va_up (va_up (va_up (va_up (va_up co 2 (.inl (cJ, 200, .inr (.inl (vp_updL sec n x))))) 3 (.inl (cI, 200, .inl (upd cls n y)))) 4 (.inl (cI, 200, .inl (upd trn n z)))) 5 (.inl (cI, 200, .inl (upd shp n (nI sh))))) 6 (.inl (cI, 200, .inl (upd tr n (-1))))) 1 (oT ad (n + 1)) else co) := by
  refine gMi_of (cc := b_K_row) (maxL := 5) (ret := some .boolean) (by decide) rfl (Nat.le_of_ble_eq_true rfl) ?_
  intro pp ee s mm below meth cd ls hC hW hS hl
  obtain ⟨hx, hb, hr, hts0, hown, hlocks, hml, hK, hN⟩ := hC
  have hts : ∀ w ∈ wA, w.before _ s = true := fun w h => hts0 w (List.mem_cons_of_mem _ h)
  have hA : ∀ q, s.heap.size ≤ q → gA ad co dl s.heap.size q := fun q h => Or.inr h
  have hl : lv_has ls 5 [(0, .ref (ad 0)), (1, .long x), (3, .int y), (4, .int z)] := hl
  have hown : s.vm.findClass R_K = some mm.cls := hown
  refine lv_aload_n hx hb d_K_row_0 rfl (lv_at hl 0 rfl) ?_
  refine g_get (C := R_K) (T := F_K) (N := 13) hx hb hts i_K hown hK hW (i := 0) (hdl (0) (by unfold kD; omega)) w0 rfl 1 (by decide) (hts _ q_181) (fun _ h9 => h9) rfl d_K_row_1 ?_
  refine lv_lload_n hx hb d_K_row_4 rfl (lv_at hl 1 rfl) ?_
  refine g_cVi (As := [.long x]) (rest := []) ⟨hx, hb, hml, hown, hts⟩ (c_T_canFollow l hdl w1 w2 x hn) (gcwV 1 hts q_245 q_242 q_243 q_244 q_3 (by decide +kernel) ⟨(Nat.le_of_ble_eq_true rfl), (Nat.le_of_ble_eq_true rfl)⟩) gNl_ok hN hK hW hS hA (hdl (1) (by unfold kD; omega)) w1 rfl rfl hl.1 rfl (Nat.le_of_ble_eq_true rfl) d_K_row_5 ⟨Nat.zero_le _, Nat.zero_le _⟩ (fun r co9 H locs hp9 hW hS => ?_)
  obtain ⟨rfl, hco9⟩ := hp9
  rw [hco9] at hW
  refine n_ifz_eq (tgt := 29) hx hb d_K_row_8 (by decide) (fun g1 => ?_) (fun g1 => ?_)
  · refine lv_iconst (v := nI 0) hx hb d_K_row_29 (by decide) ?_
    exact g_zret hx hb hr (by rfl) hlocks hW hS (⟨bI_0 (show okRow n sec x y z = false by rw [okRow, g1]; rfl), (if_neg (by rw [show okRow n sec x y z = false by rw [okRow, g1]; rfl]; decide)).symm⟩) d_K_row_30
  · refine lv_iload_n hx hb d_K_row_11 rfl (lv_at hl 2 rfl) ?_
    refine lv_bipush (v := nI 10) hx hb d_K_row_12 (by decide) ?_
    refine g_cSi (As := [.int y, .int (nI 10)]) (rest := []) ⟨hx, hb, hml, hown, hts⟩ (c_K_isBelow l y 10 (by decide)) (gcwS 2 hts q_230 q_228 q_229 q_1 (by decide +kernel) ⟨(Nat.le_of_ble_eq_true rfl), (Nat.le_of_ble_eq_true rfl)⟩) gNl_ok hN hK hW hS hA rfl hl.1 rfl (Nat.le_of_ble_eq_true rfl) d_K_row_14 ⟨Nat.zero_le _, Nat.zero_le _⟩ (fun r co9 H locs hp9 hW hS => ?_)
    obtain ⟨rfl, hco9⟩ := hp9
    rw [hco9] at hW
    refine n_ifz_eq (tgt := 29) hx hb d_K_row_17 (by decide) (fun g2 => ?_) (fun g2 => ?_)
    · refine lv_iconst (v := nI 0) hx hb d_K_row_29 (by decide) ?_
      exact g_zret hx hb hr (by rfl) hlocks hW hS (⟨bI_0 (show okRow n sec x y z = false by simp [okRow, g2]), (if_neg (by rw [show okRow n sec x y z = false by simp [okRow, g2]]; decide)).symm⟩) d_K_row_30
    · refine lv_iload hx hb d_K_row_20 (lv_at hl 3 rfl) ?_
      refine lv_iconst (v := nI 4) hx hb d_K_row_22 (by decide) ?_
      refine g_cSi (As := [.int z, .int (nI 4)]) (rest := []) ⟨hx, hb, hml, hown, hts⟩ (c_K_isBelow l z 4 (by decide)) (gcwS 2 hts q_230 q_228 q_229 q_1 (by decide +kernel) ⟨(Nat.le_of_ble_eq_true rfl), (Nat.le_of_ble_eq_true rfl)⟩) gNl_ok hN hK hW hS hA rfl hl.1 rfl (Nat.le_of_ble_eq_true rfl) d_K_row_23 ⟨Nat.zero_le _, Nat.zero_le _⟩ (fun r co9 H locs hp9 hW hS => ?_)
      obtain ⟨rfl, hco9⟩ := hp9
      rw [hco9] at hW
      refine n_ifz_ne (tgt := 31) hx hb d_K_row_26 (by decide) (fun g3 => ?_) (fun g3 => ?_)
      · have g9 : okRow n sec x y z = true := by rw [okRow, g1, g2, g3]; rfl
        have hn9 : n < 200 := by simp only [Bool.and_eq_true, decide_eq_true_eq] at g1; exact g1.1.1
        refine lv_aload_n hx hb d_K_row_31 rfl (lv_at hl 0 rfl) ?_
        refine g_get (C := R_K) (T := F_K) (N := 13) hx hb hts i_K hown hK hW (i := 0) (hdl (0) (by unfold kD; omega)) w0 rfl 1 (by decide) (hts _ q_181) (fun _ h9 => h9) rfl d_K_row_32 ?_
        refine lv_lload_n hx hb d_K_row_35 rfl (lv_at hl 1 rfl) ?_
        refine lv_iload_n hx hb d_K_row_36 rfl (lv_at hl 2 rfl) ?_
        refine lv_iload hx hb d_K_row_37 (lv_at hl 3 rfl) ?_
        refine lv_aload_n hx hb d_K_row_39 rfl (lv_at hl 0 rfl) ?_
        refine g_get (C := R_K) (T := F_K) (N := 13) hx hb hts i_K hown hK hW (i := 0) (hdl (0) (by unfold kD; omega)) w0 rfl 11 (by decide) (hts _ q_191) (fun _ h9 => h9) rfl d_K_row_40 ?_
        refine g_cVv (As := [.long x, .int y, .int z, .int (nI sh)]) (rest := []) ⟨hx, hb, hml, hown, hts⟩ (c_T_add l hdl w1 w2 w3 w4 w5 w6 x y z (nI sh) hn9) (gcwV 4 hts q_249 q_246 q_247 q_248 q_3 (by decide +kernel) ⟨(Nat.le_of_ble_eq_true rfl), (Nat.le_of_ble_eq_true rfl)⟩) gNl_ok hN hK hW hS hA (hdl (1) (by unfold kD; omega)) w1 rfl rfl hl.1 rfl (Nat.le_of_ble_eq_true rfl) d_K_row_43 ⟨Nat.zero_le _, Nat.zero_le _⟩ (fun co9 H locs hp9 hW hS => ?_)
        rw [hp9] at hW
        refine lv_iconst (v := nI 1) hx hb d_K_row_46 (by decide) ?_
        exact g_zret hx hb hr (by rfl) hlocks hW hS (⟨bI_1 g9, by rw [if_pos g9]⟩) d_K_row_47
      · refine lv_iconst (v := nI 0) hx hb d_K_row_29 (by decide) ?_
        exact g_zret hx hb hr (by rfl) hlocks hW hS (⟨bI_0 (show okRow n sec x y z = false by simp [okRow, g3]), (if_neg (by rw [show okRow n sec x y z = false by simp [okRow, g3]]; decide)).symm⟩) d_K_row_30
set_option maxHeartbeats 4000000 in
set_option maxRecDepth 100000 in
/-- act -/
theorem c_K_act (l : Launch) {D : va_G} {cI cJ cG : ClassId} {ad : Nat → Nat} {co : Nat → va_E} {dl : List Nat} {a sh mg kn kc : Nat} {kr : Int32}  (hdl : ∀ i, kD a i → i ∈ dl) (w0 : co 0 = oK ad a kr sh mg) (w22 : co 22 = oN ad kn kc) {ln : Nat → Int32} (w23 : co 23 = .inl (cI, 200, .inl ln)) (x : Int32) (hn : kn ≤ 200) : gMi l y_K_act (Cond.code y_K_act b_K_act 2 (some .int) :: wA) ({ frames := 2, cells := 0, slots := 0, locals := 42 }) D gCl (gTy cI cJ cG) gNl [.ref (ad 0), .int x] ad co dl (fun r co' => r = (if inB x kn then ln x.toNatClampNeg else -1) ∧ co' = co) := by
  refine gMi_of (cc := b_K_act) (maxL := 2) (ret := some .int) (by decide) rfl (Nat.le_of_ble_eq_true rfl) ?_
  intro pp ee s mm below meth cd ls hC hW hS hl
  obtain ⟨hx, hb, hr, hts0, hown, hlocks, hml, hK, hN⟩ := hC
  have hts : ∀ w ∈ wA, w.before _ s = true := fun w h => hts0 w (List.mem_cons_of_mem _ h)
  have hA : ∀ q, s.heap.size ≤ q → gA ad co dl s.heap.size q := fun q h => Or.inr h
  have hl : lv_has ls 2 [(0, .ref (ad 0)), (1, .int x)] := hl
  have hown : s.vm.findClass R_K = some mm.cls := hown
  refine lv_aload_n hx hb d_K_act_0 rfl (lv_at hl 0 rfl) ?_
  refine g_get (C := R_K) (T := F_K) (N := 13) hx hb hts i_K hown hK hW (i := 0) (hdl (0) (by unfold kD; omega)) w0 rfl 6 (by decide) (hts _ q_186) (fun _ h9 => h9) rfl d_K_act_1 ?_
  refine lv_iload_n hx hb d_K_act_4 rfl (lv_at hl 1 rfl) ?_
  refine g_cVi (As := [.int x]) (rest := []) ⟨hx, hb, hml, hown, hts⟩ (c_N_has l hdl w22 x hn) (gcwV 1 hts q_301 q_298 q_299 q_300 q_6 (by decide +kernel) ⟨(Nat.le_of_ble_eq_true rfl), (Nat.le_of_ble_eq_true rfl)⟩) gNl_ok hN hK hW hS hA (hdl (22) (by unfold kD; omega)) w22 rfl rfl hl.1 rfl (Nat.le_of_ble_eq_true rfl) d_K_act_5 ⟨Nat.zero_le _, Nat.zero_le _⟩ (fun r co9 H locs hp9 hW hS => ?_)
  obtain ⟨rfl, hco9⟩ := hp9
  rw [hco9] at hW
  refine n_ifz_eq (tgt := 23) hx hb d_K_act_8 (by decide) (fun g1 => ?_) (fun g1 => ?_)
  · refine lv_iconst (v := (-1)) hx hb d_K_act_23 (by decide) ?_
    exact g_iret hx hb hr hlocks hW hS (⟨by simp [g1], rfl⟩) d_K_act_24
  · obtain ⟨j, hj, rfl⟩ := inB_of (by omega) g1
    refine lv_aload_n hx hb d_K_act_11 rfl (lv_at hl 0 rfl) ?_
    refine g_get (C := R_K) (T := F_K) (N := 13) hx hb hts i_K hown hK hW (i := 0) (hdl (0) (by unfold kD; omega)) w0 rfl 6 (by decide) (hts _ q_186) (fun _ h9 => h9) rfl d_K_act_12 ?_
    refine g_get (C := R_N) (T := F_N) (N := 4) hx hb hts i_N hown hK hW (i := 22) (hdl (22) (by unfold kD; omega)) w22 rfl 0 (by decide) (hts _ q_121) (fun _ h9 => h9) rfl d_K_act_15 ?_
    refine lv_iload_n hx hb d_K_act_18 rfl (lv_at hl 1 rfl) ?_
    refine n_iald hx hb hK hW 0 (q := 23) (hdl (23) (by unfold kD; omega)) w23 rfl (j := j) (by omega) (by omega) d_K_act_19 ?_
    refine lv_goto (tgt := 24) hx hb d_K_act_20 (by decide) ?_
    exact g_iret hx hb hr hlocks hW hS (⟨by rw [if_pos g1, nI_clamp (show j < 2 ^ 31 by omega)], rfl⟩) d_K_act_24
set_option maxHeartbeats 4000000 in
set_option maxRecDepth 100000 in
/-- greatest -/
theorem c_K_greatest (l : Launch) {D : va_G} {cI cJ cG : ClassId} {ad : Nat → Nat} {co : Nat → va_E} {dl : List Nat} {a sh mg kn kc : Nat} {kr : Int32}  (hdl : ∀ i, kD a i → i ∈ dl) (w0 : co 0 = oK ad a kr sh mg) (w22 : co 22 = oN ad kn kc)   (hn : kn ≤ 200) : gMi l y_K_greatest (Cond.code y_K_greatest b_K_greatest 1 (some .boolean) :: wA) ({ frames := 1, cells := 0, slots := 0, locals := 20 }) D gCl (gTy cI cJ cG) gNl [.ref (ad 0)] ad co dl (fun r co' => r = bI (decide (0 < kn)) ∧ co' = co) := by
  refine gMi_of (cc := b_K_greatest) (maxL := 1) (ret := some .boolean) (by decide) rfl (Nat.le_of_ble_eq_true rfl) ?_
  intro pp ee s mm below meth cd ls hC hW hS hl
  obtain ⟨hx, hb, hr, hts0, hown, hlocks, hml, hK, hN⟩ := hC
  have hts : ∀ w ∈ wA, w.before _ s = true := fun w h => hts0 w (List.mem_cons_of_mem _ h)
  have hA : ∀ q, s.heap.size ≤ q → gA ad co dl s.heap.size q := fun q h => Or.inr h
  have hl : lv_has ls 1 [(0, .ref (ad 0))] := hl
  have hown : s.vm.findClass R_K = some mm.cls := hown
  refine lv_aload_n hx hb d_K_greatest_0 rfl (lv_at hl 0 rfl) ?_
  refine g_get (C := R_K) (T := F_K) (N := 13) hx hb hts i_K hown hK hW (i := 0) (hdl (0) (by unfold kD; omega)) w0 rfl 6 (by decide) (hts _ q_186) (fun _ h9 => h9) rfl d_K_greatest_1 ?_
  refine g_cVi (As := []) (rest := []) ⟨hx, hb, hml, hown, hts⟩ (c_N_exists l hdl w22 hn) (gcwV 0 hts q_310 q_307 q_308 q_309 q_6 (by decide +kernel) ⟨(Nat.le_of_ble_eq_true rfl), (Nat.le_of_ble_eq_true rfl)⟩) gNl_ok hN hK hW hS hA (hdl (22) (by unfold kD; omega)) w22 rfl rfl hl.1 rfl (Nat.le_of_ble_eq_true rfl) d_K_greatest_4 ⟨Nat.zero_le _, Nat.zero_le _⟩ (fun r co9 H locs hp9 hW hS => ?_)
  obtain ⟨rfl, hco9⟩ := hp9
  rw [hco9] at hW
  exact g_zret hx hb hr (bI_narrow _) hlocks hW hS (⟨rfl, rfl⟩) d_K_greatest_7
set_option maxHeartbeats 4000000 in
set_option maxRecDepth 100000 in
/-- truth -/
theorem c_K_truth (l : Launch) {D : va_G} {cI cJ cG : ClassId} {ad : Nat → Nat} {co : Nat → va_E} {dl : List Nat} {a sh mg n : Nat} {kr : Int32}  (hdl : ∀ i, kD a i → i ∈ dl) (w0 : co 0 = oK ad a kr sh mg) (w1 : co 1 = oT ad n) {tr : Nat → Int32} (w6 : co 6 = .inl (cI, 200, .inl tr)) (x y : Int32) (ha : a ≤ 12) (hn : n ≤ 200) : gMi l y_K_truth (Cond.code y_K_truth b_K_truth 3 (some .boolean) :: wA) ({ frames := 2, cells := 0, slots := 0, locals := 42 }) D gCl (gTy cI cJ cG) gNl [.ref (ad 0), .int x, .int y] ad co dl (fun r co' => r = bI (okTruth n a x y) ∧ co' = if okTruth n a x y then va_up co 6 (.inl (cI, 200, .inl (upd tr x.toNatClampNeg y))) else co) := by
  refine gMi_of (cc := b_K_truth) (maxL := 3) (ret := some .boolean) (by decide) rfl (Nat.le_of_ble_eq_true rfl) ?_
  intro pp ee s mm below meth cd ls hC hW hS hl
  obtain ⟨hx, hb, hr, hts0, hown, hlocks, hml, hK, hN⟩ := hC
  have hts : ∀ w ∈ wA, w.before _ s = true := fun w h => hts0 w (List.mem_cons_of_mem _ h)
  have hA : ∀ q, s.heap.size ≤ q → gA ad co dl s.heap.size q := fun q h => Or.inr h
  have hl : lv_has ls 3 [(0, .ref (ad 0)), (1, .int x), (2, .int y)] := hl
  have hown : s.vm.findClass R_K = some mm.cls := hown
  refine lv_iload_n hx hb d_K_truth_0 rfl (lv_at hl 1 rfl) ?_
  refine lv_aload_n hx hb d_K_truth_1 rfl (lv_at hl 0 rfl) ?_
  refine g_get (C := R_K) (T := F_K) (N := 13) hx hb hts i_K hown hK hW (i := 0) (hdl (0) (by unfold kD; omega)) w0 rfl 1 (by decide) (hts _ q_181) (fun _ h9 => h9) rfl d_K_truth_2 ?_
  refine g_get (C := R_T) (T := F_T) (N := 6) hx hb hts i_T hown hK hW (i := 1) (hdl (1) (by unfold kD; omega)) w1 rfl 5 (by decide) (hts _ q_46) (fun _ h9 => h9) rfl d_K_truth_5 ?_
  refine g_cSi (As := [.int x, .int (nI n)]) (rest := []) ⟨hx, hb, hml, hown, hts⟩ (c_K_isBelow l x n (by omega)) (gcwS 2 hts q_230 q_228 q_229 q_1 (by decide +kernel) ⟨(Nat.le_of_ble_eq_true rfl), (Nat.le_of_ble_eq_true rfl)⟩) gNl_ok hN hK hW hS hA rfl hl.1 rfl (Nat.le_of_ble_eq_true rfl) d_K_truth_8 ⟨Nat.zero_le _, Nat.zero_le _⟩ (fun r co9 H locs hp9 hW hS => ?_)
  obtain ⟨rfl, hco9⟩ := hp9
  rw [hco9] at hW
  refine n_ifz_eq (tgt := 22) hx hb d_K_truth_11 (by decide) (fun g1 => ?_) (fun g1 => ?_)
  · refine lv_iconst (v := nI 0) hx hb d_K_truth_22 (by decide) ?_
    exact g_zret hx hb hr (by rfl) hlocks hW hS (⟨bI_0 (by simp [okTruth, g1]), (if_neg (by simp [okTruth, g1])).symm⟩) d_K_truth_23
  · refine lv_aload_n hx hb d_K_truth_14 rfl (lv_at hl 0 rfl) ?_
    refine lv_iload_n hx hb d_K_truth_15 rfl (lv_at hl 2 rfl) ?_
    refine g_cVi (As := [.int y]) (rest := []) ⟨hx, hb, hml, hown, hts⟩ (c_K_isAct l hdl w0 y ha) (gcwV 1 hts q_227 q_224 q_226 qs_0 q_1 (by decide +kernel) ⟨(Nat.le_of_ble_eq_true rfl), (Nat.le_of_ble_eq_true rfl)⟩) gNl_ok hN hK hW hS hA (hdl (0) (by unfold kD; omega)) w0 rfl rfl hl.1 rfl (Nat.le_of_ble_eq_true rfl) d_K_truth_16 ⟨Nat.zero_le _, Nat.zero_le _⟩ (fun r co9 H locs hp9 hW hS => ?_)
    obtain ⟨rfl, hco9⟩ := hp9
    rw [hco9] at hW
    refine n_ifz_ne (tgt := 24) hx hb d_K_truth_19 (by decide) (fun g2 => ?_) (fun g2 => ?_)
    · have g9 : okTruth n a x y = true := by simp [okTruth, g1, g2]
      obtain ⟨i, hi, rfl⟩ := inB_of (by omega) g1
      refine lv_aload_n hx hb d_K_truth_24 rfl (lv_at hl 0 rfl) ?_
      refine g_get (C := R_K) (T := F_K) (N := 13) hx hb hts i_K hown hK hW (i := 0) (hdl (0) (by unfold kD; omega)) w0 rfl 1 (by decide) (hts _ q_181) (fun _ h9 => h9) rfl d_K_truth_25 ?_
      refine g_get (C := R_T) (T := F_T) (N := 6) hx hb hts i_T hown hK hW (i := 1) (hdl (1) (by unfold kD; omega)) w1 rfl 4 (by decide) (hts _ q_41) (fun _ h9 => h9) rfl d_K_truth_28 ?_
      refine lv_iload_n hx hb d_K_truth_31 rfl (lv_at hl 1 rfl) ?_
      refine lv_iload_n hx hb d_K_truth_32 rfl (lv_at hl 2 rfl) ?_
      refine n_iast (x := y) hx hb hK hW hS 0 (q := 6) (hdl (6) (by unfold kD; omega)) w6 rfl (j := i) (by omega) (by omega) d_K_truth_33 (fun H locs hW hS => ?_)
      refine lv_iconst (v := nI 1) hx hb d_K_truth_34 (by decide) ?_
      exact g_zret hx hb hr (by rfl) hlocks hW hS (⟨bI_1 g9, by rw [if_pos g9, nI_clamp (show i < 2 ^ 31 by omega)]⟩) d_K_truth_35
    · refine lv_iconst (v := nI 0) hx hb d_K_truth_22 (by decide) ?_
      exact g_zret hx hb hr (by rfl) hlocks hW hS (⟨bI_0 (by simp [okTruth, g2]), (if_neg (by simp [okTruth, g2])).symm⟩) d_K_truth_23
set_option maxHeartbeats 4000000 in
set_option maxRecDepth 100000 in
/-- sum -/
theorem c_K_sum (l : Launch) {D : va_G} {cI cJ cG : ClassId} {ad : Nat → Nat} {co : Nat → va_E} {dl : List Nat} {a sh mg : Nat} {kr : Int32}  (hdl : ∀ i, kD a i → i ∈ dl) (w0 : co 0 = oK ad a kr sh mg) {su : Nat → Int64} (w34 : co 34 = .inl (cJ, 21, .inr (.inl su))) {sm : Nat} (x : Int32) (hm : sm ≤ 21) (hkr : kr = nI sm - nI 1) : gMl l y_K_sum (Cond.code y_K_sum b_K_sum 2 (some .long) :: wA) ({ frames := 0, cells := 0, slots := 0, locals := 0 }) D gCl (gTy cI cJ cG) gNl [.ref (ad 0), .int x] ad co dl (fun r co' => r = (if inB x sm then su x.toNatClampNeg else -1) ∧ co' = co) := by
  refine gMl_of (cc := b_K_sum) (maxL := 2) (ret := some .long) (by decide) rfl (Nat.le_of_ble_eq_true rfl) ?_
  intro pp ee s mm below meth cd ls hC hW hS hl
  obtain ⟨hx, hb, hr, hts0, hown, hlocks, hml, hK, hN⟩ := hC
  have hts : ∀ w ∈ wA, w.before _ s = true := fun w h => hts0 w (List.mem_cons_of_mem _ h)
  have hA : ∀ q, s.heap.size ≤ q → gA ad co dl s.heap.size q := fun q h => Or.inr h
  have hl : lv_has ls 2 [(0, .ref (ad 0)), (1, .int x)] := hl
  have hown : s.vm.findClass R_K = some mm.cls := hown
  refine lv_iload_n hx hb d_K_sum_0 rfl (lv_at hl 1 rfl) ?_
  refine lv_if_lt (tgt := 21) hx hb d_K_sum_1 (by decide) (fun h1 => ?_) (fun h1 => ?_)
  · refine lv_ldc2 hx hb hown (hts _ q_349) d_K_sum_21 ?_
    exact g_lret hx hb hr hlocks hW hS (⟨by simp [inB_neg h1], rfl⟩) d_K_sum_24
  · obtain ⟨j, hj, rfl⟩ := nI_of h1
    have hcmp : nI sm - nI 1 < nI j ↔ sm ≤ j := by
      rcases Nat.eq_zero_or_pos sm with h0 | h0
      · subst h0
        constructor
        · intro _; omega
        · intro _
          have h8 : (nI 0 - nI 1) < nI 0 := by decide
          exact Int32.lt_of_lt_of_le h8 (nI_le (Nat.zero_le j) hj)
      · obtain ⟨z, rfl⟩ : ∃ z, sm = z + 1 := ⟨sm - 1, by omega⟩
        rw [show nI (z + 1) - nI 1 = nI z from nI_pred z, nI_ltI (by omega) hj]
        omega
    refine lv_iload_n hx hb d_K_sum_4 rfl (lv_at hl 1 rfl) ?_
    refine lv_aload_n hx hb d_K_sum_5 rfl (lv_at hl 0 rfl) ?_
    refine g_get (C := R_K) (T := F_K) (N := 13) hx hb hts i_K hown hK hW (i := 0) (hdl (0) (by unfold kD; omega)) w0 rfl 10 (by decide) (hts _ q_190) (fun _ h9 => h9) rfl d_K_sum_6 ?_
    refine lv_icmp_gt (tgt := 21) hx hb d_K_sum_9 (by decide) (fun h2 => ?_) (fun h2 => ?_)
    · rw [hkr, hcmp] at h2
      refine lv_ldc2 hx hb hown (hts _ q_349) d_K_sum_21 ?_
      exact g_lret hx hb hr hlocks hW hS (⟨by simp [inB_ge hj h2], rfl⟩) d_K_sum_24
    · rw [hkr, hcmp] at h2
      refine lv_aload_n hx hb d_K_sum_12 rfl (lv_at hl 0 rfl) ?_
      refine g_get (C := R_K) (T := F_K) (N := 13) hx hb hts i_K hown hK hW (i := 0) (hdl (0) (by unfold kD; omega)) w0 rfl 9 (by decide) (hts _ q_189) (fun _ h9 => h9) rfl d_K_sum_13 ?_
      refine lv_iload_n hx hb d_K_sum_16 rfl (lv_at hl 1 rfl) ?_
      refine n_lald hx hb hK hW 1 (q := 34) (hdl (34) (by unfold kD; omega)) w34 rfl (j := j) (by omega) (by omega) d_K_sum_17 ?_
      refine lv_goto (tgt := 24) hx hb d_K_sum_18 (by decide) ?_
      exact g_lret hx hb hr hlocks hW hS (⟨by rw [if_pos (inB_lt (show j < sm by omega) (by omega)), nI_clamp hj], rfl⟩) d_K_sum_24
set_option maxHeartbeats 4000000 in
set_option maxRecDepth 100000 in
/-- hours -/
theorem c_K_hours (l : Launch) {D : va_G} {cI cJ cG : ClassId} {ad : Nat → Nat} {co : Nat → va_E} {dl : List Nat} {a sh mg kn kc n : Nat} {kr : Int32}  (hdl : ∀ i, kD a i → i ∈ dl) (w0 : co 0 = oK ad a kr sh mg) (w22 : co 22 = oN ad kn kc) (w1 : co 1 = oT ad n) {sec : Nat → Int64} {ln : Nat → Int32} (w2 : co 2 = .inl (cJ, 200, .inr (.inl sec))) (w23 : co 23 = .inl (cI, 200, .inl ln)) (x : Int32) (ha : a ≤ 12) (hn : kn ≤ 200) : gMl l y_K_hours (Cond.code y_K_hours b_K_hours 2 (some .long) :: wA) ({ frames := 3, cells := 0, slots := 0, locals := 107 }) D gCl (gTy cI cJ cG) gNl [.ref (ad 0), .int x] ad co dl (fun r co' => r = (if inB x a = true ∧ 0 < kn then sHours kn ln sec x kn else -1) ∧ co' = co) := by
  refine gMl_of (cc := b_K_hours) (maxL := 2) (ret := some .long) (by decide) rfl (Nat.le_of_ble_eq_true rfl) ?_
  intro pp ee s mm below meth cd ls hC hW hS hl
  obtain ⟨hx, hb, hr, hts0, hown, hlocks, hml, hK, hN⟩ := hC
  have hts : ∀ w ∈ wA, w.before _ s = true := fun w h => hts0 w (List.mem_cons_of_mem _ h)
  have hA : ∀ q, s.heap.size ≤ q → gA ad co dl s.heap.size q := fun q h => Or.inr h
  have hl : lv_has ls 2 [(0, .ref (ad 0)), (1, .int x)] := hl
  have hown : s.vm.findClass R_K = some mm.cls := hown
  refine lv_aload_n hx hb d_K_hours_0 rfl (lv_at hl 0 rfl) ?_
  refine lv_iload_n hx hb d_K_hours_1 rfl (lv_at hl 1 rfl) ?_
  refine g_cVi (As := [.int x]) (rest := []) ⟨hx, hb, hml, hown, hts⟩ (c_K_isAct l hdl w0 x ha) (gcwV 1 hts q_227 q_224 q_226 qs_0 q_1 (by decide +kernel) ⟨(Nat.le_of_ble_eq_true rfl), (Nat.le_of_ble_eq_true rfl)⟩) gNl_ok hN hK hW hS hA (hdl (0) (by unfold kD; omega)) w0 rfl rfl hl.1 rfl (Nat.le_of_ble_eq_true rfl) d_K_hours_2 ⟨Nat.zero_le _, Nat.zero_le _⟩ (fun r co9 H locs hp9 hW hS => ?_)
  obtain ⟨rfl, hco9⟩ := hp9
  rw [hco9] at hW
  refine n_ifz_eq (tgt := 36) hx hb d_K_hours_5 (by decide) (fun g1 => ?_) (fun g1 => ?_)
  · refine lv_ldc2 hx hb hown (hts _ q_349) d_K_hours_36 ?_
    exact g_lret hx hb hr hlocks hW hS (⟨by simp [g1], rfl⟩) d_K_hours_39
  · refine lv_aload_n hx hb d_K_hours_8 rfl (lv_at hl 0 rfl) ?_
    refine g_get (C := R_K) (T := F_K) (N := 13) hx hb hts i_K hown hK hW (i := 0) (hdl (0) (by unfold kD; omega)) w0 rfl 6 (by decide) (hts _ q_186) (fun _ h9 => h9) rfl d_K_hours_9 ?_
    refine g_cVi (As := []) (rest := []) ⟨hx, hb, hml, hown, hts⟩ (c_N_exists l hdl w22 hn) (gcwV 0 hts q_310 q_307 q_308 q_309 q_6 (by decide +kernel) ⟨(Nat.le_of_ble_eq_true rfl), (Nat.le_of_ble_eq_true rfl)⟩) gNl_ok hN hK hW hS hA (hdl (22) (by unfold kD; omega)) w22 rfl rfl hl.1 rfl (Nat.le_of_ble_eq_true rfl) d_K_hours_12 ⟨Nat.zero_le _, Nat.zero_le _⟩ (fun r co9 H locs hp9 hW hS => ?_)
    obtain ⟨rfl, hco9⟩ := hp9
    rw [hco9] at hW
    refine n_ifz_eq (tgt := 36) hx hb d_K_hours_15 (by decide) (fun g2 => ?_) (fun g2 => ?_)
    · refine lv_ldc2 hx hb hown (hts _ q_349) d_K_hours_36 ?_
      exact g_lret hx hb hr hlocks hW hS (⟨by simp only [decide_eq_false_iff_not] at g2; simp [g2], rfl⟩) d_K_hours_39
    · refine lv_aload_n hx hb d_K_hours_18 rfl (lv_at hl 0 rfl) ?_
      refine g_get (C := R_K) (T := F_K) (N := 13) hx hb hts i_K hown hK hW (i := 0) (hdl (0) (by unfold kD; omega)) w0 rfl 6 (by decide) (hts _ q_186) (fun _ h9 => h9) rfl d_K_hours_19 ?_
      refine lv_iload_n hx hb d_K_hours_22 rfl (lv_at hl 1 rfl) ?_
      refine lv_aload_n hx hb d_K_hours_23 rfl (lv_at hl 0 rfl) ?_
      refine g_get (C := R_K) (T := F_K) (N := 13) hx hb hts i_K hown hK hW (i := 0) (hdl (0) (by unfold kD; omega)) w0 rfl 1 (by decide) (hts _ q_181) (fun _ h9 => h9) rfl d_K_hours_24 ?_
      refine g_get (C := R_T) (T := F_T) (N := 6) hx hb hts i_T hown hK hW (i := 1) (hdl (1) (by unfold kD; omega)) w1 rfl 0 (by decide) (hts _ q_33) (fun _ h9 => h9) rfl d_K_hours_27 ?_
      refine g_cVl (As := [.int x, .ref (ad 2)]) (rest := []) ⟨hx, hb, hml, hown, hts⟩ (c_N_secondsOf l hdl w22 w2 w23 x hn) (gcwV 2 hts q_373 q_370 q_371 q_372 q_6 (by decide +kernel) ⟨(Nat.le_of_ble_eq_true rfl), (Nat.le_of_ble_eq_true rfl)⟩) gNl_ok hN hK hW hS hA (hdl (22) (by unfold kD; omega)) w22 rfl rfl hl.1 rfl (Nat.le_of_ble_eq_true rfl) d_K_hours_30 ⟨Nat.zero_le _, Nat.zero_le _⟩ (fun r co9 H locs hp9 hW hS => ?_)
      obtain ⟨rfl, hco9⟩ := hp9
      rw [hco9] at hW
      refine lv_goto (tgt := 39) hx hb d_K_hours_33 (by decide) ?_
      exact g_lret hx hb hr hlocks hW hS (⟨by rw [if_pos ⟨g1, of_decide_eq_true g2⟩], rfl⟩) d_K_hours_39
set_option maxHeartbeats 4000000 in
set_option maxRecDepth 100000 in
/-- haul -/
theorem c_K_haul (l : Launch) {D : va_G} {cI cJ cG : ClassId} {ad : Nat → Nat} {co : Nat → va_E} {dl : List Nat} {a sh mg kn kc n : Nat} {kr : Int32}  (hdl : ∀ i, kD a i → i ∈ dl) (w0 : co 0 = oK ad a kr sh mg) (w22 : co 22 = oN ad kn kc) (w1 : co 1 = oT ad n) {sec : Nat → Int64} {ln : Nat → Int32} (w2 : co 2 = .inl (cJ, 200, .inr (.inl sec))) (w23 : co 23 = .inl (cI, 200, .inl ln)) (x e9 : Int32) (hn : kn ≤ 200) : gMi l y_K_haul (Cond.code y_K_haul b_K_haul 6 (some .int) :: wA) ({ frames := 4, cells := 0, slots := 0, locals := 86 }) D gCl (gTy cI cJ cG) gNl [.ref (ad 0), .int x, .int e9] ad co dl (fun r co' => r = sHaul kn ln sec x e9 ∧ co' = co) := by
  refine gMi_of (cc := b_K_haul) (maxL := 6) (ret := some .int) (by decide) rfl (Nat.le_of_ble_eq_true rfl) ?_
  intro pp ee s mm below meth cd ls hC hW hS hl
  obtain ⟨hx, hb, hr, hts0, hown, hlocks, hml, hK, hN⟩ := hC
  have hts : ∀ w ∈ wA, w.before _ s = true := fun w h => hts0 w (List.mem_cons_of_mem _ h)
  have hA : ∀ q, s.heap.size ≤ q → gA ad co dl s.heap.size q := fun q h => Or.inr h
  have hl : lv_has ls 6 [(0, .ref (ad 0)), (1, .int x), (2, .int e9)] := hl
  have hown : s.vm.findClass R_K = some mm.cls := hown
  refine lv_aload_n hx hb d_K_haul_0 rfl (lv_at hl 0 rfl) ?_
  refine g_get (C := R_K) (T := F_K) (N := 13) hx hb hts i_K hown hK hW (i := 0) (hdl (0) (by unfold kD; omega)) w0 rfl 6 (by decide) (hts _ q_186) (fun _ h9 => h9) rfl d_K_haul_1 ?_
  refine lv_iload_n hx hb d_K_haul_4 rfl (lv_at hl 1 rfl) ?_
  refine g_cVi (As := [.int x]) (rest := []) ⟨hx, hb, hml, hown, hts⟩ (c_N_haulStart l hdl w22 w23 x hn) (gcwV 1 hts q_386 q_383 q_384 q_385 q_6 (by decide +kernel) ⟨(Nat.le_of_ble_eq_true rfl), (Nat.le_of_ble_eq_true rfl)⟩) gNl_ok hN hK hW hS hA (hdl (22) (by unfold kD; omega)) w22 rfl rfl hl.1 rfl (Nat.le_of_ble_eq_true rfl) d_K_haul_5 ⟨Nat.zero_le _, Nat.zero_le _⟩ (fun r co9 H locs hp9 hW hS => ?_)
  obtain ⟨rfl, hco9⟩ := hp9
  rw [hco9] at hW
  refine lv_istore_n (lv' := [(3, .int (sFirst kn ln x)), (0, .ref (ad 0)), (1, .int x), (2, .int e9)]) hx hb d_K_haul_8 rfl hl (by decide) rfl (fun ls hl => ?_)
  refine lv_iload_n hx hb d_K_haul_9 rfl (lv_at hl 0 rfl) ?_
  refine lv_iconst (v := (-1)) hx hb d_K_haul_10 (by decide) ?_
  refine lv_icmp_eq (tgt := 22) hx hb d_K_haul_11 (by decide) (fun h1 => ?_) (fun h1 => ?_)
  · refine lv_iconst (v := (-1)) hx hb d_K_haul_22 (by decide) ?_
    exact g_iret hx hb hr hlocks hW hS (⟨by rw [sHaul, if_pos h1], rfl⟩) d_K_haul_23
  · obtain ⟨f, hf, hf1⟩ := sFirst_lt (by omega) h1
    have hsp : sHaul kn ln sec x e9 = sHaulF kn ln sec f e9 := by rw [sHaul, if_neg h1, hf, nI_clamp (show f < 2 ^ 31 by omega)]
    rw [hf] at hl
    refine lv_iload_n hx hb d_K_haul_14 rfl (lv_at hl 3 rfl) ?_
    refine lv_iconst (v := nI 2) hx hb d_K_haul_15 (by decide) ?_
    refine g_cSi (As := [.int e9, .int (nI 2)]) (rest := []) ⟨hx, hb, hml, hown, hts⟩ (c_K_isBelow l e9 2 (by decide)) (gcwS 2 hts q_230 q_228 q_229 q_1 (by decide +kernel) ⟨(Nat.le_of_ble_eq_true rfl), (Nat.le_of_ble_eq_true rfl)⟩) gNl_ok hN hK hW hS hA rfl hl.1 rfl (Nat.le_of_ble_eq_true rfl) d_K_haul_16 ⟨Nat.zero_le _, Nat.zero_le _⟩ (fun r co9 H locs hp9 hW hS => ?_)
    obtain ⟨rfl, hco9⟩ := hp9
    rw [hco9] at hW
    refine n_ifz_ne (tgt := 24) hx hb d_K_haul_19 (by decide) (fun g2 => ?_) (fun g2 => ?_)
    · have hin := g2
      obtain ⟨j, hj, rfl⟩ := inB_of (by decide) g2
      refine lv_iload_n hx hb d_K_haul_24 rfl (lv_at hl 3 rfl) ?_
      refine n_if_ne (tgt := 40) hx hb (by omega) d_K_haul_25 (by decide) (fun h4 => ?_) (fun h4 => ?_)
      · refine lv_aload_n hx hb d_K_haul_40 rfl (lv_at hl 1 rfl) ?_
        refine g_get (C := R_K) (T := F_K) (N := 13) hx hb hts i_K hown hK hW (i := 0) (hdl (0) (by unfold kD; omega)) w0 rfl 6 (by decide) (hts _ q_186) (fun _ h9 => h9) rfl d_K_haul_41 ?_
        refine lv_aload_n hx hb d_K_haul_44 rfl (lv_at hl 1 rfl) ?_
        refine g_get (C := R_K) (T := F_K) (N := 13) hx hb hts i_K hown hK hW (i := 0) (hdl (0) (by unfold kD; omega)) w0 rfl 6 (by decide) (hts _ q_186) (fun _ h9 => h9) rfl d_K_haul_45 ?_
        refine lv_iload_n hx hb d_K_haul_48 rfl (lv_at hl 0 rfl) ?_
        refine g_cVi (As := [.int (nI f)]) (rest := [.ref (ad 22)]) ⟨hx, hb, hml, hown, hts⟩ (c_N_haulLast l hdl w22 w23 f (by omega) hn) (gcwV 1 hts q_395 q_392 q_393 q_394 q_6 (by decide +kernel) ⟨(Nat.le_of_ble_eq_true rfl), (Nat.le_of_ble_eq_true rfl)⟩) gNl_ok hN hK hW hS hA (hdl (22) (by unfold kD; omega)) w22 rfl rfl hl.1 rfl (Nat.le_of_ble_eq_true rfl) d_K_haul_49 ⟨Nat.zero_le _, Nat.zero_le _⟩ (fun r co9 H locs hp8 hW hS => ?_)
        obtain ⟨rfl, hco9⟩ := hp8
        rw [hco9] at hW
        refine lv_aload_n hx hb d_K_haul_52 rfl (lv_at hl 1 rfl) ?_
        refine g_get (C := R_K) (T := F_K) (N := 13) hx hb hts i_K hown hK hW (i := 0) (hdl (0) (by unfold kD; omega)) w0 rfl 1 (by decide) (hts _ q_181) (fun _ h9 => h9) rfl d_K_haul_53 ?_
        refine g_get (C := R_T) (T := F_T) (N := 6) hx hb hts i_T hown hK hW (i := 1) (hdl (1) (by unfold kD; omega)) w1 rfl 0 (by decide) (hts _ q_33) (fun _ h9 => h9) rfl d_K_haul_56 ?_
        refine g_cVl (As := [.int (nI (sLast kn ln f)), .ref (ad 2)]) (rest := []) ⟨hx, hb, hml, hown, hts⟩ (c_N_endOf l hdl w22 w2 (sLast kn ln f) (lastF_lt (by omega)) hn) (gcwV 2 hts q_377 q_396 q_375 q_376 q_6 (by decide +kernel) ⟨(Nat.le_of_ble_eq_true rfl), (Nat.le_of_ble_eq_true rfl)⟩) gNl_ok hN hK hW hS hA (hdl (22) (by unfold kD; omega)) w22 rfl rfl hl.1 rfl (Nat.le_of_ble_eq_true rfl) d_K_haul_59 ⟨Nat.zero_le _, Nat.zero_le _⟩ (fun r co9 H locs hp9 hW hS => ?_)
        obtain ⟨rfl, hco9⟩ := hp9
        rw [hco9] at hW
        refine lv_lstore (lv' := [(4, .long (sEnd kn sec (sLast kn ln f))), (3, .int (nI f)), (0, .ref (ad 0)), (1, .int x), (2, .int (nI j))]) hx hb d_K_haul_62 hl (by decide) rfl (fun ls hl => ?_)
        refine lv_lload hx hb d_K_haul_64 (lv_at hl 0 rfl) ?_
        refine lv_ldc2 hx hb hown (hts _ q_397) d_K_haul_66 ?_
        refine W.lcmp hx hb d_K_haul_69 ?_
        refine lv_if_gt (tgt := 79) hx hb d_K_haul_70 (by decide) (fun h5 => ?_) (fun h5 => ?_)
        · refine lv_iconst (v := (-1)) hx hb d_K_haul_79 (by decide) ?_
          exact g_iret hx hb hr hlocks hW hS (⟨by rw [hsp, sHaulF, if_pos hin, if_neg (show ¬ nI j = 0 from nI_ne0 h4 (by omega)), if_pos (lc_gt h5)], rfl⟩) d_K_haul_80
        · refine lv_lload hx hb d_K_haul_73 (lv_at hl 0 rfl) ?_
          refine lv_l2i (v := (sEnd kn sec (sLast kn ln f)).toInt32) hx hb d_K_haul_75 rfl ?_
          refine lv_goto (tgt := 80) hx hb d_K_haul_76 (by decide) ?_
          exact g_iret hx hb hr hlocks hW hS (⟨by rw [hsp, sHaulF, if_pos hin, if_neg (show ¬ nI j = 0 from nI_ne0 h4 (by omega)), if_neg (L_nle (lc_ngt h5))], rfl⟩) d_K_haul_80
      · refine lv_aload_n hx hb d_K_haul_28 rfl (lv_at hl 1 rfl) ?_
        refine g_get (C := R_K) (T := F_K) (N := 13) hx hb hts i_K hown hK hW (i := 0) (hdl (0) (by unfold kD; omega)) w0 rfl 1 (by decide) (hts _ q_181) (fun _ h9 => h9) rfl d_K_haul_29 ?_
        refine g_get (C := R_T) (T := F_T) (N := 6) hx hb hts i_T hown hK hW (i := 1) (hdl (1) (by unfold kD; omega)) w1 rfl 0 (by decide) (hts _ q_33) (fun _ h9 => h9) rfl d_K_haul_32 ?_
        refine lv_iload_n hx hb d_K_haul_35 rfl (lv_at hl 0 rfl) ?_
        refine n_lald hx hb hK hW 1 (q := 2) (hdl (2) (by unfold kD; omega)) w2 rfl (j := f) (by omega) (by omega) d_K_haul_36 ?_
        refine lv_goto (tgt := 62) hx hb d_K_haul_37 (by decide) ?_
        refine lv_lstore (lv' := [(4, .long (sec f)), (3, .int (nI f)), (0, .ref (ad 0)), (1, .int x), (2, .int (nI j))]) hx hb d_K_haul_62 hl (by decide) rfl (fun ls hl => ?_)
        refine lv_lload hx hb d_K_haul_64 (lv_at hl 0 rfl) ?_
        refine lv_ldc2 hx hb hown (hts _ q_397) d_K_haul_66 ?_
        refine W.lcmp hx hb d_K_haul_69 ?_
        refine lv_if_gt (tgt := 79) hx hb d_K_haul_70 (by decide) (fun h5 => ?_) (fun h5 => ?_)
        · refine lv_iconst (v := (-1)) hx hb d_K_haul_79 (by decide) ?_
          exact g_iret hx hb hr hlocks hW hS (⟨by rw [hsp, sHaulF, if_pos hin, if_pos (show nI j = 0 by rw [h4]; exact nI_0), if_pos (lc_gt h5)], rfl⟩) d_K_haul_80
        · refine lv_lload hx hb d_K_haul_73 (lv_at hl 0 rfl) ?_
          refine lv_l2i (v := (sec f).toInt32) hx hb d_K_haul_75 rfl ?_
          refine lv_goto (tgt := 80) hx hb d_K_haul_76 (by decide) ?_
          exact g_iret hx hb hr hlocks hW hS (⟨by rw [hsp, sHaulF, if_pos hin, if_pos (show nI j = 0 by rw [h4]; exact nI_0), if_neg (L_nle (lc_ngt h5))], rfl⟩) d_K_haul_80
    · refine lv_iconst (v := (-1)) hx hb d_K_haul_22 (by decide) ?_
      exact g_iret hx hb hr hlocks hW hS (⟨by rw [hsp, sHaulF, if_neg (by rw [g2]; decide)], rfl⟩) d_K_haul_23
set_option maxHeartbeats 4000000 in
set_option maxRecDepth 100000 in
/-- gear -/
theorem c_K_gear (l : Launch) {D : va_G} {cI cJ cG : ClassId} {ad : Nat → Nat} {co : Nat → va_E} {dl : List Nat} {a sh mg kn kc n : Nat} {kr : Int32}  (hdl : ∀ i, kD a i → i ∈ dl) (w0 : co 0 = oK ad a kr sh mg) (w22 : co 22 = oN ad kn kc) (w1 : co 1 = oT ad n) {trn : Nat → Int32} {ln : Nat → Int32} (w4 : co 4 = .inl (cI, 200, .inl trn)) (w23 : co 23 = .inl (cI, 200, .inl ln)) (x : Int32) (hn : kn ≤ 200) : gMi l y_K_gear (Cond.code y_K_gear b_K_gear 5 (some .int) :: wA) ({ frames := 4, cells := 0, slots := 0, locals := 86 }) D gCl (gTy cI cJ cG) gNl [.ref (ad 0), .int x] ad co dl (fun r co' => r = sGear kn ln trn x ∧ co' = co) := by
  refine gMi_of (cc := b_K_gear) (maxL := 5) (ret := some .int) (by decide) rfl (Nat.le_of_ble_eq_true rfl) ?_
  intro pp ee s mm below meth cd ls hC hW hS hl
  obtain ⟨hx, hb, hr, hts0, hown, hlocks, hml, hK, hN⟩ := hC
  have hts : ∀ w ∈ wA, w.before _ s = true := fun w h => hts0 w (List.mem_cons_of_mem _ h)
  have hA : ∀ q, s.heap.size ≤ q → gA ad co dl s.heap.size q := fun q h => Or.inr h
  have hl : lv_has ls 5 [(0, .ref (ad 0)), (1, .int x)] := hl
  have hown : s.vm.findClass R_K = some mm.cls := hown
  refine lv_aload_n hx hb d_K_gear_0 rfl (lv_at hl 0 rfl) ?_
  refine g_get (C := R_K) (T := F_K) (N := 13) hx hb hts i_K hown hK hW (i := 0) (hdl (0) (by unfold kD; omega)) w0 rfl 6 (by decide) (hts _ q_186) (fun _ h9 => h9) rfl d_K_gear_1 ?_
  refine lv_iload_n hx hb d_K_gear_4 rfl (lv_at hl 1 rfl) ?_
  refine g_cVi (As := [.int x]) (rest := []) ⟨hx, hb, hml, hown, hts⟩ (c_N_haulStart l hdl w22 w23 x hn) (gcwV 1 hts q_386 q_383 q_384 q_385 q_6 (by decide +kernel) ⟨(Nat.le_of_ble_eq_true rfl), (Nat.le_of_ble_eq_true rfl)⟩) gNl_ok hN hK hW hS hA (hdl (22) (by unfold kD; omega)) w22 rfl rfl hl.1 rfl (Nat.le_of_ble_eq_true rfl) d_K_gear_5 ⟨Nat.zero_le _, Nat.zero_le _⟩ (fun r co9 H locs hp9 hW hS => ?_)
  obtain ⟨rfl, hco9⟩ := hp9
  rw [hco9] at hW
  refine lv_istore_n (lv' := [(2, .int (sFirst kn ln x)), (0, .ref (ad 0)), (1, .int x)]) hx hb d_K_gear_8 rfl hl (by decide) rfl (fun ls hl => ?_)
  refine lv_iload_n hx hb d_K_gear_9 rfl (lv_at hl 0 rfl) ?_
  refine lv_iconst (v := (-1)) hx hb d_K_gear_10 (by decide) ?_
  refine lv_icmp_ne (tgt := 16) hx hb d_K_gear_11 (by decide) (fun h1 => ?_) (fun h1 => ?_)
  · obtain ⟨f, hf, hf1⟩ := sFirst_lt (by omega) h1
    have hsp : sGear kn ln trn x = sGearF kn ln trn f := by rw [sGear, if_neg h1, hf, nI_clamp (show f < 2 ^ 31 by omega)]
    rw [hf] at hl
    obtain ⟨g, hg⟩ : ∃ g, g = sLast kn ln f := ⟨_, rfl⟩
    have hg0 : f ≤ g := by rw [hg]; exact lastF_ge
    have hg1 : g < kn := by rw [hg]; exact lastF_lt (by omega)
    rw [sGearF, ← hg] at hsp
    have hT : ∀ d, turnsF trn f d ≤ d := by
      intro d
      induction d with
      | zero => exact Nat.le_refl 0
      | succ d ih => unfold turnsF; split <;> omega
    have hTz := hT (g - f + 1)
    refine lv_aload_n hx hb d_K_gear_16 rfl (lv_at hl 1 rfl) ?_
    refine g_get (C := R_K) (T := F_K) (N := 13) hx hb hts i_K hown hK hW (i := 0) (hdl (0) (by unfold kD; omega)) w0 rfl 6 (by decide) (hts _ q_186) (fun _ h9 => h9) rfl d_K_gear_17 ?_
    refine lv_iload_n hx hb d_K_gear_20 rfl (lv_at hl 0 rfl) ?_
    refine g_cVi (As := [.int (nI f)]) (rest := []) ⟨hx, hb, hml, hown, hts⟩ (c_N_haulLast l hdl w22 w23 f (by omega) hn) (gcwV 1 hts q_395 q_392 q_393 q_394 q_6 (by decide +kernel) ⟨(Nat.le_of_ble_eq_true rfl), (Nat.le_of_ble_eq_true rfl)⟩) gNl_ok hN hK hW hS hA (hdl (22) (by unfold kD; omega)) w22 rfl rfl hl.1 rfl (Nat.le_of_ble_eq_true rfl) d_K_gear_21 ⟨Nat.zero_le _, Nat.zero_le _⟩ (fun r co9 H locs hp8 hW hS => ?_)
    obtain ⟨rfl, hco9⟩ := hp8
    rw [hco9] at hW
    rw [← hg]
    refine lv_istore_n (lv' := [(3, .int (nI g)), (2, .int (nI f)), (0, .ref (ad 0)), (1, .int x)]) hx hb d_K_gear_24 rfl hl (by decide) rfl (fun ls hl => ?_)
    refine lv_aload_n hx hb d_K_gear_25 rfl (lv_at hl 2 rfl) ?_
    refine g_get (C := R_K) (T := F_K) (N := 13) hx hb hts i_K hown hK hW (i := 0) (hdl (0) (by unfold kD; omega)) w0 rfl 1 (by decide) (hts _ q_181) (fun _ h9 => h9) rfl d_K_gear_26 ?_
    refine lv_iload_n hx hb d_K_gear_29 rfl (lv_at hl 1 rfl) ?_
    refine lv_iload_n hx hb d_K_gear_30 rfl (lv_at hl 0 rfl) ?_
    refine g_cVi (As := [.int (nI f), .int (nI g)]) (rest := []) ⟨hx, hb, hml, hown, hts⟩ (c_T_turningRows l hdl w1 w4 f g hg0 (by omega)) (gcwV 2 hts q_459 q_456 q_457 q_458 q_3 (by decide +kernel) ⟨(Nat.le_of_ble_eq_true rfl), (Nat.le_of_ble_eq_true rfl)⟩) gNl_ok hN hK hW hS hA (hdl (1) (by unfold kD; omega)) w1 rfl rfl hl.1 rfl (Nat.le_of_ble_eq_true rfl) d_K_gear_31 ⟨Nat.zero_le _, Nat.zero_le _⟩ (fun r co9 H locs hp9 hW hS => ?_)
    obtain ⟨rfl, hco9⟩ := hp9
    rw [hco9] at hW
    refine lv_istore (lv' := [(4, .int (nI (turnsF trn f (g - f + 1)))), (3, .int (nI g)), (2, .int (nI f)), (0, .ref (ad 0)), (1, .int x)]) hx hb d_K_gear_34 hl (by decide) rfl (fun ls hl => ?_)
    refine lv_iconst (v := nI 2) hx hb d_K_gear_36 (by decide) ?_
    refine lv_iload hx hb d_K_gear_37 (lv_at hl 0 rfl) ?_
    refine n_mul hx hb d_K_gear_39 ?_
    refine lv_iload_n hx hb d_K_gear_40 rfl (lv_at hl 1 rfl) ?_
    refine lv_iload_n hx hb d_K_gear_41 rfl (lv_at hl 2 rfl) ?_
    refine n_sub hx hb (by omega) d_K_gear_42 ?_
    refine lv_iconst (v := nI 1) hx hb d_K_gear_43 (by decide) ?_
    refine n_add hx hb d_K_gear_44 ?_
    refine n_icmp_le (tgt := 52) hx hb (by omega) (by omega) d_K_gear_45 (by decide) (fun h3 => ?_) (fun h3 => ?_)
    · refine lv_iconst (v := nI 0) hx hb d_K_gear_52 (by decide) ?_
      exact g_iret hx hb hr hlocks hW hS (⟨by rw [hsp]; exact bI_0 (decide_eq_false (by omega)), rfl⟩) d_K_gear_53
    · refine lv_iconst (v := nI 1) hx hb d_K_gear_48 (by decide) ?_
      refine lv_goto (tgt := 53) hx hb d_K_gear_49 (by decide) ?_
      exact g_iret hx hb hr hlocks hW hS (⟨by rw [hsp]; exact bI_1 (decide_eq_true (by omega)), rfl⟩) d_K_gear_53
  · refine lv_iconst (v := (-1)) hx hb d_K_gear_14 (by decide) ?_
    exact g_iret hx hb hr hlocks hW hS (⟨by rw [sGear, if_pos h1], rfl⟩) d_K_gear_15
