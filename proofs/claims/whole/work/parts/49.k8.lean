set_option maxHeartbeats 4000000 in
set_option maxRecDepth 100000 in
/-- clear -/
theorem c_B_clear (l : Launch) {D : va_G} {cI cJ cG : ClassId} {ad : Nat → Nat} {co : Nat → va_E} {dl : List Nat} {a : Nat}  (hdl : ∀ i, kD a i → i ∈ dl)    {tb c1 c2 m1 m2 : Nat} (htab : (tb = 7 ∧ c1 = 8 ∧ c2 = 9 ∧ m1 = 40 ∧ m2 = 60) ∨ (tb = 10 ∧ c1 = 11 ∧ c2 = 12 ∧ m1 = 80 ∧ m2 = 100) ∨ (tb = 13 ∧ c1 = 14 ∧ c2 = 15 ∧ m1 = 120 ∧ m2 = 140)) (wtb : co tb = oB ad c1 c2) (wc1 : co c1 = oG ad cG a m1) (wc2 : co c2 = oG ad cG a m2) {MV SP : Nat → Nat → Int32} (wm1 : ∀ i, i < a → co (m1 + i) = .inl (cI, a, .inl (MV i))) (wm2 : ∀ i, i < a → co (m2 + i) = .inl (cI, 10, .inl (SP i))) (ha : a ≤ 12)  : gMv l y_B_clear (Cond.code y_B_clear b_B_clear 2 none :: wA) ({ frames := 1, cells := 0, slots := 0, locals := 60 }) D gCl (gTy cI cJ cG) gNl [.ref (ad tb)] ad co dl (fun co' => ∃ M S, co' = gG cI m2 a 10 (gG cI m1 a a co M) S ∧ ∀ i, i < a → (∀ j, j < a → M i j = nI 0) ∧ ∀ c, c < 10 → S i c = nI 0) := by
  refine gMv_of (cc := b_B_clear) (maxL := 2) (ret := none) (by decide) rfl (Nat.le_of_ble_eq_true rfl) ?_
  intro pp ee s mm below meth cd ls hC hW hS hl
  obtain ⟨hx, hb, hr, hts0, hown, hlocks, hml, hK, hN⟩ := hC
  have hts : ∀ w ∈ wA, w.before _ s = true := fun w h => hts0 w (List.mem_cons_of_mem _ h)
  have hA : ∀ q, s.heap.size ≤ q → gA ad co dl s.heap.size q := fun q h => Or.inr h
  have hl : lv_has ls 2 [(0, .ref (ad tb))] := hl
  have hown : s.vm.findClass R_B = some mm.cls := hown
  have hW := gW_eq (gG_self wm1) hW
  have hW := gW_eq (gG_self (G := SP) (base := m2) (n := a) (len := 10) (fun i hi => (gG_o (by omega)).trans (wm2 i hi))) hW
  refine lv_iconst (v := nI 0) hx hb d_B_clear_0 (by decide) ?_
  refine lv_istore_n (lv' := [(1, .int (nI 0)), (0, .ref (ad tb))]) hx hb d_B_clear_1 rfl hl (by decide) rfl (fun ls hl => ?_)
  suffices hloop : ∀ (d i : Nat) (M S : Nat → Nat → Int32) (H : Heap) (locs : List Loc) (ls : Array Slot), (i ≤ a) → (a + 1 ≤ i + d) → (∀ z, z < i → (∀ j, j < a → M z j = nI 0) ∧ ∀ c, c < 10 → S z c = nI 0) → gW D gCl (gA ad co dl s.heap.size) ad (gG cI m2 a 10 (gG cI m1 a a co M) S) dl H → va_S (gA ad co dl s.heap.size) s.heap H locs → lv_has ls 2 [(0, .ref (ad tb)), (1, .int (nI i))] → W pp l ee _ s mm _ below meth cd H locs 0 0 _ (F0 mm 2 ls []) by
    exact hloop (a + 1) 0 MV SP _ _ ls (by omega) (by omega) (fun z h => absurd h (Nat.not_lt_zero z)) hW hS (lv_sub hl [1, 0] rfl)
  clear hW hS hl
  intro d
  induction d with
  | zero => intro i M S H locs ls hi hd hM; omega
  | succ d ih =>
    intro i M S H locs ls hi hd hM hW hS hl
    refine lv_iload_n hx hb d_B_clear_2 rfl (lv_at hl 1 rfl) ?_
    refine lv_aload_n hx hb d_B_clear_3 rfl (lv_at hl 0 rfl) ?_
    refine g_get (C := R_B) (T := F_B) (N := 2) hx hb hts i_B hown hK hW (i := tb) (hdl (tb) (by unfold kD; omega)) ((gG_o (by omega)).trans ((gG_o (by omega)).trans wtb)) rfl 0 (by decide) (hts _ q_70) (fun _ h9 => h9) rfl d_B_clear_4 ?_
    refine g_alen hx hb hK hW 2 (q := c1) (hdl (c1) (by unfold kD; omega)) ((gG_o (by omega)).trans ((gG_o (by omega)).trans wc1)) rfl (v := nI a) rfl d_B_clear_7 ?_
    refine n_icmp_ge (tgt := 37) hx hb (by omega) (by omega) d_B_clear_8 (by decide) (fun h1 => ?_) (fun h1 => ?_)
    · have hia : i = a := by omega
      rw [hia] at hM
      exact g_vret hx hb hr hlocks hW hS (⟨M, S, rfl, hM⟩) d_B_clear_37
    · refine lv_aload_n hx hb d_B_clear_11 rfl (lv_at hl 0 rfl) ?_
      refine g_get (C := R_B) (T := F_B) (N := 2) hx hb hts i_B hown hK hW (i := tb) (hdl (tb) (by unfold kD; omega)) ((gG_o (by omega)).trans ((gG_o (by omega)).trans wtb)) rfl 0 (by decide) (hts _ q_70) (fun _ h9 => h9) rfl d_B_clear_12 ?_
      refine lv_iload_n hx hb d_B_clear_15 rfl (lv_at hl 1 rfl) ?_
      refine n_aald hx hb hK hW 2 (q := c1) (hdl (c1) (by unfold kD; omega)) ((gG_o (by omega)).trans ((gG_o (by omega)).trans wc1)) rfl rfl (j := i) (by omega) (by omega) (b := ad (m1 + i)) (if_pos (by omega)) d_B_clear_16 ?_
      refine lv_iconst (v := nI 0) hx hb d_B_clear_17 (by decide) ?_
      refine n_topi (show nI 0 = nI 0 from rfl) ?_
      refine g_cSv (As := [.ref (ad (m1 + i)), .int (nI 0)]) (rest := []) ⟨hx, hb, hml, hown, hts⟩ (c_JA_fill l (q := m1 + i) (hdl _ (by unfold kD; omega)) ((gG_o (by omega)).trans (gG_at (by omega))) (by omega) (nI 0)) (gcwS 2 hts q_284 q_332 q_283 q_11 (by decide +kernel) ⟨(Nat.le_of_ble_eq_true rfl), (Nat.le_of_ble_eq_true rfl)⟩) gNl_ok hN hK hW hS hA rfl hl.1 rfl (Nat.le_of_ble_eq_true rfl) d_B_clear_18 ⟨Nat.zero_le _, Nat.zero_le _⟩ (fun co9 H locs hp9 hW hS => ?_)
      rw [hp9, gG_c (by omega), gG_u h1] at hW
      refine lv_aload_n hx hb d_B_clear_21 rfl (lv_at hl 0 rfl) ?_
      refine g_get (C := R_B) (T := F_B) (N := 2) hx hb hts i_B hown hK hW (i := tb) (hdl (tb) (by unfold kD; omega)) ((gG_o (by omega)).trans ((gG_o (by omega)).trans wtb)) rfl 1 (by decide) (hts _ q_73) (fun _ h9 => h9) rfl d_B_clear_22 ?_
      refine lv_iload_n hx hb d_B_clear_25 rfl (lv_at hl 1 rfl) ?_
      refine n_aald hx hb hK hW 2 (q := c2) (hdl (c2) (by unfold kD; omega)) ((gG_o (by omega)).trans ((gG_o (by omega)).trans wc2)) rfl rfl (j := i) (by omega) (by omega) (b := ad (m2 + i)) (if_pos (by omega)) d_B_clear_26 ?_
      refine lv_iconst (v := nI 0) hx hb d_B_clear_27 (by decide) ?_
      refine n_topi (show nI 0 = nI 0 from rfl) ?_
      refine g_cSv (As := [.ref (ad (m2 + i)), .int (nI 0)]) (rest := []) ⟨hx, hb, hml, hown, hts⟩ (c_JA_fill l (q := m2 + i) (hdl _ (by unfold kD; omega)) (gG_at h1) (by omega) (nI 0)) (gcwS 2 hts q_284 q_332 q_283 q_11 (by decide +kernel) ⟨(Nat.le_of_ble_eq_true rfl), (Nat.le_of_ble_eq_true rfl)⟩) gNl_ok hN hK hW hS hA rfl hl.1 rfl (Nat.le_of_ble_eq_true rfl) d_B_clear_28 ⟨Nat.zero_le _, Nat.zero_le _⟩ (fun co9 H locs hp8 hW hS => ?_)
      rw [hp8, gG_u h1] at hW
      refine n_iinc (lv' := [(1, .int (nI (i + 1))), (0, .ref (ad tb))]) hx hb d_B_clear_31 hl (k := 1) rfl (by decide) rfl (fun ls hl => ?_)
      refine lv_goto (tgt := 2) hx hb d_B_clear_34 (by decide) ?_
      refine ih (i + 1) _ _ _ _ ls (by omega) (by omega) (lt_s (fun z hz => ?_) ?_) hW hS (lv_sub hl [1, 0] rfl)
      · rw [va_up_ne _ _ (show z ≠ i by omega), va_up_ne _ _ (show z ≠ i by omega)]; exact hM z hz
      · rw [va_up_self, va_up_self]; exact ⟨fun j hj => if_pos hj, fun c hc => if_pos hc⟩
set_option maxHeartbeats 4000000 in
set_option maxRecDepth 100000 in
/-- copyFrom -/
theorem c_B_copyFrom (l : Launch) {D : va_G} {cI cJ cG : ClassId} {ad : Nat → Nat} {co : Nat → va_E} {dl : List Nat} {a : Nat}  (hdl : ∀ i, kD a i → i ∈ dl)    {tb c1 c2 m1 m2 : Nat} (htab : (tb = 7 ∧ c1 = 8 ∧ c2 = 9 ∧ m1 = 40 ∧ m2 = 60) ∨ (tb = 10 ∧ c1 = 11 ∧ c2 = 12 ∧ m1 = 80 ∧ m2 = 100) ∨ (tb = 13 ∧ c1 = 14 ∧ c2 = 15 ∧ m1 = 120 ∧ m2 = 140)) (wtb : co tb = oB ad c1 c2) (wc1 : co c1 = oG ad cG a m1) (wc2 : co c2 = oG ad cG a m2) {MV SP : Nat → Nat → Int32} (wm1 : ∀ i, i < a → co (m1 + i) = .inl (cI, a, .inl (MV i))) (wm2 : ∀ i, i < a → co (m2 + i) = .inl (cI, 10, .inl (SP i))) {ob d1 d2 e1 e2 : Nat} (hot : (tb = 7 ∧ ob = 10 ∧ d1 = 11 ∧ d2 = 12 ∧ e1 = 80 ∧ e2 = 100) ∨ (tb = 10 ∧ ob = 7 ∧ d1 = 8 ∧ d2 = 9 ∧ e1 = 40 ∧ e2 = 60) ∨ (tb = 10 ∧ ob = 13 ∧ d1 = 14 ∧ d2 = 15 ∧ e1 = 120 ∧ e2 = 140)) (wob : co ob = oB ad d1 d2) (wd1 : co d1 = oG ad cG a e1) (wd2 : co d2 = oG ad cG a e2) {MV2 SP2 : Nat → Nat → Int32} (we1 : ∀ i, i < a → co (e1 + i) = .inl (cI, a, .inl (MV2 i))) (we2 : ∀ i, i < a → co (e2 + i) = .inl (cI, 10, .inl (SP2 i))) (ha : a ≤ 12)  : gMv l y_B_copyFrom (Cond.code y_B_copyFrom b_B_copyFrom 3 none :: wA) ({ frames := 1, cells := 0, slots := 0, locals := 60 }) D gCl (gTy cI cJ cG) gNl [.ref (ad tb), .ref (ad ob)] ad co dl (fun co' => ∃ M S, co' = gG cI m2 a 10 (gG cI m1 a a co M) S ∧ ∀ i, i < a → (∀ j, j < a → M i j = MV2 i j) ∧ ∀ c, c < 10 → S i c = SP2 i c) := by
  refine gMv_of (cc := b_B_copyFrom) (maxL := 3) (ret := none) (by decide) rfl (Nat.le_of_ble_eq_true rfl) ?_
  intro pp ee s mm below meth cd ls hC hW hS hl
  obtain ⟨hx, hb, hr, hts0, hown, hlocks, hml, hK, hN⟩ := hC
  have hts : ∀ w ∈ wA, w.before _ s = true := fun w h => hts0 w (List.mem_cons_of_mem _ h)
  have hA : ∀ q, s.heap.size ≤ q → gA ad co dl s.heap.size q := fun q h => Or.inr h
  have hl : lv_has ls 3 [(0, .ref (ad tb)), (1, .ref (ad ob))] := hl
  have hown : s.vm.findClass R_B = some mm.cls := hown
  have hW := gW_eq (gG_self wm1) hW
  have hW := gW_eq (gG_self (G := SP) (base := m2) (n := a) (len := 10) (fun i hi => (gG_o (by omega)).trans (wm2 i hi))) hW
  refine lv_iconst (v := nI 0) hx hb d_B_copyFrom_0 (by decide) ?_
  refine lv_istore_n (lv' := [(2, .int (nI 0)), (0, .ref (ad tb)), (1, .ref (ad ob))]) hx hb d_B_copyFrom_1 rfl hl (by decide) rfl (fun ls hl => ?_)
  suffices hloop : ∀ (d i : Nat) (M S : Nat → Nat → Int32) (H : Heap) (locs : List Loc) (ls : Array Slot), (i ≤ a) → (a + 1 ≤ i + d) → (∀ z, z < i → (∀ j, j < a → M z j = MV2 z j) ∧ ∀ c, c < 10 → S z c = SP2 z c) → gW D gCl (gA ad co dl s.heap.size) ad (gG cI m2 a 10 (gG cI m1 a a co M) S) dl H → va_S (gA ad co dl s.heap.size) s.heap H locs → lv_has ls 3 [(0, .ref (ad tb)), (1, .ref (ad ob)), (2, .int (nI i))] → W pp l ee _ s mm _ below meth cd H locs 0 0 _ (F0 mm 2 ls []) by
    exact hloop (a + 1) 0 MV SP _ _ ls (by omega) (by omega) (fun z h => absurd h (Nat.not_lt_zero z)) hW hS (lv_sub hl [1, 2, 0] rfl)
  clear hW hS hl
  intro d
  induction d with
  | zero => intro i M S H locs ls hi hd hM; omega
  | succ d ih =>
    intro i M S H locs ls hi hd hM hW hS hl
    refine lv_iload_n hx hb d_B_copyFrom_2 rfl (lv_at hl 2 rfl) ?_
    refine lv_aload_n hx hb d_B_copyFrom_3 rfl (lv_at hl 0 rfl) ?_
    refine g_get (C := R_B) (T := F_B) (N := 2) hx hb hts i_B hown hK hW (i := tb) (hdl (tb) (by unfold kD; omega)) ((gG_o (by omega)).trans ((gG_o (by omega)).trans wtb)) rfl 0 (by decide) (hts _ q_70) (fun _ h9 => h9) rfl d_B_copyFrom_4 ?_
    refine g_alen hx hb hK hW 2 (q := c1) (hdl (c1) (by unfold kD; omega)) ((gG_o (by omega)).trans ((gG_o (by omega)).trans wc1)) rfl (v := nI a) rfl d_B_copyFrom_7 ?_
    refine n_icmp_ge (tgt := 65) hx hb (by omega) (by omega) d_B_copyFrom_8 (by decide) (fun h1 => ?_) (fun h1 => ?_)
    · have hia : i = a := by omega
      rw [hia] at hM
      exact g_vret hx hb hr hlocks hW hS (⟨M, S, rfl, hM⟩) d_B_copyFrom_65
    · refine lv_aload_n hx hb d_B_copyFrom_11 rfl (lv_at hl 1 rfl) ?_
      refine g_get (C := R_B) (T := F_B) (N := 2) hx hb hts i_B hown hK hW (i := ob) (hdl (ob) (by unfold kD; omega)) ((gG_o (by omega)).trans ((gG_o (by omega)).trans wob)) rfl 0 (by decide) (hts _ q_70) (fun _ h9 => h9) rfl d_B_copyFrom_12 ?_
      refine lv_iload_n hx hb d_B_copyFrom_15 rfl (lv_at hl 2 rfl) ?_
      refine n_aald hx hb hK hW 2 (q := d1) (hdl (d1) (by unfold kD; omega)) ((gG_o (by omega)).trans ((gG_o (by omega)).trans wd1)) rfl rfl (j := i) (by omega) (by omega) (b := ad (e1 + i)) (if_pos (by omega)) d_B_copyFrom_16 ?_
      refine lv_iconst (v := nI 0) hx hb d_B_copyFrom_17 (by decide) ?_
      refine lv_aload_n hx hb d_B_copyFrom_18 rfl (lv_at hl 0 rfl) ?_
      refine g_get (C := R_B) (T := F_B) (N := 2) hx hb hts i_B hown hK hW (i := tb) (hdl (tb) (by unfold kD; omega)) ((gG_o (by omega)).trans ((gG_o (by omega)).trans wtb)) rfl 0 (by decide) (hts _ q_70) (fun _ h9 => h9) rfl d_B_copyFrom_19 ?_
      refine lv_iload_n hx hb d_B_copyFrom_22 rfl (lv_at hl 2 rfl) ?_
      refine n_aald hx hb hK hW 2 (q := c1) (hdl (c1) (by unfold kD; omega)) ((gG_o (by omega)).trans ((gG_o (by omega)).trans wc1)) rfl rfl (j := i) (by omega) (by omega) (b := ad (m1 + i)) (if_pos (by omega)) d_B_copyFrom_23 ?_
      refine lv_iconst (v := nI 0) hx hb d_B_copyFrom_24 (by decide) ?_
      refine lv_aload_n hx hb d_B_copyFrom_25 rfl (lv_at hl 0 rfl) ?_
      refine g_get (C := R_B) (T := F_B) (N := 2) hx hb hts i_B hown hK hW (i := tb) (hdl (tb) (by unfold kD; omega)) ((gG_o (by omega)).trans ((gG_o (by omega)).trans wtb)) rfl 0 (by decide) (hts _ q_70) (fun _ h9 => h9) rfl d_B_copyFrom_26 ?_
      refine lv_iload_n hx hb d_B_copyFrom_29 rfl (lv_at hl 2 rfl) ?_
      refine n_aald hx hb hK hW 2 (q := c1) (hdl (c1) (by unfold kD; omega)) ((gG_o (by omega)).trans ((gG_o (by omega)).trans wc1)) rfl rfl (j := i) (by omega) (by omega) (b := ad (m1 + i)) (if_pos (by omega)) d_B_copyFrom_30 ?_
      refine g_alen hx hb hK hW 0 (q := m1 + i) (hdl (m1 + i) (by unfold kD; omega)) ((gG_o (by omega)).trans (gG_at (by omega))) rfl (v := nI a) rfl d_B_copyFrom_31 ?_
      refine g_copyi hx hb (hml.trans hl.1.symm) hown (hts _ q_337) (hts _ q_277) (hts _ q_276) (hts _ q_10) hK hW hS 0 (q0 := e1 + i) (q1 := m1 + i) (hdl (e1 + i) (by unfold kD; omega)) (hdl (m1 + i) (by unfold kD; omega)) ((gG_o (by omega)).trans ((gG_o (by omega)).trans (we1 i (by omega)))) ((gG_o (by omega)).trans (gG_at (by omega))) rfl (n := a) (Nat.le_refl _) (Nat.le_refl _) (by omega) (Nat.le_of_ble_eq_true rfl) (Nat.le_of_ble_eq_true rfl) d_B_copyFrom_32 (fun H locs hW hS => ?_)
      rw [gG_c (by omega), gG_u h1] at hW
      refine lv_aload_n hx hb d_B_copyFrom_35 rfl (lv_at hl 1 rfl) ?_
      refine g_get (C := R_B) (T := F_B) (N := 2) hx hb hts i_B hown hK hW (i := ob) (hdl (ob) (by unfold kD; omega)) ((gG_o (by omega)).trans ((gG_o (by omega)).trans wob)) rfl 1 (by decide) (hts _ q_73) (fun _ h9 => h9) rfl d_B_copyFrom_36 ?_
      refine lv_iload_n hx hb d_B_copyFrom_39 rfl (lv_at hl 2 rfl) ?_
      refine n_aald hx hb hK hW 2 (q := d2) (hdl (d2) (by unfold kD; omega)) ((gG_o (by omega)).trans ((gG_o (by omega)).trans wd2)) rfl rfl (j := i) (by omega) (by omega) (b := ad (e2 + i)) (if_pos (by omega)) d_B_copyFrom_40 ?_
      refine lv_iconst (v := nI 0) hx hb d_B_copyFrom_41 (by decide) ?_
      refine lv_aload_n hx hb d_B_copyFrom_42 rfl (lv_at hl 0 rfl) ?_
      refine g_get (C := R_B) (T := F_B) (N := 2) hx hb hts i_B hown hK hW (i := tb) (hdl (tb) (by unfold kD; omega)) ((gG_o (by omega)).trans ((gG_o (by omega)).trans wtb)) rfl 1 (by decide) (hts _ q_73) (fun _ h9 => h9) rfl d_B_copyFrom_43 ?_
      refine lv_iload_n hx hb d_B_copyFrom_46 rfl (lv_at hl 2 rfl) ?_
      refine n_aald hx hb hK hW 2 (q := c2) (hdl (c2) (by unfold kD; omega)) ((gG_o (by omega)).trans ((gG_o (by omega)).trans wc2)) rfl rfl (j := i) (by omega) (by omega) (b := ad (m2 + i)) (if_pos (by omega)) d_B_copyFrom_47 ?_
      refine lv_iconst (v := nI 0) hx hb d_B_copyFrom_48 (by decide) ?_
      refine lv_aload_n hx hb d_B_copyFrom_49 rfl (lv_at hl 0 rfl) ?_
      refine g_get (C := R_B) (T := F_B) (N := 2) hx hb hts i_B hown hK hW (i := tb) (hdl (tb) (by unfold kD; omega)) ((gG_o (by omega)).trans ((gG_o (by omega)).trans wtb)) rfl 1 (by decide) (hts _ q_73) (fun _ h9 => h9) rfl d_B_copyFrom_50 ?_
      refine lv_iload_n hx hb d_B_copyFrom_53 rfl (lv_at hl 2 rfl) ?_
      refine n_aald hx hb hK hW 2 (q := c2) (hdl (c2) (by unfold kD; omega)) ((gG_o (by omega)).trans ((gG_o (by omega)).trans wc2)) rfl rfl (j := i) (by omega) (by omega) (b := ad (m2 + i)) (if_pos (by omega)) d_B_copyFrom_54 ?_
      refine g_alen hx hb hK hW 0 (q := m2 + i) (hdl (m2 + i) (by unfold kD; omega)) (gG_at (by omega)) rfl (v := nI 10) rfl d_B_copyFrom_55 ?_
      refine g_copyi hx hb (hml.trans hl.1.symm) hown (hts _ q_337) (hts _ q_277) (hts _ q_276) (hts _ q_10) hK hW hS 0 (q0 := e2 + i) (q1 := m2 + i) (hdl (e2 + i) (by unfold kD; omega)) (hdl (m2 + i) (by unfold kD; omega)) ((gG_o (by omega)).trans ((gG_o (by omega)).trans (we2 i (by omega)))) (gG_at (by omega)) rfl (n := 10) (Nat.le_refl _) (Nat.le_refl _) (by omega) (Nat.le_of_ble_eq_true rfl) (Nat.le_of_ble_eq_true rfl) d_B_copyFrom_56 (fun H locs hW hS => ?_)
      rw [gG_u h1] at hW
      refine n_iinc (lv' := [(2, .int (nI (i + 1))), (0, .ref (ad tb)), (1, .ref (ad ob))]) hx hb d_B_copyFrom_59 hl (k := 2) rfl (by decide) rfl (fun ls hl => ?_)
      refine lv_goto (tgt := 2) hx hb d_B_copyFrom_62 (by decide) ?_
      refine ih (i + 1) _ _ _ _ ls (by omega) (by omega) (lt_s (fun z hz => ?_) ?_) hW hS (lv_sub hl [1, 2, 0] rfl)
      · rw [va_up_ne _ _ (show z ≠ i by omega), va_up_ne _ _ (show z ≠ i by omega)]; exact hM z hz
      · rw [va_up_self, va_up_self]; exact ⟨fun j hj => if_pos hj, fun c hc => if_pos hc⟩
set_option maxHeartbeats 4000000 in
set_option maxRecDepth 100000 in
/-- fitTo -/
theorem c_B_fitTo (l : Launch) {D : va_G} {cI cJ cG : ClassId} {ad : Nat → Nat} {co : Nat → va_E} {dl : List Nat} {a : Nat}  (hdl : ∀ i, kD a i → i ∈ dl)    {tb c1 c2 m1 m2 : Nat} (htab : (tb = 7 ∧ c1 = 8 ∧ c2 = 9 ∧ m1 = 40 ∧ m2 = 60) ∨ (tb = 10 ∧ c1 = 11 ∧ c2 = 12 ∧ m1 = 80 ∧ m2 = 100) ∨ (tb = 13 ∧ c1 = 14 ∧ c2 = 15 ∧ m1 = 120 ∧ m2 = 140)) (wtb : co tb = oB ad c1 c2) (wc1 : co c1 = oG ad cG a m1) (wc2 : co c2 = oG ad cG a m2) {MV SP : Nat → Nat → Int32} (wm1 : ∀ i, i < a → co (m1 + i) = .inl (cI, a, .inl (MV i))) (wm2 : ∀ i, i < a → co (m2 + i) = .inl (cI, 10, .inl (SP i))) {ob d1 d2 e1 e2 : Nat} (hot : (tb = 7 ∧ ob = 10 ∧ d1 = 11 ∧ d2 = 12 ∧ e1 = 80 ∧ e2 = 100) ∨ (tb = 10 ∧ ob = 7 ∧ d1 = 8 ∧ d2 = 9 ∧ e1 = 40 ∧ e2 = 60) ∨ (tb = 10 ∧ ob = 13 ∧ d1 = 14 ∧ d2 = 15 ∧ e1 = 120 ∧ e2 = 140)) (wob : co ob = oB ad d1 d2) (wd1 : co d1 = oG ad cG a e1) (wd2 : co d2 = oG ad cG a e2) {MV2 SP2 : Nat → Nat → Int32} (we1 : ∀ i, i < a → co (e1 + i) = .inl (cI, a, .inl (MV2 i))) (we2 : ∀ i, i < a → co (e2 + i) = .inl (cI, 10, .inl (SP2 i))) (ha : a ≤ 12) {U V : Nat → Nat → Nat} (hU : ∀ i j, i < a → j < a → MV2 i j = nI (U i j) ∧ U i j ≤ 200) (hV : ∀ i c, i < a → c < 10 → SP2 i c = nI (V i c) ∧ V i c ≤ 200) : gMv l y_B_fitTo (Cond.code y_B_fitTo b_B_fitTo 3 none :: wA) ({ frames := 1, cells := 0, slots := 0, locals := 23 }) D gCl (gTy cI cJ cG) gNl [.ref (ad tb), .ref (ad ob)] ad co dl (fun co' => ∃ M S, co' = gG cI m2 a 10 (gG cI m1 a a co M) S ∧ ∀ i, i < a → (∀ j, j < a → M i j = (if sumF (fun j => U i j) a = 0 then MV i j else nI (1000 * (sumF (fun j => U i j) a - U i j) / sumF (fun j => U i j) a))) ∧ ∀ c, c < 10 → S i c = (if sumF (fun c => V i c) 10 = 0 then SP i c else nI (1000 * (sumF (fun c => V i c) 10 - V i c) / sumF (fun c => V i c) 10))) := by
  refine gMv_of (cc := b_B_fitTo) (maxL := 3) (ret := none) (by decide) rfl (Nat.le_of_ble_eq_true rfl) ?_
  intro pp ee s mm below meth cd ls hC hW hS hl
  obtain ⟨hx, hb, hr, hts0, hown, hlocks, hml, hK, hN⟩ := hC
  have hts : ∀ w ∈ wA, w.before _ s = true := fun w h => hts0 w (List.mem_cons_of_mem _ h)
  have hA : ∀ q, s.heap.size ≤ q → gA ad co dl s.heap.size q := fun q h => Or.inr h
  have hl : lv_has ls 3 [(0, .ref (ad tb)), (1, .ref (ad ob))] := hl
  have hown : s.vm.findClass R_B = some mm.cls := hown
  have hW := gW_eq (gG_self wm1) hW
  have hW := gW_eq (gG_self (G := SP) (base := m2) (n := a) (len := 10) (fun i hi => (gG_o (by omega)).trans (wm2 i hi))) hW
  refine lv_iconst (v := nI 0) hx hb d_B_fitTo_0 (by decide) ?_
  refine lv_istore_n (lv' := [(2, .int (nI 0)), (0, .ref (ad tb)), (1, .ref (ad ob))]) hx hb d_B_fitTo_1 rfl hl (by decide) rfl (fun ls hl => ?_)
  suffices hloop : ∀ (d i : Nat) (M S : Nat → Nat → Int32) (H : Heap) (locs : List Loc) (ls : Array Slot), (i ≤ a) → (a + 1 ≤ i + d) → (∀ z, z < i → (∀ j, j < a → M z j = (if sumF (fun j => U z j) a = 0 then MV z j else nI (1000 * (sumF (fun j => U z j) a - U z j) / sumF (fun j => U z j) a))) ∧ ∀ c, c < 10 → S z c = (if sumF (fun c => V z c) 10 = 0 then SP z c else nI (1000 * (sumF (fun c => V z c) 10 - V z c) / sumF (fun c => V z c) 10))) → (∀ z, i ≤ z → M z = MV z ∧ S z = SP z) → gW D gCl (gA ad co dl s.heap.size) ad (gG cI m2 a 10 (gG cI m1 a a co M) S) dl H → va_S (gA ad co dl s.heap.size) s.heap H locs → lv_has ls 3 [(0, .ref (ad tb)), (1, .ref (ad ob)), (2, .int (nI i))] → W pp l ee _ s mm _ below meth cd H locs 0 0 _ (F0 mm 2 ls []) by
    exact hloop (a + 1) 0 MV SP _ _ ls (by omega) (by omega) (fun z h => absurd h (Nat.not_lt_zero z)) (fun _ _ => ⟨rfl, rfl⟩) hW hS (lv_sub hl [1, 2, 0] rfl)
  clear hW hS hl
  intro d
  induction d with
  | zero => intro i M S H locs ls hi hd hM hM2; omega
  | succ d ih =>
    intro i M S H locs ls hi hd hM hM2 hW hS hl
    refine lv_iload_n hx hb d_B_fitTo_2 rfl (lv_at hl 2 rfl) ?_
    refine lv_aload_n hx hb d_B_fitTo_3 rfl (lv_at hl 0 rfl) ?_
    refine g_get (C := R_B) (T := F_B) (N := 2) hx hb hts i_B hown hK hW (i := tb) (hdl (tb) (by unfold kD; omega)) ((gG_o (by omega)).trans ((gG_o (by omega)).trans wtb)) rfl 0 (by decide) (hts _ q_70) (fun _ h9 => h9) rfl d_B_fitTo_4 ?_
    refine g_alen hx hb hK hW 2 (q := c1) (hdl (c1) (by unfold kD; omega)) ((gG_o (by omega)).trans ((gG_o (by omega)).trans wc1)) rfl (v := nI a) rfl d_B_fitTo_7 ?_
    refine n_icmp_ge (tgt := 47) hx hb (by omega) (by omega) d_B_fitTo_8 (by decide) (fun h1 => ?_) (fun h1 => ?_)
    · have hia : i = a := by omega
      rw [hia] at hM
      exact g_vret hx hb hr hlocks hW hS (⟨M, S, rfl, hM⟩) d_B_fitTo_47
    · have hmi := hM2 i (Nat.le_refl i)
      refine lv_aload_n hx hb d_B_fitTo_11 rfl (lv_at hl 1 rfl) ?_
      refine g_get (C := R_B) (T := F_B) (N := 2) hx hb hts i_B hown hK hW (i := ob) (hdl (ob) (by unfold kD; omega)) ((gG_o (by omega)).trans ((gG_o (by omega)).trans wob)) rfl 0 (by decide) (hts _ q_70) (fun _ h9 => h9) rfl d_B_fitTo_12 ?_
      refine lv_iload_n hx hb d_B_fitTo_15 rfl (lv_at hl 2 rfl) ?_
      refine n_aald hx hb hK hW 2 (q := d1) (hdl (d1) (by unfold kD; omega)) ((gG_o (by omega)).trans ((gG_o (by omega)).trans wd1)) rfl rfl (j := i) (by omega) (by omega) (b := ad (e1 + i)) (if_pos (by omega)) d_B_fitTo_16 ?_
      refine lv_aload_n hx hb d_B_fitTo_17 rfl (lv_at hl 0 rfl) ?_
      refine g_get (C := R_B) (T := F_B) (N := 2) hx hb hts i_B hown hK hW (i := tb) (hdl (tb) (by unfold kD; omega)) ((gG_o (by omega)).trans ((gG_o (by omega)).trans wtb)) rfl 0 (by decide) (hts _ q_70) (fun _ h9 => h9) rfl d_B_fitTo_18 ?_
      refine lv_iload_n hx hb d_B_fitTo_21 rfl (lv_at hl 2 rfl) ?_
      refine n_aald hx hb hK hW 2 (q := c1) (hdl (c1) (by unfold kD; omega)) ((gG_o (by omega)).trans ((gG_o (by omega)).trans wc1)) rfl rfl (j := i) (by omega) (by omega) (b := ad (m1 + i)) (if_pos (by omega)) d_B_fitTo_22 ?_
      refine g_cSv (As := [.ref (ad (e1 + i)), .ref (ad (m1 + i))]) (rest := []) ⟨hx, hb, hml, hown, hts⟩ (c_B_fitShares l (q1 := e1 + i) (q2 := m1 + i) (u := fun j => U i j) (hdl _ (by unfold kD; omega)) (hdl _ (by unfold kD; omega)) (by omega) ((gG_o (by omega)).trans ((gG_o (by omega)).trans (we1 i (by omega)))) ((gG_o (by omega)).trans (gG_at (by omega))) ha (fun j hj => hU i j h1 hj)) (gcwS 2 hts q_344 q_342 q_343 q_4 (by decide +kernel) ⟨(Nat.le_of_ble_eq_true rfl), (Nat.le_of_ble_eq_true rfl)⟩) gNl_ok hN hK hW hS hA rfl hl.1 rfl (Nat.le_of_ble_eq_true rfl) d_B_fitTo_23 ⟨Nat.zero_le _, Nat.zero_le _⟩ (fun co9 H locs hp9 hW hS => ?_)
      obtain ⟨g1, hco9, hg1⟩ := hp9
      rw [hco9, gG_c (by omega), gG_u h1] at hW
      refine lv_aload_n hx hb d_B_fitTo_26 rfl (lv_at hl 1 rfl) ?_
      refine g_get (C := R_B) (T := F_B) (N := 2) hx hb hts i_B hown hK hW (i := ob) (hdl (ob) (by unfold kD; omega)) ((gG_o (by omega)).trans ((gG_o (by omega)).trans wob)) rfl 1 (by decide) (hts _ q_73) (fun _ h9 => h9) rfl d_B_fitTo_27 ?_
      refine lv_iload_n hx hb d_B_fitTo_30 rfl (lv_at hl 2 rfl) ?_
      refine n_aald hx hb hK hW 2 (q := d2) (hdl (d2) (by unfold kD; omega)) ((gG_o (by omega)).trans ((gG_o (by omega)).trans wd2)) rfl rfl (j := i) (by omega) (by omega) (b := ad (e2 + i)) (if_pos (by omega)) d_B_fitTo_31 ?_
      refine lv_aload_n hx hb d_B_fitTo_32 rfl (lv_at hl 0 rfl) ?_
      refine g_get (C := R_B) (T := F_B) (N := 2) hx hb hts i_B hown hK hW (i := tb) (hdl (tb) (by unfold kD; omega)) ((gG_o (by omega)).trans ((gG_o (by omega)).trans wtb)) rfl 1 (by decide) (hts _ q_73) (fun _ h9 => h9) rfl d_B_fitTo_33 ?_
      refine lv_iload_n hx hb d_B_fitTo_36 rfl (lv_at hl 2 rfl) ?_
      refine n_aald hx hb hK hW 2 (q := c2) (hdl (c2) (by unfold kD; omega)) ((gG_o (by omega)).trans ((gG_o (by omega)).trans wc2)) rfl rfl (j := i) (by omega) (by omega) (b := ad (m2 + i)) (if_pos (by omega)) d_B_fitTo_37 ?_
      refine g_cSv (As := [.ref (ad (e2 + i)), .ref (ad (m2 + i))]) (rest := []) ⟨hx, hb, hml, hown, hts⟩ (c_B_fitShares l (q1 := e2 + i) (q2 := m2 + i) (u := fun c => V i c) (hdl _ (by unfold kD; omega)) (hdl _ (by unfold kD; omega)) (by omega) ((gG_o (by omega)).trans ((gG_o (by omega)).trans (we2 i (by omega)))) (gG_at h1) (by decide) (fun c hc => hV i c h1 hc)) (gcwS 2 hts q_344 q_342 q_343 q_4 (by decide +kernel) ⟨(Nat.le_of_ble_eq_true rfl), (Nat.le_of_ble_eq_true rfl)⟩) gNl_ok hN hK hW hS hA rfl hl.1 rfl (Nat.le_of_ble_eq_true rfl) d_B_fitTo_38 ⟨Nat.zero_le _, Nat.zero_le _⟩ (fun co9 H locs hp8 hW hS => ?_)
      obtain ⟨g2, hco8, hg2⟩ := hp8
      rw [hco8, gG_u h1] at hW
      refine n_iinc (lv' := [(2, .int (nI (i + 1))), (0, .ref (ad tb)), (1, .ref (ad ob))]) hx hb d_B_fitTo_41 hl (k := 2) rfl (by decide) rfl (fun ls hl => ?_)
      refine lv_goto (tgt := 2) hx hb d_B_fitTo_44 (by decide) ?_
      refine ih (i + 1) _ _ _ _ ls (by omega) (by omega) (lt_s (fun z hz => ?_) ?_) (fun z hz => ?_) hW hS (lv_sub hl [1, 2, 0] rfl)
      · rw [va_up_ne _ _ (show z ≠ i by omega), va_up_ne _ _ (show z ≠ i by omega)]; exact hM z hz
      · rw [va_up_self, va_up_self]; exact ⟨fun j hj => by rw [hg1 j hj, hmi.1], fun c hc => by rw [hg2 c hc, hmi.2]⟩
      · rw [va_up_ne _ _ (show z ≠ i by omega), va_up_ne _ _ (show z ≠ i by omega)]; exact hM2 z (by omega)
set_option maxHeartbeats 4000000 in
set_option maxRecDepth 100000 in
/-- countLine -/
theorem c_B_countLine (l : Launch) {D : va_G} {cI cJ cG : ClassId} {ad : Nat → Nat} {co : Nat → va_E} {dl : List Nat} {a n : Nat}  (hdl : ∀ i, kD a i → i ∈ dl) (w1 : co 1 = oT ad n) {cls : Nat → Int32} {ln : Nat → Int32} (w3 : co 3 = .inl (cI, 200, .inl cls)) (w23 : co 23 = .inl (cI, 200, .inl ln)) {tb c1 c2 m1 m2 : Nat} (htab : (tb = 7 ∧ c1 = 8 ∧ c2 = 9 ∧ m1 = 40 ∧ m2 = 60) ∨ (tb = 10 ∧ c1 = 11 ∧ c2 = 12 ∧ m1 = 80 ∧ m2 = 100) ∨ (tb = 13 ∧ c1 = 14 ∧ c2 = 15 ∧ m1 = 120 ∧ m2 = 140)) (wtb : co tb = oB ad c1 c2) (wc1 : co c1 = oG ad cG a m1) (wc2 : co c2 = oG ad cG a m2) {MV SP : Nat → Nat → Int32} (wm1 : ∀ i, i < a → co (m1 + i) = .inl (cI, a, .inl (MV i))) (wm2 : ∀ i, i < a → co (m2 + i) = .inl (cI, 10, .inl (SP i))) (ha : a ≤ 12) {X cl : Nat → Nat} (hn0 : 0 < n) (hn2 : n ≤ 200) (hX : ∀ k, k < n → ln k = nI (X k) ∧ X k < a) (hcl : ∀ k, k < n → cls k = nI (cl k) ∧ cl k < 10) : gMv l y_B_countLine (Cond.code y_B_countLine b_B_countLine 4 none :: wA) ({ frames := 2, cells := 0, slots := 0, locals := 81 }) D gCl (gTy cI cJ cG) gNl [.ref (ad tb), .ref (ad 1), .ref (ad 23)] ad co dl (fun co' => ∃ M S, co' = gG cI m2 a 10 (gG cI m1 a a co M) S ∧ ∀ i, i < a → (∀ j, j < a → M i j = nI (nCb X i j n)) ∧ ∀ c, c < 10 → S i c = nI (nRc X cl i c n)) := by
  refine gMv_of (cc := b_B_countLine) (maxL := 4) (ret := none) (by decide) rfl (Nat.le_of_ble_eq_true rfl) ?_
  intro pp ee s mm below meth cd ls hC hW hS hl
  obtain ⟨hx, hb, hr, hts0, hown, hlocks, hml, hK, hN⟩ := hC
  have hts : ∀ w ∈ wA, w.before _ s = true := fun w h => hts0 w (List.mem_cons_of_mem _ h)
  have hA : ∀ q, s.heap.size ≤ q → gA ad co dl s.heap.size q := fun q h => Or.inr h
  have hl : lv_has ls 4 [(0, .ref (ad tb)), (1, .ref (ad 1)), (2, .ref (ad 23))] := hl
  have hown : s.vm.findClass R_B = some mm.cls := hown
  refine lv_aload_n hx hb d_B_countLine_0 rfl (lv_at hl 0 rfl) ?_
  refine g_cVv (As := []) (rest := []) ⟨hx, hb, hml, hown, hts⟩ (c_B_clear l hdl htab wtb wc1 wc2 wm1 wm2 ha) (gcwV 0 hts q_331 q_328 q_330 qs_6 q_4 (by decide +kernel) ⟨(Nat.le_of_ble_eq_true rfl), (Nat.le_of_ble_eq_true rfl)⟩) gNl_ok hN hK hW hS hA (hdl (tb) (by unfold kD; omega)) wtb rfl rfl hl.1 rfl (Nat.le_of_ble_eq_true rfl) d_B_countLine_1 ⟨Nat.zero_le _, Nat.zero_le _⟩ (fun co9 H locs hp9 hW hS => ?_)
  obtain ⟨M, S, hco9, hM⟩ := hp9
  rw [hco9] at hW
  refine lv_iconst (v := nI 0) hx hb d_B_countLine_4 (by decide) ?_
  refine lv_istore_n (lv' := [(3, .int (nI 0)), (0, .ref (ad tb)), (1, .ref (ad 1)), (2, .ref (ad 23))]) hx hb d_B_countLine_5 rfl hl (by decide) rfl (fun ls hl => ?_)
  suffices hloop : ∀ (d k : Nat) (M S : Nat → Nat → Int32) (H : Heap) (locs : List Loc) (ls : Array Slot), (k ≤ n) → (n + 1 ≤ k + d) → (∀ i, i < a → (∀ j, j < a → M i j = nI (cntF (fun k => decide (X k = i) && decide (X (k + 1) = j)) (k - 1))) ∧ ∀ c, c < 10 → S i c = nI (cntF (fun k => decide (X k = i) && decide (cl k = c)) k)) → gW D gCl (gA ad co dl s.heap.size) ad (gG cI m2 a 10 (gG cI m1 a a co M) S) dl H → va_S (gA ad co dl s.heap.size) s.heap H locs → lv_has ls 4 [(0, .ref (ad tb)), (1, .ref (ad 1)), (2, .ref (ad 23)), (3, .int (nI k))] → W pp l ee _ s mm _ below meth cd H locs 0 0 _ (F0 mm 6 ls []) by
    exact hloop (n + 1) 0 M S _ _ ls (by omega) (by omega) (fun i hi => hM i hi) hW hS (lv_sub hl [1, 2, 3, 0] rfl)
  clear hW hS hl
  intro d
  induction d with
  | zero => intro k M S H locs ls hk hd hM; omega
  | succ d ih =>
    intro k M S H locs ls hk hd hM hW hS hl
    refine lv_iload_n hx hb d_B_countLine_6 rfl (lv_at hl 3 rfl) ?_
    refine lv_aload_n hx hb d_B_countLine_7 rfl (lv_at hl 1 rfl) ?_
    refine g_get (C := R_T) (T := F_T) (N := 6) hx hb hts i_T hown hK hW (i := 1) (hdl (1) (by unfold kD; omega)) ((gG_o (by omega)).trans ((gG_o (by omega)).trans w1)) rfl 5 (by decide) (hts _ q_45) (fun _ h9 => h9) rfl d_B_countLine_8 ?_
    refine n_icmp_ge (tgt := 61) hx hb (by omega) (by omega) d_B_countLine_11 (by decide) (fun h1 => ?_) (fun h1 => ?_)
    · have hkn : k = n := by omega
      rw [hkn] at hM
      exact g_vret hx hb hr hlocks hW hS (⟨M, S, rfl, hM⟩) d_B_countLine_61
    · have hxk := hX k h1
      have hck := hcl k h1
      have hSk := (hM (X k) hxk.2).2 (cl k) hck.2
      have hc9 := cntF_le (fun z => decide (X z = X k) && decide (cl z = cl k)) k
      refine lv_aload_n hx hb d_B_countLine_14 rfl (lv_at hl 0 rfl) ?_
      refine g_get (C := R_B) (T := F_B) (N := 2) hx hb hts i_B hown hK hW (i := tb) (hdl (tb) (by unfold kD; omega)) ((gG_o (by omega)).trans ((gG_o (by omega)).trans wtb)) rfl 1 (by decide) (hts _ q_73) (fun _ h9 => h9) rfl d_B_countLine_15 ?_
      refine lv_aload_n hx hb d_B_countLine_18 rfl (lv_at hl 2 rfl) ?_
      refine lv_iload_n hx hb d_B_countLine_19 rfl (lv_at hl 3 rfl) ?_
      refine n_iald hx hb hK hW 0 (q := 23) (hdl (23) (by unfold kD; omega)) ((gG_o (by omega)).trans ((gG_o (by omega)).trans w23)) rfl (j := k) (by omega) (by omega) d_B_countLine_20 ?_
      refine n_topi (show ln k = nI (X k) from hxk.1) ?_
      refine n_aald hx hb hK hW 2 (q := c2) (hdl (c2) (by unfold kD; omega)) ((gG_o (by omega)).trans ((gG_o (by omega)).trans wc2)) rfl rfl (j := X k) hxk.2 (by omega) (b := ad (m2 + (X k))) (if_pos hxk.2) d_B_countLine_21 ?_
      refine lv_aload_n hx hb d_B_countLine_22 rfl (lv_at hl 1 rfl) ?_
      refine g_get (C := R_T) (T := F_T) (N := 6) hx hb hts i_T hown hK hW (i := 1) (hdl (1) (by unfold kD; omega)) ((gG_o (by omega)).trans ((gG_o (by omega)).trans w1)) rfl 1 (by decide) (hts _ q_35) (fun _ h9 => h9) rfl d_B_countLine_23 ?_
      refine lv_iload_n hx hb d_B_countLine_26 rfl (lv_at hl 3 rfl) ?_
      refine n_iald hx hb hK hW 0 (q := 3) (hdl (3) (by unfold kD; omega)) ((gG_o (by omega)).trans ((gG_o (by omega)).trans w3)) rfl (j := k) (by omega) (by omega) d_B_countLine_27 ?_
      refine n_topi (show cls k = nI (cl k) from hck.1) ?_
      refine lv_dup2_11 hx hb d_B_countLine_28 rfl rfl ?_
      refine n_iald hx hb hK hW 0 (q := m2 + (X k)) (hdl (m2 + (X k)) (by unfold kD; omega)) (gG_at hxk.2) rfl (j := cl k) hck.2 (by omega) d_B_countLine_29 ?_
      refine n_topi (show (S (X k)) (cl k) = nI (cntF (fun z => decide (X z = X k) && decide (cl z = cl k)) k) from hSk) ?_
      refine lv_iconst (v := nI 1) hx hb d_B_countLine_30 (by decide) ?_
      refine n_add hx hb d_B_countLine_31 ?_
      refine n_iast (x := nI ((cntF (fun z => decide (X z = X k) && decide (cl z = cl k)) k) + 1)) hx hb hK hW hS 0 (q := m2 + (X k)) (hdl (m2 + (X k)) (by unfold kD; omega)) (gG_at hxk.2) rfl (j := cl k) hck.2 (by omega) d_B_countLine_32 (fun H locs hW hS => ?_)
      rw [gG_u hxk.2] at hW
      have hS2 : ∀ i, i < a → ∀ c, c < 10 → (va_up S (X k) (upd (S (X k)) (cl k) (nI (cntF (fun z => decide (X z = X k) && decide (cl z = cl k)) k + 1)))) i c = nI (cntF (fun k => decide (X k = i) && decide (cl k = c)) (k + 1)) := by
        intro i hi c hc
        by_cases hix : i = X k
        · subst hix
          rw [va_up_self]
          by_cases hcc : c = cl k
          · subst hcc; rw [pk_us, cntF, if_pos (by simp)]
          · rw [pk_un hcc, (hM (X k) hi).2 c hc, cntF, if_neg (by simp; omega)]; rfl
        · rw [va_up_ne _ _ hix, (hM i hi).2 c hc, cntF, if_neg (by simp; omega)]; rfl
      obtain ⟨S2, hS2e⟩ : ∃ z, z = (va_up S (X k) (upd (S (X k)) (cl k) (nI (cntF (fun z => decide (X z = X k) && decide (cl z = cl k)) k + 1)))) := ⟨_, rfl⟩
      rw [← hS2e] at hW hS2
      refine lv_iload_n hx hb d_B_countLine_33 rfl (lv_at hl 3 rfl) ?_
      refine n_if_le (tgt := 55) hx hb (by omega) d_B_countLine_34 (by decide) (fun h2 => ?_) (fun h2 => ?_)
      · refine n_iinc (lv' := [(3, .int (nI (k + 1))), (0, .ref (ad tb)), (1, .ref (ad 1)), (2, .ref (ad 23))]) hx hb d_B_countLine_55 hl (k := 3) rfl (by decide) rfl (fun ls hl => ?_)
        refine lv_goto (tgt := 6) hx hb d_B_countLine_58 (by decide) ?_
        refine ih (k + 1) M S2 _ _ ls (by omega) (by omega) (fun i hi => ⟨fun j hj => ?_, fun c hc => hS2 i hi c hc⟩) hW hS (lv_sub hl [1, 2, 3, 0] rfl)
        have h9 := (hM i hi).1 j hj
        rw [h2] at h9 ⊢; exact h9
      · have hxp := hX (k - 1) (by omega)
        have hMk := (hM (X (k - 1)) hxp.2).1 (X k) hxk.2
        have hc8 := cntF_le (fun z => decide (X z = X (k - 1)) && decide (X (z + 1) = X k)) (k - 1)
        refine lv_aload_n hx hb d_B_countLine_37 rfl (lv_at hl 0 rfl) ?_
        refine g_get (C := R_B) (T := F_B) (N := 2) hx hb hts i_B hown hK hW (i := tb) (hdl (tb) (by unfold kD; omega)) ((gG_o (by omega)).trans ((gG_o (by omega)).trans wtb)) rfl 0 (by decide) (hts _ q_70) (fun _ h9 => h9) rfl d_B_countLine_38 ?_
        refine lv_aload_n hx hb d_B_countLine_41 rfl (lv_at hl 2 rfl) ?_
        refine lv_iload_n hx hb d_B_countLine_42 rfl (lv_at hl 3 rfl) ?_
        refine lv_iconst (v := nI 1) hx hb d_B_countLine_43 (by decide) ?_
        refine n_sub hx hb (by omega) d_B_countLine_44 ?_
        refine n_iald hx hb hK hW 0 (q := 23) (hdl (23) (by unfold kD; omega)) ((gG_o (by omega)).trans ((gG_o (by omega)).trans w23)) rfl (j := k - 1) (by omega) (by omega) d_B_countLine_45 ?_
        refine n_topi (show ln (k - 1) = nI (X (k - 1)) from hxp.1) ?_
        refine n_aald hx hb hK hW 2 (q := c1) (hdl (c1) (by unfold kD; omega)) ((gG_o (by omega)).trans ((gG_o (by omega)).trans wc1)) rfl rfl (j := X (k - 1)) hxp.2 (by omega) (b := ad (m1 + (X (k - 1)))) (if_pos hxp.2) d_B_countLine_46 ?_
        refine lv_aload_n hx hb d_B_countLine_47 rfl (lv_at hl 2 rfl) ?_
        refine lv_iload_n hx hb d_B_countLine_48 rfl (lv_at hl 3 rfl) ?_
        refine n_iald hx hb hK hW 0 (q := 23) (hdl (23) (by unfold kD; omega)) ((gG_o (by omega)).trans ((gG_o (by omega)).trans w23)) rfl (j := k) (by omega) (by omega) d_B_countLine_49 ?_
        refine n_topi (show ln k = nI (X k) from hxk.1) ?_
        refine lv_dup2_11 hx hb d_B_countLine_50 rfl rfl ?_
        refine n_iald hx hb hK hW 0 (q := m1 + (X (k - 1))) (hdl (m1 + X (k - 1)) (by have := hxp.2; unfold kD; omega)) ((gG_o (by have := hxp.2; omega)).trans (gG_at hxp.2)) rfl (j := X k) hxk.2 (by omega) d_B_countLine_51 ?_
        refine n_topi (show (M (X (k - 1))) (X k) = nI (cntF (fun z => decide (X z = X (k - 1)) && decide (X (z + 1) = X k)) (k - 1)) from hMk) ?_
        refine lv_iconst (v := nI 1) hx hb d_B_countLine_52 (by decide) ?_
        refine n_add hx hb d_B_countLine_53 ?_
        refine n_iast (x := nI ((cntF (fun z => decide (X z = X (k - 1)) && decide (X (z + 1) = X k)) (k - 1)) + 1)) hx hb hK hW hS 0 (q := m1 + (X (k - 1))) (hdl (m1 + X (k - 1)) (by have := hxp.2; unfold kD; omega)) ((gG_o (by have := hxp.2; omega)).trans (gG_at hxp.2)) rfl (j := X k) hxk.2 (by omega) d_B_countLine_54 (fun H locs hW hS => ?_)
        rw [gG_c (by have := hxp.2; omega), gG_u hxp.2] at hW
        refine n_iinc (lv' := [(3, .int (nI (k + 1))), (0, .ref (ad tb)), (1, .ref (ad 1)), (2, .ref (ad 23))]) hx hb d_B_countLine_55 hl (k := 3) rfl (by decide) rfl (fun ls hl => ?_)
        refine lv_goto (tgt := 6) hx hb d_B_countLine_58 (by decide) ?_
        refine ih (k + 1) _ S2 _ _ ls (by omega) (by omega) (fun i hi => ⟨fun j hj => ?_, fun c hc => hS2 i hi c hc⟩) hW hS (lv_sub hl [1, 2, 3, 0] rfl)
        rw [show k + 1 - 1 = (k - 1) + 1 by omega, cntF, show k - 1 + 1 = k by omega]
        by_cases hix : i = X (k - 1)
        · subst hix
          rw [va_up_self]
          by_cases hjj : j = X k
          · subst hjj; rw [pk_us, if_pos (by simp)]
          · rw [pk_un hjj, (hM _ hi).1 j hj, if_neg (by simp; omega)]; rfl
        · rw [va_up_ne _ _ hix, (hM i hi).1 j hj, if_neg (by simp; omega)]; rfl
