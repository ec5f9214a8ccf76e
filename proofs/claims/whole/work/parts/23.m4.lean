set_option maxHeartbeats 4000000 in
set_option maxRecDepth 100000 in
/-- end -/
theorem c_M_end (l : Launch) {D : va_G} {cI cJ cG : ClassId} {ad : Nat → Nat} {co : Nat → va_E} {dl : List Nat} {a rw sh pg ce mg kn cs sm : Nat} (hdl : ∀ i, 400 ≤ i → i < 427 → i ∈ dl) (h400 : co 400 = mO ad a rw sh pg ce mg kn cs sm) {sec : Nat → Int64} (h405 : co 405 = .inl (cJ, 200, .inr (.inl sec))) (j : Nat) (hj : j < kn) (hn : kn ≤ 200) : gMl l y_M_end (Cond.code y_M_end b_M_end 2 (some .long) :: wA) ({ frames := 0, cells := 0, slots := 0, locals := 0 }) D gCl (gTy cI cJ cG) gNl [.ref (ad 400), .int (nI j)] ad co dl (fun r co' => r = sEnd kn sec j ∧ co' = co) := by
  refine gMl_of (cc := b_M_end) (maxL := 2) (ret := some .long) (by decide) rfl (Nat.le_of_ble_eq_true rfl) ?_
  intro pp ee s mm below meth cd ls hC hW hS hl
  obtain ⟨hx, hb, hr, hts0, hown, hlocks, hml, hK, hN⟩ := hC
  have hts : ∀ w ∈ wA, w.before _ s = true := fun w h => hts0 w (List.mem_cons_of_mem _ h)
  have hA : ∀ q, s.heap.size ≤ q → gA ad co dl s.heap.size q := fun q h => Or.inr h
  have hl : lv_has ls 2 [(0, .ref (ad 400)), (1, .int (nI j))] := hl
  have hown : s.vm.findClass R_M = some mm.cls := hown
  refine lv_aload_n hx hb d_M_end_0 rfl (lv_at hl 0 rfl) ?_
  refine g_get (C := R_M) (T := F_M) (N := 35) hx hb hts i_M hown hK hW (i := 400) (hdl 400 (by decide) (by decide)) h400 rfl 6 (by decide) (hts _ q_494) (fun _ h9 => h9) rfl d_M_end_1 ?_
  refine lv_iload_n hx hb d_M_end_4 rfl (lv_at hl 1 rfl) ?_
  refine lv_iconst (v := nI 1) hx hb d_M_end_5 (by decide) ?_
  refine n_add hx hb d_M_end_6 ?_
  refine lv_aload_n hx hb d_M_end_7 rfl (lv_at hl 0 rfl) ?_
  refine g_get (C := R_M) (T := F_M) (N := 35) hx hb hts i_M hown hK hW (i := 400) (hdl 400 (by decide) (by decide)) h400 rfl 22 (by decide) (hts _ q_510) (fun _ h9 => h9) rfl d_M_end_8 ?_
  refine n_icmp_ge (tgt := 20) hx hb (by omega) (by omega) d_M_end_11 (by decide) (fun h1 => ?_) (fun h1 => ?_)
  · refine lv_iload_n hx hb d_M_end_20 rfl (lv_at hl 1 rfl) ?_
    refine n_lald hx hb hK hW 1 (q := 405) (hdl 405 (by decide) (by decide)) h405 rfl (j := j) (by omega) (by omega) d_M_end_21 ?_
    exact g_lret hx hb hr hlocks hW hS (⟨by rw [sEnd, if_neg (by omega)], rfl⟩) d_M_end_22
  · refine lv_iload_n hx hb d_M_end_14 rfl (lv_at hl 1 rfl) ?_
    refine lv_iconst (v := nI 1) hx hb d_M_end_15 (by decide) ?_
    refine n_add hx hb d_M_end_16 ?_
    refine lv_goto (tgt := 21) hx hb d_M_end_17 (by decide) ?_
    refine n_lald hx hb hK hW 1 (q := 405) (hdl 405 (by decide) (by decide)) h405 rfl (j := j + 1) (by omega) (by omega) d_M_end_21 ?_
    exact g_lret hx hb hr hlocks hW hS (⟨by rw [sEnd, if_pos h1], rfl⟩) d_M_end_22
set_option maxHeartbeats 4000000 in
set_option maxRecDepth 100000 in
/-- act -/
theorem c_M_act (l : Launch) {D : va_G} {cI cJ cG : ClassId} {ad : Nat → Nat} {co : Nat → va_E} {dl : List Nat} {a rw sh pg ce mg kn cs sm : Nat} (hdl : ∀ i, 400 ≤ i → i < 427 → i ∈ dl) (h400 : co 400 = mO ad a rw sh pg ce mg kn cs sm) {ln : Nat → Int32} (h417 : co 417 = .inl (cI, 200, .inl ln)) (x : Int32) (hn : kn ≤ 200) : gMi l y_M_act (Cond.code y_M_act b_M_act 2 (some .int) :: wA) ({ frames := 1, cells := 0, slots := 0, locals := 21 }) D gCl (gTy cI cJ cG) gNl [.ref (ad 400), .int x] ad co dl (fun r co' => r = (if inB x kn then ln x.toNatClampNeg else -1) ∧ co' = co) := by
  refine gMi_of (cc := b_M_act) (maxL := 2) (ret := some .int) (by decide) rfl (Nat.le_of_ble_eq_true rfl) ?_
  intro pp ee s mm below meth cd ls hC hW hS hl
  obtain ⟨hx, hb, hr, hts0, hown, hlocks, hml, hK, hN⟩ := hC
  have hts : ∀ w ∈ wA, w.before _ s = true := fun w h => hts0 w (List.mem_cons_of_mem _ h)
  have hA : ∀ q, s.heap.size ≤ q → gA ad co dl s.heap.size q := fun q h => Or.inr h
  have hl : lv_has ls 2 [(0, .ref (ad 400)), (1, .int x)] := hl
  have hown : s.vm.findClass R_M = some mm.cls := hown
  refine lv_aload_n hx hb d_M_act_0 rfl (lv_at hl 0 rfl) ?_
  refine lv_iload_n hx hb d_M_act_1 rfl (lv_at hl 1 rfl) ?_
  refine g_cVi (As := [.int x]) (rest := []) ⟨hx, hb, hml, hown, hts⟩ (c_M_isKnown l hdl h400 x (by omega)) (gcwV 1 hts q_697 q_694 q_696 qs_17 q_9 (by decide +kernel) ⟨(Nat.le_of_ble_eq_true rfl), (Nat.le_of_ble_eq_true rfl)⟩) gNl_ok hN hK hW hS hA (hdl 400 (by decide) (by decide)) h400 rfl rfl hl.1 rfl (Nat.le_of_ble_eq_true rfl) d_M_act_2 ⟨Nat.zero_le _, Nat.zero_le _⟩ (fun r co9 H locs hp9 hW hS => ?_)
  obtain ⟨rfl, hco9⟩ := hp9
  rw [hco9] at hW
  refine n_ifz_eq (tgt := 17) hx hb d_M_act_5 (by decide) (fun g1 => ?_) (fun g1 => ?_)
  · refine lv_iconst (v := (-1)) hx hb d_M_act_17 (by decide) ?_
    exact g_iret hx hb hr hlocks hW hS (⟨by simp [g1], rfl⟩) d_M_act_18
  · obtain ⟨j, hj, rfl⟩ := inB_of (by omega) g1
    refine lv_aload_n hx hb d_M_act_8 rfl (lv_at hl 0 rfl) ?_
    refine g_get (C := R_M) (T := F_M) (N := 35) hx hb hts i_M hown hK hW (i := 400) (hdl 400 (by decide) (by decide)) h400 rfl 23 (by decide) (hts _ q_511) (fun _ h9 => h9) rfl d_M_act_9 ?_
    refine lv_iload_n hx hb d_M_act_12 rfl (lv_at hl 1 rfl) ?_
    refine n_iald hx hb hK hW 0 (q := 417) (hdl 417 (by decide) (by decide)) h417 rfl (j := j) (by omega) (by omega) d_M_act_13 ?_
    refine lv_goto (tgt := 18) hx hb d_M_act_14 (by decide) ?_
    exact g_iret hx hb hr hlocks hW hS (⟨by rw [if_pos g1, nI_clamp (show j < 2 ^ 31 by omega)], rfl⟩) d_M_act_18
set_option maxHeartbeats 4000000 in
set_option maxRecDepth 100000 in
/-- greatest -/
theorem c_M_greatest (l : Launch) {D : va_G} {cI cJ cG : ClassId} {ad : Nat → Nat} {co : Nat → va_E} {dl : List Nat} {a rw sh pg ce mg kn cs sm : Nat} (hdl : ∀ i, 400 ≤ i → i < 427 → i ∈ dl) (h400 : co 400 = mO ad a rw sh pg ce mg kn cs sm)   (hn : kn ≤ 200) : gMi l y_M_greatest (Cond.code y_M_greatest b_M_greatest 1 (some .boolean) :: wA) ({ frames := 0, cells := 0, slots := 0, locals := 0 }) D gCl (gTy cI cJ cG) gNl [.ref (ad 400)] ad co dl (fun r co' => r = bI (decide (0 < kn)) ∧ co' = co) := by
  refine gMi_of (cc := b_M_greatest) (maxL := 1) (ret := some .boolean) (by decide) rfl (Nat.le_of_ble_eq_true rfl) ?_
  intro pp ee s mm below meth cd ls hC hW hS hl
  obtain ⟨hx, hb, hr, hts0, hown, hlocks, hml, hK, hN⟩ := hC
  have hts : ∀ w ∈ wA, w.before _ s = true := fun w h => hts0 w (List.mem_cons_of_mem _ h)
  have hA : ∀ q, s.heap.size ≤ q → gA ad co dl s.heap.size q := fun q h => Or.inr h
  have hl : lv_has ls 1 [(0, .ref (ad 400))] := hl
  have hown : s.vm.findClass R_M = some mm.cls := hown
  refine lv_aload_n hx hb d_M_greatest_0 rfl (lv_at hl 0 rfl) ?_
  refine g_get (C := R_M) (T := F_M) (N := 35) hx hb hts i_M hown hK hW (i := 400) (hdl 400 (by decide) (by decide)) h400 rfl 22 (by decide) (hts _ q_510) (fun _ h9 => h9) rfl d_M_greatest_1 ?_
  refine n_if_le (tgt := 11) hx hb (by omega) d_M_greatest_4 (by decide) (fun h1 => ?_) (fun h1 => ?_)
  · refine lv_iconst (v := nI 0) hx hb d_M_greatest_11 (by decide) ?_
    exact g_zret hx hb hr (by rfl) hlocks hW hS (⟨bI_0 (decide_eq_false (by omega)), rfl⟩) d_M_greatest_12
  · refine lv_iconst (v := nI 1) hx hb d_M_greatest_7 (by decide) ?_
    refine lv_goto (tgt := 12) hx hb d_M_greatest_8 (by decide) ?_
    exact g_zret hx hb hr (by rfl) hlocks hW hS (⟨bI_1 (decide_eq_true h1), rfl⟩) d_M_greatest_12
set_option maxHeartbeats 4000000 in
set_option maxRecDepth 100000 in
/-- total -/
theorem c_M_total (l : Launch) {D : va_G} {cI cJ cG : ClassId} {ad : Nat → Nat} {co : Nat → va_E} {dl : List Nat} {a rw sh pg ce mg kn cs sm : Nat} (hdl : ∀ i, 400 ≤ i → i < 427 → i ∈ dl) (h400 : co 400 = mO ad a rw sh pg ce mg kn cs sm) {sec : Nat → Int64} (h405 : co 405 = .inl (cJ, 200, .inr (.inl sec))) (hn : kn ≤ 200) : gMl l y_M_total (Cond.code y_M_total b_M_total 1 (some .long) :: wA) ({ frames := 0, cells := 0, slots := 0, locals := 0 }) D gCl (gTy cI cJ cG) gNl [.ref (ad 400)] ad co dl (fun r co' => r = sTotal kn sec ∧ co' = co) := by
  refine gMl_of (cc := b_M_total) (maxL := 1) (ret := some .long) (by decide) rfl (Nat.le_of_ble_eq_true rfl) ?_
  intro pp ee s mm below meth cd ls hC hW hS hl
  obtain ⟨hx, hb, hr, hts0, hown, hlocks, hml, hK, hN⟩ := hC
  have hts : ∀ w ∈ wA, w.before _ s = true := fun w h => hts0 w (List.mem_cons_of_mem _ h)
  have hA : ∀ q, s.heap.size ≤ q → gA ad co dl s.heap.size q := fun q h => Or.inr h
  have hl : lv_has ls 1 [(0, .ref (ad 400))] := hl
  have hown : s.vm.findClass R_M = some mm.cls := hown
  refine lv_aload_n hx hb d_M_total_0 rfl (lv_at hl 0 rfl) ?_
  refine g_get (C := R_M) (T := F_M) (N := 35) hx hb hts i_M hown hK hW (i := 400) (hdl 400 (by decide) (by decide)) h400 rfl 22 (by decide) (hts _ q_510) (fun _ h9 => h9) rfl d_M_total_1 ?_
  refine n_if_ne (tgt := 13) hx hb (by omega) d_M_total_4 (by decide) (fun h1 => ?_) (fun h1 => ?_)
  · refine lv_aload_n hx hb d_M_total_13 rfl (lv_at hl 0 rfl) ?_
    refine g_get (C := R_M) (T := F_M) (N := 35) hx hb hts i_M hown hK hW (i := 400) (hdl 400 (by decide) (by decide)) h400 rfl 6 (by decide) (hts _ q_494) (fun _ h9 => h9) rfl d_M_total_14 ?_
    refine lv_aload_n hx hb d_M_total_17 rfl (lv_at hl 0 rfl) ?_
    refine g_get (C := R_M) (T := F_M) (N := 35) hx hb hts i_M hown hK hW (i := 400) (hdl 400 (by decide) (by decide)) h400 rfl 22 (by decide) (hts _ q_510) (fun _ h9 => h9) rfl d_M_total_18 ?_
    refine lv_iconst (v := nI 1) hx hb d_M_total_21 (by decide) ?_
    refine n_sub hx hb (by omega) d_M_total_22 ?_
    refine n_lald hx hb hK hW 1 (q := 405) (hdl 405 (by decide) (by decide)) h405 rfl (j := kn - 1) (by omega) (by omega) d_M_total_23 ?_
    refine lv_aload_n hx hb d_M_total_24 rfl (lv_at hl 0 rfl) ?_
    refine g_get (C := R_M) (T := F_M) (N := 35) hx hb hts i_M hown hK hW (i := 400) (hdl 400 (by decide) (by decide)) h400 rfl 6 (by decide) (hts _ q_494) (fun _ h9 => h9) rfl d_M_total_25 ?_
    refine lv_iconst (v := nI 0) hx hb d_M_total_28 (by decide) ?_
    refine n_lald hx hb hK hW 1 (q := 405) (hdl 405 (by decide) (by decide)) h405 rfl (j := 0) (by omega) (by omega) d_M_total_29 ?_
    refine lv_lsub hx hb d_M_total_30 ?_
    exact g_lret hx hb hr hlocks hW hS (⟨by rw [sTotal, if_neg (by omega)], rfl⟩) d_M_total_31
  · refine lv_ldc2 hx hb hown (hts _ q_685) d_M_total_7 ?_
    refine lv_goto (tgt := 31) hx hb d_M_total_10 (by decide) ?_
    exact g_lret hx hb hr hlocks hW hS (⟨by rw [sTotal, if_pos h1], rfl⟩) d_M_total_31
set_option maxHeartbeats 4000000 in
set_option maxRecDepth 100000 in
/-- hours -/
theorem c_M_hours (l : Launch) {D : va_G} {cI cJ cG : ClassId} {ad : Nat → Nat} {co : Nat → va_E} {dl : List Nat} {a rw sh pg ce mg kn cs sm : Nat} (hdl : ∀ i, 400 ≤ i → i < 427 → i ∈ dl) (h400 : co 400 = mO ad a rw sh pg ce mg kn cs sm) {sec : Nat → Int64} {ln : Nat → Int32} (h405 : co 405 = .inl (cJ, 200, .inr (.inl sec))) (h417 : co 417 = .inl (cI, 200, .inl ln)) (x : Int32) (ha : a ≤ 12) (hn : kn ≤ 200) : gMl l y_M_hours (Cond.code y_M_hours b_M_hours 5 (some .long) :: wA) ({ frames := 1, cells := 0, slots := 0, locals := 21 }) D gCl (gTy cI cJ cG) gNl [.ref (ad 400), .int x] ad co dl (fun r co' => r = (if inB x a = true ∧ 0 < kn then sHours kn ln sec x kn else -1) ∧ co' = co) := by
  refine gMl_of (cc := b_M_hours) (maxL := 5) (ret := some .long) (by decide) rfl (Nat.le_of_ble_eq_true rfl) ?_
  intro pp ee s mm below meth cd ls hC hW hS hl
  obtain ⟨hx, hb, hr, hts0, hown, hlocks, hml, hK, hN⟩ := hC
  have hts : ∀ w ∈ wA, w.before _ s = true := fun w h => hts0 w (List.mem_cons_of_mem _ h)
  have hA : ∀ q, s.heap.size ≤ q → gA ad co dl s.heap.size q := fun q h => Or.inr h
  have hl : lv_has ls 5 [(0, .ref (ad 400)), (1, .int x)] := hl
  have hown : s.vm.findClass R_M = some mm.cls := hown
  refine lv_aload_n hx hb d_M_hours_0 rfl (lv_at hl 0 rfl) ?_
  refine lv_iload_n hx hb d_M_hours_1 rfl (lv_at hl 1 rfl) ?_
  refine g_cVi (As := [.int x]) (rest := []) ⟨hx, hb, hml, hown, hts⟩ (c_M_isAct l hdl h400 x (by omega)) (gcwV 1 hts q_601 q_598 q_600 qs_8 q_9 (by decide +kernel) ⟨(Nat.le_of_ble_eq_true rfl), (Nat.le_of_ble_eq_true rfl)⟩) gNl_ok hN hK hW hS hA (hdl 400 (by decide) (by decide)) h400 rfl rfl hl.1 rfl (Nat.le_of_ble_eq_true rfl) d_M_hours_2 ⟨Nat.zero_le _, Nat.zero_le _⟩ (fun r co9 H locs hp9 hW hS => ?_)
  obtain ⟨rfl, hco9⟩ := hp9
  rw [hco9] at hW
  refine n_ifz_eq (tgt := 15) hx hb d_M_hours_5 (by decide) (fun g1 => ?_) (fun g1 => ?_)
  · refine lv_ldc2 hx hb hown (hts _ q_685) d_M_hours_15 ?_
    exact g_lret hx hb hr hlocks hW hS (⟨by simp [g1], rfl⟩) d_M_hours_18
  · refine lv_aload_n hx hb d_M_hours_8 rfl (lv_at hl 0 rfl) ?_
    refine g_get (C := R_M) (T := F_M) (N := 35) hx hb hts i_M hown hK hW (i := 400) (hdl 400 (by decide) (by decide)) h400 rfl 22 (by decide) (hts _ q_510) (fun _ h9 => h9) rfl d_M_hours_9 ?_
    refine n_if_ne (tgt := 19) hx hb (by omega) d_M_hours_12 (by decide) (fun h1 => ?_) (fun h1 => ?_)
    · refine lv_lconst (v := 0) hx hb d_M_hours_19 (by decide) ?_
      refine lv_lstore_n (lv' := [(2, .long 0), (0, .ref (ad 400)), (1, .int x)]) hx hb d_M_hours_20 rfl hl (by decide) rfl (fun ls hl => ?_)
      refine lv_iconst (v := nI 0) hx hb d_M_hours_21 (by decide) ?_
      refine lv_istore (lv' := [(4, .int (nI 0)), (2, .long 0), (0, .ref (ad 400)), (1, .int x)]) hx hb d_M_hours_22 hl (by decide) rfl (fun ls hl => ?_)
      suffices hloop : ∀ (d k : Nat) (H : Heap) (locs : List Loc) (ls : Array Slot), (k ≤ kn) → (kn + 1 ≤ k + d) → gW D gCl (gA ad co dl s.heap.size) ad co dl H → va_S (gA ad co dl s.heap.size) s.heap H locs → lv_has ls 5 [(0, .ref (ad 400)), (1, .int x), (2, .long (sHours kn ln sec x k)), (4, .int (nI k))] → W pp l ee _ s mm _ below meth cd H locs 0 0 _ (F0 mm 24 ls []) by
        exact hloop (kn + 1) 0 _ _ ls (by omega) (by omega) hW hS (lv_sub hl [2, 3, 1, 0] rfl)
      clear hW hS hl
      intro d
      induction d with
      | zero => intro k H locs ls hk hd; omega
      | succ d ih =>
        intro k H locs ls hk hd hW hS hl
        refine lv_iload hx hb d_M_hours_24 (lv_at hl 3 rfl) ?_
        refine lv_aload_n hx hb d_M_hours_26 rfl (lv_at hl 0 rfl) ?_
        refine g_get (C := R_M) (T := F_M) (N := 35) hx hb hts i_M hown hK hW (i := 400) (hdl 400 (by decide) (by decide)) h400 rfl 22 (by decide) (hts _ q_510) (fun _ h9 => h9) rfl d_M_hours_27 ?_
        refine n_icmp_ge (tgt := 71) hx hb (by omega) (by omega) d_M_hours_30 (by decide) (fun h2 => ?_) (fun h2 => ?_)
        · have hkk : k = kn := by omega
          subst hkk
          refine lv_lload_n hx hb d_M_hours_71 rfl (lv_at hl 2 rfl) ?_
          exact g_lret hx hb hr hlocks hW hS (⟨by rw [if_pos ⟨g1, h1⟩], rfl⟩) d_M_hours_72
        · refine lv_lload_n hx hb d_M_hours_33 rfl (lv_at hl 2 rfl) ?_
          refine lv_aload_n hx hb d_M_hours_34 rfl (lv_at hl 0 rfl) ?_
          refine g_get (C := R_M) (T := F_M) (N := 35) hx hb hts i_M hown hK hW (i := 400) (hdl 400 (by decide) (by decide)) h400 rfl 23 (by decide) (hts _ q_511) (fun _ h9 => h9) rfl d_M_hours_35 ?_
          refine lv_iload hx hb d_M_hours_38 (lv_at hl 3 rfl) ?_
          refine n_iald hx hb hK hW 0 (q := 417) (hdl 417 (by decide) (by decide)) h417 rfl (j := k) (by omega) (by omega) d_M_hours_40 ?_
          refine lv_iload_n hx hb d_M_hours_41 rfl (lv_at hl 1 rfl) ?_
          refine lv_icmp_ne (tgt := 62) hx hb d_M_hours_42 (by decide) (fun h3 => ?_) (fun h3 => ?_)
          · refine lv_lconst (v := 0) hx hb d_M_hours_62 (by decide) ?_
            refine lv_ladd hx hb d_M_hours_63 ?_
            refine n_topl (show _ = sHours kn ln sec x (k + 1) by rw [sHours, if_neg h3]) ?_
            refine lv_lstore_n (lv' := [(2, .long (sHours kn ln sec x (k + 1))), (0, .ref (ad 400)), (1, .int x), (4, .int (nI k))]) hx hb d_M_hours_64 rfl hl (by decide) rfl (fun ls hl => ?_)
            refine n_iinc (lv' := [(4, .int (nI (k + 1))), (2, .long (sHours kn ln sec x (k + 1))), (0, .ref (ad 400)), (1, .int x)]) hx hb d_M_hours_65 hl (k := 3) rfl (by decide) rfl (fun ls hl => ?_)
            refine lv_goto (tgt := 24) hx hb d_M_hours_68 (by decide) ?_
            exact ih (k + 1) _ _ ls (by omega) (by omega) hW hS (lv_sub hl [2, 3, 1, 0] rfl)
          · refine lv_aload_n hx hb d_M_hours_45 rfl (lv_at hl 0 rfl) ?_
            refine lv_iload hx hb d_M_hours_46 (lv_at hl 3 rfl) ?_
            refine g_cVl (As := [.int (nI k)]) (rest := [.long (sHours kn ln sec x k)]) ⟨hx, hb, hml, hown, hts⟩ (c_M_end l hdl h400 h405 k h2 hn) (gcwV 1 hts q_709 q_706 q_708 qs_18 q_9 (by decide +kernel) ⟨(Nat.le_of_ble_eq_true rfl), (Nat.le_of_ble_eq_true rfl)⟩) gNl_ok hN hK hW hS hA (hdl 400 (by decide) (by decide)) h400 rfl rfl hl.1 rfl (Nat.le_of_ble_eq_true rfl) d_M_hours_48 ⟨Nat.zero_le _, Nat.zero_le _⟩ (fun r co9 H locs hp9 hW hS => ?_)
            obtain ⟨rfl, hco9⟩ := hp9
            rw [hco9] at hW
            refine lv_aload_n hx hb d_M_hours_51 rfl (lv_at hl 0 rfl) ?_
            refine g_get (C := R_M) (T := F_M) (N := 35) hx hb hts i_M hown hK hW (i := 400) (hdl 400 (by decide) (by decide)) h400 rfl 6 (by decide) (hts _ q_494) (fun _ h9 => h9) rfl d_M_hours_52 ?_
            refine lv_iload hx hb d_M_hours_55 (lv_at hl 3 rfl) ?_
            refine n_lald hx hb hK hW 1 (q := 405) (hdl 405 (by decide) (by decide)) h405 rfl (j := k) (by omega) (by omega) d_M_hours_57 ?_
            refine lv_lsub hx hb d_M_hours_58 ?_
            refine lv_goto (tgt := 63) hx hb d_M_hours_59 (by decide) ?_
            refine lv_ladd hx hb d_M_hours_63 ?_
            refine n_topl (show _ = sHours kn ln sec x (k + 1) by rw [sHours, if_pos h3]) ?_
            refine lv_lstore_n (lv' := [(2, .long (sHours kn ln sec x (k + 1))), (0, .ref (ad 400)), (1, .int x), (4, .int (nI k))]) hx hb d_M_hours_64 rfl hl (by decide) rfl (fun ls hl => ?_)
            refine n_iinc (lv' := [(4, .int (nI (k + 1))), (2, .long (sHours kn ln sec x (k + 1))), (0, .ref (ad 400)), (1, .int x)]) hx hb d_M_hours_65 hl (k := 3) rfl (by decide) rfl (fun ls hl => ?_)
            refine lv_goto (tgt := 24) hx hb d_M_hours_68 (by decide) ?_
            exact ih (k + 1) _ _ ls (by omega) (by omega) hW hS (lv_sub hl [2, 3, 1, 0] rfl)
    · refine lv_ldc2 hx hb hown (hts _ q_685) d_M_hours_15 ?_
      exact g_lret hx hb hr hlocks hW hS (⟨by simp [h1], rfl⟩) d_M_hours_18
