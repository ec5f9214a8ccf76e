set_option maxHeartbeats 4000000 in
set_option maxRecDepth 100000 in
/-- sum -/
theorem c_M_sum (l : Launch) {D : va_G} {cI cJ cG : ClassId} {ad : Nat → Nat} {co : Nat → va_E} {dl : List Nat} {a rw sh pg ce mg kn cs sm : Nat} (hdl : ∀ i, 400 ≤ i → i < 427 → i ∈ dl) (h400 : co 400 = mO ad a rw sh pg ce mg kn cs sm) {su : Nat → Int64} (h419 : co 419 = .inl (cJ, 21, .inr (.inl su))) (x : Int32) (hm : sm ≤ 21) : gMl l y_M_sum (Cond.code y_M_sum b_M_sum 2 (some .long) :: wA) ({ frames := 0, cells := 0, slots := 0, locals := 0 }) D gCl (gTy cI cJ cG) gNl [.ref (ad 400), .int x] ad co dl (fun r co' => r = (if inB x sm then su x.toNatClampNeg else -1) ∧ co' = co) := by
  refine gMl_of (cc := b_M_sum) (maxL := 2) (ret := some .long) (by decide) rfl (Nat.le_of_ble_eq_true rfl) ?_
  intro pp ee s mm below meth cd ls hC hW hS hl
  obtain ⟨hx, hb, hr, hts0, hown, hlocks, hml, hK, hN⟩ := hC
  have hts : ∀ w ∈ wA, w.before _ s = true := fun w h => hts0 w (List.mem_cons_of_mem _ h)
  have hA : ∀ q, s.heap.size ≤ q → gA ad co dl s.heap.size q := fun q h => Or.inr h
  have hl : lv_has ls 2 [(0, .ref (ad 400)), (1, .int x)] := hl
  have hown : s.vm.findClass R_M = some mm.cls := hown
  refine lv_iload_n hx hb d_M_sum_0 rfl (lv_at hl 1 rfl) ?_
  refine lv_if_lt (tgt := 12) hx hb d_M_sum_1 (by decide) (fun h1 => ?_) (fun h1 => ?_)
  · refine lv_ldc2 hx hb hown (hts _ q_685) d_M_sum_12 ?_
    refine lv_goto (tgt := 24) hx hb d_M_sum_15 (by decide) ?_
    exact g_lret hx hb hr hlocks hW hS (⟨by simp [inB_neg h1], rfl⟩) d_M_sum_24
  · obtain ⟨j, hj, rfl⟩ := nI_of h1
    refine lv_iload_n hx hb d_M_sum_4 rfl (lv_at hl 1 rfl) ?_
    refine lv_aload_n hx hb d_M_sum_5 rfl (lv_at hl 0 rfl) ?_
    refine g_get (C := R_M) (T := F_M) (N := 35) hx hb hts i_M hown hK hW (i := 400) (hdl 400 (by decide) (by decide)) h400 rfl 26 (by decide) (hts _ q_514) (fun _ h9 => h9) rfl d_M_sum_6 ?_
    refine n_icmp_lt (tgt := 18) hx hb (by omega) (by omega) d_M_sum_9 (by decide) (fun h2 => ?_) (fun h2 => ?_)
    · refine lv_aload_n hx hb d_M_sum_18 rfl (lv_at hl 0 rfl) ?_
      refine g_get (C := R_M) (T := F_M) (N := 35) hx hb hts i_M hown hK hW (i := 400) (hdl 400 (by decide) (by decide)) h400 rfl 27 (by decide) (hts _ q_515) (fun _ h9 => h9) rfl d_M_sum_19 ?_
      refine lv_iload_n hx hb d_M_sum_22 rfl (lv_at hl 1 rfl) ?_
      refine n_lald hx hb hK hW 1 (q := 419) (hdl 419 (by decide) (by decide)) h419 rfl (j := j) (by omega) (by omega) d_M_sum_23 ?_
      exact g_lret hx hb hr hlocks hW hS (⟨by rw [if_pos (inB_lt h2 (by omega)), nI_clamp hj], rfl⟩) d_M_sum_24
    · refine lv_ldc2 hx hb hown (hts _ q_685) d_M_sum_12 ?_
      refine lv_goto (tgt := 24) hx hb d_M_sum_15 (by decide) ?_
      exact g_lret hx hb hr hlocks hW hS (⟨by simp [inB_ge hj h2], rfl⟩) d_M_sum_24
set_option maxHeartbeats 4000000 in
set_option maxRecDepth 100000 in
/-- tied -/
theorem c_M_tied (l : Launch) {D : va_G} {cI cJ cG : ClassId} {ad : Nat → Nat} {co : Nat → va_E} {dl : List Nat} {a rw sh pg ce mg kn cs sm : Nat} (hdl : ∀ i, 400 ≤ i → i < 427 → i ∈ dl) (h400 : co 400 = mO ad a rw sh pg ce mg kn cs sm) {nx : Nat → Int32} (h418 : co 418 = .inl (cI, 200, .inl nx)) (x : Int32) (hn : kn ≤ 200) : gMi l y_M_tied (Cond.code y_M_tied b_M_tied 2 (some .boolean) :: wA) ({ frames := 1, cells := 0, slots := 0, locals := 21 }) D gCl (gTy cI cJ cG) gNl [.ref (ad 400), .int x] ad co dl (fun r co' => r = bI (sTied kn cs nx x) ∧ co' = co) := by
  refine gMi_of (cc := b_M_tied) (maxL := 2) (ret := some .boolean) (by decide) rfl (Nat.le_of_ble_eq_true rfl) ?_
  intro pp ee s mm below meth cd ls hC hW hS hl
  obtain ⟨hx, hb, hr, hts0, hown, hlocks, hml, hK, hN⟩ := hC
  have hts : ∀ w ∈ wA, w.before _ s = true := fun w h => hts0 w (List.mem_cons_of_mem _ h)
  have hA : ∀ q, s.heap.size ≤ q → gA ad co dl s.heap.size q := fun q h => Or.inr h
  have hl : lv_has ls 2 [(0, .ref (ad 400)), (1, .int x)] := hl
  have hown : s.vm.findClass R_M = some mm.cls := hown
  refine lv_aload_n hx hb d_M_tied_0 rfl (lv_at hl 0 rfl) ?_
  refine lv_iload_n hx hb d_M_tied_1 rfl (lv_at hl 1 rfl) ?_
  refine g_cVi (As := [.int x]) (rest := []) ⟨hx, hb, hml, hown, hts⟩ (c_M_isKnown l hdl h400 x (by omega)) (gcwV 1 hts q_697 q_694 q_696 qs_17 q_9 (by decide +kernel) ⟨(Nat.le_of_ble_eq_true rfl), (Nat.le_of_ble_eq_true rfl)⟩) gNl_ok hN hK hW hS hA (hdl 400 (by decide) (by decide)) h400 rfl rfl hl.1 rfl (Nat.le_of_ble_eq_true rfl) d_M_tied_2 ⟨Nat.zero_le _, Nat.zero_le _⟩ (fun r co9 H locs hp9 hW hS => ?_)
  obtain ⟨rfl, hco9⟩ := hp9
  rw [hco9] at hW
  refine n_ifz_eq (tgt := 25) hx hb d_M_tied_5 (by decide) (fun g1 => ?_) (fun g1 => ?_)
  · refine lv_iconst (v := nI 0) hx hb d_M_tied_25 (by decide) ?_
    exact g_zret hx hb hr (by rfl) hlocks hW hS (⟨bI_0 (by simp [sTied, g1]), rfl⟩) d_M_tied_26
  · obtain ⟨j, hj, rfl⟩ := inB_of (by omega) g1
    refine lv_aload_n hx hb d_M_tied_8 rfl (lv_at hl 0 rfl) ?_
    refine g_get (C := R_M) (T := F_M) (N := 35) hx hb hts i_M hown hK hW (i := 400) (hdl 400 (by decide) (by decide)) h400 rfl 25 (by decide) (hts _ q_513) (fun _ h9 => h9) rfl d_M_tied_9 ?_
    refine lv_iload_n hx hb d_M_tied_12 rfl (lv_at hl 1 rfl) ?_
    refine n_iald hx hb hK hW 0 (q := 418) (hdl 418 (by decide) (by decide)) h418 rfl (j := j) (by omega) (by omega) d_M_tied_13 ?_
    refine lv_aload_n hx hb d_M_tied_14 rfl (lv_at hl 0 rfl) ?_
    refine g_get (C := R_M) (T := F_M) (N := 35) hx hb hts i_M hown hK hW (i := 400) (hdl 400 (by decide) (by decide)) h400 rfl 24 (by decide) (hts _ q_512) (fun _ h9 => h9) rfl d_M_tied_15 ?_
    refine lv_icmp_ne (tgt := 25) hx hb d_M_tied_18 (by decide) (fun h1 => ?_) (fun h1 => ?_)
    · refine lv_iconst (v := nI 0) hx hb d_M_tied_25 (by decide) ?_
      exact g_zret hx hb hr (by rfl) hlocks hW hS (⟨bI_0 (by simp [sTied, nI_clamp (show j < 2 ^ 31 by omega), h1]), rfl⟩) d_M_tied_26
    · refine lv_iconst (v := nI 1) hx hb d_M_tied_21 (by decide) ?_
      refine lv_goto (tgt := 26) hx hb d_M_tied_22 (by decide) ?_
      exact g_zret hx hb hr (by rfl) hlocks hW hS (⟨bI_1 (by simp [sTied, g1, nI_clamp (show j < 2 ^ 31 by omega), h1]), rfl⟩) d_M_tied_26
set_option maxHeartbeats 4000000 in
set_option maxRecDepth 100000 in
/-- unsure -/
theorem c_M_unsure (l : Launch) {D : va_G} {cI cJ cG : ClassId} {ad : Nat → Nat} {co : Nat → va_E} {dl : List Nat} {a rw sh pg ce mg kn cs sm : Nat} (hdl : ∀ i, 400 ≤ i → i < 427 → i ∈ dl) (h400 : co 400 = mO ad a rw sh pg ce mg kn cs sm) {nx : Nat → Int32} (h418 : co 418 = .inl (cI, 200, .inl nx)) (x : Int32) (hn : kn ≤ 200) : gMi l y_M_unsure (Cond.code y_M_unsure b_M_unsure 2 (some .boolean) :: wA) ({ frames := 1, cells := 0, slots := 0, locals := 21 }) D gCl (gTy cI cJ cG) gNl [.ref (ad 400), .int x] ad co dl (fun r co' => r = bI (sUnsure kn mg cs nx x) ∧ co' = co) := by
  refine gMi_of (cc := b_M_unsure) (maxL := 2) (ret := some .boolean) (by decide) rfl (Nat.le_of_ble_eq_true rfl) ?_
  intro pp ee s mm below meth cd ls hC hW hS hl
  obtain ⟨hx, hb, hr, hts0, hown, hlocks, hml, hK, hN⟩ := hC
  have hts : ∀ w ∈ wA, w.before _ s = true := fun w h => hts0 w (List.mem_cons_of_mem _ h)
  have hA : ∀ q, s.heap.size ≤ q → gA ad co dl s.heap.size q := fun q h => Or.inr h
  have hl : lv_has ls 2 [(0, .ref (ad 400)), (1, .int x)] := hl
  have hown : s.vm.findClass R_M = some mm.cls := hown
  refine lv_aload_n hx hb d_M_unsure_0 rfl (lv_at hl 0 rfl) ?_
  refine lv_iload_n hx hb d_M_unsure_1 rfl (lv_at hl 1 rfl) ?_
  refine g_cVi (As := [.int x]) (rest := []) ⟨hx, hb, hml, hown, hts⟩ (c_M_isKnown l hdl h400 x (by omega)) (gcwV 1 hts q_697 q_694 q_696 qs_17 q_9 (by decide +kernel) ⟨(Nat.le_of_ble_eq_true rfl), (Nat.le_of_ble_eq_true rfl)⟩) gNl_ok hN hK hW hS hA (hdl 400 (by decide) (by decide)) h400 rfl rfl hl.1 rfl (Nat.le_of_ble_eq_true rfl) d_M_unsure_2 ⟨Nat.zero_le _, Nat.zero_le _⟩ (fun r co9 H locs hp9 hW hS => ?_)
  obtain ⟨rfl, hco9⟩ := hp9
  rw [hco9] at hW
  refine n_ifz_eq (tgt := 40) hx hb d_M_unsure_5 (by decide) (fun g1 => ?_) (fun g1 => ?_)
  · refine lv_iconst (v := nI 0) hx hb d_M_unsure_40 (by decide) ?_
    exact g_zret hx hb hr (by rfl) hlocks hW hS (⟨bI_0 (by simp [sUnsure, g1]), rfl⟩) d_M_unsure_41
  · obtain ⟨j, hj, rfl⟩ := inB_of (by omega) g1
    refine lv_aload_n hx hb d_M_unsure_8 rfl (lv_at hl 0 rfl) ?_
    refine g_get (C := R_M) (T := F_M) (N := 35) hx hb hts i_M hown hK hW (i := 400) (hdl 400 (by decide) (by decide)) h400 rfl 25 (by decide) (hts _ q_513) (fun _ h9 => h9) rfl d_M_unsure_9 ?_
    refine lv_iload_n hx hb d_M_unsure_12 rfl (lv_at hl 1 rfl) ?_
    refine n_iald hx hb hK hW 0 (q := 418) (hdl 418 (by decide) (by decide)) h418 rfl (j := j) (by omega) (by omega) d_M_unsure_13 ?_
    refine lv_iconst (v := (-1)) hx hb d_M_unsure_14 (by decide) ?_
    refine lv_icmp_eq (tgt := 40) hx hb d_M_unsure_15 (by decide) (fun h1 => ?_) (fun h1 => ?_)
    · refine lv_iconst (v := nI 0) hx hb d_M_unsure_40 (by decide) ?_
      exact g_zret hx hb hr (by rfl) hlocks hW hS (⟨bI_0 (by simp [sUnsure, nI_clamp (show j < 2 ^ 31 by omega), h1]), rfl⟩) d_M_unsure_41
    · refine lv_aload_n hx hb d_M_unsure_18 rfl (lv_at hl 0 rfl) ?_
      refine g_get (C := R_M) (T := F_M) (N := 35) hx hb hts i_M hown hK hW (i := 400) (hdl 400 (by decide) (by decide)) h400 rfl 25 (by decide) (hts _ q_513) (fun _ h9 => h9) rfl d_M_unsure_19 ?_
      refine lv_iload_n hx hb d_M_unsure_22 rfl (lv_at hl 1 rfl) ?_
      refine n_iald hx hb hK hW 0 (q := 418) (hdl 418 (by decide) (by decide)) h418 rfl (j := j) (by omega) (by omega) d_M_unsure_23 ?_
      refine lv_aload_n hx hb d_M_unsure_24 rfl (lv_at hl 0 rfl) ?_
      refine g_get (C := R_M) (T := F_M) (N := 35) hx hb hts i_M hown hK hW (i := 400) (hdl 400 (by decide) (by decide)) h400 rfl 24 (by decide) (hts _ q_512) (fun _ h9 => h9) rfl d_M_unsure_25 ?_
      refine lv_isub hx hb d_M_unsure_28 ?_
      refine lv_aload_n hx hb d_M_unsure_29 rfl (lv_at hl 0 rfl) ?_
      refine g_get (C := R_M) (T := F_M) (N := 35) hx hb hts i_M hown hK hW (i := 400) (hdl 400 (by decide) (by decide)) h400 rfl 21 (by decide) (hts _ q_509) (fun _ h9 => h9) rfl d_M_unsure_30 ?_
      refine lv_icmp_gt (tgt := 40) hx hb d_M_unsure_33 (by decide) (fun h2 => ?_) (fun h2 => ?_)
      · refine lv_iconst (v := nI 0) hx hb d_M_unsure_40 (by decide) ?_
        exact g_zret hx hb hr (by rfl) hlocks hW hS (⟨bI_0 (by simp [sUnsure, nI_clamp (show j < 2 ^ 31 by omega), Int32.not_le.mpr h2]), rfl⟩) d_M_unsure_41
      · refine lv_iconst (v := nI 1) hx hb d_M_unsure_36 (by decide) ?_
        refine lv_goto (tgt := 41) hx hb d_M_unsure_37 (by decide) ?_
        exact g_zret hx hb hr (by rfl) hlocks hW hS (⟨bI_1 (by simp [sUnsure, g1, nI_clamp (show j < 2 ^ 31 by omega), h1, Int32.not_lt.mp h2]), rfl⟩) d_M_unsure_41
set_option maxHeartbeats 4000000 in
set_option maxRecDepth 100000 in
/-- first -/
theorem c_M_first (l : Launch) {D : va_G} {cI cJ cG : ClassId} {ad : Nat → Nat} {co : Nat → va_E} {dl : List Nat} {a rw sh pg ce mg kn cs sm : Nat} (hdl : ∀ i, 400 ≤ i → i < 427 → i ∈ dl) (h400 : co 400 = mO ad a rw sh pg ce mg kn cs sm) {ln : Nat → Int32} (h417 : co 417 = .inl (cI, 200, .inl ln)) (x : Int32) (hn : kn ≤ 200) : gMi l y_M_first (Cond.code y_M_first b_M_first 4 (some .int) :: wA) ({ frames := 0, cells := 0, slots := 0, locals := 0 }) D gCl (gTy cI cJ cG) gNl [.ref (ad 400), .int x] ad co dl (fun r co' => r = sFirst kn ln x ∧ co' = co) := by
  refine gMi_of (cc := b_M_first) (maxL := 4) (ret := some .int) (by decide) rfl (Nat.le_of_ble_eq_true rfl) ?_
  intro pp ee s mm below meth cd ls hC hW hS hl
  obtain ⟨hx, hb, hr, hts0, hown, hlocks, hml, hK, hN⟩ := hC
  have hts : ∀ w ∈ wA, w.before _ s = true := fun w h => hts0 w (List.mem_cons_of_mem _ h)
  have hA : ∀ q, s.heap.size ≤ q → gA ad co dl s.heap.size q := fun q h => Or.inr h
  have hl : lv_has ls 4 [(0, .ref (ad 400)), (1, .int x)] := hl
  have hown : s.vm.findClass R_M = some mm.cls := hown
  by_cases hx0 : x < 0
  · refine lv_iload_n hx hb d_M_first_0 rfl (lv_at hl 1 rfl) ?_
    refine lv_istore_n (lv' := [(2, .int x), (0, .ref (ad 400)), (1, .int x)]) hx hb d_M_first_1 rfl hl (by decide) rfl (fun ls hl => ?_)
    refine lv_iconst (v := nI 0) hx hb d_M_first_2 (by decide) ?_
    refine lv_istore_n (lv' := [(3, .int (nI 0)), (2, .int x), (0, .ref (ad 400)), (1, .int x)]) hx hb d_M_first_3 rfl hl (by decide) rfl (fun ls hl => ?_)
    refine lv_iload_n hx hb d_M_first_4 rfl (lv_at hl 0 rfl) ?_
    refine lv_aload_n hx hb d_M_first_5 rfl (lv_at hl 2 rfl) ?_
    refine g_get (C := R_M) (T := F_M) (N := 35) hx hb hts i_M hown hK hW (i := 400) (hdl 400 (by decide) (by decide)) h400 rfl 22 (by decide) (hts _ q_510) (fun _ h9 => h9) rfl d_M_first_6 ?_
    refine n_icmp_ge (tgt := 57) hx hb (by omega) (by omega) d_M_first_9 (by decide) (fun h1 => ?_) (fun h1 => ?_)
    · refine lv_iconst (v := (-1)) hx hb d_M_first_57 (by decide) ?_
      exact g_iret hx hb hr hlocks hW hS (⟨by rw [sFirst, if_pos hx0], rfl⟩) d_M_first_58
    · refine lv_iload_n hx hb d_M_first_12 rfl (lv_at hl 3 rfl) ?_
      refine lv_if_lt (tgt := 57) hx hb d_M_first_13 (by decide) (fun h2 => ?_) (fun h2 => ?_)
      · refine lv_iconst (v := (-1)) hx hb d_M_first_57 (by decide) ?_
        exact g_iret hx hb hr hlocks hW hS (⟨by rw [sFirst, if_pos hx0], rfl⟩) d_M_first_58
      · exact absurd hx0 h2
  · obtain ⟨j, hj, rfl⟩ := nI_of hx0
    refine lv_iload_n hx hb d_M_first_0 rfl (lv_at hl 1 rfl) ?_
    refine lv_istore_n (lv' := [(2, .int (nI j)), (0, .ref (ad 400)), (1, .int (nI j))]) hx hb d_M_first_1 rfl hl (by decide) rfl (fun ls hl => ?_)
    refine lv_iconst (v := nI 0) hx hb d_M_first_2 (by decide) ?_
    refine lv_istore_n (lv' := [(3, .int (nI 0)), (2, .int (nI j)), (0, .ref (ad 400)), (1, .int (nI j))]) hx hb d_M_first_3 rfl hl (by decide) rfl (fun ls hl => ?_)
    suffices hloop : ∀ (d k q : Nat) (H : Heap) (locs : List Loc) (ls : Array Slot), (k ≤ kn) → (kn + 1 ≤ k + d) → (q ≤ j) → (sFirst kn ln (nI j) = nthF (sStart ln) (kn - k) k q) → gW D gCl (gA ad co dl s.heap.size) ad co dl H → va_S (gA ad co dl s.heap.size) s.heap H locs → lv_has ls 4 [(0, .ref (ad 400)), (1, .int (nI j)), (2, .int (nI q)), (3, .int (nI k))] → W pp l ee _ s mm _ below meth cd H locs 0 0 _ (F0 mm 4 ls []) by
      exact hloop (kn + 1) 0 j _ _ ls (by omega) (by omega) (Nat.le_refl j) (by rw [sFirst, if_neg (nI_pos hj), nI_clamp hj]; rfl) hW hS (lv_sub hl [2, 3, 1, 0] rfl)
    clear hW hS hl
    intro d
    induction d with
    | zero => intro k q H locs ls hk hd hq hv; omega
    | succ d ih =>
      intro k q H locs ls hk hd hq hv hW hS hl
      refine lv_iload_n hx hb d_M_first_4 rfl (lv_at hl 3 rfl) ?_
      refine lv_aload_n hx hb d_M_first_5 rfl (lv_at hl 0 rfl) ?_
      refine g_get (C := R_M) (T := F_M) (N := 35) hx hb hts i_M hown hK hW (i := 400) (hdl 400 (by decide) (by decide)) h400 rfl 22 (by decide) (hts _ q_510) (fun _ h9 => h9) rfl d_M_first_6 ?_
      refine n_icmp_ge (tgt := 57) hx hb (by omega) (by omega) d_M_first_9 (by decide) (fun h1 => ?_) (fun h1 => ?_)
      · have hkk : k = kn := by omega
        subst hkk
        refine lv_iconst (v := (-1)) hx hb d_M_first_57 (by decide) ?_
        exact g_iret hx hb hr hlocks hW hS (⟨by rw [hv, Nat.sub_self]; rfl, rfl⟩) d_M_first_58
      · have hs : kn - k = (kn - (k + 1)) + 1 := by omega
        refine lv_iload_n hx hb d_M_first_12 rfl (lv_at hl 1 rfl) ?_
        refine n_if_lt (tgt := 57) hx hb (by omega) d_M_first_13 (by decide) ?_
        refine lv_aload_n hx hb d_M_first_16 rfl (lv_at hl 0 rfl) ?_
        refine g_get (C := R_M) (T := F_M) (N := 35) hx hb hts i_M hown hK hW (i := 400) (hdl 400 (by decide) (by decide)) h400 rfl 23 (by decide) (hts _ q_511) (fun _ h9 => h9) rfl d_M_first_17 ?_
        refine lv_iload_n hx hb d_M_first_20 rfl (lv_at hl 3 rfl) ?_
        refine n_iald hx hb hK hW 0 (q := 417) (hdl 417 (by decide) (by decide)) h417 rfl (j := k) (by omega) (by omega) d_M_first_21 ?_
        refine lv_iconst (v := nI 3) hx hb d_M_first_22 (by decide) ?_
        refine lv_icmp_ne (tgt := 51) hx hb d_M_first_23 (by decide) (fun h3 => ?_) (fun h3 => ?_)
        · refine n_iinc (lv' := [(3, .int (nI (k + 1))), (0, .ref (ad 400)), (1, .int (nI j)), (2, .int (nI q))]) hx hb d_M_first_51 hl (k := 3) rfl (by decide) rfl (fun ls hl => ?_)
          refine lv_goto (tgt := 4) hx hb d_M_first_54 (by decide) ?_
          exact ih (k + 1) q _ _ ls (by omega) (by omega) hq (by rw [hv, hs, nthF, if_neg (by simp [sStart, h3])]) hW hS (lv_sub hl [1, 2, 3, 0] rfl)
        · refine lv_iload_n hx hb d_M_first_26 rfl (lv_at hl 3 rfl) ?_
          refine n_if_eq (tgt := 42) hx hb (by omega) d_M_first_27 (by decide) (fun h4 => ?_) (fun h4 => ?_)
          · have hst : sStart ln k = true := by rw [sStart, decide_eq_true h3, decide_eq_true h4]; rfl
            refine lv_iload_n hx hb d_M_first_42 rfl (lv_at hl 2 rfl) ?_
            refine n_if_ne (tgt := 48) hx hb (by omega) d_M_first_43 (by decide) (fun h6 => ?_) (fun h6 => ?_)
            · obtain ⟨q, rfl⟩ : ∃ z, q = z + 1 := ⟨q - 1, by omega⟩
              refine n_idec (lv' := [(2, .int (nI q)), (0, .ref (ad 400)), (1, .int (nI j)), (3, .int (nI k))]) hx hb d_M_first_48 hl (k := 2) rfl (by decide) rfl (fun ls hl => ?_)
              refine n_iinc (lv' := [(3, .int (nI (k + 1))), (2, .int (nI q)), (0, .ref (ad 400)), (1, .int (nI j))]) hx hb d_M_first_51 hl (k := 3) rfl (by decide) rfl (fun ls hl => ?_)
              refine lv_goto (tgt := 4) hx hb d_M_first_54 (by decide) ?_
              exact ih (k + 1) q _ _ ls (by omega) (by omega) (by omega) (by rw [hv, hs, nthF, if_pos hst, if_neg (by omega)]; rfl) hW hS (lv_sub hl [2, 3, 1, 0] rfl)
            · refine lv_iload_n hx hb d_M_first_46 rfl (lv_at hl 3 rfl) ?_
              exact g_iret hx hb hr hlocks hW hS (⟨by rw [hv, hs, nthF, if_pos hst, if_pos h6], rfl⟩) d_M_first_47
          · refine lv_aload_n hx hb d_M_first_30 rfl (lv_at hl 0 rfl) ?_
            refine g_get (C := R_M) (T := F_M) (N := 35) hx hb hts i_M hown hK hW (i := 400) (hdl 400 (by decide) (by decide)) h400 rfl 23 (by decide) (hts _ q_511) (fun _ h9 => h9) rfl d_M_first_31 ?_
            refine lv_iload_n hx hb d_M_first_34 rfl (lv_at hl 3 rfl) ?_
            refine lv_iconst (v := nI 1) hx hb d_M_first_35 (by decide) ?_
            refine n_sub hx hb (by omega) d_M_first_36 ?_
            refine n_iald hx hb hK hW 0 (q := 417) (hdl 417 (by decide) (by decide)) h417 rfl (j := k - 1) (by omega) (by omega) d_M_first_37 ?_
            refine lv_iconst (v := nI 3) hx hb d_M_first_38 (by decide) ?_
            refine lv_icmp_eq (tgt := 51) hx hb d_M_first_39 (by decide) (fun h5 => ?_) (fun h5 => ?_)
            · refine n_iinc (lv' := [(3, .int (nI (k + 1))), (0, .ref (ad 400)), (1, .int (nI j)), (2, .int (nI q))]) hx hb d_M_first_51 hl (k := 3) rfl (by decide) rfl (fun ls hl => ?_)
              refine lv_goto (tgt := 4) hx hb d_M_first_54 (by decide) ?_
              exact ih (k + 1) q _ _ ls (by omega) (by omega) hq (by rw [hv, hs, nthF, if_neg (by simp [sStart, h3, h5]; omega)]) hW hS (lv_sub hl [1, 2, 3, 0] rfl)
            · have hst : sStart ln k = true := by simp [sStart, h3, h5]
              refine lv_iload_n hx hb d_M_first_42 rfl (lv_at hl 2 rfl) ?_
              refine n_if_ne (tgt := 48) hx hb (by omega) d_M_first_43 (by decide) (fun h6 => ?_) (fun h6 => ?_)
              · obtain ⟨q, rfl⟩ : ∃ z, q = z + 1 := ⟨q - 1, by omega⟩
                refine n_idec (lv' := [(2, .int (nI q)), (0, .ref (ad 400)), (1, .int (nI j)), (3, .int (nI k))]) hx hb d_M_first_48 hl (k := 2) rfl (by decide) rfl (fun ls hl => ?_)
                refine n_iinc (lv' := [(3, .int (nI (k + 1))), (2, .int (nI q)), (0, .ref (ad 400)), (1, .int (nI j))]) hx hb d_M_first_51 hl (k := 3) rfl (by decide) rfl (fun ls hl => ?_)
                refine lv_goto (tgt := 4) hx hb d_M_first_54 (by decide) ?_
                exact ih (k + 1) q _ _ ls (by omega) (by omega) (by omega) (by rw [hv, hs, nthF, if_pos hst, if_neg (by omega)]; rfl) hW hS (lv_sub hl [2, 3, 1, 0] rfl)
              · refine lv_iload_n hx hb d_M_first_46 rfl (lv_at hl 3 rfl) ?_
                exact g_iret hx hb hr hlocks hW hS (⟨by rw [hv, hs, nthF, if_pos hst, if_pos h6], rfl⟩) d_M_first_47
set_option maxHeartbeats 4000000 in
set_option maxRecDepth 100000 in
/-- last -/
theorem c_M_last (l : Launch) {D : va_G} {cI cJ cG : ClassId} {ad : Nat → Nat} {co : Nat → va_E} {dl : List Nat} {a rw sh pg ce mg kn cs sm : Nat} (hdl : ∀ i, 400 ≤ i → i < 427 → i ∈ dl) (h400 : co 400 = mO ad a rw sh pg ce mg kn cs sm) {ln : Nat → Int32} (h417 : co 417 = .inl (cI, 200, .inl ln)) (j : Nat) (hj : j < kn) (hn : kn ≤ 200) : gMi l y_M_last (Cond.code y_M_last b_M_last 3 (some .int) :: wA) ({ frames := 0, cells := 0, slots := 0, locals := 0 }) D gCl (gTy cI cJ cG) gNl [.ref (ad 400), .int (nI j)] ad co dl (fun r co' => r = nI (sLast kn ln j) ∧ co' = co) := by
  refine gMi_of (cc := b_M_last) (maxL := 3) (ret := some .int) (by decide) rfl (Nat.le_of_ble_eq_true rfl) ?_
  intro pp ee s mm below meth cd ls hC hW hS hl
  obtain ⟨hx, hb, hr, hts0, hown, hlocks, hml, hK, hN⟩ := hC
  have hts : ∀ w ∈ wA, w.before _ s = true := fun w h => hts0 w (List.mem_cons_of_mem _ h)
  have hA : ∀ q, s.heap.size ≤ q → gA ad co dl s.heap.size q := fun q h => Or.inr h
  have hl : lv_has ls 3 [(0, .ref (ad 400)), (1, .int (nI j))] := hl
  have hown : s.vm.findClass R_M = some mm.cls := hown
  refine lv_iload_n hx hb d_M_last_0 rfl (lv_at hl 1 rfl) ?_
  refine lv_istore_n (lv' := [(2, .int (nI j)), (0, .ref (ad 400)), (1, .int (nI j))]) hx hb d_M_last_1 rfl hl (by decide) rfl (fun ls hl => ?_)
  suffices hloop : ∀ (d k : Nat) (H : Heap) (locs : List Loc) (ls : Array Slot), (k < kn) → (kn ≤ k + d) → (sLast kn ln j = lastF kn ln d k) → gW D gCl (gA ad co dl s.heap.size) ad co dl H → va_S (gA ad co dl s.heap.size) s.heap H locs → lv_has ls 3 [(0, .ref (ad 400)), (1, .int (nI j)), (2, .int (nI k))] → W pp l ee _ s mm _ below meth cd H locs 0 0 _ (F0 mm 2 ls []) by
    exact hloop kn j _ _ ls hj (by omega) rfl hW hS (lv_sub hl [1, 2, 0] rfl)
  clear hW hS hl
  intro d
  induction d with
  | zero => intro k H locs ls hk hd hv; omega
  | succ d ih =>
    intro k H locs ls hk hd hv hW hS hl
    refine lv_iload_n hx hb d_M_last_2 rfl (lv_at hl 2 rfl) ?_
    refine lv_iconst (v := nI 1) hx hb d_M_last_3 (by decide) ?_
    refine n_add hx hb d_M_last_4 ?_
    refine lv_aload_n hx hb d_M_last_5 rfl (lv_at hl 0 rfl) ?_
    refine g_get (C := R_M) (T := F_M) (N := 35) hx hb hts i_M hown hK hW (i := 400) (hdl 400 (by decide) (by decide)) h400 rfl 22 (by decide) (hts _ q_510) (fun _ h9 => h9) rfl d_M_last_6 ?_
    refine n_icmp_ge (tgt := 30) hx hb (by omega) (by omega) d_M_last_9 (by decide) (fun h1 => ?_) (fun h1 => ?_)
    · refine lv_iload_n hx hb d_M_last_30 rfl (lv_at hl 2 rfl) ?_
      exact g_iret hx hb hr hlocks hW hS (⟨by rw [hv, lastF, if_neg (by omega)], rfl⟩) d_M_last_31
    · refine lv_aload_n hx hb d_M_last_12 rfl (lv_at hl 0 rfl) ?_
      refine g_get (C := R_M) (T := F_M) (N := 35) hx hb hts i_M hown hK hW (i := 400) (hdl 400 (by decide) (by decide)) h400 rfl 23 (by decide) (hts _ q_511) (fun _ h9 => h9) rfl d_M_last_13 ?_
      refine lv_iload_n hx hb d_M_last_16 rfl (lv_at hl 2 rfl) ?_
      refine lv_iconst (v := nI 1) hx hb d_M_last_17 (by decide) ?_
      refine n_add hx hb d_M_last_18 ?_
      refine n_iald hx hb hK hW 0 (q := 417) (hdl 417 (by decide) (by decide)) h417 rfl (j := k + 1) (by omega) (by omega) d_M_last_19 ?_
      refine lv_iconst (v := nI 3) hx hb d_M_last_20 (by decide) ?_
      refine lv_icmp_ne (tgt := 30) hx hb d_M_last_21 (by decide) (fun h2 => ?_) (fun h2 => ?_)
      · refine lv_iload_n hx hb d_M_last_30 rfl (lv_at hl 2 rfl) ?_
        exact g_iret hx hb hr hlocks hW hS (⟨by rw [hv, lastF, if_neg (fun q => h2 q.2)], rfl⟩) d_M_last_31
      · refine n_iinc (lv' := [(2, .int (nI (k + 1))), (0, .ref (ad 400)), (1, .int (nI j))]) hx hb d_M_last_24 hl (k := 2) rfl (by decide) rfl (fun ls hl => ?_)
        refine lv_goto (tgt := 2) hx hb d_M_last_27 (by decide) ?_
        exact ih (k + 1) _ _ ls h1 (by omega) (by rw [hv, lastF, if_pos ⟨h1, h2⟩]) hW hS (lv_sub hl [1, 2, 0] rfl)
set_option maxHeartbeats 4000000 in
set_option maxRecDepth 100000 in
/-- told -/
theorem c_M_told (l : Launch) {D : va_G} {cI cJ cG : ClassId} {ad : Nat → Nat} {co : Nat → va_E} {dl : List Nat} {a rw sh pg ce mg kn cs sm : Nat} (hdl : ∀ i, 400 ≤ i → i < 427 → i ∈ dl) (h400 : co 400 = mO ad a rw sh pg ce mg kn cs sm) {pf : Nat → Int64} {pt : Nat → Int64} {pa : Nat → Int32} (h410 : co 410 = .inl (cJ, 50, .inr (.inl pf))) (h411 : co 411 = .inl (cJ, 50, .inr (.inl pt))) (h412 : co 412 = .inl (cI, 50, .inl pa)) (x : Int64) (hp : pg ≤ 50) : gMi l y_M_told (Cond.code y_M_told b_M_told 4 (some .int) :: wA) ({ frames := 0, cells := 0, slots := 0, locals := 0 }) D gCl (gTy cI cJ cG) gNl [.ref (ad 400), .long x] ad co dl (fun r co' => r = toldF pf pt pa x pg ∧ co' = co) := by
  refine gMi_of (cc := b_M_told) (maxL := 4) (ret := some .int) (by decide) rfl (Nat.le_of_ble_eq_true rfl) ?_
  intro pp ee s mm below meth cd ls hC hW hS hl
  obtain ⟨hx, hb, hr, hts0, hown, hlocks, hml, hK, hN⟩ := hC
  have hts : ∀ w ∈ wA, w.before _ s = true := fun w h => hts0 w (List.mem_cons_of_mem _ h)
  have hA : ∀ q, s.heap.size ≤ q → gA ad co dl s.heap.size q := fun q h => Or.inr h
  have hl : lv_has ls 4 [(0, .ref (ad 400)), (1, .long x)] := hl
  have hown : s.vm.findClass R_M = some mm.cls := hown
  have hpg : pg = 0 ∨ ∃ z, pg = z + 1 := by rcases Nat.eq_zero_or_pos pg with h | h; exact Or.inl h; exact Or.inr ⟨pg - 1, by omega⟩
  refine lv_aload_n hx hb d_M_told_0 rfl (lv_at hl 0 rfl) ?_
  refine g_get (C := R_M) (T := F_M) (N := 35) hx hb hts i_M hown hK hW (i := 400) (hdl 400 (by decide) (by decide)) h400 rfl 12 (by decide) (hts _ q_500) (fun _ h9 => h9) rfl d_M_told_1 ?_
  refine lv_iconst (v := nI 1) hx hb d_M_told_4 (by decide) ?_
  refine lv_isub hx hb d_M_told_5 ?_
  refine lv_istore_n (lv' := [(3, .int ((nI pg) - (nI 1))), (0, .ref (ad 400)), (1, .long x)]) hx hb d_M_told_6 rfl hl (by decide) rfl (fun ls hl => ?_)
  suffices hloop : ∀ (d q : Nat) (H : Heap) (locs : List Loc) (ls : Array Slot), (q ≤ pg) → (q + 1 ≤ d) → (toldF pf pt pa x pg = toldF pf pt pa x q) → gW D gCl (gA ad co dl s.heap.size) ad co dl H → va_S (gA ad co dl s.heap.size) s.heap H locs → lv_has ls 4 [(0, .ref (ad 400)), (1, .long x), (3, .int (nI q - nI 1))] → W pp l ee _ s mm _ below meth cd H locs 0 0 _ (F0 mm 7 ls []) by
    exact hloop (pg + 1) pg _ _ ls (Nat.le_refl _) (Nat.le_refl _) rfl hW hS (lv_sub hl [1, 2, 0] rfl)
  clear hW hS hl
  intro d
  induction d with
  | zero => intro q H locs ls hq hd hv; omega
  | succ d ih =>
    intro q H locs ls hq hd hv hW hS hl
    rcases Nat.eq_zero_or_pos q with h0 | h0
    · subst h0
      refine lv_iload_n hx hb d_M_told_7 rfl (lv_at hl 2 rfl) ?_
      refine lv_if_lt (tgt := 46) hx hb d_M_told_8 (by decide) (fun h1 => ?_) (fun h1 => ?_)
      · refine lv_iconst (v := (-1)) hx hb d_M_told_46 (by decide) ?_
        exact g_iret hx hb hr hlocks hW hS (⟨by rw [hv]; rfl, rfl⟩) d_M_told_47
      · exact absurd (by decide) h1
    · obtain ⟨q, rfl⟩ : ∃ z, q = z + 1 := ⟨q - 1, by omega⟩
      rw [show nI (q + 1) - nI 1 = nI q from nI_pred q] at hl
      refine lv_iload_n hx hb d_M_told_7 rfl (lv_at hl 2 rfl) ?_
      refine n_if_lt (tgt := 46) hx hb (by omega) d_M_told_8 (by decide) ?_
      refine lv_aload_n hx hb d_M_told_11 rfl (lv_at hl 0 rfl) ?_
      refine g_get (C := R_M) (T := F_M) (N := 35) hx hb hts i_M hown hK hW (i := 400) (hdl 400 (by decide) (by decide)) h400 rfl 13 (by decide) (hts _ q_501) (fun _ h9 => h9) rfl d_M_told_12 ?_
      refine lv_iload_n hx hb d_M_told_15 rfl (lv_at hl 2 rfl) ?_
      refine n_lald hx hb hK hW 1 (q := 410) (hdl 410 (by decide) (by decide)) h410 rfl (j := q) (by omega) (by omega) d_M_told_16 ?_
      refine lv_lload_n hx hb d_M_told_17 rfl (lv_at hl 1 rfl) ?_
      refine W.lcmp hx hb d_M_told_18 ?_
      refine lv_if_gt (tgt := 40) hx hb d_M_told_19 (by decide) (fun h2 => ?_) (fun h2 => ?_)
      · refine lv_iinc (v := (nI q) + (-1)) (lv' := [(3, .int ((nI q) + (-1))), (0, .ref (ad 400)), (1, .long x)]) hx hb d_M_told_40 hl (k := 2) rfl rfl (by decide) rfl (fun ls hl => ?_)
        rw [show nI q + (-1) = nI q - nI 1 by rw [Int32.sub_eq_add_neg]; rfl] at hl
        refine lv_goto (tgt := 7) hx hb d_M_told_43 (by decide) ?_
        exact ih q _ _ ls (by omega) (by omega) (by rw [hv, toldF, if_neg (fun z => L_nle z.1 (lc_gt h2))]) hW hS (lv_sub hl [1, 2, 0] rfl)
      · refine lv_lload_n hx hb d_M_told_22 rfl (lv_at hl 1 rfl) ?_
        refine lv_aload_n hx hb d_M_told_23 rfl (lv_at hl 0 rfl) ?_
        refine g_get (C := R_M) (T := F_M) (N := 35) hx hb hts i_M hown hK hW (i := 400) (hdl 400 (by decide) (by decide)) h400 rfl 14 (by decide) (hts _ q_502) (fun _ h9 => h9) rfl d_M_told_24 ?_
        refine lv_iload_n hx hb d_M_told_27 rfl (lv_at hl 2 rfl) ?_
        refine n_lald hx hb hK hW 1 (q := 411) (hdl 411 (by decide) (by decide)) h411 rfl (j := q) (by omega) (by omega) d_M_told_28 ?_
        refine W.lcmp hx hb d_M_told_29 ?_
        refine lv_if_ge (tgt := 40) hx hb d_M_told_30 (by decide) (fun h3 => ?_) (fun h3 => ?_)
        · refine lv_iinc (v := (nI q) + (-1)) (lv' := [(3, .int ((nI q) + (-1))), (0, .ref (ad 400)), (1, .long x)]) hx hb d_M_told_40 hl (k := 2) rfl rfl (by decide) rfl (fun ls hl => ?_)
          rw [show nI q + (-1) = nI q - nI 1 by rw [Int32.sub_eq_add_neg]; rfl] at hl
          refine lv_goto (tgt := 7) hx hb d_M_told_43 (by decide) ?_
          exact ih q _ _ ls (by omega) (by omega) (by rw [hv, toldF, if_neg (fun z => L_nlt z.2 (lc_ge h3))]) hW hS (lv_sub hl [1, 2, 0] rfl)
        · refine lv_aload_n hx hb d_M_told_33 rfl (lv_at hl 0 rfl) ?_
          refine g_get (C := R_M) (T := F_M) (N := 35) hx hb hts i_M hown hK hW (i := 400) (hdl 400 (by decide) (by decide)) h400 rfl 15 (by decide) (hts _ q_503) (fun _ h9 => h9) rfl d_M_told_34 ?_
          refine lv_iload_n hx hb d_M_told_37 rfl (lv_at hl 2 rfl) ?_
          refine n_iald hx hb hK hW 0 (q := 412) (hdl 412 (by decide) (by decide)) h412 rfl (j := q) (by omega) (by omega) d_M_told_38 ?_
          exact g_iret hx hb hr hlocks hW hS (⟨by rw [hv, toldF, if_pos ⟨lc_ngt h2, lc_nge h3⟩], rfl⟩) d_M_told_39
