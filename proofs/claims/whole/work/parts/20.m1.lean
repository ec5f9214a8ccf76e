set_option maxHeartbeats 4000000 in
set_option maxRecDepth 100000 in
/-- isAct: a place below acts -/
theorem c_M_isAct (l : Launch) {D : va_G} {cI cJ cG : ClassId} {ad : Nat → Nat} {co : Nat → va_E} {dl : List Nat} {a rw sh pg ce mg kn cs sm : Nat} (hdl : ∀ i, 400 ≤ i → i < 427 → i ∈ dl) (h400 : co 400 = mO ad a rw sh pg ce mg kn cs sm)   (x : Int32) (hb9 : a < 2 ^ 31) : gMi l y_M_isAct (Cond.code y_M_isAct b_M_isAct 2 (some .boolean) :: wA) ({ frames := 0, cells := 0, slots := 0, locals := 0 }) D gCl (gTy cI cJ cG) gNl [.ref (ad 400), .int x] ad co dl (fun r co' => r = bI (inB x a) ∧ co' = co) := by
  refine gMi_of (cc := b_M_isAct) (maxL := 2) (ret := some .boolean) (by decide) rfl (Nat.le_of_ble_eq_true rfl) ?_
  intro pp ee s mm below meth cd ls hC hW hS hl
  obtain ⟨hx, hb, hr, hts0, hown, hlocks, hml, hK, hN⟩ := hC
  have hts : ∀ w ∈ wA, w.before _ s = true := fun w h => hts0 w (List.mem_cons_of_mem _ h)
  have hA : ∀ q, s.heap.size ≤ q → gA ad co dl s.heap.size q := fun q h => Or.inr h
  have hl : lv_has ls 2 [(0, .ref (ad 400)), (1, .int x)] := hl
  have hown : s.vm.findClass R_M = some mm.cls := hown
  refine lv_iload_n hx hb d_M_isAct_0 rfl (lv_at hl 1 rfl) ?_
  refine lv_if_lt (tgt := 16) hx hb d_M_isAct_1 (by decide) (fun h1 => ?_) (fun h1 => ?_)
  · refine lv_iconst (v := nI 0) hx hb d_M_isAct_16 (by decide) ?_
    exact g_zret hx hb hr (by rfl) hlocks hW hS (⟨bI_0 (inB_neg h1), rfl⟩) d_M_isAct_17
  · obtain ⟨j, hj, rfl⟩ := nI_of h1
    refine lv_iload_n hx hb d_M_isAct_4 rfl (lv_at hl 1 rfl) ?_
    refine lv_aload_n hx hb d_M_isAct_5 rfl (lv_at hl 0 rfl) ?_
    refine g_get (C := R_M) (T := F_M) (N := 35) hx hb hts i_M hown hK hW (i := 400) (hdl 400 (by decide) (by decide)) h400 rfl 0 (by decide) (hts _ q_488) (fun _ h9 => h9) rfl d_M_isAct_6 ?_
    refine n_icmp_ge (tgt := 16) hx hb (by omega) (by omega) d_M_isAct_9 (by decide) (fun h2 => ?_) (fun h2 => ?_)
    · refine lv_iconst (v := nI 0) hx hb d_M_isAct_16 (by decide) ?_
      exact g_zret hx hb hr (by rfl) hlocks hW hS (⟨bI_0 (inB_ge hj h2), rfl⟩) d_M_isAct_17
    · refine lv_iconst (v := nI 1) hx hb d_M_isAct_12 (by decide) ?_
      refine lv_goto (tgt := 17) hx hb d_M_isAct_13 (by decide) ?_
      exact g_zret hx hb hr (by rfl) hlocks hW hS (⟨bI_1 (inB_lt h2 hb9), rfl⟩) d_M_isAct_17
set_option maxHeartbeats 4000000 in
set_option maxRecDepth 100000 in
/-- isRow: a place below rows -/
theorem c_M_isRow (l : Launch) {D : va_G} {cI cJ cG : ClassId} {ad : Nat → Nat} {co : Nat → va_E} {dl : List Nat} {a rw sh pg ce mg kn cs sm : Nat} (hdl : ∀ i, 400 ≤ i → i < 427 → i ∈ dl) (h400 : co 400 = mO ad a rw sh pg ce mg kn cs sm)   (x : Int32) (hb9 : rw < 2 ^ 31) : gMi l y_M_isRow (Cond.code y_M_isRow b_M_isRow 2 (some .boolean) :: wA) ({ frames := 0, cells := 0, slots := 0, locals := 0 }) D gCl (gTy cI cJ cG) gNl [.ref (ad 400), .int x] ad co dl (fun r co' => r = bI (inB x rw) ∧ co' = co) := by
  refine gMi_of (cc := b_M_isRow) (maxL := 2) (ret := some .boolean) (by decide) rfl (Nat.le_of_ble_eq_true rfl) ?_
  intro pp ee s mm below meth cd ls hC hW hS hl
  obtain ⟨hx, hb, hr, hts0, hown, hlocks, hml, hK, hN⟩ := hC
  have hts : ∀ w ∈ wA, w.before _ s = true := fun w h => hts0 w (List.mem_cons_of_mem _ h)
  have hA : ∀ q, s.heap.size ≤ q → gA ad co dl s.heap.size q := fun q h => Or.inr h
  have hl : lv_has ls 2 [(0, .ref (ad 400)), (1, .int x)] := hl
  have hown : s.vm.findClass R_M = some mm.cls := hown
  refine lv_iload_n hx hb d_M_isRow_0 rfl (lv_at hl 1 rfl) ?_
  refine lv_if_lt (tgt := 16) hx hb d_M_isRow_1 (by decide) (fun h1 => ?_) (fun h1 => ?_)
  · refine lv_iconst (v := nI 0) hx hb d_M_isRow_16 (by decide) ?_
    exact g_zret hx hb hr (by rfl) hlocks hW hS (⟨bI_0 (inB_neg h1), rfl⟩) d_M_isRow_17
  · obtain ⟨j, hj, rfl⟩ := nI_of h1
    refine lv_iload_n hx hb d_M_isRow_4 rfl (lv_at hl 1 rfl) ?_
    refine lv_aload_n hx hb d_M_isRow_5 rfl (lv_at hl 0 rfl) ?_
    refine g_get (C := R_M) (T := F_M) (N := 35) hx hb hts i_M hown hK hW (i := 400) (hdl 400 (by decide) (by decide)) h400 rfl 5 (by decide) (hts _ q_493) (fun _ h9 => h9) rfl d_M_isRow_6 ?_
    refine n_icmp_ge (tgt := 16) hx hb (by omega) (by omega) d_M_isRow_9 (by decide) (fun h2 => ?_) (fun h2 => ?_)
    · refine lv_iconst (v := nI 0) hx hb d_M_isRow_16 (by decide) ?_
      exact g_zret hx hb hr (by rfl) hlocks hW hS (⟨bI_0 (inB_ge hj h2), rfl⟩) d_M_isRow_17
    · refine lv_iconst (v := nI 1) hx hb d_M_isRow_12 (by decide) ?_
      refine lv_goto (tgt := 17) hx hb d_M_isRow_13 (by decide) ?_
      exact g_zret hx hb hr (by rfl) hlocks hW hS (⟨bI_1 (inB_lt h2 hb9), rfl⟩) d_M_isRow_17
set_option maxHeartbeats 4000000 in
set_option maxRecDepth 100000 in
/-- isKnown: a place below known -/
theorem c_M_isKnown (l : Launch) {D : va_G} {cI cJ cG : ClassId} {ad : Nat → Nat} {co : Nat → va_E} {dl : List Nat} {a rw sh pg ce mg kn cs sm : Nat} (hdl : ∀ i, 400 ≤ i → i < 427 → i ∈ dl) (h400 : co 400 = mO ad a rw sh pg ce mg kn cs sm)   (x : Int32) (hb9 : kn < 2 ^ 31) : gMi l y_M_isKnown (Cond.code y_M_isKnown b_M_isKnown 2 (some .boolean) :: wA) ({ frames := 0, cells := 0, slots := 0, locals := 0 }) D gCl (gTy cI cJ cG) gNl [.ref (ad 400), .int x] ad co dl (fun r co' => r = bI (inB x kn) ∧ co' = co) := by
  refine gMi_of (cc := b_M_isKnown) (maxL := 2) (ret := some .boolean) (by decide) rfl (Nat.le_of_ble_eq_true rfl) ?_
  intro pp ee s mm below meth cd ls hC hW hS hl
  obtain ⟨hx, hb, hr, hts0, hown, hlocks, hml, hK, hN⟩ := hC
  have hts : ∀ w ∈ wA, w.before _ s = true := fun w h => hts0 w (List.mem_cons_of_mem _ h)
  have hA : ∀ q, s.heap.size ≤ q → gA ad co dl s.heap.size q := fun q h => Or.inr h
  have hl : lv_has ls 2 [(0, .ref (ad 400)), (1, .int x)] := hl
  have hown : s.vm.findClass R_M = some mm.cls := hown
  refine lv_iload_n hx hb d_M_isKnown_0 rfl (lv_at hl 1 rfl) ?_
  refine lv_if_lt (tgt := 16) hx hb d_M_isKnown_1 (by decide) (fun h1 => ?_) (fun h1 => ?_)
  · refine lv_iconst (v := nI 0) hx hb d_M_isKnown_16 (by decide) ?_
    exact g_zret hx hb hr (by rfl) hlocks hW hS (⟨bI_0 (inB_neg h1), rfl⟩) d_M_isKnown_17
  · obtain ⟨j, hj, rfl⟩ := nI_of h1
    refine lv_iload_n hx hb d_M_isKnown_4 rfl (lv_at hl 1 rfl) ?_
    refine lv_aload_n hx hb d_M_isKnown_5 rfl (lv_at hl 0 rfl) ?_
    refine g_get (C := R_M) (T := F_M) (N := 35) hx hb hts i_M hown hK hW (i := 400) (hdl 400 (by decide) (by decide)) h400 rfl 22 (by decide) (hts _ q_510) (fun _ h9 => h9) rfl d_M_isKnown_6 ?_
    refine n_icmp_ge (tgt := 16) hx hb (by omega) (by omega) d_M_isKnown_9 (by decide) (fun h2 => ?_) (fun h2 => ?_)
    · refine lv_iconst (v := nI 0) hx hb d_M_isKnown_16 (by decide) ?_
      exact g_zret hx hb hr (by rfl) hlocks hW hS (⟨bI_0 (inB_ge hj h2), rfl⟩) d_M_isKnown_17
    · refine lv_iconst (v := nI 1) hx hb d_M_isKnown_12 (by decide) ?_
      refine lv_goto (tgt := 17) hx hb d_M_isKnown_13 (by decide) ?_
      exact g_zret hx hb hr (by rfl) hlocks hW hS (⟨bI_1 (inB_lt h2 hb9), rfl⟩) d_M_isKnown_17
