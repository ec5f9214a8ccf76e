set_option maxHeartbeats 4000000 in
set_option maxRecDepth 100000 in
/-- may(k, b, w) -/
theorem c_M_may (l : Launch) {D : va_G} {cI cJ cG : ClassId} {ad : Nat → Nat} {co : Nat → va_E} {dl : List Nat} {a rw sh pg ce mg kn cs sm : Nat} (hdl : ∀ i, 400 ≤ i → i < 427 → i ∈ dl) (h400 : co 400 = mO ad a rw sh pg ce mg kn cs sm) {shp : Nat → Int32} {tr : Nat → Int32} (h408 : co 408 = .inl (cI, 200, .inl shp)) (h409 : co 409 = .inl (cI, 200, .inl tr)) (j b : Nat) (w : Int32) (hj : j < 200) (hs : shp j ≠ -1) : gMi l y_M_may (Cond.code y_M_may b_M_may 4 (some .boolean) :: wA) ({ frames := 0, cells := 0, slots := 0, locals := 0 }) D gCl (gTy cI cJ cG) gNl [.ref (ad 400), .int (nI j), .int (nI b), .int w] ad co dl (fun r co' => r = bI (alw tr shp w j b) ∧ co' = co) := by
  refine gMi_of (cc := b_M_may) (maxL := 4) (ret := some .boolean) (by decide) rfl (Nat.le_of_ble_eq_true rfl) ?_
  intro pp ee s mm below meth cd ls hC hW hS hl
  obtain ⟨hx, hb, hr, hts0, hown, hlocks, hml, hK, hN⟩ := hC
  have hts : ∀ w ∈ wA, w.before _ s = true := fun w h => hts0 w (List.mem_cons_of_mem _ h)
  have hA : ∀ q, s.heap.size ≤ q → gA ad co dl s.heap.size q := fun q h => Or.inr h
  have hl : lv_has ls 4 [(0, .ref (ad 400)), (1, .int (nI j)), (2, .int (nI b)), (3, .int w)] := hl
  have hown : s.vm.findClass R_M = some mm.cls := hown
  refine lv_aload_n hx hb d_M_may_0 rfl (lv_at hl 0 rfl) ?_
  refine g_get (C := R_M) (T := F_M) (N := 35) hx hb hts i_M hown hK hW (i := 400) (hdl 400 (by decide) (by decide)) h400 rfl 10 (by decide) (hts _ q_498) (fun _ h9 => h9) rfl d_M_may_1 ?_
  refine lv_iload_n hx hb d_M_may_4 rfl (lv_at hl 1 rfl) ?_
  refine n_iald hx hb hK hW 0 (q := 409) (hdl 409 (by decide) (by decide)) h409 rfl (j := j) (by omega) (by omega) d_M_may_5 ?_
  refine lv_iconst (v := (-1)) hx hb d_M_may_6 (by decide) ?_
  refine lv_icmp_eq (tgt := 35) hx hb d_M_may_7 (by decide) (fun h1 => ?_) (fun h1 => ?_)
  · refine lv_iconst (v := nI 1) hx hb d_M_may_35 (by decide) ?_
    refine lv_goto (tgt := 40) hx hb d_M_may_36 (by decide) ?_
    exact g_zret hx hb hr (by rfl) hlocks hW hS (⟨bI_1 (by simp [alw, h1]), rfl⟩) d_M_may_40
  · refine lv_iload_n hx hb d_M_may_10 rfl (lv_at hl 3 rfl) ?_
    refine lv_iconst (v := (-1)) hx hb d_M_may_11 (by decide) ?_
    refine lv_icmp_eq (tgt := 25) hx hb d_M_may_12 (by decide) (fun h2 => ?_) (fun h2 => ?_)
    · refine lv_aload_n hx hb d_M_may_25 rfl (lv_at hl 0 rfl) ?_
      refine g_get (C := R_M) (T := F_M) (N := 35) hx hb hts i_M hown hK hW (i := 400) (hdl 400 (by decide) (by decide)) h400 rfl 10 (by decide) (hts _ q_498) (fun _ h9 => h9) rfl d_M_may_26 ?_
      refine lv_iload_n hx hb d_M_may_29 rfl (lv_at hl 1 rfl) ?_
      refine n_iald hx hb hK hW 0 (q := 409) (hdl 409 (by decide) (by decide)) h409 rfl (j := j) (by omega) (by omega) d_M_may_30 ?_
      refine lv_iload_n hx hb d_M_may_31 rfl (lv_at hl 2 rfl) ?_
      refine lv_icmp_ne (tgt := 39) hx hb d_M_may_32 (by decide) (fun h4 => ?_) (fun h4 => ?_)
      · refine lv_iconst (v := nI 0) hx hb d_M_may_39 (by decide) ?_
        exact g_zret hx hb hr (by rfl) hlocks hW hS (⟨bI_0 (by simp [alw, h1, h4, h2, hs]), rfl⟩) d_M_may_40
      · refine lv_iconst (v := nI 1) hx hb d_M_may_35 (by decide) ?_
        refine lv_goto (tgt := 40) hx hb d_M_may_36 (by decide) ?_
        exact g_zret hx hb hr (by rfl) hlocks hW hS (⟨bI_1 (by simp [alw, h4]), rfl⟩) d_M_may_40
    · refine lv_aload_n hx hb d_M_may_15 rfl (lv_at hl 0 rfl) ?_
      refine g_get (C := R_M) (T := F_M) (N := 35) hx hb hts i_M hown hK hW (i := 400) (hdl 400 (by decide) (by decide)) h400 rfl 9 (by decide) (hts _ q_497) (fun _ h9 => h9) rfl d_M_may_16 ?_
      refine lv_iload_n hx hb d_M_may_19 rfl (lv_at hl 1 rfl) ?_
      refine n_iald hx hb hK hW 0 (q := 408) (hdl 408 (by decide) (by decide)) h408 rfl (j := j) (by omega) (by omega) d_M_may_20 ?_
      refine lv_iload_n hx hb d_M_may_21 rfl (lv_at hl 3 rfl) ?_
      refine lv_icmp_eq (tgt := 35) hx hb d_M_may_22 (by decide) (fun h3 => ?_) (fun h3 => ?_)
      · refine lv_iconst (v := nI 1) hx hb d_M_may_35 (by decide) ?_
        refine lv_goto (tgt := 40) hx hb d_M_may_36 (by decide) ?_
        exact g_zret hx hb hr (by rfl) hlocks hW hS (⟨bI_1 (by simp [alw, h3]), rfl⟩) d_M_may_40
      · refine lv_aload_n hx hb d_M_may_25 rfl (lv_at hl 0 rfl) ?_
        refine g_get (C := R_M) (T := F_M) (N := 35) hx hb hts i_M hown hK hW (i := 400) (hdl 400 (by decide) (by decide)) h400 rfl 10 (by decide) (hts _ q_498) (fun _ h9 => h9) rfl d_M_may_26 ?_
        refine lv_iload_n hx hb d_M_may_29 rfl (lv_at hl 1 rfl) ?_
        refine n_iald hx hb hK hW 0 (q := 409) (hdl 409 (by decide) (by decide)) h409 rfl (j := j) (by omega) (by omega) d_M_may_30 ?_
        refine lv_iload_n hx hb d_M_may_31 rfl (lv_at hl 2 rfl) ?_
        refine lv_icmp_ne (tgt := 39) hx hb d_M_may_32 (by decide) (fun h4 => ?_) (fun h4 => ?_)
        · refine lv_iconst (v := nI 0) hx hb d_M_may_39 (by decide) ?_
          exact g_zret hx hb hr (by rfl) hlocks hW hS (⟨bI_0 (by simp [alw, h1, h4, h3]), rfl⟩) d_M_may_40
        · refine lv_iconst (v := nI 1) hx hb d_M_may_35 (by decide) ?_
          refine lv_goto (tgt := 40) hx hb d_M_may_36 (by decide) ?_
          exact g_zret hx hb hr (by rfl) hlocks hW hS (⟨bI_1 (by simp [alw, h4]), rfl⟩) d_M_may_40
set_option maxHeartbeats 4000000 in
set_option maxRecDepth 100000 in
/-- isFirst(x, y, n) -/
theorem c_M_isFirst (l : Launch) {D : va_G} {cI cJ cG : ClassId} {ad : Nat → Nat} {co : Nat → va_E} {dl : List Nat} {a rw sh pg ce mg kn cs sm : Nat} (hdl : ∀ i, 400 ≤ i → i < 427 → i ∈ dl) (h400 : co 400 = mO ad a rw sh pg ce mg kn cs sm) {so : Nat → Int32} (h420 : co 420 = .inl (cI, 2400, .inl so)) (x y n : Nat) (hx9 : x < 12) (hy9 : y < 12) (hn9 : n ≤ 200) : gMi l y_M_isFirst (Cond.code y_M_isFirst b_M_isFirst 5 (some .boolean) :: wA) ({ frames := 0, cells := 0, slots := 0, locals := 0 }) D gCl (gTy cI cJ cG) gNl [.ref (ad 400), .int (nI x), .int (nI y), .int (nI n)] ad co dl (fun r co' => r = bI (lexL (fun k => so (200 * x + k)) (fun k => so (200 * y + k)) n) ∧ co' = co) := by
  refine gMi_of (cc := b_M_isFirst) (maxL := 5) (ret := some .boolean) (by decide) rfl (Nat.le_of_ble_eq_true rfl) ?_
  intro pp ee s mm below meth cd ls hC hW hS hl
  obtain ⟨hx, hb, hr, hts0, hown, hlocks, hml, hK, hN⟩ := hC
  have hts : ∀ w ∈ wA, w.before _ s = true := fun w h => hts0 w (List.mem_cons_of_mem _ h)
  have hA : ∀ q, s.heap.size ≤ q → gA ad co dl s.heap.size q := fun q h => Or.inr h
  have hl : lv_has ls 5 [(0, .ref (ad 400)), (1, .int (nI x)), (2, .int (nI y)), (3, .int (nI n))] := hl
  have hown : s.vm.findClass R_M = some mm.cls := hown
  refine lv_iconst (v := nI 0) hx hb d_M_isFirst_0 (by decide) ?_
  refine lv_istore (lv' := [(4, .int (nI 0)), (0, .ref (ad 400)), (1, .int (nI x)), (2, .int (nI y)), (3, .int (nI n))]) hx hb d_M_isFirst_1 hl (by decide) rfl (fun ls hl => ?_)
  suffices hloop : ∀ (d k : Nat) (ls : Array Slot), k ≤ n → n + 1 ≤ k + d → (∀ i, i < k → so (200 * x + i) = so (200 * y + i)) → lv_has ls 5 [(4, .int (nI k)), (0, .ref (ad 400)), (1, .int (nI x)), (2, .int (nI y)), (3, .int (nI n))] → W pp l ee _ s mm _ below meth cd s.heap [] 0 0 _ (F0 mm 3 ls []) by
    exact hloop (n + 1) 0 ls (by omega) (by omega) (fun i h => absurd h (Nat.not_lt_zero i)) hl
  intro d
  induction d with
  | zero => intro k ls h1 h2; exact absurd h2 (by omega)
  | succ d ih =>
    intro k ls hk hd heq hl
    refine lv_iload hx hb d_M_isFirst_3 (lv_at hl 0 rfl) ?_
    refine lv_iload_n hx hb d_M_isFirst_5 rfl (lv_at hl 4 rfl) ?_
    refine n_icmp_ge (tgt := 79) hx hb (by omega) (by omega) d_M_isFirst_6 (by decide) (fun h1 => ?_) (fun h1 => ?_)
    · refine lv_iconst (v := nI 0) hx hb d_M_isFirst_79 (by decide) ?_
      exact g_zret hx hb hr (by rfl) hlocks hW hS (⟨bI_0 (lexL_eq (fun i hi => heq i (by omega))), rfl⟩) d_M_isFirst_80
    · refine lv_aload_n hx hb d_M_isFirst_9 rfl (lv_at hl 1 rfl) ?_
      refine g_get (C := R_M) (T := F_M) (N := 35) hx hb hts i_M hown hK hW (i := 400) (hdl 400 (by decide) (by decide)) h400 rfl 28 (by decide) (hts _ q_516) (fun _ h9 => h9) rfl d_M_isFirst_10 ?_
      refine lv_sipush (v := nI 200) hx hb d_M_isFirst_13 (by decide) ?_
      refine lv_iload_n hx hb d_M_isFirst_16 rfl (lv_at hl 2 rfl) ?_
      refine n_mul hx hb d_M_isFirst_17 ?_
      refine lv_iload hx hb d_M_isFirst_18 (lv_at hl 0 rfl) ?_
      refine n_add hx hb d_M_isFirst_20 ?_
      refine n_iald hx hb hK hW 0 (q := 420) (hdl 420 (by decide) (by decide)) h420 rfl (j := (200 * x) + k) (by omega) (by omega) d_M_isFirst_21 ?_
      refine lv_aload_n hx hb d_M_isFirst_22 rfl (lv_at hl 1 rfl) ?_
      refine g_get (C := R_M) (T := F_M) (N := 35) hx hb hts i_M hown hK hW (i := 400) (hdl 400 (by decide) (by decide)) h400 rfl 28 (by decide) (hts _ q_516) (fun _ h9 => h9) rfl d_M_isFirst_23 ?_
      refine lv_sipush (v := nI 200) hx hb d_M_isFirst_26 (by decide) ?_
      refine lv_iload_n hx hb d_M_isFirst_29 rfl (lv_at hl 3 rfl) ?_
      refine n_mul hx hb d_M_isFirst_30 ?_
      refine lv_iload hx hb d_M_isFirst_31 (lv_at hl 0 rfl) ?_
      refine n_add hx hb d_M_isFirst_33 ?_
      refine n_iald hx hb hK hW 0 (q := 420) (hdl 420 (by decide) (by decide)) h420 rfl (j := (200 * y) + k) (by omega) (by omega) d_M_isFirst_34 ?_
      refine lv_icmp_eq (tgt := 73) hx hb d_M_isFirst_35 (by decide) (fun h2 => ?_) (fun h2 => ?_)
      · refine n_iinc (lv' := [(4, .int (nI (k + 1))), (0, .ref (ad 400)), (1, .int (nI x)), (2, .int (nI y)), (3, .int (nI n))]) hx hb d_M_isFirst_73 hl (k := 0) rfl (by decide) rfl (fun ls hl => ?_)
        refine lv_goto (tgt := 3) hx hb d_M_isFirst_76 (by decide) ?_
        exact ih (k + 1) ls (by omega) (by omega) (lt_s heq h2) hl
      · refine lv_aload_n hx hb d_M_isFirst_38 rfl (lv_at hl 1 rfl) ?_
        refine g_get (C := R_M) (T := F_M) (N := 35) hx hb hts i_M hown hK hW (i := 400) (hdl 400 (by decide) (by decide)) h400 rfl 28 (by decide) (hts _ q_516) (fun _ h9 => h9) rfl d_M_isFirst_39 ?_
        refine lv_sipush (v := nI 200) hx hb d_M_isFirst_42 (by decide) ?_
        refine lv_iload_n hx hb d_M_isFirst_45 rfl (lv_at hl 2 rfl) ?_
        refine n_mul hx hb d_M_isFirst_46 ?_
        refine lv_iload hx hb d_M_isFirst_47 (lv_at hl 0 rfl) ?_
        refine n_add hx hb d_M_isFirst_49 ?_
        refine n_iald hx hb hK hW 0 (q := 420) (hdl 420 (by decide) (by decide)) h420 rfl (j := (200 * x) + k) (by omega) (by omega) d_M_isFirst_50 ?_
        refine lv_aload_n hx hb d_M_isFirst_51 rfl (lv_at hl 1 rfl) ?_
        refine g_get (C := R_M) (T := F_M) (N := 35) hx hb hts i_M hown hK hW (i := 400) (hdl 400 (by decide) (by decide)) h400 rfl 28 (by decide) (hts _ q_516) (fun _ h9 => h9) rfl d_M_isFirst_52 ?_
        refine lv_sipush (v := nI 200) hx hb d_M_isFirst_55 (by decide) ?_
        refine lv_iload_n hx hb d_M_isFirst_58 rfl (lv_at hl 3 rfl) ?_
        refine n_mul hx hb d_M_isFirst_59 ?_
        refine lv_iload hx hb d_M_isFirst_60 (lv_at hl 0 rfl) ?_
        refine n_add hx hb d_M_isFirst_62 ?_
        refine n_iald hx hb hK hW 0 (q := 420) (hdl 420 (by decide) (by decide)) h420 rfl (j := (200 * y) + k) (by omega) (by omega) d_M_isFirst_63 ?_
        refine lv_icmp_ge (tgt := 71) hx hb d_M_isFirst_64 (by decide) (fun h3 => ?_) (fun h3 => ?_)
        · refine lv_iconst (v := nI 0) hx hb d_M_isFirst_71 (by decide) ?_
          exact g_zret hx hb hr (by rfl) hlocks hW hS (⟨bI_0 (lexL_no h1 heq h2 h3), rfl⟩) d_M_isFirst_72
        · refine lv_iconst (v := nI 1) hx hb d_M_isFirst_67 (by decide) ?_
          refine lv_goto (tgt := 72) hx hb d_M_isFirst_68 (by decide) ?_
          exact g_zret hx hb hr (by rfl) hlocks hW hS (⟨bI_1 (lexL_yes h1 heq (Int32.not_le.mp h3)), rfl⟩) d_M_isFirst_72
