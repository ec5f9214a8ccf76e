set_option maxHeartbeats 4000000 in
set_option maxRecDepth 100000 in
/-- canFollow -/
theorem c_T_canFollow (l : Launch) {D : va_G} {cI cJ cG : ClassId} {ad : Nat → Nat} {co : Nat → va_E} {dl : List Nat} {a n : Nat}  (hdl : ∀ i, kD a i → i ∈ dl) (w1 : co 1 = oT ad n) {sec : Nat → Int64} (w2 : co 2 = .inl (cJ, 200, .inr (.inl sec))) (x : Int64) (hn : n ≤ 200) : gMi l y_T_canFollow (Cond.code y_T_canFollow b_T_canFollow 3 (some .boolean) :: wA) ({ frames := 0, cells := 0, slots := 0, locals := 0 }) D gCl (gTy cI cJ cG) gNl [.ref (ad 1), .long x] ad co dl (fun r co' => r = bI (decide (n < 200) && decide (0 ≤ x) && (decide (n = 0) || decide (sec (n - 1) < x))) ∧ co' = co) := by
  refine gMi_of (cc := b_T_canFollow) (maxL := 3) (ret := some .boolean) (by decide) rfl (Nat.le_of_ble_eq_true rfl) ?_
  intro pp ee s mm below meth cd ls hC hW hS hl
  obtain ⟨hx, hb, hr, hts0, hown, hlocks, hml, hK, hN⟩ := hC
  have hts : ∀ w ∈ wA, w.before _ s = true := fun w h => hts0 w (List.mem_cons_of_mem _ h)
  have hA : ∀ q, s.heap.size ≤ q → gA ad co dl s.heap.size q := fun q h => Or.inr h
  have hl : lv_has ls 3 [(0, .ref (ad 1)), (1, .long x)] := hl
  have hown : s.vm.findClass R_T = some mm.cls := hown
  refine lv_aload_n hx hb d_T_canFollow_0 rfl (lv_at hl 0 rfl) ?_
  refine g_get (C := R_T) (T := F_T) (N := 6) hx hb hts i_T hown hK hW (i := 1) (hdl (1) (by unfold kD; omega)) w1 rfl 5 (by decide) (hts _ q_42) (fun _ h9 => h9) rfl d_T_canFollow_1 ?_
  refine lv_sipush (v := nI 200) hx hb d_T_canFollow_4 (by decide) ?_
  refine n_icmp_ge (tgt := 16) hx hb (by omega) (by omega) d_T_canFollow_7 (by decide) (fun h1 => ?_) (fun h1 => ?_)
  · refine lv_iconst (v := nI 0) hx hb d_T_canFollow_16 (by decide) ?_
    exact g_zret hx hb hr (by rfl) hlocks hW hS (⟨bI_0 (by simp [show ¬ n < 200 by omega]), rfl⟩) d_T_canFollow_17
  · refine lv_lload_n hx hb d_T_canFollow_10 rfl (lv_at hl 1 rfl) ?_
    refine lv_lconst (v := 0) hx hb d_T_canFollow_11 (by decide) ?_
    refine W.lcmp hx hb d_T_canFollow_12 ?_
    refine lv_if_ge (tgt := 18) hx hb d_T_canFollow_13 (by decide) (fun h2 => ?_) (fun h2 => ?_)
    · refine lv_aload_n hx hb d_T_canFollow_18 rfl (lv_at hl 0 rfl) ?_
      refine g_get (C := R_T) (T := F_T) (N := 6) hx hb hts i_T hown hK hW (i := 1) (hdl (1) (by unfold kD; omega)) w1 rfl 5 (by decide) (hts _ q_42) (fun _ h9 => h9) rfl d_T_canFollow_19 ?_
      refine n_if_eq (tgt := 41) hx hb (by omega) d_T_canFollow_22 (by decide) (fun h3 => ?_) (fun h3 => ?_)
      · refine lv_iconst (v := nI 1) hx hb d_T_canFollow_41 (by decide) ?_
        refine lv_goto (tgt := 46) hx hb d_T_canFollow_42 (by decide) ?_
        exact g_zret hx hb hr (by rfl) hlocks hW hS (⟨bI_1 (by simp [show n < 200 by omega, lc_ge h2, h3]), rfl⟩) d_T_canFollow_46
      · refine lv_lload_n hx hb d_T_canFollow_25 rfl (lv_at hl 1 rfl) ?_
        refine lv_aload_n hx hb d_T_canFollow_26 rfl (lv_at hl 0 rfl) ?_
        refine g_get (C := R_T) (T := F_T) (N := 6) hx hb hts i_T hown hK hW (i := 1) (hdl (1) (by unfold kD; omega)) w1 rfl 0 (by decide) (hts _ q_32) (fun _ h9 => h9) rfl d_T_canFollow_27 ?_
        refine lv_aload_n hx hb d_T_canFollow_30 rfl (lv_at hl 0 rfl) ?_
        refine g_get (C := R_T) (T := F_T) (N := 6) hx hb hts i_T hown hK hW (i := 1) (hdl (1) (by unfold kD; omega)) w1 rfl 5 (by decide) (hts _ q_42) (fun _ h9 => h9) rfl d_T_canFollow_31 ?_
        refine lv_iconst (v := nI 1) hx hb d_T_canFollow_34 (by decide) ?_
        refine n_sub hx hb (by omega) d_T_canFollow_35 ?_
        refine n_lald hx hb hK hW 1 (q := 2) (hdl (2) (by unfold kD; omega)) w2 rfl (j := n - 1) (by omega) (by omega) d_T_canFollow_36 ?_
        refine W.lcmp hx hb d_T_canFollow_37 ?_
        refine lv_if_le (tgt := 45) hx hb d_T_canFollow_38 (by decide) (fun h4 => ?_) (fun h4 => ?_)
        · refine lv_iconst (v := nI 0) hx hb d_T_canFollow_45 (by decide) ?_
          exact g_zret hx hb hr (by rfl) hlocks hW hS (⟨bI_0 (by simp [show ¬ n = 0 by omega, L_nle (lc_le h4)]), rfl⟩) d_T_canFollow_46
        · refine lv_iconst (v := nI 1) hx hb d_T_canFollow_41 (by decide) ?_
          refine lv_goto (tgt := 46) hx hb d_T_canFollow_42 (by decide) ?_
          exact g_zret hx hb hr (by rfl) hlocks hW hS (⟨bI_1 (by simp [show n < 200 by omega, lc_ge h2, lc_nle h4]), rfl⟩) d_T_canFollow_46
    · refine lv_iconst (v := nI 0) hx hb d_T_canFollow_16 (by decide) ?_
      exact g_zret hx hb hr (by rfl) hlocks hW hS (⟨bI_0 (by simp [L_nlt (lc_nge h2)]), rfl⟩) d_T_canFollow_17
set_option maxHeartbeats 4000000 in
set_option maxRecDepth 100000 in
/-- add -/
theorem c_T_add (l : Launch) {D : va_G} {cI cJ cG : ClassId} {ad : Nat → Nat} {co : Nat → va_E} {dl : List Nat} {a n : Nat}  (hdl : ∀ i, kD a i → i ∈ dl) (w1 : co 1 = oT ad n) {sec : Nat → Int64} {cls : Nat → Int32} {trn : Nat → Int32} {shp : Nat → Int32} {tr : Nat → Int32} (w2 : co 2 = .inl (cJ, 200, .inr (.inl sec))) (w3 : co 3 = .inl (cI, 200, .inl cls)) (w4 : co 4 = .inl (cI, 200, .inl trn)) (w5 : co 5 = .inl (cI, 200, .inl shp)) (w6 : co 6 = .inl (cI, 200, .inl tr)) (x : Int64) (y z v : Int32) (hn : n < 200) : gMv l y_T_add (Cond.code y_T_add b_T_add 6 none :: wA) ({ frames := 0, cells := 0, slots := 0, locals := 0 }) D gCl (gTy cI cJ cG) gNl [.ref (ad 1), .long x, .int y, .int z, .int v] ad co dl (fun co' => co' = va_up (va_up (va_up (va_up (va_up (va_up co 2 (.inl (cJ, 200, .inr (.inl (vp_updL sec n x))))) 3 (.inl (cI, 200, .inl (upd cls n y)))) 4 (.inl (cI, 200, .inl (upd trn n z)))) 5 (.inl (cI, 200, .inl (upd shp n v)))) 6 (.inl (cI, 200, .inl (upd tr n (-1))))) 1 (oT ad (n + 1))) := by
  refine gMv_of (cc := b_T_add) (maxL := 6) (ret := none) (by decide) rfl (Nat.le_of_ble_eq_true rfl) ?_
  intro pp ee s mm below meth cd ls hC hW hS hl
  obtain ⟨hx, hb, hr, hts0, hown, hlocks, hml, hK, hN⟩ := hC
  have hts : ∀ w ∈ wA, w.before _ s = true := fun w h => hts0 w (List.mem_cons_of_mem _ h)
  have hA : ∀ q, s.heap.size ≤ q → gA ad co dl s.heap.size q := fun q h => Or.inr h
  have hl : lv_has ls 6 [(0, .ref (ad 1)), (1, .long x), (3, .int y), (4, .int z), (5, .int v)] := hl
  have hown : s.vm.findClass R_T = some mm.cls := hown
  refine lv_aload_n hx hb d_T_add_0 rfl (lv_at hl 0 rfl) ?_
  refine g_get (C := R_T) (T := F_T) (N := 6) hx hb hts i_T hown hK hW (i := 1) (hdl (1) (by unfold kD; omega)) w1 rfl 0 (by decide) (hts _ q_32) (fun _ h9 => h9) rfl d_T_add_1 ?_
  refine lv_aload_n hx hb d_T_add_4 rfl (lv_at hl 0 rfl) ?_
  refine g_get (C := R_T) (T := F_T) (N := 6) hx hb hts i_T hown hK hW (i := 1) (hdl (1) (by unfold kD; omega)) w1 rfl 5 (by decide) (hts _ q_42) (fun _ h9 => h9) rfl d_T_add_5 ?_
  refine lv_lload_n hx hb d_T_add_8 rfl (lv_at hl 1 rfl) ?_
  refine n_last (x := x) hx hb hK hW hS 1 (q := 2) (hdl (2) (by unfold kD; omega)) w2 rfl (j := n) (by omega) (by omega) d_T_add_9 (fun H locs hW hS => ?_)
  refine lv_aload_n hx hb d_T_add_10 rfl (lv_at hl 0 rfl) ?_
  refine g_get (C := R_T) (T := F_T) (N := 6) hx hb hts i_T hown hK hW (i := 1) (hdl (1) (by unfold kD; omega)) ((va_up_ne _ _ (by decide)).trans w1) rfl 1 (by decide) (hts _ q_34) (fun _ h9 => h9) rfl d_T_add_11 ?_
  refine lv_aload_n hx hb d_T_add_14 rfl (lv_at hl 0 rfl) ?_
  refine g_get (C := R_T) (T := F_T) (N := 6) hx hb hts i_T hown hK hW (i := 1) (hdl (1) (by unfold kD; omega)) ((va_up_ne _ _ (by decide)).trans w1) rfl 5 (by decide) (hts _ q_42) (fun _ h9 => h9) rfl d_T_add_15 ?_
  refine lv_iload_n hx hb d_T_add_18 rfl (lv_at hl 2 rfl) ?_
  refine n_iast (x := y) hx hb hK hW hS 0 (q := 3) (hdl (3) (by unfold kD; omega)) ((va_up_ne _ _ (by decide)).trans w3) rfl (j := n) (by omega) (by omega) d_T_add_19 (fun H locs hW hS => ?_)
  refine lv_aload_n hx hb d_T_add_20 rfl (lv_at hl 0 rfl) ?_
  refine g_get (C := R_T) (T := F_T) (N := 6) hx hb hts i_T hown hK hW (i := 1) (hdl (1) (by unfold kD; omega)) ((va_up_ne _ _ (by decide)).trans ((va_up_ne _ _ (by decide)).trans w1)) rfl 2 (by decide) (hts _ q_37) (fun _ h9 => h9) rfl d_T_add_21 ?_
  refine lv_aload_n hx hb d_T_add_24 rfl (lv_at hl 0 rfl) ?_
  refine g_get (C := R_T) (T := F_T) (N := 6) hx hb hts i_T hown hK hW (i := 1) (hdl (1) (by unfold kD; omega)) ((va_up_ne _ _ (by decide)).trans ((va_up_ne _ _ (by decide)).trans w1)) rfl 5 (by decide) (hts _ q_42) (fun _ h9 => h9) rfl d_T_add_25 ?_
  refine lv_iload hx hb d_T_add_28 (lv_at hl 3 rfl) ?_
  refine n_iast (x := z) hx hb hK hW hS 0 (q := 4) (hdl (4) (by unfold kD; omega)) ((va_up_ne _ _ (by decide)).trans ((va_up_ne _ _ (by decide)).trans w4)) rfl (j := n) (by omega) (by omega) d_T_add_30 (fun H locs hW hS => ?_)
  refine lv_aload_n hx hb d_T_add_31 rfl (lv_at hl 0 rfl) ?_
  refine g_get (C := R_T) (T := F_T) (N := 6) hx hb hts i_T hown hK hW (i := 1) (hdl (1) (by unfold kD; omega)) ((va_up_ne _ _ (by decide)).trans ((va_up_ne _ _ (by decide)).trans ((va_up_ne _ _ (by decide)).trans w1))) rfl 3 (by decide) (hts _ q_38) (fun _ h9 => h9) rfl d_T_add_32 ?_
  refine lv_aload_n hx hb d_T_add_35 rfl (lv_at hl 0 rfl) ?_
  refine g_get (C := R_T) (T := F_T) (N := 6) hx hb hts i_T hown hK hW (i := 1) (hdl (1) (by unfold kD; omega)) ((va_up_ne _ _ (by decide)).trans ((va_up_ne _ _ (by decide)).trans ((va_up_ne _ _ (by decide)).trans w1))) rfl 5 (by decide) (hts _ q_42) (fun _ h9 => h9) rfl d_T_add_36 ?_
  refine lv_iload hx hb d_T_add_39 (lv_at hl 4 rfl) ?_
  refine n_iast (x := v) hx hb hK hW hS 0 (q := 5) (hdl (5) (by unfold kD; omega)) ((va_up_ne _ _ (by decide)).trans ((va_up_ne _ _ (by decide)).trans ((va_up_ne _ _ (by decide)).trans w5))) rfl (j := n) (by omega) (by omega) d_T_add_41 (fun H locs hW hS => ?_)
  refine lv_aload_n hx hb d_T_add_42 rfl (lv_at hl 0 rfl) ?_
  refine g_get (C := R_T) (T := F_T) (N := 6) hx hb hts i_T hown hK hW (i := 1) (hdl (1) (by unfold kD; omega)) ((va_up_ne _ _ (by decide)).trans ((va_up_ne _ _ (by decide)).trans ((va_up_ne _ _ (by decide)).trans ((va_up_ne _ _ (by decide)).trans w1)))) rfl 4 (by decide) (hts _ q_39) (fun _ h9 => h9) rfl d_T_add_43 ?_
  refine lv_aload_n hx hb d_T_add_46 rfl (lv_at hl 0 rfl) ?_
  refine g_get (C := R_T) (T := F_T) (N := 6) hx hb hts i_T hown hK hW (i := 1) (hdl (1) (by unfold kD; omega)) ((va_up_ne _ _ (by decide)).trans ((va_up_ne _ _ (by decide)).trans ((va_up_ne _ _ (by decide)).trans ((va_up_ne _ _ (by decide)).trans w1)))) rfl 5 (by decide) (hts _ q_42) (fun _ h9 => h9) rfl d_T_add_47 ?_
  refine lv_iconst (v := (-1)) hx hb d_T_add_50 (by decide) ?_
  refine n_iast (x := (-1)) hx hb hK hW hS 0 (q := 6) (hdl (6) (by unfold kD; omega)) ((va_up_ne _ _ (by decide)).trans ((va_up_ne _ _ (by decide)).trans ((va_up_ne _ _ (by decide)).trans ((va_up_ne _ _ (by decide)).trans w6)))) rfl (j := n) (by omega) (by omega) d_T_add_51 (fun H locs hW hS => ?_)
  refine lv_aload_n hx hb d_T_add_52 rfl (lv_at hl 0 rfl) ?_
  refine lv_dup hx hb d_T_add_53 rfl ?_
  refine g_get (C := R_T) (T := F_T) (N := 6) hx hb hts i_T hown hK hW (i := 1) (hdl (1) (by unfold kD; omega)) ((va_up_ne _ _ (by decide)).trans ((va_up_ne _ _ (by decide)).trans ((va_up_ne _ _ (by decide)).trans ((va_up_ne _ _ (by decide)).trans ((va_up_ne _ _ (by decide)).trans w1))))) rfl 5 (by decide) (hts _ q_42) (fun _ h9 => h9) rfl d_T_add_54 ?_
  refine lv_iconst (v := nI 1) hx hb d_T_add_57 (by decide) ?_
  refine n_add hx hb d_T_add_58 ?_
  refine g_put (ty := .int) (v := .int (nI (n + 1))) (C := R_T) (T := F_T) (N := 6) hx hb hts i_T fy_T fy_T_ok fn_T hown hK hW hS (i := 1) (hdl (1) (by unfold kD; omega)) ((va_up_ne _ _ (by decide)).trans ((va_up_ne _ _ (by decide)).trans ((va_up_ne _ _ (by decide)).trans ((va_up_ne _ _ (by decide)).trans ((va_up_ne _ _ (by decide)).trans w1))))) rfl 5 (by decide) (hts _ q_42) (fun _ h9 => h9) rfl (by decide +kernel) rfl rfl (Nat.le_of_ble_eq_true rfl) d_T_add_59 (fun H locs hW hS => ?_)
  exact g_vret hx hb hr hlocks hW hS (rfl) d_T_add_62
set_option maxHeartbeats 4000000 in
set_option maxRecDepth 100000 in
/-- allows -/
theorem c_T_allows (l : Launch) {D : va_G} {cI cJ cG : ClassId} {ad : Nat → Nat} {co : Nat → va_E} {dl : List Nat} {a n : Nat}  (hdl : ∀ i, kD a i → i ∈ dl) (w1 : co 1 = oT ad n) {shp : Nat → Int32} {tr : Nat → Int32} (w5 : co 5 = .inl (cI, 200, .inl shp)) (w6 : co 6 = .inl (cI, 200, .inl tr)) (j b : Nat) (w : Int32) (hj : j < 200) : gMi l y_T_allows (Cond.code y_T_allows b_T_allows 4 (some .boolean) :: wA) ({ frames := 0, cells := 0, slots := 0, locals := 0 }) D gCl (gTy cI cJ cG) gNl [.ref (ad 1), .int (nI j), .int (nI b), .int w] ad co dl (fun r co' => r = bI (alw tr shp w j b) ∧ co' = co) := by
  refine gMi_of (cc := b_T_allows) (maxL := 4) (ret := some .boolean) (by decide) rfl (Nat.le_of_ble_eq_true rfl) ?_
  intro pp ee s mm below meth cd ls hC hW hS hl
  obtain ⟨hx, hb, hr, hts0, hown, hlocks, hml, hK, hN⟩ := hC
  have hts : ∀ w ∈ wA, w.before _ s = true := fun w h => hts0 w (List.mem_cons_of_mem _ h)
  have hA : ∀ q, s.heap.size ≤ q → gA ad co dl s.heap.size q := fun q h => Or.inr h
  have hl : lv_has ls 4 [(0, .ref (ad 1)), (1, .int (nI j)), (2, .int (nI b)), (3, .int w)] := hl
  have hown : s.vm.findClass R_T = some mm.cls := hown
  refine lv_aload_n hx hb d_T_allows_0 rfl (lv_at hl 0 rfl) ?_
  refine g_get (C := R_T) (T := F_T) (N := 6) hx hb hts i_T hown hK hW (i := 1) (hdl (1) (by unfold kD; omega)) w1 rfl 4 (by decide) (hts _ q_39) (fun _ h9 => h9) rfl d_T_allows_1 ?_
  refine lv_iload_n hx hb d_T_allows_4 rfl (lv_at hl 1 rfl) ?_
  refine n_iald hx hb hK hW 0 (q := 6) (hdl (6) (by unfold kD; omega)) w6 rfl (j := j) (by omega) (by omega) d_T_allows_5 ?_
  refine lv_iconst (v := (-1)) hx hb d_T_allows_6 (by decide) ?_
  refine lv_icmp_eq (tgt := 30) hx hb d_T_allows_7 (by decide) (fun h1 => ?_) (fun h1 => ?_)
  · refine lv_iconst (v := nI 1) hx hb d_T_allows_30 (by decide) ?_
    refine lv_goto (tgt := 35) hx hb d_T_allows_31 (by decide) ?_
    exact g_zret hx hb hr (by rfl) hlocks hW hS (⟨bI_1 (by simp [alw, h1]), rfl⟩) d_T_allows_35
  · refine lv_aload_n hx hb d_T_allows_10 rfl (lv_at hl 0 rfl) ?_
    refine g_get (C := R_T) (T := F_T) (N := 6) hx hb hts i_T hown hK hW (i := 1) (hdl (1) (by unfold kD; omega)) w1 rfl 4 (by decide) (hts _ q_39) (fun _ h9 => h9) rfl d_T_allows_11 ?_
    refine lv_iload_n hx hb d_T_allows_14 rfl (lv_at hl 1 rfl) ?_
    refine n_iald hx hb hK hW 0 (q := 6) (hdl (6) (by unfold kD; omega)) w6 rfl (j := j) (by omega) (by omega) d_T_allows_15 ?_
    refine lv_iload_n hx hb d_T_allows_16 rfl (lv_at hl 2 rfl) ?_
    refine lv_icmp_eq (tgt := 30) hx hb d_T_allows_17 (by decide) (fun h2 => ?_) (fun h2 => ?_)
    · refine lv_iconst (v := nI 1) hx hb d_T_allows_30 (by decide) ?_
      refine lv_goto (tgt := 35) hx hb d_T_allows_31 (by decide) ?_
      exact g_zret hx hb hr (by rfl) hlocks hW hS (⟨bI_1 (by simp [alw, h2]), rfl⟩) d_T_allows_35
    · refine lv_aload_n hx hb d_T_allows_20 rfl (lv_at hl 0 rfl) ?_
      refine g_get (C := R_T) (T := F_T) (N := 6) hx hb hts i_T hown hK hW (i := 1) (hdl (1) (by unfold kD; omega)) w1 rfl 3 (by decide) (hts _ q_38) (fun _ h9 => h9) rfl d_T_allows_21 ?_
      refine lv_iload_n hx hb d_T_allows_24 rfl (lv_at hl 1 rfl) ?_
      refine n_iald hx hb hK hW 0 (q := 5) (hdl (5) (by unfold kD; omega)) w5 rfl (j := j) (by omega) (by omega) d_T_allows_25 ?_
      refine lv_iload_n hx hb d_T_allows_26 rfl (lv_at hl 3 rfl) ?_
      refine lv_icmp_ne (tgt := 34) hx hb d_T_allows_27 (by decide) (fun h3 => ?_) (fun h3 => ?_)
      · refine lv_iconst (v := nI 0) hx hb d_T_allows_34 (by decide) ?_
        exact g_zret hx hb hr (by rfl) hlocks hW hS (⟨bI_0 (by simp [alw, h1, h2, h3]), rfl⟩) d_T_allows_35
      · refine lv_iconst (v := nI 1) hx hb d_T_allows_30 (by decide) ?_
        refine lv_goto (tgt := 35) hx hb d_T_allows_31 (by decide) ?_
        exact g_zret hx hb hr (by rfl) hlocks hW hS (⟨bI_1 (by simp [alw, h3]), rfl⟩) d_T_allows_35
set_option maxHeartbeats 4000000 in
set_option maxRecDepth 100000 in
/-- hasTruthOf -/
theorem c_T_hasTruthOf (l : Launch) {D : va_G} {cI cJ cG : ClassId} {ad : Nat → Nat} {co : Nat → va_E} {dl : List Nat} {a n : Nat}  (hdl : ∀ i, kD a i → i ∈ dl) (w1 : co 1 = oT ad n) {shp : Nat → Int32} {tr : Nat → Int32} (w5 : co 5 = .inl (cI, 200, .inl shp)) (w6 : co 6 = .inl (cI, 200, .inl tr)) (j : Nat) (w : Int32) (hj : j < 200) : gMi l y_T_hasTruthOf (Cond.code y_T_hasTruthOf b_T_hasTruthOf 3 (some .boolean) :: wA) ({ frames := 0, cells := 0, slots := 0, locals := 0 }) D gCl (gTy cI cJ cG) gNl [.ref (ad 1), .int (nI j), .int w] ad co dl (fun r co' => r = bI (decide (shp j = w) && decide (¬ tr j = -1)) ∧ co' = co) := by
  refine gMi_of (cc := b_T_hasTruthOf) (maxL := 3) (ret := some .boolean) (by decide) rfl (Nat.le_of_ble_eq_true rfl) ?_
  intro pp ee s mm below meth cd ls hC hW hS hl
  obtain ⟨hx, hb, hr, hts0, hown, hlocks, hml, hK, hN⟩ := hC
  have hts : ∀ w ∈ wA, w.before _ s = true := fun w h => hts0 w (List.mem_cons_of_mem _ h)
  have hA : ∀ q, s.heap.size ≤ q → gA ad co dl s.heap.size q := fun q h => Or.inr h
  have hl : lv_has ls 3 [(0, .ref (ad 1)), (1, .int (nI j)), (2, .int w)] := hl
  have hown : s.vm.findClass R_T = some mm.cls := hown
  refine lv_aload_n hx hb d_T_hasTruthOf_0 rfl (lv_at hl 0 rfl) ?_
  refine g_get (C := R_T) (T := F_T) (N := 6) hx hb hts i_T hown hK hW (i := 1) (hdl (1) (by unfold kD; omega)) w1 rfl 4 (by decide) (hts _ q_39) (fun _ h9 => h9) rfl d_T_hasTruthOf_1 ?_
  refine lv_iload_n hx hb d_T_hasTruthOf_4 rfl (lv_at hl 1 rfl) ?_
  refine n_iald hx hb hK hW 0 (q := 6) (hdl (6) (by unfold kD; omega)) w6 rfl (j := j) (by omega) (by omega) d_T_hasTruthOf_5 ?_
  refine lv_iconst (v := (-1)) hx hb d_T_hasTruthOf_6 (by decide) ?_
  refine lv_icmp_eq (tgt := 24) hx hb d_T_hasTruthOf_7 (by decide) (fun h1 => ?_) (fun h1 => ?_)
  · refine lv_iconst (v := nI 0) hx hb d_T_hasTruthOf_24 (by decide) ?_
    exact g_zret hx hb hr (by rfl) hlocks hW hS (⟨bI_0 (by simp [h1]), rfl⟩) d_T_hasTruthOf_25
  · refine lv_aload_n hx hb d_T_hasTruthOf_10 rfl (lv_at hl 0 rfl) ?_
    refine g_get (C := R_T) (T := F_T) (N := 6) hx hb hts i_T hown hK hW (i := 1) (hdl (1) (by unfold kD; omega)) w1 rfl 3 (by decide) (hts _ q_38) (fun _ h9 => h9) rfl d_T_hasTruthOf_11 ?_
    refine lv_iload_n hx hb d_T_hasTruthOf_14 rfl (lv_at hl 1 rfl) ?_
    refine n_iald hx hb hK hW 0 (q := 5) (hdl (5) (by unfold kD; omega)) w5 rfl (j := j) (by omega) (by omega) d_T_hasTruthOf_15 ?_
    refine lv_iload_n hx hb d_T_hasTruthOf_16 rfl (lv_at hl 2 rfl) ?_
    refine lv_icmp_ne (tgt := 24) hx hb d_T_hasTruthOf_17 (by decide) (fun h2 => ?_) (fun h2 => ?_)
    · refine lv_iconst (v := nI 0) hx hb d_T_hasTruthOf_24 (by decide) ?_
      exact g_zret hx hb hr (by rfl) hlocks hW hS (⟨bI_0 (by simp [h2]), rfl⟩) d_T_hasTruthOf_25
    · refine lv_iconst (v := nI 1) hx hb d_T_hasTruthOf_20 (by decide) ?_
      refine lv_goto (tgt := 25) hx hb d_T_hasTruthOf_21 (by decide) ?_
      exact g_zret hx hb hr (by rfl) hlocks hW hS (⟨bI_1 (by simp [h1, h2]), rfl⟩) d_T_hasTruthOf_25
set_option maxHeartbeats 4000000 in
set_option maxRecDepth 100000 in
/-- truthsOf -/
theorem c_T_truthsOf (l : Launch) {D : va_G} {cI cJ cG : ClassId} {ad : Nat → Nat} {co : Nat → va_E} {dl : List Nat} {a n : Nat}  (hdl : ∀ i, kD a i → i ∈ dl) (w1 : co 1 = oT ad n) {shp : Nat → Int32} {tr : Nat → Int32} (w5 : co 5 = .inl (cI, 200, .inl shp)) (w6 : co 6 = .inl (cI, 200, .inl tr)) (w : Int32) (hn : n ≤ 200) : gMi l y_T_truthsOf (Cond.code y_T_truthsOf b_T_truthsOf 4 (some .int) :: wA) ({ frames := 1, cells := 0, slots := 0, locals := 22 }) D gCl (gTy cI cJ cG) gNl [.ref (ad 1), .int w] ad co dl (fun r co' => r = nI (cntF (fun k => decide (shp k = w) && decide (¬ tr k = -1)) n) ∧ co' = co) := by
  refine gMi_of (cc := b_T_truthsOf) (maxL := 4) (ret := some .int) (by decide) rfl (Nat.le_of_ble_eq_true rfl) ?_
  intro pp ee s mm below meth cd ls hC hW hS hl
  obtain ⟨hx, hb, hr, hts0, hown, hlocks, hml, hK, hN⟩ := hC
  have hts : ∀ w ∈ wA, w.before _ s = true := fun w h => hts0 w (List.mem_cons_of_mem _ h)
  have hA : ∀ q, s.heap.size ≤ q → gA ad co dl s.heap.size q := fun q h => Or.inr h
  have hl : lv_has ls 4 [(0, .ref (ad 1)), (1, .int w)] := hl
  have hown : s.vm.findClass R_T = some mm.cls := hown
  refine lv_iconst (v := nI 0) hx hb d_T_truthsOf_0 (by decide) ?_
  refine lv_istore_n (lv' := [(2, .int (nI 0)), (0, .ref (ad 1)), (1, .int w)]) hx hb d_T_truthsOf_1 rfl hl (by decide) rfl (fun ls hl => ?_)
  refine lv_iconst (v := nI 0) hx hb d_T_truthsOf_2 (by decide) ?_
  refine lv_istore_n (lv' := [(3, .int (nI 0)), (2, .int (nI 0)), (0, .ref (ad 1)), (1, .int w)]) hx hb d_T_truthsOf_3 rfl hl (by decide) rfl (fun ls hl => ?_)
  suffices hloop : ∀ (d k : Nat) (H : Heap) (locs : List Loc) (ls : Array Slot), (k ≤ n) → (n + 1 ≤ k + d) → gW D gCl (gA ad co dl s.heap.size) ad (co) dl H → va_S (gA ad co dl s.heap.size) s.heap H locs → lv_has ls 4 [(0, .ref (ad 1)), (1, .int w), (2, .int (nI (cntF (fun k => decide (shp k = w) && decide (¬ tr k = -1)) k))), (3, .int (nI k))] → W pp l ee _ s mm _ below meth cd H locs 0 0 _ (F0 mm 4 ls []) by
    exact hloop (n + 1) 0 _ _ ls (by omega) (by omega) hW hS (lv_sub hl [2, 3, 1, 0] rfl)
  clear hW hS hl
  intro d
  induction d with
  | zero => intro k H locs ls hk hd; omega
  | succ d ih =>
    intro k H locs ls hk hd hW hS hl
    refine lv_iload_n hx hb d_T_truthsOf_4 rfl (lv_at hl 3 rfl) ?_
    refine lv_aload_n hx hb d_T_truthsOf_5 rfl (lv_at hl 0 rfl) ?_
    refine g_get (C := R_T) (T := F_T) (N := 6) hx hb hts i_T hown hK hW (i := 1) (hdl (1) (by unfold kD; omega)) w1 rfl 5 (by decide) (hts _ q_42) (fun _ h9 => h9) rfl d_T_truthsOf_6 ?_
    refine n_icmp_ge (tgt := 30) hx hb (by omega) (by omega) d_T_truthsOf_9 (by decide) (fun h1 => ?_) (fun h1 => ?_)
    · have hkn : k = n := by omega
      refine lv_iload_n hx hb d_T_truthsOf_30 rfl (lv_at hl 2 rfl) ?_
      exact g_iret hx hb hr hlocks hW hS (⟨by rw [hkn], rfl⟩) d_T_truthsOf_31
    · refine lv_aload_n hx hb d_T_truthsOf_12 rfl (lv_at hl 0 rfl) ?_
      refine lv_iload_n hx hb d_T_truthsOf_13 rfl (lv_at hl 3 rfl) ?_
      refine lv_iload_n hx hb d_T_truthsOf_14 rfl (lv_at hl 1 rfl) ?_
      refine g_cVi (As := [.int (nI k), .int w]) (rest := []) ⟨hx, hb, hml, hown, hts⟩ (c_T_hasTruthOf l hdl w1 w5 w6 k w (by omega)) (gcwV 2 hts q_361 q_358 q_359 q_360 q_3 (by decide +kernel) ⟨(Nat.le_of_ble_eq_true rfl), (Nat.le_of_ble_eq_true rfl)⟩) gNl_ok hN hK hW hS hA (hdl (1) (by unfold kD; omega)) w1 rfl rfl hl.1 rfl (Nat.le_of_ble_eq_true rfl) d_T_truthsOf_15 ⟨Nat.zero_le _, Nat.zero_le _⟩ (fun r co9 H locs hp9 hW hS => ?_)
      obtain ⟨rfl, hco9⟩ := hp9
      rw [hco9] at hW
      refine n_ifz_eq (tgt := 24) hx hb d_T_truthsOf_18 (by decide) (fun h2 => ?_) (fun h2 => ?_)
      · refine n_iinc (lv' := [(3, .int (nI (k + 1))), (0, .ref (ad 1)), (1, .int w), (2, .int (nI (cntF (fun k => decide (shp k = w) && decide (¬ tr k = -1)) k)))]) hx hb d_T_truthsOf_24 hl (k := 3) rfl (by decide) rfl (fun ls hl => ?_)
        rw [show cntF (fun k => decide (shp k = w) && decide (¬ tr k = -1)) k = cntF (fun k => decide (shp k = w) && decide (¬ tr k = -1)) (k + 1) by rw [cntF, if_neg (by rw [h2]; decide)]; rfl] at hl
        refine lv_goto (tgt := 4) hx hb d_T_truthsOf_27 (by decide) ?_
        exact ih (k + 1) _ _ ls (by omega) (by omega) hW hS (lv_sub hl [1, 2, 3, 0] rfl)
      · refine n_iinc (lv' := [(2, .int (nI (cntF (fun k => decide (shp k = w) && decide (¬ tr k = -1)) k + 1))), (0, .ref (ad 1)), (1, .int w), (3, .int (nI k))]) hx hb d_T_truthsOf_21 hl (k := 2) rfl (by decide) rfl (fun ls hl => ?_)
        refine n_iinc (lv' := [(3, .int (nI (k + 1))), (2, .int (nI (cntF (fun k => decide (shp k = w) && decide (¬ tr k = -1)) k + 1))), (0, .ref (ad 1)), (1, .int w)]) hx hb d_T_truthsOf_24 hl (k := 3) rfl (by decide) rfl (fun ls hl => ?_)
        rw [show cntF (fun k => decide (shp k = w) && decide (¬ tr k = -1)) k + 1 = cntF (fun k => decide (shp k = w) && decide (¬ tr k = -1)) (k + 1) by rw [cntF, if_pos h2]] at hl
        refine lv_goto (tgt := 4) hx hb d_T_truthsOf_27 (by decide) ?_
        exact ih (k + 1) _ _ ls (by omega) (by omega) hW hS (lv_sub hl [2, 3, 1, 0] rfl)
set_option maxHeartbeats 4000000 in
set_option maxRecDepth 100000 in
/-- truthsMissed -/
theorem c_T_truthsMissed (l : Launch) {D : va_G} {cI cJ cG : ClassId} {ad : Nat → Nat} {co : Nat → va_E} {dl : List Nat} {a n : Nat}  (hdl : ∀ i, kD a i → i ∈ dl) (w1 : co 1 = oT ad n) {shp : Nat → Int32} {tr : Nat → Int32} {fl : Nat → Int32} (w5 : co 5 = .inl (cI, 200, .inl shp)) (w6 : co 6 = .inl (cI, 200, .inl tr)) (w17 : co 17 = .inl (cI, 200, .inl fl)) (w : Int32) (hn : n ≤ 200) : gMi l y_T_truthsMissed (Cond.code y_T_truthsMissed b_T_truthsMissed 5 (some .int) :: wA) ({ frames := 1, cells := 0, slots := 0, locals := 22 }) D gCl (gTy cI cJ cG) gNl [.ref (ad 1), .int w, .ref (ad 17)] ad co dl (fun r co' => r = nI (cntF (fun k => decide (shp k = w) && decide (¬ tr k = -1) && decide (¬ tr k = fl k)) n) ∧ co' = co) := by
  refine gMi_of (cc := b_T_truthsMissed) (maxL := 5) (ret := some .int) (by decide) rfl (Nat.le_of_ble_eq_true rfl) ?_
  intro pp ee s mm below meth cd ls hC hW hS hl
  obtain ⟨hx, hb, hr, hts0, hown, hlocks, hml, hK, hN⟩ := hC
  have hts : ∀ w ∈ wA, w.before _ s = true := fun w h => hts0 w (List.mem_cons_of_mem _ h)
  have hA : ∀ q, s.heap.size ≤ q → gA ad co dl s.heap.size q := fun q h => Or.inr h
  have hl : lv_has ls 5 [(0, .ref (ad 1)), (1, .int w), (2, .ref (ad 17))] := hl
  have hown : s.vm.findClass R_T = some mm.cls := hown
  refine lv_iconst (v := nI 0) hx hb d_T_truthsMissed_0 (by decide) ?_
  refine lv_istore_n (lv' := [(3, .int (nI 0)), (0, .ref (ad 1)), (1, .int w), (2, .ref (ad 17))]) hx hb d_T_truthsMissed_1 rfl hl (by decide) rfl (fun ls hl => ?_)
  refine lv_iconst (v := nI 0) hx hb d_T_truthsMissed_2 (by decide) ?_
  refine lv_istore (lv' := [(4, .int (nI 0)), (3, .int (nI 0)), (0, .ref (ad 1)), (1, .int w), (2, .ref (ad 17))]) hx hb d_T_truthsMissed_3 hl (by decide) rfl (fun ls hl => ?_)
  suffices hloop : ∀ (d k : Nat) (H : Heap) (locs : List Loc) (ls : Array Slot), (k ≤ n) → (n + 1 ≤ k + d) → gW D gCl (gA ad co dl s.heap.size) ad (co) dl H → va_S (gA ad co dl s.heap.size) s.heap H locs → lv_has ls 5 [(0, .ref (ad 1)), (1, .int w), (2, .ref (ad 17)), (3, .int (nI (cntF (fun k => decide (shp k = w) && decide (¬ tr k = -1) && decide (¬ tr k = fl k)) k))), (4, .int (nI k))] → W pp l ee _ s mm _ below meth cd H locs 0 0 _ (F0 mm 5 ls []) by
    exact hloop (n + 1) 0 _ _ ls (by omega) (by omega) hW hS (lv_sub hl [2, 3, 4, 1, 0] rfl)
  clear hW hS hl
  intro d
  induction d with
  | zero => intro k H locs ls hk hd; omega
  | succ d ih =>
    intro k H locs ls hk hd hW hS hl
    refine lv_iload hx hb d_T_truthsMissed_5 (lv_at hl 4 rfl) ?_
    refine lv_aload_n hx hb d_T_truthsMissed_7 rfl (lv_at hl 0 rfl) ?_
    refine g_get (C := R_T) (T := F_T) (N := 6) hx hb hts i_T hown hK hW (i := 1) (hdl (1) (by unfold kD; omega)) w1 rfl 5 (by decide) (hts _ q_42) (fun _ h9 => h9) rfl d_T_truthsMissed_8 ?_
    refine n_icmp_ge (tgt := 47) hx hb (by omega) (by omega) d_T_truthsMissed_11 (by decide) (fun h1 => ?_) (fun h1 => ?_)
    · have hkn : k = n := by omega
      refine lv_iload_n hx hb d_T_truthsMissed_47 rfl (lv_at hl 3 rfl) ?_
      exact g_iret hx hb hr hlocks hW hS (⟨by rw [hkn], rfl⟩) d_T_truthsMissed_48
    · refine lv_aload_n hx hb d_T_truthsMissed_14 rfl (lv_at hl 0 rfl) ?_
      refine lv_iload hx hb d_T_truthsMissed_15 (lv_at hl 4 rfl) ?_
      refine lv_iload_n hx hb d_T_truthsMissed_17 rfl (lv_at hl 1 rfl) ?_
      refine g_cVi (As := [.int (nI k), .int w]) (rest := []) ⟨hx, hb, hml, hown, hts⟩ (c_T_hasTruthOf l hdl w1 w5 w6 k w (by omega)) (gcwV 2 hts q_361 q_358 q_359 q_360 q_3 (by decide +kernel) ⟨(Nat.le_of_ble_eq_true rfl), (Nat.le_of_ble_eq_true rfl)⟩) gNl_ok hN hK hW hS hA (hdl (1) (by unfold kD; omega)) w1 rfl rfl hl.1 rfl (Nat.le_of_ble_eq_true rfl) d_T_truthsMissed_18 ⟨Nat.zero_le _, Nat.zero_le _⟩ (fun r co9 H locs hp9 hW hS => ?_)
      obtain ⟨rfl, hco9⟩ := hp9
      rw [hco9] at hW
      refine n_ifz_eq (tgt := 41) hx hb d_T_truthsMissed_21 (by decide) (fun h2 => ?_) (fun h2 => ?_)
      · refine n_iinc (lv' := [(4, .int (nI (k + 1))), (0, .ref (ad 1)), (1, .int w), (2, .ref (ad 17)), (3, .int (nI (cntF (fun k => decide (shp k = w) && decide (¬ tr k = -1) && decide (¬ tr k = fl k)) k)))]) hx hb d_T_truthsMissed_41 hl (k := 4) rfl (by decide) rfl (fun ls hl => ?_)
        rw [show cntF (fun k => decide (shp k = w) && decide (¬ tr k = -1) && decide (¬ tr k = fl k)) k = cntF (fun k => decide (shp k = w) && decide (¬ tr k = -1) && decide (¬ tr k = fl k)) (k + 1) by rw [cntF, if_neg (by rw [h2]; simp)]; rfl] at hl
        refine lv_goto (tgt := 5) hx hb d_T_truthsMissed_44 (by decide) ?_
        exact ih (k + 1) _ _ ls (by omega) (by omega) hW hS (lv_sub hl [1, 2, 3, 4, 0] rfl)
      · refine lv_aload_n hx hb d_T_truthsMissed_24 rfl (lv_at hl 0 rfl) ?_
        refine g_get (C := R_T) (T := F_T) (N := 6) hx hb hts i_T hown hK hW (i := 1) (hdl (1) (by unfold kD; omega)) w1 rfl 4 (by decide) (hts _ q_39) (fun _ h9 => h9) rfl d_T_truthsMissed_25 ?_
        refine lv_iload hx hb d_T_truthsMissed_28 (lv_at hl 4 rfl) ?_
        refine n_iald hx hb hK hW 0 (q := 6) (hdl (6) (by unfold kD; omega)) w6 rfl (j := k) (by omega) (by omega) d_T_truthsMissed_30 ?_
        refine lv_aload_n hx hb d_T_truthsMissed_31 rfl (lv_at hl 2 rfl) ?_
        refine lv_iload hx hb d_T_truthsMissed_32 (lv_at hl 4 rfl) ?_
        refine n_iald hx hb hK hW 0 (q := 17) (hdl (17) (by unfold kD; omega)) w17 rfl (j := k) (by omega) (by omega) d_T_truthsMissed_34 ?_
        refine lv_icmp_eq (tgt := 41) hx hb d_T_truthsMissed_35 (by decide) (fun h3 => ?_) (fun h3 => ?_)
        · refine n_iinc (lv' := [(4, .int (nI (k + 1))), (0, .ref (ad 1)), (1, .int w), (2, .ref (ad 17)), (3, .int (nI (cntF (fun k => decide (shp k = w) && decide (¬ tr k = -1) && decide (¬ tr k = fl k)) k)))]) hx hb d_T_truthsMissed_41 hl (k := 4) rfl (by decide) rfl (fun ls hl => ?_)
          rw [show cntF (fun k => decide (shp k = w) && decide (¬ tr k = -1) && decide (¬ tr k = fl k)) k = cntF (fun k => decide (shp k = w) && decide (¬ tr k = -1) && decide (¬ tr k = fl k)) (k + 1) by rw [cntF, if_neg (by simp [h3])]; rfl] at hl
          refine lv_goto (tgt := 5) hx hb d_T_truthsMissed_44 (by decide) ?_
          exact ih (k + 1) _ _ ls (by omega) (by omega) hW hS (lv_sub hl [1, 2, 3, 4, 0] rfl)
        · refine n_iinc (lv' := [(3, .int (nI (cntF (fun k => decide (shp k = w) && decide (¬ tr k = -1) && decide (¬ tr k = fl k)) k + 1))), (0, .ref (ad 1)), (1, .int w), (2, .ref (ad 17)), (4, .int (nI k))]) hx hb d_T_truthsMissed_38 hl (k := 3) rfl (by decide) rfl (fun ls hl => ?_)
          refine n_iinc (lv' := [(4, .int (nI (k + 1))), (3, .int (nI (cntF (fun k => decide (shp k = w) && decide (¬ tr k = -1) && decide (¬ tr k = fl k)) k + 1))), (0, .ref (ad 1)), (1, .int w), (2, .ref (ad 17))]) hx hb d_T_truthsMissed_41 hl (k := 4) rfl (by decide) rfl (fun ls hl => ?_)
          rw [show cntF (fun k => decide (shp k = w) && decide (¬ tr k = -1) && decide (¬ tr k = fl k)) k + 1 = cntF (fun k => decide (shp k = w) && decide (¬ tr k = -1) && decide (¬ tr k = fl k)) (k + 1) by rw [cntF, if_pos (by rw [h2]; simp [h3])]] at hl
          refine lv_goto (tgt := 5) hx hb d_T_truthsMissed_44 (by decide) ?_
          exact ih (k + 1) _ _ ls (by omega) (by omega) hW hS (lv_sub hl [2, 3, 4, 1, 0] rfl)
set_option maxHeartbeats 4000000 in
set_option maxRecDepth 100000 in
/-- add -/
theorem c_P_add (l : Launch) {D : va_G} {cI cJ cG : ClassId} {ad : Nat → Nat} {co : Nat → va_E} {dl : List Nat} {a pg : Nat}  (hdl : ∀ i, kD a i → i ∈ dl) (w25 : co 25 = oP ad pg) {pf : Nat → Int64} {pt : Nat → Int64} {pa : Nat → Int32} (w26 : co 26 = .inl (cJ, 50, .inr (.inl pf))) (w27 : co 27 = .inl (cJ, 50, .inr (.inl pt))) (w28 : co 28 = .inl (cI, 50, .inl pa)) (x y : Int64) (z : Int32) (hp : pg < 50) : gMv l y_P_add (Cond.code y_P_add b_P_add 6 none :: wA) ({ frames := 0, cells := 0, slots := 0, locals := 0 }) D gCl (gTy cI cJ cG) gNl [.ref (ad 25), .long x, .long y, .int z] ad co dl (fun co' => co' = va_up (va_up (va_up (va_up co 26 (.inl (cJ, 50, .inr (.inl (vp_updL pf pg x))))) 27 (.inl (cJ, 50, .inr (.inl (vp_updL pt pg y))))) 28 (.inl (cI, 50, .inl (upd pa pg z)))) 25 (oP ad (pg + 1))) := by
  refine gMv_of (cc := b_P_add) (maxL := 6) (ret := none) (by decide) rfl (Nat.le_of_ble_eq_true rfl) ?_
  intro pp ee s mm below meth cd ls hC hW hS hl
  obtain ⟨hx, hb, hr, hts0, hown, hlocks, hml, hK, hN⟩ := hC
  have hts : ∀ w ∈ wA, w.before _ s = true := fun w h => hts0 w (List.mem_cons_of_mem _ h)
  have hA : ∀ q, s.heap.size ≤ q → gA ad co dl s.heap.size q := fun q h => Or.inr h
  have hl : lv_has ls 6 [(0, .ref (ad 25)), (1, .long x), (3, .long y), (5, .int z)] := hl
  have hown : s.vm.findClass R_P = some mm.cls := hown
  refine lv_aload_n hx hb d_P_add_0 rfl (lv_at hl 0 rfl) ?_
  refine g_get (C := R_P) (T := F_P) (N := 4) hx hb hts i_P hown hK hW (i := 25) (hdl (25) (by unfold kD; omega)) w25 rfl 0 (by decide) (hts _ q_143) (fun _ h9 => h9) rfl d_P_add_1 ?_
  refine lv_aload_n hx hb d_P_add_4 rfl (lv_at hl 0 rfl) ?_
  refine g_get (C := R_P) (T := F_P) (N := 4) hx hb hts i_P hown hK hW (i := 25) (hdl (25) (by unfold kD; omega)) w25 rfl 3 (by decide) (hts _ q_146) (fun _ h9 => h9) rfl d_P_add_5 ?_
  refine lv_lload_n hx hb d_P_add_8 rfl (lv_at hl 1 rfl) ?_
  refine n_last (x := x) hx hb hK hW hS 1 (q := 26) (hdl (26) (by unfold kD; omega)) w26 rfl (j := pg) (by omega) (by omega) d_P_add_9 (fun H locs hW hS => ?_)
  refine lv_aload_n hx hb d_P_add_10 rfl (lv_at hl 0 rfl) ?_
  refine g_get (C := R_P) (T := F_P) (N := 4) hx hb hts i_P hown hK hW (i := 25) (hdl (25) (by unfold kD; omega)) ((va_up_ne _ _ (by decide)).trans w25) rfl 1 (by decide) (hts _ q_144) (fun _ h9 => h9) rfl d_P_add_11 ?_
  refine lv_aload_n hx hb d_P_add_14 rfl (lv_at hl 0 rfl) ?_
  refine g_get (C := R_P) (T := F_P) (N := 4) hx hb hts i_P hown hK hW (i := 25) (hdl (25) (by unfold kD; omega)) ((va_up_ne _ _ (by decide)).trans w25) rfl 3 (by decide) (hts _ q_146) (fun _ h9 => h9) rfl d_P_add_15 ?_
  refine lv_lload_n hx hb d_P_add_18 rfl (lv_at hl 2 rfl) ?_
  refine n_last (x := y) hx hb hK hW hS 1 (q := 27) (hdl (27) (by unfold kD; omega)) ((va_up_ne _ _ (by decide)).trans w27) rfl (j := pg) (by omega) (by omega) d_P_add_19 (fun H locs hW hS => ?_)
  refine lv_aload_n hx hb d_P_add_20 rfl (lv_at hl 0 rfl) ?_
  refine g_get (C := R_P) (T := F_P) (N := 4) hx hb hts i_P hown hK hW (i := 25) (hdl (25) (by unfold kD; omega)) ((va_up_ne _ _ (by decide)).trans ((va_up_ne _ _ (by decide)).trans w25)) rfl 2 (by decide) (hts _ q_145) (fun _ h9 => h9) rfl d_P_add_21 ?_
  refine lv_aload_n hx hb d_P_add_24 rfl (lv_at hl 0 rfl) ?_
  refine g_get (C := R_P) (T := F_P) (N := 4) hx hb hts i_P hown hK hW (i := 25) (hdl (25) (by unfold kD; omega)) ((va_up_ne _ _ (by decide)).trans ((va_up_ne _ _ (by decide)).trans w25)) rfl 3 (by decide) (hts _ q_146) (fun _ h9 => h9) rfl d_P_add_25 ?_
  refine lv_iload hx hb d_P_add_28 (lv_at hl 3 rfl) ?_
  refine n_iast (x := z) hx hb hK hW hS 0 (q := 28) (hdl (28) (by unfold kD; omega)) ((va_up_ne _ _ (by decide)).trans ((va_up_ne _ _ (by decide)).trans w28)) rfl (j := pg) (by omega) (by omega) d_P_add_30 (fun H locs hW hS => ?_)
  refine lv_aload_n hx hb d_P_add_31 rfl (lv_at hl 0 rfl) ?_
  refine lv_dup hx hb d_P_add_32 rfl ?_
  refine g_get (C := R_P) (T := F_P) (N := 4) hx hb hts i_P hown hK hW (i := 25) (hdl (25) (by unfold kD; omega)) ((va_up_ne _ _ (by decide)).trans ((va_up_ne _ _ (by decide)).trans ((va_up_ne _ _ (by decide)).trans w25))) rfl 3 (by decide) (hts _ q_146) (fun _ h9 => h9) rfl d_P_add_33 ?_
  refine lv_iconst (v := nI 1) hx hb d_P_add_36 (by decide) ?_
  refine n_add hx hb d_P_add_37 ?_
  refine g_put (ty := .int) (v := .int (nI (pg + 1))) (C := R_P) (T := F_P) (N := 4) hx hb hts i_P fy_P fy_P_ok fn_P hown hK hW hS (i := 25) (hdl (25) (by unfold kD; omega)) ((va_up_ne _ _ (by decide)).trans ((va_up_ne _ _ (by decide)).trans ((va_up_ne _ _ (by decide)).trans w25))) rfl 3 (by decide) (hts _ q_146) (fun _ h9 => h9) rfl (by decide +kernel) rfl rfl (Nat.le_of_ble_eq_true rfl) d_P_add_38 (fun H locs hW hS => ?_)
  exact g_vret hx hb hr hlocks hW hS (rfl) d_P_add_41
set_option maxHeartbeats 4000000 in
set_option maxRecDepth 100000 in
/-- add -/
theorem c_C_add (l : Launch) {D : va_G} {cI cJ cG : ClassId} {ad : Nat → Nat} {co : Nat → va_E} {dl : List Nat} {a ce : Nat}  (hdl : ∀ i, kD a i → i ∈ dl) (w29 : co 29 = oC ad ce) {cr : Nat → Int32} {cx : Nat → Int32} {cy : Nat → Int32} {ct : Nat → Int64} (w30 : co 30 = .inl (cI, 300, .inl cr)) (w31 : co 31 = .inl (cI, 300, .inl cx)) (w32 : co 32 = .inl (cI, 300, .inl cy)) (w33 : co 33 = .inl (cJ, 300, .inr (.inl ct))) (k x y : Int32) (z : Int64) (hc : ce < 300) : gMv l y_C_add (Cond.code y_C_add b_C_add 6 none :: wA) ({ frames := 0, cells := 0, slots := 0, locals := 0 }) D gCl (gTy cI cJ cG) gNl [.ref (ad 29), .int k, .int x, .int y, .long z] ad co dl (fun co' => co' = va_up (va_up (va_up (va_up (va_up co 30 (.inl (cI, 300, .inl (upd cr ce k)))) 31 (.inl (cI, 300, .inl (upd cx ce x)))) 32 (.inl (cI, 300, .inl (upd cy ce y)))) 33 (.inl (cJ, 300, .inr (.inl (vp_updL ct ce z))))) 29 (oC ad (ce + 1))) := by
  refine gMv_of (cc := b_C_add) (maxL := 6) (ret := none) (by decide) rfl (Nat.le_of_ble_eq_true rfl) ?_
  intro pp ee s mm below meth cd ls hC hW hS hl
  obtain ⟨hx, hb, hr, hts0, hown, hlocks, hml, hK, hN⟩ := hC
  have hts : ∀ w ∈ wA, w.before _ s = true := fun w h => hts0 w (List.mem_cons_of_mem _ h)
  have hA : ∀ q, s.heap.size ≤ q → gA ad co dl s.heap.size q := fun q h => Or.inr h
  have hl : lv_has ls 6 [(0, .ref (ad 29)), (1, .int k), (2, .int x), (3, .int y), (4, .long z)] := hl
  have hown : s.vm.findClass R_C = some mm.cls := hown
  refine lv_aload_n hx hb d_C_add_0 rfl (lv_at hl 0 rfl) ?_
  refine g_get (C := R_C) (T := F_C) (N := 5) hx hb hts i_C hown hK hW (i := 29) (hdl (29) (by unfold kD; omega)) w29 rfl 0 (by decide) (hts _ q_163) (fun _ h9 => h9) rfl d_C_add_1 ?_
  refine lv_aload_n hx hb d_C_add_4 rfl (lv_at hl 0 rfl) ?_
  refine g_get (C := R_C) (T := F_C) (N := 5) hx hb hts i_C hown hK hW (i := 29) (hdl (29) (by unfold kD; omega)) w29 rfl 4 (by decide) (hts _ q_167) (fun _ h9 => h9) rfl d_C_add_5 ?_
  refine lv_iload_n hx hb d_C_add_8 rfl (lv_at hl 1 rfl) ?_
  refine n_iast (x := k) hx hb hK hW hS 0 (q := 30) (hdl (30) (by unfold kD; omega)) w30 rfl (j := ce) (by omega) (by omega) d_C_add_9 (fun H locs hW hS => ?_)
  refine lv_aload_n hx hb d_C_add_10 rfl (lv_at hl 0 rfl) ?_
  refine g_get (C := R_C) (T := F_C) (N := 5) hx hb hts i_C hown hK hW (i := 29) (hdl (29) (by unfold kD; omega)) ((va_up_ne _ _ (by decide)).trans w29) rfl 1 (by decide) (hts _ q_164) (fun _ h9 => h9) rfl d_C_add_11 ?_
  refine lv_aload_n hx hb d_C_add_14 rfl (lv_at hl 0 rfl) ?_
  refine g_get (C := R_C) (T := F_C) (N := 5) hx hb hts i_C hown hK hW (i := 29) (hdl (29) (by unfold kD; omega)) ((va_up_ne _ _ (by decide)).trans w29) rfl 4 (by decide) (hts _ q_167) (fun _ h9 => h9) rfl d_C_add_15 ?_
  refine lv_iload_n hx hb d_C_add_18 rfl (lv_at hl 2 rfl) ?_
  refine n_iast (x := x) hx hb hK hW hS 0 (q := 31) (hdl (31) (by unfold kD; omega)) ((va_up_ne _ _ (by decide)).trans w31) rfl (j := ce) (by omega) (by omega) d_C_add_19 (fun H locs hW hS => ?_)
  refine lv_aload_n hx hb d_C_add_20 rfl (lv_at hl 0 rfl) ?_
  refine g_get (C := R_C) (T := F_C) (N := 5) hx hb hts i_C hown hK hW (i := 29) (hdl (29) (by unfold kD; omega)) ((va_up_ne _ _ (by decide)).trans ((va_up_ne _ _ (by decide)).trans w29)) rfl 2 (by decide) (hts _ q_165) (fun _ h9 => h9) rfl d_C_add_21 ?_
  refine lv_aload_n hx hb d_C_add_24 rfl (lv_at hl 0 rfl) ?_
  refine g_get (C := R_C) (T := F_C) (N := 5) hx hb hts i_C hown hK hW (i := 29) (hdl (29) (by unfold kD; omega)) ((va_up_ne _ _ (by decide)).trans ((va_up_ne _ _ (by decide)).trans w29)) rfl 4 (by decide) (hts _ q_167) (fun _ h9 => h9) rfl d_C_add_25 ?_
  refine lv_iload_n hx hb d_C_add_28 rfl (lv_at hl 3 rfl) ?_
  refine n_iast (x := y) hx hb hK hW hS 0 (q := 32) (hdl (32) (by unfold kD; omega)) ((va_up_ne _ _ (by decide)).trans ((va_up_ne _ _ (by decide)).trans w32)) rfl (j := ce) (by omega) (by omega) d_C_add_29 (fun H locs hW hS => ?_)
  refine lv_aload_n hx hb d_C_add_30 rfl (lv_at hl 0 rfl) ?_
  refine g_get (C := R_C) (T := F_C) (N := 5) hx hb hts i_C hown hK hW (i := 29) (hdl (29) (by unfold kD; omega)) ((va_up_ne _ _ (by decide)).trans ((va_up_ne _ _ (by decide)).trans ((va_up_ne _ _ (by decide)).trans w29))) rfl 3 (by decide) (hts _ q_166) (fun _ h9 => h9) rfl d_C_add_31 ?_
  refine lv_aload_n hx hb d_C_add_34 rfl (lv_at hl 0 rfl) ?_
  refine g_get (C := R_C) (T := F_C) (N := 5) hx hb hts i_C hown hK hW (i := 29) (hdl (29) (by unfold kD; omega)) ((va_up_ne _ _ (by decide)).trans ((va_up_ne _ _ (by decide)).trans ((va_up_ne _ _ (by decide)).trans w29))) rfl 4 (by decide) (hts _ q_167) (fun _ h9 => h9) rfl d_C_add_35 ?_
  refine lv_lload hx hb d_C_add_38 (lv_at hl 4 rfl) ?_
  refine n_last (x := z) hx hb hK hW hS 1 (q := 33) (hdl (33) (by unfold kD; omega)) ((va_up_ne _ _ (by decide)).trans ((va_up_ne _ _ (by decide)).trans ((va_up_ne _ _ (by decide)).trans w33))) rfl (j := ce) (by omega) (by omega) d_C_add_40 (fun H locs hW hS => ?_)
  refine lv_aload_n hx hb d_C_add_41 rfl (lv_at hl 0 rfl) ?_
  refine lv_dup hx hb d_C_add_42 rfl ?_
  refine g_get (C := R_C) (T := F_C) (N := 5) hx hb hts i_C hown hK hW (i := 29) (hdl (29) (by unfold kD; omega)) ((va_up_ne _ _ (by decide)).trans ((va_up_ne _ _ (by decide)).trans ((va_up_ne _ _ (by decide)).trans ((va_up_ne _ _ (by decide)).trans w29)))) rfl 4 (by decide) (hts _ q_167) (fun _ h9 => h9) rfl d_C_add_43 ?_
  refine lv_iconst (v := nI 1) hx hb d_C_add_46 (by decide) ?_
  refine n_add hx hb d_C_add_47 ?_
  refine g_put (ty := .int) (v := .int (nI (ce + 1))) (C := R_C) (T := F_C) (N := 5) hx hb hts i_C fy_C fy_C_ok fn_C hown hK hW hS (i := 29) (hdl (29) (by unfold kD; omega)) ((va_up_ne _ _ (by decide)).trans ((va_up_ne _ _ (by decide)).trans ((va_up_ne _ _ (by decide)).trans ((va_up_ne _ _ (by decide)).trans w29)))) rfl 4 (by decide) (hts _ q_167) (fun _ h9 => h9) rfl (by decide +kernel) rfl rfl (Nat.le_of_ble_eq_true rfl) d_C_add_48 (fun H locs hW hS => ?_)
  exact g_vret hx hb hr hlocks hW hS (rfl) d_C_add_51
set_option maxHeartbeats 4000000 in
set_option maxRecDepth 100000 in
/-- haulingSeconds -/
theorem c_C_haulingSeconds (l : Launch) {D : va_G} {cI cJ cG : ClassId} {ad : Nat → Nat} {co : Nat → va_E} {dl : List Nat} {a ce kn kc : Nat}  (hdl : ∀ i, kD a i → i ∈ dl) (w29 : co 29 = oC ad ce) (w22 : co 22 = oN ad kn kc) {cr : Nat → Int32} {cx : Nat → Int32} {cy : Nat → Int32} {ct : Nat → Int64} {ln : Nat → Int32} (w30 : co 30 = .inl (cI, 300, .inl cr)) (w31 : co 31 = .inl (cI, 300, .inl cx)) (w32 : co 32 = .inl (cI, 300, .inl cy)) (w33 : co 33 = .inl (cJ, 300, .inr (.inl ct))) (w23 : co 23 = .inl (cI, 200, .inl ln)) (x y : Int32) (hn : kn ≤ 200) (hc : ce ≤ 300) (hcr : ∀ i, i < ce → ∃ r, cr i = nI r ∧ r < 200) : gMl l y_C_haulingSeconds (Cond.code y_C_haulingSeconds b_C_haulingSeconds 7 (some .long) :: wA) ({ frames := 3, cells := 0, slots := 0, locals := 63 }) D gCl (gTy cI cJ cG) gNl [.ref (ad 29), .int x, .int y, .ref (ad 22)] ad co dl (fun r co' => r = sMap kn ln cr cx cy ct x y ce ∧ co' = co) := by
  refine gMl_of (cc := b_C_haulingSeconds) (maxL := 7) (ret := some .long) (by decide) rfl (Nat.le_of_ble_eq_true rfl) ?_
  intro pp ee s mm below meth cd ls hC hW hS hl
  obtain ⟨hx, hb, hr, hts0, hown, hlocks, hml, hK, hN⟩ := hC
  have hts : ∀ w ∈ wA, w.before _ s = true := fun w h => hts0 w (List.mem_cons_of_mem _ h)
  have hA : ∀ q, s.heap.size ≤ q → gA ad co dl s.heap.size q := fun q h => Or.inr h
  have hl : lv_has ls 7 [(0, .ref (ad 29)), (1, .int x), (2, .int y), (3, .ref (ad 22))] := hl
  have hown : s.vm.findClass R_C = some mm.cls := hown
  refine lv_lconst (v := 0) hx hb d_C_haulingSeconds_0 (by decide) ?_
  refine lv_lstore (lv' := [(4, .long 0), (0, .ref (ad 29)), (1, .int x), (2, .int y), (3, .ref (ad 22))]) hx hb d_C_haulingSeconds_1 hl (by decide) rfl (fun ls hl => ?_)
  refine lv_iconst (v := nI 0) hx hb d_C_haulingSeconds_3 (by decide) ?_
  refine lv_istore (lv' := [(6, .int (nI 0)), (4, .long 0), (0, .ref (ad 29)), (1, .int x), (2, .int y), (3, .ref (ad 22))]) hx hb d_C_haulingSeconds_4 hl (by decide) rfl (fun ls hl => ?_)
  suffices hloop : ∀ (d k : Nat) (H : Heap) (locs : List Loc) (ls : Array Slot), (k ≤ ce) → (ce + 1 ≤ k + d) → gW D gCl (gA ad co dl s.heap.size) ad (co) dl H → va_S (gA ad co dl s.heap.size) s.heap H locs → lv_has ls 7 [(0, .ref (ad 29)), (1, .int x), (2, .int y), (3, .ref (ad 22)), (4, .long (sMap kn ln cr cx cy ct x y k)), (6, .int (nI k))] → W pp l ee _ s mm _ below meth cd H locs 0 0 _ (F0 mm 6 ls []) by
    exact hloop (ce + 1) 0 _ _ ls (by omega) (by omega) hW hS (lv_sub hl [2, 3, 4, 5, 1, 0] rfl)
  clear hW hS hl
  intro d
  induction d with
  | zero => intro k H locs ls hk hd; omega
  | succ d ih =>
    intro k H locs ls hk hd hW hS hl
    refine lv_iload hx hb d_C_haulingSeconds_6 (lv_at hl 5 rfl) ?_
    refine lv_aload_n hx hb d_C_haulingSeconds_8 rfl (lv_at hl 0 rfl) ?_
    refine g_get (C := R_C) (T := F_C) (N := 5) hx hb hts i_C hown hK hW (i := 29) (hdl (29) (by unfold kD; omega)) w29 rfl 4 (by decide) (hts _ q_167) (fun _ h9 => h9) rfl d_C_haulingSeconds_9 ?_
    refine n_icmp_ge (tgt := 69) hx hb (by omega) (by omega) d_C_haulingSeconds_12 (by decide) (fun h1 => ?_) (fun h1 => ?_)
    · have hkc : k = ce := by omega
      subst hkc
      refine lv_lload hx hb d_C_haulingSeconds_69 (lv_at hl 4 rfl) ?_
      exact g_lret hx hb hr hlocks hW hS (⟨rfl, rfl⟩) d_C_haulingSeconds_71
    · refine lv_aload_n hx hb d_C_haulingSeconds_15 rfl (lv_at hl 0 rfl) ?_
      refine g_get (C := R_C) (T := F_C) (N := 5) hx hb hts i_C hown hK hW (i := 29) (hdl (29) (by unfold kD; omega)) w29 rfl 1 (by decide) (hts _ q_164) (fun _ h9 => h9) rfl d_C_haulingSeconds_16 ?_
      refine lv_iload hx hb d_C_haulingSeconds_19 (lv_at hl 5 rfl) ?_
      refine n_iald hx hb hK hW 0 (q := 31) (hdl (31) (by unfold kD; omega)) w31 rfl (j := k) (by omega) (by omega) d_C_haulingSeconds_21 ?_
      refine lv_iload_n hx hb d_C_haulingSeconds_22 rfl (lv_at hl 1 rfl) ?_
      refine lv_icmp_ne (tgt := 63) hx hb d_C_haulingSeconds_23 (by decide) (fun h2 => ?_) (fun h2 => ?_)
      · refine n_iinc (lv' := [(6, .int (nI (k + 1))), (0, .ref (ad 29)), (1, .int x), (2, .int y), (3, .ref (ad 22)), (4, .long (sMap kn ln cr cx cy ct x y k))]) hx hb d_C_haulingSeconds_63 hl (k := 5) rfl (by decide) rfl (fun ls hl => ?_)
        rw [show sMap kn ln cr cx cy ct x y k = sMap kn ln cr cx cy ct x y (k + 1) by rw [sMap, if_neg (fun z => h2 z.1), Int64.add_zero]] at hl
        refine lv_goto (tgt := 6) hx hb d_C_haulingSeconds_66 (by decide) ?_
        exact ih (k + 1) _ _ ls (by omega) (by omega) hW hS (lv_sub hl [1, 2, 3, 4, 5, 0] rfl)
      · refine lv_aload_n hx hb d_C_haulingSeconds_26 rfl (lv_at hl 0 rfl) ?_
        refine g_get (C := R_C) (T := F_C) (N := 5) hx hb hts i_C hown hK hW (i := 29) (hdl (29) (by unfold kD; omega)) w29 rfl 2 (by decide) (hts _ q_165) (fun _ h9 => h9) rfl d_C_haulingSeconds_27 ?_
        refine lv_iload hx hb d_C_haulingSeconds_30 (lv_at hl 5 rfl) ?_
        refine n_iald hx hb hK hW 0 (q := 32) (hdl (32) (by unfold kD; omega)) w32 rfl (j := k) (by omega) (by omega) d_C_haulingSeconds_32 ?_
        refine lv_iload_n hx hb d_C_haulingSeconds_33 rfl (lv_at hl 2 rfl) ?_
        refine lv_icmp_ne (tgt := 63) hx hb d_C_haulingSeconds_34 (by decide) (fun h3 => ?_) (fun h3 => ?_)
        · refine n_iinc (lv' := [(6, .int (nI (k + 1))), (0, .ref (ad 29)), (1, .int x), (2, .int y), (3, .ref (ad 22)), (4, .long (sMap kn ln cr cx cy ct x y k))]) hx hb d_C_haulingSeconds_63 hl (k := 5) rfl (by decide) rfl (fun ls hl => ?_)
          rw [show sMap kn ln cr cx cy ct x y k = sMap kn ln cr cx cy ct x y (k + 1) by rw [sMap, if_neg (fun z => h3 z.2.1), Int64.add_zero]] at hl
          refine lv_goto (tgt := 6) hx hb d_C_haulingSeconds_66 (by decide) ?_
          exact ih (k + 1) _ _ ls (by omega) (by omega) hW hS (lv_sub hl [1, 2, 3, 4, 5, 0] rfl)
        · obtain ⟨r, hr1, hr2⟩ := hcr k h1
          refine lv_aload_n hx hb d_C_haulingSeconds_37 rfl (lv_at hl 3 rfl) ?_
          refine lv_aload_n hx hb d_C_haulingSeconds_38 rfl (lv_at hl 0 rfl) ?_
          refine g_get (C := R_C) (T := F_C) (N := 5) hx hb hts i_C hown hK hW (i := 29) (hdl (29) (by unfold kD; omega)) w29 rfl 0 (by decide) (hts _ q_163) (fun _ h9 => h9) rfl d_C_haulingSeconds_39 ?_
          refine lv_iload hx hb d_C_haulingSeconds_42 (lv_at hl 5 rfl) ?_
          refine n_iald hx hb hK hW 0 (q := 30) (hdl (30) (by unfold kD; omega)) w30 rfl (j := k) (by omega) (by omega) d_C_haulingSeconds_44 ?_
          refine n_topi (show cr k = nI r from hr1) ?_
          refine g_cVi (As := [.int (nI r)]) (rest := []) ⟨hx, hb, hml, hown, hts⟩ (c_N_isHauling l hdl w22 w23 (nI r) hn) (gcwV 1 hts q_390 q_442 q_388 q_389 q_6 (by decide +kernel) ⟨(Nat.le_of_ble_eq_true rfl), (Nat.le_of_ble_eq_true rfl)⟩) gNl_ok hN hK hW hS hA (hdl (22) (by unfold kD; omega)) w22 rfl rfl hl.1 rfl (Nat.le_of_ble_eq_true rfl) d_C_haulingSeconds_45 ⟨Nat.zero_le _, Nat.zero_le _⟩ (fun r co9 H locs hp9 hW hS => ?_)
          obtain ⟨rfl, hco9⟩ := hp9
          rw [hco9] at hW
          refine n_ifz_eq (tgt := 63) hx hb d_C_haulingSeconds_48 (by decide) (fun h4 => ?_) (fun h4 => ?_)
          · rw [inB_nI (show r < 2 ^ 31 by omega), nI_clamp (show r < 2 ^ 31 by omega)] at h4
            refine n_iinc (lv' := [(6, .int (nI (k + 1))), (0, .ref (ad 29)), (1, .int x), (2, .int y), (3, .ref (ad 22)), (4, .long (sMap kn ln cr cx cy ct x y k))]) hx hb d_C_haulingSeconds_63 hl (k := 5) rfl (by decide) rfl (fun ls hl => ?_)
            rw [show sMap kn ln cr cx cy ct x y k = sMap kn ln cr cx cy ct x y (k + 1) by rw [sMap, if_neg (fun z => by
              obtain ⟨-, -, z3, z4⟩ := z
              rw [hr1] at z3 z4
              rw [nI_clamp (show r < 2 ^ 31 by omega)] at z4
              have z5 := (nI_ltI (by omega) (by omega)).mp z3
              simp [z4, z5] at h4), Int64.add_zero]] at hl
            refine lv_goto (tgt := 6) hx hb d_C_haulingSeconds_66 (by decide) ?_
            exact ih (k + 1) _ _ ls (by omega) (by omega) hW hS (lv_sub hl [1, 2, 3, 4, 5, 0] rfl)
          · rw [inB_nI (show r < 2 ^ 31 by omega), nI_clamp (show r < 2 ^ 31 by omega)] at h4
            simp only [Bool.and_eq_true, decide_eq_true_eq] at h4
            refine lv_lload hx hb d_C_haulingSeconds_51 (lv_at hl 4 rfl) ?_
            refine lv_aload_n hx hb d_C_haulingSeconds_53 rfl (lv_at hl 0 rfl) ?_
            refine g_get (C := R_C) (T := F_C) (N := 5) hx hb hts i_C hown hK hW (i := 29) (hdl (29) (by unfold kD; omega)) w29 rfl 3 (by decide) (hts _ q_166) (fun _ h9 => h9) rfl d_C_haulingSeconds_54 ?_
            refine lv_iload hx hb d_C_haulingSeconds_57 (lv_at hl 5 rfl) ?_
            refine n_lald hx hb hK hW 1 (q := 33) (hdl (33) (by unfold kD; omega)) w33 rfl (j := k) (by omega) (by omega) d_C_haulingSeconds_59 ?_
            refine lv_ladd hx hb d_C_haulingSeconds_60 ?_
            refine n_topl (show _ = sMap kn ln cr cx cy ct x y (k + 1) by rw [sMap, if_pos ⟨h2, h3, by rw [hr1]; exact nI_lt h4.1 (by omega), by rw [hr1, nI_clamp (show r < 2 ^ 31 by omega)]; exact h4.2⟩]) ?_
            refine lv_lstore (lv' := [(4, .long (sMap kn ln cr cx cy ct x y (k + 1))), (0, .ref (ad 29)), (1, .int x), (2, .int y), (3, .ref (ad 22)), (6, .int (nI k))]) hx hb d_C_haulingSeconds_61 hl (by decide) rfl (fun ls hl => ?_)
            refine n_iinc (lv' := [(6, .int (nI (k + 1))), (4, .long (sMap kn ln cr cx cy ct x y (k + 1))), (0, .ref (ad 29)), (1, .int x), (2, .int y), (3, .ref (ad 22))]) hx hb d_C_haulingSeconds_63 hl (k := 5) rfl (by decide) rfl (fun ls hl => ?_)
            refine lv_goto (tgt := 6) hx hb d_C_haulingSeconds_66 (by decide) ?_
            exact ih (k + 1) _ _ ls (by omega) (by omega) hW hS (lv_sub hl [2, 3, 4, 5, 1, 0] rfl)
