set_option maxHeartbeats 4000000 in
set_option maxRecDepth 100000 in
/-- row -/
theorem c_M_row (l : Launch) {D : va_G} {cI cJ cG : ClassId} {ad : Nat → Nat} {co : Nat → va_E} {dl : List Nat} {a rw sh pg ce mg kn cs sm : Nat} (hdl : ∀ i, 400 ≤ i → i < 427 → i ∈ dl) (h400 : co 400 = mO ad a rw sh pg ce mg kn cs sm) {sec : Nat → Int64} {cls : Nat → Int32} {trn : Nat → Int32} {shp : Nat → Int32} {tr : Nat → Int32} (h405 : co 405 = .inl (cJ, 200, .inr (.inl sec))) (h406 : co 406 = .inl (cI, 200, .inl cls)) (h407 : co 407 = .inl (cI, 200, .inl trn)) (h408 : co 408 = .inl (cI, 200, .inl shp)) (h409 : co 409 = .inl (cI, 200, .inl tr)) (x : Int64) (y z : Int32) (hn : rw ≤ 200) : gMi l y_M_row (Cond.code y_M_row b_M_row 5 (some .boolean) :: wA) ({ frames := 0, cells := 0, slots := 0, locals := 0 }) D gCl (gTy cI cJ cG) gNl [.ref (ad 400), .long x, .int y, .int z] ad co dl (fun r co' => r = bI (okRow rw sec x y z) ∧ co' = if okRow rw sec x y z then va_up (va_up (va_up (va_up (va_up (va_up co 405 (.inl (cJ, 200, .inr (.inl (vp_updL sec rw x))))) 406 (.inl (cI, 200, .inl (upd cls rw y)))) 407 (.inl (cI, 200, .inl (upd trn rw z)))) 408 (.inl (cI, 200, .inl (upd shp rw (nI sh))))) 409 (.inl (cI, 200, .inl (upd tr rw (-1))))) 400 (mO ad a (rw + 1) sh pg ce mg kn cs sm) else co) := by
  refine gMi_of (cc := b_M_row) (maxL := 5) (ret := some .boolean) (by decide) rfl (Nat.le_of_ble_eq_true rfl) ?_
  intro pp ee s mm below meth cd ls hC hW hS hl
  obtain ⟨hx, hb, hr, hts0, hown, hlocks, hml, hK, hN⟩ := hC
  have hts : ∀ w ∈ wA, w.before _ s = true := fun w h => hts0 w (List.mem_cons_of_mem _ h)
  have hA : ∀ q, s.heap.size ≤ q → gA ad co dl s.heap.size q := fun q h => Or.inr h
  have hl : lv_has ls 5 [(0, .ref (ad 400)), (1, .long x), (3, .int y), (4, .int z)] := hl
  have hown : s.vm.findClass R_M = some mm.cls := hown
  refine lv_aload_n hx hb d_M_row_0 rfl (lv_at hl 0 rfl) ?_
  refine g_get (C := R_M) (T := F_M) (N := 35) hx hb hts i_M hown hK hW (i := 400) (hdl 400 (by decide) (by decide)) h400 rfl 5 (by decide) (hts _ q_493) (fun _ h9 => h9) rfl d_M_row_1 ?_
  refine lv_sipush (v := nI 200) hx hb d_M_row_4 (by decide) ?_
  refine n_icmp_eq (tgt := 60) hx hb (by omega) (by omega) d_M_row_7 (by decide) (fun h1 => ?_) (fun h1 => ?_)
  · refine lv_iconst (v := nI 0) hx hb d_M_row_60 (by decide) ?_
    exact g_zret hx hb hr (by rfl) hlocks hW hS (⟨bI_0 (by simp [okRow, show ¬ rw < 200 by omega]), (if_neg (by simp [okRow, show ¬ rw < 200 by omega])).symm⟩) d_M_row_61
  · refine lv_lload_n hx hb d_M_row_10 rfl (lv_at hl 1 rfl) ?_
    refine lv_lconst (v := 0) hx hb d_M_row_11 (by decide) ?_
    refine W.lcmp hx hb d_M_row_12 ?_
    refine lv_if_lt (tgt := 60) hx hb d_M_row_13 (by decide) (fun h2 => ?_) (fun h2 => ?_)
    · refine lv_iconst (v := nI 0) hx hb d_M_row_60 (by decide) ?_
      exact g_zret hx hb hr (by rfl) hlocks hW hS (⟨bI_0 (by simp [okRow, L_nlt (lc_lt h2)]), (if_neg (by simp [okRow, L_nlt (lc_lt h2)])).symm⟩) d_M_row_61
    · refine lv_aload_n hx hb d_M_row_16 rfl (lv_at hl 0 rfl) ?_
      refine g_get (C := R_M) (T := F_M) (N := 35) hx hb hts i_M hown hK hW (i := 400) (hdl 400 (by decide) (by decide)) h400 rfl 5 (by decide) (hts _ q_493) (fun _ h9 => h9) rfl d_M_row_17 ?_
      refine n_if_le (tgt := 39) hx hb (by omega) d_M_row_20 (by decide) (fun h3 => ?_) (fun h3 => ?_)
      · refine lv_iload_n hx hb d_M_row_39 rfl (lv_at hl 2 rfl) ?_
        refine lv_if_lt (tgt := 60) hx hb d_M_row_40 (by decide) (fun h5 => ?_) (fun h5 => ?_)
        · refine lv_iconst (v := nI 0) hx hb d_M_row_60 (by decide) ?_
          exact g_zret hx hb hr (by rfl) hlocks hW hS (⟨bI_0 (by simp [okRow, inB_neg h5]), (if_neg (by simp [okRow, inB_neg h5])).symm⟩) d_M_row_61
        · obtain ⟨i, hi, rfl⟩ := nI_of h5
          refine lv_iload_n hx hb d_M_row_43 rfl (lv_at hl 2 rfl) ?_
          refine lv_bipush (v := nI 9) hx hb d_M_row_44 (by decide) ?_
          refine n_icmp_gt (tgt := 60) hx hb (by omega) (by omega) d_M_row_46 (by decide) (fun h6 => ?_) (fun h6 => ?_)
          · refine lv_iconst (v := nI 0) hx hb d_M_row_60 (by decide) ?_
            exact g_zret hx hb hr (by rfl) hlocks hW hS (⟨bI_0 (by simp [okRow, inB_ge hi (show 10 ≤ i by omega)]), (if_neg (by simp [okRow, inB_ge hi (show 10 ≤ i by omega)])).symm⟩) d_M_row_61
          · refine lv_iload hx hb d_M_row_49 (lv_at hl 3 rfl) ?_
            refine lv_if_lt (tgt := 60) hx hb d_M_row_51 (by decide) (fun h7 => ?_) (fun h7 => ?_)
            · refine lv_iconst (v := nI 0) hx hb d_M_row_60 (by decide) ?_
              exact g_zret hx hb hr (by rfl) hlocks hW hS (⟨bI_0 (by simp [okRow, inB_neg h7]), (if_neg (by simp [okRow, inB_neg h7])).symm⟩) d_M_row_61
            · obtain ⟨j, hj, rfl⟩ := nI_of h7
              refine lv_iload hx hb d_M_row_54 (lv_at hl 3 rfl) ?_
              refine lv_iconst (v := nI 3) hx hb d_M_row_56 (by decide) ?_
              refine n_icmp_le (tgt := 62) hx hb (by omega) (by omega) d_M_row_57 (by decide) (fun h8 => ?_) (fun h8 => ?_)
              · have g9 : okRow rw sec x (nI i) (nI j) = true := by simp [okRow, show rw < 200 by omega, lc_nlt h2, h3, inB_lt (n := 10) (show i < 10 by omega) (by decide), inB_lt (n := 4) (show j < 4 by omega) (by decide)]
                refine lv_aload_n hx hb d_M_row_62 rfl (lv_at hl 0 rfl) ?_
                refine g_get (C := R_M) (T := F_M) (N := 35) hx hb hts i_M hown hK hW (i := 400) (hdl 400 (by decide) (by decide)) h400 rfl 6 (by decide) (hts _ q_494) (fun _ h9 => h9) rfl d_M_row_63 ?_
                refine lv_aload_n hx hb d_M_row_66 rfl (lv_at hl 0 rfl) ?_
                refine g_get (C := R_M) (T := F_M) (N := 35) hx hb hts i_M hown hK hW (i := 400) (hdl 400 (by decide) (by decide)) h400 rfl 5 (by decide) (hts _ q_493) (fun _ h9 => h9) rfl d_M_row_67 ?_
                refine lv_lload_n hx hb d_M_row_70 rfl (lv_at hl 1 rfl) ?_
                refine n_last (x := x) hx hb hK hW hS 1 (q := 405) (hdl 405 (by decide) (by decide)) h405 rfl (j := rw) (by omega) (by omega) d_M_row_71 (fun H locs hW hS => ?_)
                refine lv_aload_n hx hb d_M_row_72 rfl (lv_at hl 0 rfl) ?_
                refine g_get (C := R_M) (T := F_M) (N := 35) hx hb hts i_M hown hK hW (i := 400) (hdl 400 (by decide) (by decide)) ((va_up_ne _ _ (by decide)).trans h400) rfl 7 (by decide) (hts _ q_495) (fun _ h9 => h9) rfl d_M_row_73 ?_
                refine lv_aload_n hx hb d_M_row_76 rfl (lv_at hl 0 rfl) ?_
                refine g_get (C := R_M) (T := F_M) (N := 35) hx hb hts i_M hown hK hW (i := 400) (hdl 400 (by decide) (by decide)) ((va_up_ne _ _ (by decide)).trans h400) rfl 5 (by decide) (hts _ q_493) (fun _ h9 => h9) rfl d_M_row_77 ?_
                refine lv_iload_n hx hb d_M_row_80 rfl (lv_at hl 2 rfl) ?_
                refine n_iast (x := nI i) hx hb hK hW hS 0 (q := 406) (hdl 406 (by decide) (by decide)) ((va_up_ne _ _ (by decide)).trans h406) rfl (j := rw) (by omega) (by omega) d_M_row_81 (fun H locs hW hS => ?_)
                refine lv_aload_n hx hb d_M_row_82 rfl (lv_at hl 0 rfl) ?_
                refine g_get (C := R_M) (T := F_M) (N := 35) hx hb hts i_M hown hK hW (i := 400) (hdl 400 (by decide) (by decide)) ((va_up_ne _ _ (by decide)).trans ((va_up_ne _ _ (by decide)).trans h400)) rfl 8 (by decide) (hts _ q_496) (fun _ h9 => h9) rfl d_M_row_83 ?_
                refine lv_aload_n hx hb d_M_row_86 rfl (lv_at hl 0 rfl) ?_
                refine g_get (C := R_M) (T := F_M) (N := 35) hx hb hts i_M hown hK hW (i := 400) (hdl 400 (by decide) (by decide)) ((va_up_ne _ _ (by decide)).trans ((va_up_ne _ _ (by decide)).trans h400)) rfl 5 (by decide) (hts _ q_493) (fun _ h9 => h9) rfl d_M_row_87 ?_
                refine lv_iload hx hb d_M_row_90 (lv_at hl 3 rfl) ?_
                refine n_iast (x := nI j) hx hb hK hW hS 0 (q := 407) (hdl 407 (by decide) (by decide)) ((va_up_ne _ _ (by decide)).trans ((va_up_ne _ _ (by decide)).trans h407)) rfl (j := rw) (by omega) (by omega) d_M_row_92 (fun H locs hW hS => ?_)
                refine lv_aload_n hx hb d_M_row_93 rfl (lv_at hl 0 rfl) ?_
                refine g_get (C := R_M) (T := F_M) (N := 35) hx hb hts i_M hown hK hW (i := 400) (hdl 400 (by decide) (by decide)) ((va_up_ne _ _ (by decide)).trans ((va_up_ne _ _ (by decide)).trans ((va_up_ne _ _ (by decide)).trans h400))) rfl 9 (by decide) (hts _ q_497) (fun _ h9 => h9) rfl d_M_row_94 ?_
                refine lv_aload_n hx hb d_M_row_97 rfl (lv_at hl 0 rfl) ?_
                refine g_get (C := R_M) (T := F_M) (N := 35) hx hb hts i_M hown hK hW (i := 400) (hdl 400 (by decide) (by decide)) ((va_up_ne _ _ (by decide)).trans ((va_up_ne _ _ (by decide)).trans ((va_up_ne _ _ (by decide)).trans h400))) rfl 5 (by decide) (hts _ q_493) (fun _ h9 => h9) rfl d_M_row_98 ?_
                refine lv_aload_n hx hb d_M_row_101 rfl (lv_at hl 0 rfl) ?_
                refine g_get (C := R_M) (T := F_M) (N := 35) hx hb hts i_M hown hK hW (i := 400) (hdl 400 (by decide) (by decide)) ((va_up_ne _ _ (by decide)).trans ((va_up_ne _ _ (by decide)).trans ((va_up_ne _ _ (by decide)).trans h400))) rfl 11 (by decide) (hts _ q_499) (fun _ h9 => h9) rfl d_M_row_102 ?_
                refine n_iast (x := nI sh) hx hb hK hW hS 0 (q := 408) (hdl 408 (by decide) (by decide)) ((va_up_ne _ _ (by decide)).trans ((va_up_ne _ _ (by decide)).trans ((va_up_ne _ _ (by decide)).trans h408))) rfl (j := rw) (by omega) (by omega) d_M_row_105 (fun H locs hW hS => ?_)
                refine lv_aload_n hx hb d_M_row_106 rfl (lv_at hl 0 rfl) ?_
                refine g_get (C := R_M) (T := F_M) (N := 35) hx hb hts i_M hown hK hW (i := 400) (hdl 400 (by decide) (by decide)) ((va_up_ne _ _ (by decide)).trans ((va_up_ne _ _ (by decide)).trans ((va_up_ne _ _ (by decide)).trans ((va_up_ne _ _ (by decide)).trans h400)))) rfl 10 (by decide) (hts _ q_498) (fun _ h9 => h9) rfl d_M_row_107 ?_
                refine lv_aload_n hx hb d_M_row_110 rfl (lv_at hl 0 rfl) ?_
                refine g_get (C := R_M) (T := F_M) (N := 35) hx hb hts i_M hown hK hW (i := 400) (hdl 400 (by decide) (by decide)) ((va_up_ne _ _ (by decide)).trans ((va_up_ne _ _ (by decide)).trans ((va_up_ne _ _ (by decide)).trans ((va_up_ne _ _ (by decide)).trans h400)))) rfl 5 (by decide) (hts _ q_493) (fun _ h9 => h9) rfl d_M_row_111 ?_
                refine lv_iconst (v := (-1)) hx hb d_M_row_114 (by decide) ?_
                refine n_iast (x := (-1)) hx hb hK hW hS 0 (q := 409) (hdl 409 (by decide) (by decide)) ((va_up_ne _ _ (by decide)).trans ((va_up_ne _ _ (by decide)).trans ((va_up_ne _ _ (by decide)).trans ((va_up_ne _ _ (by decide)).trans h409)))) rfl (j := rw) (by omega) (by omega) d_M_row_115 (fun H locs hW hS => ?_)
                refine lv_aload_n hx hb d_M_row_116 rfl (lv_at hl 0 rfl) ?_
                refine lv_dup hx hb d_M_row_117 rfl ?_
                refine g_get (C := R_M) (T := F_M) (N := 35) hx hb hts i_M hown hK hW (i := 400) (hdl 400 (by decide) (by decide)) ((va_up_ne _ _ (by decide)).trans ((va_up_ne _ _ (by decide)).trans ((va_up_ne _ _ (by decide)).trans ((va_up_ne _ _ (by decide)).trans ((va_up_ne _ _ (by decide)).trans h400))))) rfl 5 (by decide) (hts _ q_493) (fun _ h9 => h9) rfl d_M_row_118 ?_
                refine lv_iconst (v := nI 1) hx hb d_M_row_121 (by decide) ?_
                refine n_add hx hb d_M_row_122 ?_
                refine g_put (ty := .int) (v := .int (nI (rw + 1))) (C := R_M) (T := F_M) (N := 35) hx hb hts i_M fy_M fy_M_ok fn_M hown hK hW hS (i := 400) (hdl 400 (by decide) (by decide)) ((va_up_ne _ _ (by decide)).trans ((va_up_ne _ _ (by decide)).trans ((va_up_ne _ _ (by decide)).trans ((va_up_ne _ _ (by decide)).trans ((va_up_ne _ _ (by decide)).trans h400))))) rfl 5 (by decide) (hts _ q_493) (fun _ h9 => h9) rfl (by decide +kernel) rfl rfl (Nat.le_of_ble_eq_true rfl) d_M_row_123 (fun H locs hW hS => ?_)
                refine lv_iconst (v := nI 1) hx hb d_M_row_126 (by decide) ?_
                exact g_zret hx hb hr (by rfl) hlocks hW hS (⟨bI_1 g9, by rw [if_pos g9]; rfl⟩) d_M_row_127
              · refine lv_iconst (v := nI 0) hx hb d_M_row_60 (by decide) ?_
                exact g_zret hx hb hr (by rfl) hlocks hW hS (⟨bI_0 (by simp [okRow, inB_ge hj (show 4 ≤ j by omega)]), (if_neg (by simp [okRow, inB_ge hj (show 4 ≤ j by omega)])).symm⟩) d_M_row_61
      · refine lv_lload_n hx hb d_M_row_23 rfl (lv_at hl 1 rfl) ?_
        refine lv_aload_n hx hb d_M_row_24 rfl (lv_at hl 0 rfl) ?_
        refine g_get (C := R_M) (T := F_M) (N := 35) hx hb hts i_M hown hK hW (i := 400) (hdl 400 (by decide) (by decide)) h400 rfl 6 (by decide) (hts _ q_494) (fun _ h9 => h9) rfl d_M_row_25 ?_
        refine lv_aload_n hx hb d_M_row_28 rfl (lv_at hl 0 rfl) ?_
        refine g_get (C := R_M) (T := F_M) (N := 35) hx hb hts i_M hown hK hW (i := 400) (hdl 400 (by decide) (by decide)) h400 rfl 5 (by decide) (hts _ q_493) (fun _ h9 => h9) rfl d_M_row_29 ?_
        refine lv_iconst (v := nI 1) hx hb d_M_row_32 (by decide) ?_
        refine n_sub hx hb (by omega) d_M_row_33 ?_
        refine n_lald hx hb hK hW 1 (q := 405) (hdl 405 (by decide) (by decide)) h405 rfl (j := rw - 1) (by omega) (by omega) d_M_row_34 ?_
        refine W.lcmp hx hb d_M_row_35 ?_
        refine lv_if_le (tgt := 60) hx hb d_M_row_36 (by decide) (fun h4 => ?_) (fun h4 => ?_)
        · refine lv_iconst (v := nI 0) hx hb d_M_row_60 (by decide) ?_
          exact g_zret hx hb hr (by rfl) hlocks hW hS (⟨bI_0 (by simp [okRow, show ¬ rw = 0 by omega, L_nle (lc_le h4)]), (if_neg (by simp [okRow, show ¬ rw = 0 by omega, L_nle (lc_le h4)])).symm⟩) d_M_row_61
        · refine lv_iload_n hx hb d_M_row_39 rfl (lv_at hl 2 rfl) ?_
          refine lv_if_lt (tgt := 60) hx hb d_M_row_40 (by decide) (fun h5 => ?_) (fun h5 => ?_)
          · refine lv_iconst (v := nI 0) hx hb d_M_row_60 (by decide) ?_
            exact g_zret hx hb hr (by rfl) hlocks hW hS (⟨bI_0 (by simp [okRow, inB_neg h5]), (if_neg (by simp [okRow, inB_neg h5])).symm⟩) d_M_row_61
          · obtain ⟨i, hi, rfl⟩ := nI_of h5
            refine lv_iload_n hx hb d_M_row_43 rfl (lv_at hl 2 rfl) ?_
            refine lv_bipush (v := nI 9) hx hb d_M_row_44 (by decide) ?_
            refine n_icmp_gt (tgt := 60) hx hb (by omega) (by omega) d_M_row_46 (by decide) (fun h6 => ?_) (fun h6 => ?_)
            · refine lv_iconst (v := nI 0) hx hb d_M_row_60 (by decide) ?_
              exact g_zret hx hb hr (by rfl) hlocks hW hS (⟨bI_0 (by simp [okRow, inB_ge hi (show 10 ≤ i by omega)]), (if_neg (by simp [okRow, inB_ge hi (show 10 ≤ i by omega)])).symm⟩) d_M_row_61
            · refine lv_iload hx hb d_M_row_49 (lv_at hl 3 rfl) ?_
              refine lv_if_lt (tgt := 60) hx hb d_M_row_51 (by decide) (fun h7 => ?_) (fun h7 => ?_)
              · refine lv_iconst (v := nI 0) hx hb d_M_row_60 (by decide) ?_
                exact g_zret hx hb hr (by rfl) hlocks hW hS (⟨bI_0 (by simp [okRow, inB_neg h7]), (if_neg (by simp [okRow, inB_neg h7])).symm⟩) d_M_row_61
              · obtain ⟨j, hj, rfl⟩ := nI_of h7
                refine lv_iload hx hb d_M_row_54 (lv_at hl 3 rfl) ?_
                refine lv_iconst (v := nI 3) hx hb d_M_row_56 (by decide) ?_
                refine n_icmp_le (tgt := 62) hx hb (by omega) (by omega) d_M_row_57 (by decide) (fun h8 => ?_) (fun h8 => ?_)
                · have g9 : okRow rw sec x (nI i) (nI j) = true := by simp [okRow, show rw < 200 by omega, lc_nlt h2, lc_nle h4, inB_lt (n := 10) (show i < 10 by omega) (by decide), inB_lt (n := 4) (show j < 4 by omega) (by decide)]
                  refine lv_aload_n hx hb d_M_row_62 rfl (lv_at hl 0 rfl) ?_
                  refine g_get (C := R_M) (T := F_M) (N := 35) hx hb hts i_M hown hK hW (i := 400) (hdl 400 (by decide) (by decide)) h400 rfl 6 (by decide) (hts _ q_494) (fun _ h9 => h9) rfl d_M_row_63 ?_
                  refine lv_aload_n hx hb d_M_row_66 rfl (lv_at hl 0 rfl) ?_
                  refine g_get (C := R_M) (T := F_M) (N := 35) hx hb hts i_M hown hK hW (i := 400) (hdl 400 (by decide) (by decide)) h400 rfl 5 (by decide) (hts _ q_493) (fun _ h9 => h9) rfl d_M_row_67 ?_
                  refine lv_lload_n hx hb d_M_row_70 rfl (lv_at hl 1 rfl) ?_
                  refine n_last (x := x) hx hb hK hW hS 1 (q := 405) (hdl 405 (by decide) (by decide)) h405 rfl (j := rw) (by omega) (by omega) d_M_row_71 (fun H locs hW hS => ?_)
                  refine lv_aload_n hx hb d_M_row_72 rfl (lv_at hl 0 rfl) ?_
                  refine g_get (C := R_M) (T := F_M) (N := 35) hx hb hts i_M hown hK hW (i := 400) (hdl 400 (by decide) (by decide)) ((va_up_ne _ _ (by decide)).trans h400) rfl 7 (by decide) (hts _ q_495) (fun _ h9 => h9) rfl d_M_row_73 ?_
                  refine lv_aload_n hx hb d_M_row_76 rfl (lv_at hl 0 rfl) ?_
                  refine g_get (C := R_M) (T := F_M) (N := 35) hx hb hts i_M hown hK hW (i := 400) (hdl 400 (by decide) (by decide)) ((va_up_ne _ _ (by decide)).trans h400) rfl 5 (by decide) (hts _ q_493) (fun _ h9 => h9) rfl d_M_row_77 ?_
                  refine lv_iload_n hx hb d_M_row_80 rfl (lv_at hl 2 rfl) ?_
                  refine n_iast (x := nI i) hx hb hK hW hS 0 (q := 406) (hdl 406 (by decide) (by decide)) ((va_up_ne _ _ (by decide)).trans h406) rfl (j := rw) (by omega) (by omega) d_M_row_81 (fun H locs hW hS => ?_)
                  refine lv_aload_n hx hb d_M_row_82 rfl (lv_at hl 0 rfl) ?_
                  refine g_get (C := R_M) (T := F_M) (N := 35) hx hb hts i_M hown hK hW (i := 400) (hdl 400 (by decide) (by decide)) ((va_up_ne _ _ (by decide)).trans ((va_up_ne _ _ (by decide)).trans h400)) rfl 8 (by decide) (hts _ q_496) (fun _ h9 => h9) rfl d_M_row_83 ?_
                  refine lv_aload_n hx hb d_M_row_86 rfl (lv_at hl 0 rfl) ?_
                  refine g_get (C := R_M) (T := F_M) (N := 35) hx hb hts i_M hown hK hW (i := 400) (hdl 400 (by decide) (by decide)) ((va_up_ne _ _ (by decide)).trans ((va_up_ne _ _ (by decide)).trans h400)) rfl 5 (by decide) (hts _ q_493) (fun _ h9 => h9) rfl d_M_row_87 ?_
                  refine lv_iload hx hb d_M_row_90 (lv_at hl 3 rfl) ?_
                  refine n_iast (x := nI j) hx hb hK hW hS 0 (q := 407) (hdl 407 (by decide) (by decide)) ((va_up_ne _ _ (by decide)).trans ((va_up_ne _ _ (by decide)).trans h407)) rfl (j := rw) (by omega) (by omega) d_M_row_92 (fun H locs hW hS => ?_)
                  refine lv_aload_n hx hb d_M_row_93 rfl (lv_at hl 0 rfl) ?_
                  refine g_get (C := R_M) (T := F_M) (N := 35) hx hb hts i_M hown hK hW (i := 400) (hdl 400 (by decide) (by decide)) ((va_up_ne _ _ (by decide)).trans ((va_up_ne _ _ (by decide)).trans ((va_up_ne _ _ (by decide)).trans h400))) rfl 9 (by decide) (hts _ q_497) (fun _ h9 => h9) rfl d_M_row_94 ?_
                  refine lv_aload_n hx hb d_M_row_97 rfl (lv_at hl 0 rfl) ?_
                  refine g_get (C := R_M) (T := F_M) (N := 35) hx hb hts i_M hown hK hW (i := 400) (hdl 400 (by decide) (by decide)) ((va_up_ne _ _ (by decide)).trans ((va_up_ne _ _ (by decide)).trans ((va_up_ne _ _ (by decide)).trans h400))) rfl 5 (by decide) (hts _ q_493) (fun _ h9 => h9) rfl d_M_row_98 ?_
                  refine lv_aload_n hx hb d_M_row_101 rfl (lv_at hl 0 rfl) ?_
                  refine g_get (C := R_M) (T := F_M) (N := 35) hx hb hts i_M hown hK hW (i := 400) (hdl 400 (by decide) (by decide)) ((va_up_ne _ _ (by decide)).trans ((va_up_ne _ _ (by decide)).trans ((va_up_ne _ _ (by decide)).trans h400))) rfl 11 (by decide) (hts _ q_499) (fun _ h9 => h9) rfl d_M_row_102 ?_
                  refine n_iast (x := nI sh) hx hb hK hW hS 0 (q := 408) (hdl 408 (by decide) (by decide)) ((va_up_ne _ _ (by decide)).trans ((va_up_ne _ _ (by decide)).trans ((va_up_ne _ _ (by decide)).trans h408))) rfl (j := rw) (by omega) (by omega) d_M_row_105 (fun H locs hW hS => ?_)
                  refine lv_aload_n hx hb d_M_row_106 rfl (lv_at hl 0 rfl) ?_
                  refine g_get (C := R_M) (T := F_M) (N := 35) hx hb hts i_M hown hK hW (i := 400) (hdl 400 (by decide) (by decide)) ((va_up_ne _ _ (by decide)).trans ((va_up_ne _ _ (by decide)).trans ((va_up_ne _ _ (by decide)).trans ((va_up_ne _ _ (by decide)).trans h400)))) rfl 10 (by decide) (hts _ q_498) (fun _ h9 => h9) rfl d_M_row_107 ?_
                  refine lv_aload_n hx hb d_M_row_110 rfl (lv_at hl 0 rfl) ?_
                  refine g_get (C := R_M) (T := F_M) (N := 35) hx hb hts i_M hown hK hW (i := 400) (hdl 400 (by decide) (by decide)) ((va_up_ne _ _ (by decide)).trans ((va_up_ne _ _ (by decide)).trans ((va_up_ne _ _ (by decide)).trans ((va_up_ne _ _ (by decide)).trans h400)))) rfl 5 (by decide) (hts _ q_493) (fun _ h9 => h9) rfl d_M_row_111 ?_
                  refine lv_iconst (v := (-1)) hx hb d_M_row_114 (by decide) ?_
                  refine n_iast (x := (-1)) hx hb hK hW hS 0 (q := 409) (hdl 409 (by decide) (by decide)) ((va_up_ne _ _ (by decide)).trans ((va_up_ne _ _ (by decide)).trans ((va_up_ne _ _ (by decide)).trans ((va_up_ne _ _ (by decide)).trans h409)))) rfl (j := rw) (by omega) (by omega) d_M_row_115 (fun H locs hW hS => ?_)
                  refine lv_aload_n hx hb d_M_row_116 rfl (lv_at hl 0 rfl) ?_
                  refine lv_dup hx hb d_M_row_117 rfl ?_
                  refine g_get (C := R_M) (T := F_M) (N := 35) hx hb hts i_M hown hK hW (i := 400) (hdl 400 (by decide) (by decide)) ((va_up_ne _ _ (by decide)).trans ((va_up_ne _ _ (by decide)).trans ((va_up_ne _ _ (by decide)).trans ((va_up_ne _ _ (by decide)).trans ((va_up_ne _ _ (by decide)).trans h400))))) rfl 5 (by decide) (hts _ q_493) (fun _ h9 => h9) rfl d_M_row_118 ?_
                  refine lv_iconst (v := nI 1) hx hb d_M_row_121 (by decide) ?_
                  refine n_add hx hb d_M_row_122 ?_
                  refine g_put (ty := .int) (v := .int (nI (rw + 1))) (C := R_M) (T := F_M) (N := 35) hx hb hts i_M fy_M fy_M_ok fn_M hown hK hW hS (i := 400) (hdl 400 (by decide) (by decide)) ((va_up_ne _ _ (by decide)).trans ((va_up_ne _ _ (by decide)).trans ((va_up_ne _ _ (by decide)).trans ((va_up_ne _ _ (by decide)).trans ((va_up_ne _ _ (by decide)).trans h400))))) rfl 5 (by decide) (hts _ q_493) (fun _ h9 => h9) rfl (by decide +kernel) rfl rfl (Nat.le_of_ble_eq_true rfl) d_M_row_123 (fun H locs hW hS => ?_)
                  refine lv_iconst (v := nI 1) hx hb d_M_row_126 (by decide) ?_
                  exact g_zret hx hb hr (by rfl) hlocks hW hS (⟨bI_1 g9, by rw [if_pos g9]; rfl⟩) d_M_row_127
                · refine lv_iconst (v := nI 0) hx hb d_M_row_60 (by decide) ?_
                  exact g_zret hx hb hr (by rfl) hlocks hW hS (⟨bI_0 (by simp [okRow, inB_ge hj (show 4 ≤ j by omega)]), (if_neg (by simp [okRow, inB_ge hj (show 4 ≤ j by omega)])).symm⟩) d_M_row_61
set_option maxHeartbeats 4000000 in
set_option maxRecDepth 100000 in
/-- page -/
theorem c_M_page (l : Launch) {D : va_G} {cI cJ cG : ClassId} {ad : Nat → Nat} {co : Nat → va_E} {dl : List Nat} {a rw sh pg ce mg kn cs sm : Nat} (hdl : ∀ i, 400 ≤ i → i < 427 → i ∈ dl) (h400 : co 400 = mO ad a rw sh pg ce mg kn cs sm) {pf : Nat → Int64} {pt : Nat → Int64} {pa : Nat → Int32} (h410 : co 410 = .inl (cJ, 50, .inr (.inl pf))) (h411 : co 411 = .inl (cJ, 50, .inr (.inl pt))) (h412 : co 412 = .inl (cI, 50, .inl pa)) (x y : Int64) (z : Int32) (ha : a ≤ 12) (hp : pg ≤ 50) : gMi l y_M_page (Cond.code y_M_page b_M_page 6 (some .boolean) :: wA) ({ frames := 1, cells := 0, slots := 0, locals := 21 }) D gCl (gTy cI cJ cG) gNl [.ref (ad 400), .long x, .long y, .int z] ad co dl (fun r co' => r = bI (okPage a pg x y z) ∧ co' = if okPage a pg x y z then va_up (va_up (va_up (va_up co 410 (.inl (cJ, 50, .inr (.inl (vp_updL pf pg x))))) 411 (.inl (cJ, 50, .inr (.inl (vp_updL pt pg y))))) 412 (.inl (cI, 50, .inl (upd pa pg z)))) 400 (mO ad a rw sh (pg + 1) ce mg kn cs sm) else co) := by
  refine gMi_of (cc := b_M_page) (maxL := 6) (ret := some .boolean) (by decide) rfl (Nat.le_of_ble_eq_true rfl) ?_
  intro pp ee s mm below meth cd ls hC hW hS hl
  obtain ⟨hx, hb, hr, hts0, hown, hlocks, hml, hK, hN⟩ := hC
  have hts : ∀ w ∈ wA, w.before _ s = true := fun w h => hts0 w (List.mem_cons_of_mem _ h)
  have hA : ∀ q, s.heap.size ≤ q → gA ad co dl s.heap.size q := fun q h => Or.inr h
  have hl : lv_has ls 6 [(0, .ref (ad 400)), (1, .long x), (3, .long y), (5, .int z)] := hl
  have hown : s.vm.findClass R_M = some mm.cls := hown
  refine lv_aload_n hx hb d_M_page_0 rfl (lv_at hl 0 rfl) ?_
  refine lv_iload hx hb d_M_page_1 (lv_at hl 3 rfl) ?_
  refine g_cVi (As := [.int z]) (rest := []) ⟨hx, hb, hml, hown, hts⟩ (c_M_isAct l hdl h400 z (by omega)) (gcwV 1 hts q_601 q_598 q_600 qs_8 q_9 (by decide +kernel) ⟨(Nat.le_of_ble_eq_true rfl), (Nat.le_of_ble_eq_true rfl)⟩) gNl_ok hN hK hW hS hA (hdl 400 (by decide) (by decide)) h400 rfl rfl hl.1 rfl (Nat.le_of_ble_eq_true rfl) d_M_page_3 ⟨Nat.zero_le _, Nat.zero_le _⟩ (fun r co9 H locs hp9 hW hS => ?_)
  obtain ⟨rfl, hco9⟩ := hp9
  rw [hco9] at hW
  refine n_ifz_eq (tgt := 30) hx hb d_M_page_6 (by decide) (fun g1 => ?_) (fun g1 => ?_)
  · refine lv_iconst (v := nI 0) hx hb d_M_page_30 (by decide) ?_
    exact g_zret hx hb hr (by rfl) hlocks hW hS (⟨bI_0 (by simp [okPage, g1]), (if_neg (by simp [okPage, g1])).symm⟩) d_M_page_31
  · refine lv_lload_n hx hb d_M_page_9 rfl (lv_at hl 1 rfl) ?_
    refine lv_lconst (v := 0) hx hb d_M_page_10 (by decide) ?_
    refine W.lcmp hx hb d_M_page_11 ?_
    refine lv_if_lt (tgt := 30) hx hb d_M_page_12 (by decide) (fun h2 => ?_) (fun h2 => ?_)
    · refine lv_iconst (v := nI 0) hx hb d_M_page_30 (by decide) ?_
      exact g_zret hx hb hr (by rfl) hlocks hW hS (⟨bI_0 (by simp [okPage, L_nlt (lc_lt h2)]), (if_neg (by simp [okPage, L_nlt (lc_lt h2)])).symm⟩) d_M_page_31
    · refine lv_lload_n hx hb d_M_page_15 rfl (lv_at hl 1 rfl) ?_
      refine lv_lload_n hx hb d_M_page_16 rfl (lv_at hl 2 rfl) ?_
      refine W.lcmp hx hb d_M_page_17 ?_
      refine lv_if_ge (tgt := 30) hx hb d_M_page_18 (by decide) (fun h3 => ?_) (fun h3 => ?_)
      · refine lv_iconst (v := nI 0) hx hb d_M_page_30 (by decide) ?_
        exact g_zret hx hb hr (by rfl) hlocks hW hS (⟨bI_0 (by simp [okPage, L_nle (lc_ge h3)]), (if_neg (by simp [okPage, L_nle (lc_ge h3)])).symm⟩) d_M_page_31
      · refine lv_aload_n hx hb d_M_page_21 rfl (lv_at hl 0 rfl) ?_
        refine g_get (C := R_M) (T := F_M) (N := 35) hx hb hts i_M hown hK hW (i := 400) (hdl 400 (by decide) (by decide)) h400 rfl 12 (by decide) (hts _ q_500) (fun _ h9 => h9) rfl d_M_page_22 ?_
        refine lv_bipush (v := nI 50) hx hb d_M_page_25 (by decide) ?_
        refine n_icmp_ne (tgt := 32) hx hb (by omega) (by omega) d_M_page_27 (by decide) (fun h4 => ?_) (fun h4 => ?_)
        · have g9 : okPage a pg x y z = true := by simp [okPage, g1, lc_nlt h2, lc_nge h3, show pg < 50 by omega]
          refine lv_aload_n hx hb d_M_page_32 rfl (lv_at hl 0 rfl) ?_
          refine g_get (C := R_M) (T := F_M) (N := 35) hx hb hts i_M hown hK hW (i := 400) (hdl 400 (by decide) (by decide)) h400 rfl 13 (by decide) (hts _ q_501) (fun _ h9 => h9) rfl d_M_page_33 ?_
          refine lv_aload_n hx hb d_M_page_36 rfl (lv_at hl 0 rfl) ?_
          refine g_get (C := R_M) (T := F_M) (N := 35) hx hb hts i_M hown hK hW (i := 400) (hdl 400 (by decide) (by decide)) h400 rfl 12 (by decide) (hts _ q_500) (fun _ h9 => h9) rfl d_M_page_37 ?_
          refine lv_lload_n hx hb d_M_page_40 rfl (lv_at hl 1 rfl) ?_
          refine n_last (x := x) hx hb hK hW hS 1 (q := 410) (hdl 410 (by decide) (by decide)) h410 rfl (j := pg) (by omega) (by omega) d_M_page_41 (fun H locs hW hS => ?_)
          refine lv_aload_n hx hb d_M_page_42 rfl (lv_at hl 0 rfl) ?_
          refine g_get (C := R_M) (T := F_M) (N := 35) hx hb hts i_M hown hK hW (i := 400) (hdl 400 (by decide) (by decide)) ((va_up_ne _ _ (by decide)).trans h400) rfl 14 (by decide) (hts _ q_502) (fun _ h9 => h9) rfl d_M_page_43 ?_
          refine lv_aload_n hx hb d_M_page_46 rfl (lv_at hl 0 rfl) ?_
          refine g_get (C := R_M) (T := F_M) (N := 35) hx hb hts i_M hown hK hW (i := 400) (hdl 400 (by decide) (by decide)) ((va_up_ne _ _ (by decide)).trans h400) rfl 12 (by decide) (hts _ q_500) (fun _ h9 => h9) rfl d_M_page_47 ?_
          refine lv_lload_n hx hb d_M_page_50 rfl (lv_at hl 2 rfl) ?_
          refine n_last (x := y) hx hb hK hW hS 1 (q := 411) (hdl 411 (by decide) (by decide)) ((va_up_ne _ _ (by decide)).trans h411) rfl (j := pg) (by omega) (by omega) d_M_page_51 (fun H locs hW hS => ?_)
          refine lv_aload_n hx hb d_M_page_52 rfl (lv_at hl 0 rfl) ?_
          refine g_get (C := R_M) (T := F_M) (N := 35) hx hb hts i_M hown hK hW (i := 400) (hdl 400 (by decide) (by decide)) ((va_up_ne _ _ (by decide)).trans ((va_up_ne _ _ (by decide)).trans h400)) rfl 15 (by decide) (hts _ q_503) (fun _ h9 => h9) rfl d_M_page_53 ?_
          refine lv_aload_n hx hb d_M_page_56 rfl (lv_at hl 0 rfl) ?_
          refine g_get (C := R_M) (T := F_M) (N := 35) hx hb hts i_M hown hK hW (i := 400) (hdl 400 (by decide) (by decide)) ((va_up_ne _ _ (by decide)).trans ((va_up_ne _ _ (by decide)).trans h400)) rfl 12 (by decide) (hts _ q_500) (fun _ h9 => h9) rfl d_M_page_57 ?_
          refine lv_iload hx hb d_M_page_60 (lv_at hl 3 rfl) ?_
          refine n_iast (x := z) hx hb hK hW hS 0 (q := 412) (hdl 412 (by decide) (by decide)) ((va_up_ne _ _ (by decide)).trans ((va_up_ne _ _ (by decide)).trans h412)) rfl (j := pg) (by omega) (by omega) d_M_page_62 (fun H locs hW hS => ?_)
          refine lv_aload_n hx hb d_M_page_63 rfl (lv_at hl 0 rfl) ?_
          refine lv_dup hx hb d_M_page_64 rfl ?_
          refine g_get (C := R_M) (T := F_M) (N := 35) hx hb hts i_M hown hK hW (i := 400) (hdl 400 (by decide) (by decide)) ((va_up_ne _ _ (by decide)).trans ((va_up_ne _ _ (by decide)).trans ((va_up_ne _ _ (by decide)).trans h400))) rfl 12 (by decide) (hts _ q_500) (fun _ h9 => h9) rfl d_M_page_65 ?_
          refine lv_iconst (v := nI 1) hx hb d_M_page_68 (by decide) ?_
          refine n_add hx hb d_M_page_69 ?_
          refine g_put (ty := .int) (v := .int (nI (pg + 1))) (C := R_M) (T := F_M) (N := 35) hx hb hts i_M fy_M fy_M_ok fn_M hown hK hW hS (i := 400) (hdl 400 (by decide) (by decide)) ((va_up_ne _ _ (by decide)).trans ((va_up_ne _ _ (by decide)).trans ((va_up_ne _ _ (by decide)).trans h400))) rfl 12 (by decide) (hts _ q_500) (fun _ h9 => h9) rfl (by decide +kernel) rfl rfl (Nat.le_of_ble_eq_true rfl) d_M_page_70 (fun H locs hW hS => ?_)
          refine lv_iconst (v := nI 1) hx hb d_M_page_73 (by decide) ?_
          exact g_zret hx hb hr (by rfl) hlocks hW hS (⟨bI_1 g9, by rw [if_pos g9]; rfl⟩) d_M_page_74
        · refine lv_iconst (v := nI 0) hx hb d_M_page_30 (by decide) ?_
          exact g_zret hx hb hr (by rfl) hlocks hW hS (⟨bI_0 (by simp [okPage, show ¬ pg < 50 by omega]), (if_neg (by simp [okPage, show ¬ pg < 50 by omega])).symm⟩) d_M_page_31
set_option maxHeartbeats 4000000 in
set_option maxRecDepth 100000 in
/-- cell -/
theorem c_M_cell (l : Launch) {D : va_G} {cI cJ cG : ClassId} {ad : Nat → Nat} {co : Nat → va_E} {dl : List Nat} {a rw sh pg ce mg kn cs sm : Nat} (hdl : ∀ i, 400 ≤ i → i < 427 → i ∈ dl) (h400 : co 400 = mO ad a rw sh pg ce mg kn cs sm) {cr : Nat → Int32} {cx : Nat → Int32} {cy : Nat → Int32} {ct : Nat → Int64} (h413 : co 413 = .inl (cI, 300, .inl cr)) (h414 : co 414 = .inl (cI, 300, .inl cx)) (h415 : co 415 = .inl (cI, 300, .inl cy)) (h416 : co 416 = .inl (cJ, 300, .inr (.inl ct))) (k x y : Int32) (z : Int64) (hn : rw ≤ 200) (hc : ce ≤ 300) : gMi l y_M_cell (Cond.code y_M_cell b_M_cell 6 (some .boolean) :: wA) ({ frames := 1, cells := 0, slots := 0, locals := 21 }) D gCl (gTy cI cJ cG) gNl [.ref (ad 400), .int k, .int x, .int y, .long z] ad co dl (fun r co' => r = bI (okCell rw ce k x y z) ∧ co' = if okCell rw ce k x y z then va_up (va_up (va_up (va_up (va_up co 413 (.inl (cI, 300, .inl (upd cr ce k)))) 414 (.inl (cI, 300, .inl (upd cx ce x)))) 415 (.inl (cI, 300, .inl (upd cy ce y)))) 416 (.inl (cJ, 300, .inr (.inl (vp_updL ct ce z))))) 400 (mO ad a rw sh pg (ce + 1) mg kn cs sm) else co) := by
  refine gMi_of (cc := b_M_cell) (maxL := 6) (ret := some .boolean) (by decide) rfl (Nat.le_of_ble_eq_true rfl) ?_
  intro pp ee s mm below meth cd ls hC hW hS hl
  obtain ⟨hx, hb, hr, hts0, hown, hlocks, hml, hK, hN⟩ := hC
  have hts : ∀ w ∈ wA, w.before _ s = true := fun w h => hts0 w (List.mem_cons_of_mem _ h)
  have hA : ∀ q, s.heap.size ≤ q → gA ad co dl s.heap.size q := fun q h => Or.inr h
  have hl : lv_has ls 6 [(0, .ref (ad 400)), (1, .int k), (2, .int x), (3, .int y), (4, .long z)] := hl
  have hown : s.vm.findClass R_M = some mm.cls := hown
  refine lv_aload_n hx hb d_M_cell_0 rfl (lv_at hl 0 rfl) ?_
  refine lv_iload_n hx hb d_M_cell_1 rfl (lv_at hl 1 rfl) ?_
  refine g_cVi (As := [.int k]) (rest := []) ⟨hx, hb, hml, hown, hts⟩ (c_M_isRow l hdl h400 k (by omega)) (gcwV 1 hts q_621 q_618 q_620 qs_9 q_9 (by decide +kernel) ⟨(Nat.le_of_ble_eq_true rfl), (Nat.le_of_ble_eq_true rfl)⟩) gNl_ok hN hK hW hS hA (hdl 400 (by decide) (by decide)) h400 rfl rfl hl.1 rfl (Nat.le_of_ble_eq_true rfl) d_M_cell_2 ⟨Nat.zero_le _, Nat.zero_le _⟩ (fun r co9 H locs hp9 hW hS => ?_)
  obtain ⟨rfl, hco9⟩ := hp9
  rw [hco9] at hW
  refine n_ifz_eq (tgt := 54) hx hb d_M_cell_5 (by decide) (fun g1 => ?_) (fun g1 => ?_)
  · refine lv_iconst (v := nI 0) hx hb d_M_cell_54 (by decide) ?_
    exact g_zret hx hb hr (by rfl) hlocks hW hS (⟨bI_0 (by simp [okCell, g1]), (if_neg (by simp [okCell, g1])).symm⟩) d_M_cell_55
  · refine lv_iload_n hx hb d_M_cell_8 rfl (lv_at hl 2 rfl) ?_
    refine lv_if_lt (tgt := 54) hx hb d_M_cell_9 (by decide) (fun h5 => ?_) (fun h5 => ?_)
    · refine lv_iconst (v := nI 0) hx hb d_M_cell_54 (by decide) ?_
      exact g_zret hx hb hr (by rfl) hlocks hW hS (⟨bI_0 (by simp [okCell, inB_neg h5]), (if_neg (by simp [okCell, inB_neg h5])).symm⟩) d_M_cell_55
    · obtain ⟨i, hi, rfl⟩ := nI_of h5
      refine lv_iload_n hx hb d_M_cell_12 rfl (lv_at hl 2 rfl) ?_
      refine lv_bipush (v := nI 19) hx hb d_M_cell_13 (by decide) ?_
      refine n_icmp_gt (tgt := 54) hx hb (by omega) (by omega) d_M_cell_15 (by decide) (fun hh5 => ?_) (fun hh5 => ?_)
      · refine lv_iconst (v := nI 0) hx hb d_M_cell_54 (by decide) ?_
        exact g_zret hx hb hr (by rfl) hlocks hW hS (⟨bI_0 (by simp [okCell, inB_ge hi (show 20 ≤ i by omega)]), (if_neg (by simp [okCell, inB_ge hi (show 20 ≤ i by omega)])).symm⟩) d_M_cell_55
      · refine lv_iload_n hx hb d_M_cell_18 rfl (lv_at hl 3 rfl) ?_
        refine lv_if_lt (tgt := 54) hx hb d_M_cell_19 (by decide) (fun h6 => ?_) (fun h6 => ?_)
        · refine lv_iconst (v := nI 0) hx hb d_M_cell_54 (by decide) ?_
          exact g_zret hx hb hr (by rfl) hlocks hW hS (⟨bI_0 (by simp [okCell, inB_neg h6]), (if_neg (by simp [okCell, inB_neg h6])).symm⟩) d_M_cell_55
        · obtain ⟨j, hj, rfl⟩ := nI_of h6
          refine lv_iload_n hx hb d_M_cell_22 rfl (lv_at hl 3 rfl) ?_
          refine lv_bipush (v := nI 19) hx hb d_M_cell_23 (by decide) ?_
          refine n_icmp_gt (tgt := 54) hx hb (by omega) (by omega) d_M_cell_25 (by decide) (fun hh6 => ?_) (fun hh6 => ?_)
          · refine lv_iconst (v := nI 0) hx hb d_M_cell_54 (by decide) ?_
            exact g_zret hx hb hr (by rfl) hlocks hW hS (⟨bI_0 (by simp [okCell, inB_ge hj (show 20 ≤ j by omega)]), (if_neg (by simp [okCell, inB_ge hj (show 20 ≤ j by omega)])).symm⟩) d_M_cell_55
          · refine lv_lload hx hb d_M_cell_28 (lv_at hl 4 rfl) ?_
            refine lv_lconst (v := 1) hx hb d_M_cell_30 (by decide) ?_
            refine W.lcmp hx hb d_M_cell_31 ?_
            refine lv_if_lt (tgt := 54) hx hb d_M_cell_32 (by decide) (fun h7 => ?_) (fun h7 => ?_)
            · refine lv_iconst (v := nI 0) hx hb d_M_cell_54 (by decide) ?_
              exact g_zret hx hb hr (by rfl) hlocks hW hS (⟨bI_0 (by simp [okCell, L_nlt (lc_lt h7)]), (if_neg (by simp [okCell, L_nlt (lc_lt h7)])).symm⟩) d_M_cell_55
            · refine lv_lload hx hb d_M_cell_35 (lv_at hl 4 rfl) ?_
              refine lv_ldc2 hx hb hown (hts _ q_635) d_M_cell_37 ?_
              refine W.lcmp hx hb d_M_cell_40 ?_
              refine lv_if_gt (tgt := 54) hx hb d_M_cell_41 (by decide) (fun h8 => ?_) (fun h8 => ?_)
              · refine lv_iconst (v := nI 0) hx hb d_M_cell_54 (by decide) ?_
                exact g_zret hx hb hr (by rfl) hlocks hW hS (⟨bI_0 (by simp [okCell, L_nlt (lc_gt h8)]), (if_neg (by simp [okCell, L_nlt (lc_gt h8)])).symm⟩) d_M_cell_55
              · refine lv_aload_n hx hb d_M_cell_44 rfl (lv_at hl 0 rfl) ?_
                refine g_get (C := R_M) (T := F_M) (N := 35) hx hb hts i_M hown hK hW (i := 400) (hdl 400 (by decide) (by decide)) h400 rfl 16 (by decide) (hts _ q_504) (fun _ h9 => h9) rfl d_M_cell_45 ?_
                refine lv_sipush (v := nI 300) hx hb d_M_cell_48 (by decide) ?_
                refine n_icmp_ne (tgt := 56) hx hb (by omega) (by omega) d_M_cell_51 (by decide) (fun h9 => ?_) (fun h9 => ?_)
                · have g9 : okCell rw ce k (nI i) (nI j) z = true := by simp [okCell, g1, inB_lt (n := 20) (show i < 20 by omega) (by decide), inB_lt (n := 20) (show j < 20 by omega) (by decide), lc_nlt h7, lc_ngt h8, show ce < 300 by omega]
                  refine lv_aload_n hx hb d_M_cell_56 rfl (lv_at hl 0 rfl) ?_
                  refine g_get (C := R_M) (T := F_M) (N := 35) hx hb hts i_M hown hK hW (i := 400) (hdl 400 (by decide) (by decide)) h400 rfl 17 (by decide) (hts _ q_505) (fun _ h9 => h9) rfl d_M_cell_57 ?_
                  refine lv_aload_n hx hb d_M_cell_60 rfl (lv_at hl 0 rfl) ?_
                  refine g_get (C := R_M) (T := F_M) (N := 35) hx hb hts i_M hown hK hW (i := 400) (hdl 400 (by decide) (by decide)) h400 rfl 16 (by decide) (hts _ q_504) (fun _ h9 => h9) rfl d_M_cell_61 ?_
                  refine lv_iload_n hx hb d_M_cell_64 rfl (lv_at hl 1 rfl) ?_
                  refine n_iast (x := k) hx hb hK hW hS 0 (q := 413) (hdl 413 (by decide) (by decide)) h413 rfl (j := ce) (by omega) (by omega) d_M_cell_65 (fun H locs hW hS => ?_)
                  refine lv_aload_n hx hb d_M_cell_66 rfl (lv_at hl 0 rfl) ?_
                  refine g_get (C := R_M) (T := F_M) (N := 35) hx hb hts i_M hown hK hW (i := 400) (hdl 400 (by decide) (by decide)) ((va_up_ne _ _ (by decide)).trans h400) rfl 18 (by decide) (hts _ q_506) (fun _ h9 => h9) rfl d_M_cell_67 ?_
                  refine lv_aload_n hx hb d_M_cell_70 rfl (lv_at hl 0 rfl) ?_
                  refine g_get (C := R_M) (T := F_M) (N := 35) hx hb hts i_M hown hK hW (i := 400) (hdl 400 (by decide) (by decide)) ((va_up_ne _ _ (by decide)).trans h400) rfl 16 (by decide) (hts _ q_504) (fun _ h9 => h9) rfl d_M_cell_71 ?_
                  refine lv_iload_n hx hb d_M_cell_74 rfl (lv_at hl 2 rfl) ?_
                  refine n_iast (x := nI i) hx hb hK hW hS 0 (q := 414) (hdl 414 (by decide) (by decide)) ((va_up_ne _ _ (by decide)).trans h414) rfl (j := ce) (by omega) (by omega) d_M_cell_75 (fun H locs hW hS => ?_)
                  refine lv_aload_n hx hb d_M_cell_76 rfl (lv_at hl 0 rfl) ?_
                  refine g_get (C := R_M) (T := F_M) (N := 35) hx hb hts i_M hown hK hW (i := 400) (hdl 400 (by decide) (by decide)) ((va_up_ne _ _ (by decide)).trans ((va_up_ne _ _ (by decide)).trans h400)) rfl 19 (by decide) (hts _ q_507) (fun _ h9 => h9) rfl d_M_cell_77 ?_
                  refine lv_aload_n hx hb d_M_cell_80 rfl (lv_at hl 0 rfl) ?_
                  refine g_get (C := R_M) (T := F_M) (N := 35) hx hb hts i_M hown hK hW (i := 400) (hdl 400 (by decide) (by decide)) ((va_up_ne _ _ (by decide)).trans ((va_up_ne _ _ (by decide)).trans h400)) rfl 16 (by decide) (hts _ q_504) (fun _ h9 => h9) rfl d_M_cell_81 ?_
                  refine lv_iload_n hx hb d_M_cell_84 rfl (lv_at hl 3 rfl) ?_
                  refine n_iast (x := nI j) hx hb hK hW hS 0 (q := 415) (hdl 415 (by decide) (by decide)) ((va_up_ne _ _ (by decide)).trans ((va_up_ne _ _ (by decide)).trans h415)) rfl (j := ce) (by omega) (by omega) d_M_cell_85 (fun H locs hW hS => ?_)
                  refine lv_aload_n hx hb d_M_cell_86 rfl (lv_at hl 0 rfl) ?_
                  refine g_get (C := R_M) (T := F_M) (N := 35) hx hb hts i_M hown hK hW (i := 400) (hdl 400 (by decide) (by decide)) ((va_up_ne _ _ (by decide)).trans ((va_up_ne _ _ (by decide)).trans ((va_up_ne _ _ (by decide)).trans h400))) rfl 20 (by decide) (hts _ q_508) (fun _ h9 => h9) rfl d_M_cell_87 ?_
                  refine lv_aload_n hx hb d_M_cell_90 rfl (lv_at hl 0 rfl) ?_
                  refine g_get (C := R_M) (T := F_M) (N := 35) hx hb hts i_M hown hK hW (i := 400) (hdl 400 (by decide) (by decide)) ((va_up_ne _ _ (by decide)).trans ((va_up_ne _ _ (by decide)).trans ((va_up_ne _ _ (by decide)).trans h400))) rfl 16 (by decide) (hts _ q_504) (fun _ h9 => h9) rfl d_M_cell_91 ?_
                  refine lv_lload hx hb d_M_cell_94 (lv_at hl 4 rfl) ?_
                  refine n_last (x := z) hx hb hK hW hS 1 (q := 416) (hdl 416 (by decide) (by decide)) ((va_up_ne _ _ (by decide)).trans ((va_up_ne _ _ (by decide)).trans ((va_up_ne _ _ (by decide)).trans h416))) rfl (j := ce) (by omega) (by omega) d_M_cell_96 (fun H locs hW hS => ?_)
                  refine lv_aload_n hx hb d_M_cell_97 rfl (lv_at hl 0 rfl) ?_
                  refine lv_dup hx hb d_M_cell_98 rfl ?_
                  refine g_get (C := R_M) (T := F_M) (N := 35) hx hb hts i_M hown hK hW (i := 400) (hdl 400 (by decide) (by decide)) ((va_up_ne _ _ (by decide)).trans ((va_up_ne _ _ (by decide)).trans ((va_up_ne _ _ (by decide)).trans ((va_up_ne _ _ (by decide)).trans h400)))) rfl 16 (by decide) (hts _ q_504) (fun _ h9 => h9) rfl d_M_cell_99 ?_
                  refine lv_iconst (v := nI 1) hx hb d_M_cell_102 (by decide) ?_
                  refine n_add hx hb d_M_cell_103 ?_
                  refine g_put (ty := .int) (v := .int (nI (ce + 1))) (C := R_M) (T := F_M) (N := 35) hx hb hts i_M fy_M fy_M_ok fn_M hown hK hW hS (i := 400) (hdl 400 (by decide) (by decide)) ((va_up_ne _ _ (by decide)).trans ((va_up_ne _ _ (by decide)).trans ((va_up_ne _ _ (by decide)).trans ((va_up_ne _ _ (by decide)).trans h400)))) rfl 16 (by decide) (hts _ q_504) (fun _ h9 => h9) rfl (by decide +kernel) rfl rfl (Nat.le_of_ble_eq_true rfl) d_M_cell_104 (fun H locs hW hS => ?_)
                  refine lv_iconst (v := nI 1) hx hb d_M_cell_107 (by decide) ?_
                  exact g_zret hx hb hr (by rfl) hlocks hW hS (⟨bI_1 g9, by rw [if_pos g9]; rfl⟩) d_M_cell_108
                · refine lv_iconst (v := nI 0) hx hb d_M_cell_54 (by decide) ?_
                  exact g_zret hx hb hr (by rfl) hlocks hW hS (⟨bI_0 (by simp [okCell, show ¬ ce < 300 by omega]), (if_neg (by simp [okCell, show ¬ ce < 300 by omega])).symm⟩) d_M_cell_55
