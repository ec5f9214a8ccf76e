set_option maxHeartbeats 4000000 in
set_option maxRecDepth 100000 in
/-- night -/
theorem c_M_night (l : Launch) {D : va_G} {cI cJ cG : ClassId} {ad : Nat → Nat} {co : Nat → va_E} {dl : List Nat} {a rw sh pg ce mg kn cs sm : Nat} (hdl : ∀ i, 400 ≤ i → i < 427 → i ∈ dl) (h400 : co 400 = mO ad a rw sh pg ce mg kn cs sm) {sec : Nat → Int64} (h405 : co 405 = .inl (cJ, 200, .inr (.inl sec))) (x : Int32) (hn : rw ≤ 200) : gMi l y_M_night (Cond.code y_M_night b_M_night 4 (some .int) :: wA) ({ frames := 1, cells := 0, slots := 0, locals := 21 }) D gCl (gTy cI cJ cG) gNl [.ref (ad 400), .int x] ad co dl (fun r co' => r = (if inB x rw then sNight (sec x.toNatClampNeg) else -1) ∧ co' = co) := by
  refine gMi_of (cc := b_M_night) (maxL := 4) (ret := some .int) (by decide) rfl (Nat.le_of_ble_eq_true rfl) ?_
  intro pp ee s mm below meth cd ls hC hW hS hl
  obtain ⟨hx, hb, hr, hts0, hown, hlocks, hml, hK, hN⟩ := hC
  have hts : ∀ w ∈ wA, w.before _ s = true := fun w h => hts0 w (List.mem_cons_of_mem _ h)
  have hA : ∀ q, s.heap.size ≤ q → gA ad co dl s.heap.size q := fun q h => Or.inr h
  have hl : lv_has ls 4 [(0, .ref (ad 400)), (1, .int x)] := hl
  have hown : s.vm.findClass R_M = some mm.cls := hown
  refine lv_aload_n hx hb d_M_night_0 rfl (lv_at hl 0 rfl) ?_
  refine lv_iload_n hx hb d_M_night_1 rfl (lv_at hl 1 rfl) ?_
  refine g_cVi (As := [.int x]) (rest := []) ⟨hx, hb, hml, hown, hts⟩ (c_M_isRow l hdl h400 x (by omega)) (gcwV 1 hts q_621 q_618 q_620 qs_9 q_9 (by decide +kernel) ⟨(Nat.le_of_ble_eq_true rfl), (Nat.le_of_ble_eq_true rfl)⟩) gNl_ok hN hK hW hS hA (hdl 400 (by decide) (by decide)) h400 rfl rfl hl.1 rfl (Nat.le_of_ble_eq_true rfl) d_M_night_2 ⟨Nat.zero_le _, Nat.zero_le _⟩ (fun r co9 H locs hp9 hW hS => ?_)
  obtain ⟨rfl, hco9⟩ := hp9
  rw [hco9] at hW
  refine n_ifz_ne (tgt := 10) hx hb d_M_night_5 (by decide) (fun g1 => ?_) (fun g1 => ?_)
  · obtain ⟨j, hj, rfl⟩ := inB_of (by omega) g1
    rw [if_pos g1, nI_clamp (show j < 2 ^ 31 by omega)]
    refine lv_aload_n hx hb d_M_night_10 rfl (lv_at hl 0 rfl) ?_
    refine g_get (C := R_M) (T := F_M) (N := 35) hx hb hts i_M hown hK hW (i := 400) (hdl 400 (by decide) (by decide)) h400 rfl 6 (by decide) (hts _ q_494) (fun _ h9 => h9) rfl d_M_night_11 ?_
    refine lv_iload_n hx hb d_M_night_14 rfl (lv_at hl 1 rfl) ?_
    refine n_lald hx hb hK hW 1 (q := 405) (hdl 405 (by decide) (by decide)) h405 rfl (j := j) (by omega) (by omega) d_M_night_15 ?_
    refine lv_ldc2 hx hb hown (hts _ q_640) d_M_night_16 ?_
    refine lv_lrem hx hb d_M_night_19 (by decide) ?_
    refine lv_lstore_n (lv' := [(2, .long (sec j - sec j / 86400 * 86400)), (0, .ref (ad 400)), (1, .int (nI j))]) hx hb d_M_night_20 rfl hl (by decide) rfl (fun ls hl => ?_)
    refine lv_lload_n hx hb d_M_night_21 rfl (lv_at hl 0 rfl) ?_
    refine lv_ldc2 hx hb hown (hts _ q_641) d_M_night_22 ?_
    refine W.lcmp hx hb d_M_night_25 ?_
    refine lv_if_lt (tgt := 37) hx hb d_M_night_26 (by decide) (fun h1 => ?_) (fun h1 => ?_)
    · refine lv_iconst (v := nI 1) hx hb d_M_night_37 (by decide) ?_
      refine lv_goto (tgt := 42) hx hb d_M_night_38 (by decide) ?_
      exact g_iret hx hb hr hlocks hW hS (⟨bI_1 (by simp [lc_lt h1]), rfl⟩) d_M_night_42
    · refine lv_lload_n hx hb d_M_night_29 rfl (lv_at hl 0 rfl) ?_
      refine lv_ldc2 hx hb hown (hts _ q_642) d_M_night_30 ?_
      refine W.lcmp hx hb d_M_night_33 ?_
      refine lv_if_lt (tgt := 41) hx hb d_M_night_34 (by decide) (fun h2 => ?_) (fun h2 => ?_)
      · refine lv_iconst (v := nI 0) hx hb d_M_night_41 (by decide) ?_
        exact g_iret hx hb hr hlocks hW hS (⟨bI_0 (by simp [L_nle (lc_nlt h1), L_nlt (lc_lt h2)]), rfl⟩) d_M_night_42
      · refine lv_iconst (v := nI 1) hx hb d_M_night_37 (by decide) ?_
        refine lv_goto (tgt := 42) hx hb d_M_night_38 (by decide) ?_
        exact g_iret hx hb hr hlocks hW hS (⟨bI_1 (by simp [lc_nlt h2]), rfl⟩) d_M_night_42
  · refine lv_iconst (v := (-1)) hx hb d_M_night_8 (by decide) ?_
    exact g_iret hx hb hr hlocks hW hS (⟨by simp [g1], rfl⟩) d_M_night_9
set_option maxHeartbeats 4000000 in
set_option maxRecDepth 100000 in
/-- haul -/
theorem c_M_haul (l : Launch) {D : va_G} {cI cJ cG : ClassId} {ad : Nat → Nat} {co : Nat → va_E} {dl : List Nat} {a rw sh pg ce mg kn cs sm : Nat} (hdl : ∀ i, 400 ≤ i → i < 427 → i ∈ dl) (h400 : co 400 = mO ad a rw sh pg ce mg kn cs sm) {sec : Nat → Int64} {ln : Nat → Int32} (h405 : co 405 = .inl (cJ, 200, .inr (.inl sec))) (h417 : co 417 = .inl (cI, 200, .inl ln)) (x e9 : Int32) (hn : kn ≤ 200) : gMi l y_M_haul (Cond.code y_M_haul b_M_haul 6 (some .int) :: wA) ({ frames := 1, cells := 0, slots := 0, locals := 23 }) D gCl (gTy cI cJ cG) gNl [.ref (ad 400), .int x, .int e9] ad co dl (fun r co' => r = sHaul kn ln sec x e9 ∧ co' = co) := by
  refine gMi_of (cc := b_M_haul) (maxL := 6) (ret := some .int) (by decide) rfl (Nat.le_of_ble_eq_true rfl) ?_
  intro pp ee s mm below meth cd ls hC hW hS hl
  obtain ⟨hx, hb, hr, hts0, hown, hlocks, hml, hK, hN⟩ := hC
  have hts : ∀ w ∈ wA, w.before _ s = true := fun w h => hts0 w (List.mem_cons_of_mem _ h)
  have hA : ∀ q, s.heap.size ≤ q → gA ad co dl s.heap.size q := fun q h => Or.inr h
  have hl : lv_has ls 6 [(0, .ref (ad 400)), (1, .int x), (2, .int e9)] := hl
  have hown : s.vm.findClass R_M = some mm.cls := hown
  refine lv_aload_n hx hb d_M_haul_0 rfl (lv_at hl 0 rfl) ?_
  refine lv_iload_n hx hb d_M_haul_1 rfl (lv_at hl 1 rfl) ?_
  refine g_cVi (As := [.int x]) (rest := []) ⟨hx, hb, hml, hown, hts⟩ (c_M_first l hdl h400 h417 x hn) (gcwV 1 hts q_721 q_718 q_720 qs_19 q_9 (by decide +kernel) ⟨(Nat.le_of_ble_eq_true rfl), (Nat.le_of_ble_eq_true rfl)⟩) gNl_ok hN hK hW hS hA (hdl 400 (by decide) (by decide)) h400 rfl rfl hl.1 rfl (Nat.le_of_ble_eq_true rfl) d_M_haul_2 ⟨Nat.zero_le _, Nat.zero_le _⟩ (fun r co9 H locs hp9 hW hS => ?_)
  obtain ⟨rfl, hco9⟩ := hp9
  rw [hco9] at hW
  refine lv_istore_n (lv' := [(3, .int (sFirst kn ln x)), (0, .ref (ad 400)), (1, .int x), (2, .int e9)]) hx hb d_M_haul_5 rfl hl (by decide) rfl (fun ls hl => ?_)
  refine lv_iload_n hx hb d_M_haul_6 rfl (lv_at hl 0 rfl) ?_
  refine lv_iconst (v := (-1)) hx hb d_M_haul_7 (by decide) ?_
  refine lv_icmp_eq (tgt := 20) hx hb d_M_haul_8 (by decide) (fun h1 => ?_) (fun h1 => ?_)
  · refine lv_iconst (v := (-1)) hx hb d_M_haul_20 (by decide) ?_
    exact g_iret hx hb hr hlocks hW hS (⟨by rw [sHaul, if_pos h1], rfl⟩) d_M_haul_21
  · obtain ⟨f, hf, hf1⟩ := sFirst_lt (by omega) h1
    have hsp : sHaul kn ln sec x e9 = sHaulF kn ln sec f e9 := by rw [sHaul, if_neg h1, hf, nI_clamp (show f < 2 ^ 31 by omega)]
    rw [hf] at hl
    refine lv_iload_n hx hb d_M_haul_11 rfl (lv_at hl 3 rfl) ?_
    refine lv_if_lt (tgt := 20) hx hb d_M_haul_12 (by decide) (fun h2 => ?_) (fun h2 => ?_)
    · refine lv_iconst (v := (-1)) hx hb d_M_haul_20 (by decide) ?_
      exact g_iret hx hb hr hlocks hW hS (⟨by rw [hsp, sHaulF, if_neg (by simp [inB_neg h2])], rfl⟩) d_M_haul_21
    · obtain ⟨j, hj, rfl⟩ := nI_of h2
      refine lv_iload_n hx hb d_M_haul_15 rfl (lv_at hl 3 rfl) ?_
      refine lv_iconst (v := nI 1) hx hb d_M_haul_16 (by decide) ?_
      refine n_icmp_le (tgt := 22) hx hb (by omega) (by omega) d_M_haul_17 (by decide) (fun h3 => ?_) (fun h3 => ?_)
      · have hin : inB (nI j) 2 = true := inB_lt (by omega) (by decide)
        refine lv_iload_n hx hb d_M_haul_22 rfl (lv_at hl 3 rfl) ?_
        refine n_if_ne (tgt := 35) hx hb (by omega) d_M_haul_23 (by decide) (fun h4 => ?_) (fun h4 => ?_)
        · refine lv_aload_n hx hb d_M_haul_35 rfl (lv_at hl 1 rfl) ?_
          refine lv_aload_n hx hb d_M_haul_36 rfl (lv_at hl 1 rfl) ?_
          refine lv_iload_n hx hb d_M_haul_37 rfl (lv_at hl 0 rfl) ?_
          refine g_cVi (As := [.int (nI f)]) (rest := [.ref (ad 400)]) ⟨hx, hb, hml, hown, hts⟩ (c_M_last l hdl h400 h417 f (by omega) hn) (gcwV 1 hts q_725 q_722 q_724 qs_20 q_9 (by decide +kernel) ⟨(Nat.le_of_ble_eq_true rfl), (Nat.le_of_ble_eq_true rfl)⟩) gNl_ok hN hK hW hS hA (hdl 400 (by decide) (by decide)) h400 rfl rfl hl.1 rfl (Nat.le_of_ble_eq_true rfl) d_M_haul_38 ⟨Nat.zero_le _, Nat.zero_le _⟩ (fun r co9 H locs hp8 hW hS => ?_)
          obtain ⟨rfl, hco9⟩ := hp8
          rw [hco9] at hW
          refine g_cVl (As := [.int (nI (sLast kn ln f))]) (rest := []) ⟨hx, hb, hml, hown, hts⟩ (c_M_end l hdl h400 h405 (sLast kn ln f) (lastF_lt (by omega)) hn) (gcwV 1 hts q_709 q_706 q_708 qs_18 q_9 (by decide +kernel) ⟨(Nat.le_of_ble_eq_true rfl), (Nat.le_of_ble_eq_true rfl)⟩) gNl_ok hN hK hW hS hA (hdl 400 (by decide) (by decide)) h400 rfl rfl hl.1 rfl (Nat.le_of_ble_eq_true rfl) d_M_haul_41 ⟨Nat.zero_le _, Nat.zero_le _⟩ (fun r co9 H locs hp9 hW hS => ?_)
          obtain ⟨rfl, hco9⟩ := hp9
          rw [hco9] at hW
          refine lv_lstore (lv' := [(4, .long (sEnd kn sec (sLast kn ln f))), (3, .int (nI f)), (0, .ref (ad 400)), (1, .int x), (2, .int (nI j))]) hx hb d_M_haul_44 hl (by decide) rfl (fun ls hl => ?_)
          refine lv_lload hx hb d_M_haul_46 (lv_at hl 0 rfl) ?_
          refine lv_ldc2 hx hb hown (hts _ q_726) d_M_haul_48 ?_
          refine W.lcmp hx hb d_M_haul_51 ?_
          refine lv_if_le (tgt := 59) hx hb d_M_haul_52 (by decide) (fun h5 => ?_) (fun h5 => ?_)
          · refine lv_lload hx hb d_M_haul_59 (lv_at hl 0 rfl) ?_
            refine lv_l2i (v := (sEnd kn sec (sLast kn ln f)).toInt32) hx hb d_M_haul_61 rfl ?_
            exact g_iret hx hb hr hlocks hW hS (⟨by rw [hsp, sHaulF, if_pos hin, if_neg (show ¬ nI j = 0 from nI_ne0 h4 hj), if_neg (L_nle (lc_le h5))], rfl⟩) d_M_haul_62
          · refine lv_iconst (v := (-1)) hx hb d_M_haul_55 (by decide) ?_
            refine lv_goto (tgt := 62) hx hb d_M_haul_56 (by decide) ?_
            exact g_iret hx hb hr hlocks hW hS (⟨by rw [hsp, sHaulF, if_pos hin, if_neg (show ¬ nI j = 0 from nI_ne0 h4 hj), if_pos (lc_nle h5)], rfl⟩) d_M_haul_62
        · refine lv_aload_n hx hb d_M_haul_26 rfl (lv_at hl 1 rfl) ?_
          refine g_get (C := R_M) (T := F_M) (N := 35) hx hb hts i_M hown hK hW (i := 400) (hdl 400 (by decide) (by decide)) h400 rfl 6 (by decide) (hts _ q_494) (fun _ h9 => h9) rfl d_M_haul_27 ?_
          refine lv_iload_n hx hb d_M_haul_30 rfl (lv_at hl 0 rfl) ?_
          refine n_lald hx hb hK hW 1 (q := 405) (hdl 405 (by decide) (by decide)) h405 rfl (j := f) (by omega) (by omega) d_M_haul_31 ?_
          refine lv_goto (tgt := 44) hx hb d_M_haul_32 (by decide) ?_
          refine lv_lstore (lv' := [(4, .long (sec f)), (3, .int (nI f)), (0, .ref (ad 400)), (1, .int x), (2, .int (nI j))]) hx hb d_M_haul_44 hl (by decide) rfl (fun ls hl => ?_)
          refine lv_lload hx hb d_M_haul_46 (lv_at hl 0 rfl) ?_
          refine lv_ldc2 hx hb hown (hts _ q_726) d_M_haul_48 ?_
          refine W.lcmp hx hb d_M_haul_51 ?_
          refine lv_if_le (tgt := 59) hx hb d_M_haul_52 (by decide) (fun h5 => ?_) (fun h5 => ?_)
          · refine lv_lload hx hb d_M_haul_59 (lv_at hl 0 rfl) ?_
            refine lv_l2i (v := (sec f).toInt32) hx hb d_M_haul_61 rfl ?_
            exact g_iret hx hb hr hlocks hW hS (⟨by rw [hsp, sHaulF, if_pos hin, if_pos (show nI j = 0 by rw [h4]; exact nI_0), if_neg (L_nle (lc_le h5))], rfl⟩) d_M_haul_62
          · refine lv_iconst (v := (-1)) hx hb d_M_haul_55 (by decide) ?_
            refine lv_goto (tgt := 62) hx hb d_M_haul_56 (by decide) ?_
            exact g_iret hx hb hr hlocks hW hS (⟨by rw [hsp, sHaulF, if_pos hin, if_pos (show nI j = 0 by rw [h4]; exact nI_0), if_pos (lc_nle h5)], rfl⟩) d_M_haul_62
      · refine lv_iconst (v := (-1)) hx hb d_M_haul_20 (by decide) ?_
        exact g_iret hx hb hr hlocks hW hS (⟨by rw [hsp, sHaulF, if_neg (by simp [inB_ge hj (show 2 ≤ j by omega)])], rfl⟩) d_M_haul_21
set_option maxHeartbeats 4000000 in
set_option maxRecDepth 100000 in
/-- gear -/
theorem c_M_gear (l : Launch) {D : va_G} {cI cJ cG : ClassId} {ad : Nat → Nat} {co : Nat → va_E} {dl : List Nat} {a rw sh pg ce mg kn cs sm : Nat} (hdl : ∀ i, 400 ≤ i → i < 427 → i ∈ dl) (h400 : co 400 = mO ad a rw sh pg ce mg kn cs sm) {trn : Nat → Int32} {ln : Nat → Int32} (h407 : co 407 = .inl (cI, 200, .inl trn)) (h417 : co 417 = .inl (cI, 200, .inl ln)) (x : Int32) (hn : kn ≤ 200) : gMi l y_M_gear (Cond.code y_M_gear b_M_gear 5 (some .int) :: wA) ({ frames := 1, cells := 0, slots := 0, locals := 23 }) D gCl (gTy cI cJ cG) gNl [.ref (ad 400), .int x] ad co dl (fun r co' => r = sGear kn ln trn x ∧ co' = co) := by
  refine gMi_of (cc := b_M_gear) (maxL := 5) (ret := some .int) (by decide) rfl (Nat.le_of_ble_eq_true rfl) ?_
  intro pp ee s mm below meth cd ls hC hW hS hl
  obtain ⟨hx, hb, hr, hts0, hown, hlocks, hml, hK, hN⟩ := hC
  have hts : ∀ w ∈ wA, w.before _ s = true := fun w h => hts0 w (List.mem_cons_of_mem _ h)
  have hA : ∀ q, s.heap.size ≤ q → gA ad co dl s.heap.size q := fun q h => Or.inr h
  have hl : lv_has ls 5 [(0, .ref (ad 400)), (1, .int x)] := hl
  have hown : s.vm.findClass R_M = some mm.cls := hown
  refine lv_aload_n hx hb d_M_gear_0 rfl (lv_at hl 0 rfl) ?_
  refine lv_iload_n hx hb d_M_gear_1 rfl (lv_at hl 1 rfl) ?_
  refine g_cVi (As := [.int x]) (rest := []) ⟨hx, hb, hml, hown, hts⟩ (c_M_first l hdl h400 h417 x hn) (gcwV 1 hts q_721 q_718 q_720 qs_19 q_9 (by decide +kernel) ⟨(Nat.le_of_ble_eq_true rfl), (Nat.le_of_ble_eq_true rfl)⟩) gNl_ok hN hK hW hS hA (hdl 400 (by decide) (by decide)) h400 rfl rfl hl.1 rfl (Nat.le_of_ble_eq_true rfl) d_M_gear_2 ⟨Nat.zero_le _, Nat.zero_le _⟩ (fun r co9 H locs hp9 hW hS => ?_)
  obtain ⟨rfl, hco9⟩ := hp9
  rw [hco9] at hW
  refine lv_istore_n (lv' := [(2, .int (sFirst kn ln x)), (0, .ref (ad 400)), (1, .int x)]) hx hb d_M_gear_5 rfl hl (by decide) rfl (fun ls hl => ?_)
  refine lv_iload_n hx hb d_M_gear_6 rfl (lv_at hl 0 rfl) ?_
  refine lv_iconst (v := (-1)) hx hb d_M_gear_7 (by decide) ?_
  refine lv_icmp_ne (tgt := 13) hx hb d_M_gear_8 (by decide) (fun h1 => ?_) (fun h1 => ?_)
  · obtain ⟨f, hf, hf1⟩ := sFirst_lt (by omega) h1
    have hsp : sGear kn ln trn x = sGearF kn ln trn f := by rw [sGear, if_neg h1, hf, nI_clamp (show f < 2 ^ 31 by omega)]
    obtain ⟨g, hg⟩ : ∃ g, g = sLast kn ln f := ⟨_, rfl⟩
    have hg0 : f ≤ g := by rw [hg]; exact lastF_ge
    have hg1 : g < kn := by rw [hg]; exact lastF_lt (by omega)
    rw [sGearF, ← hg] at hsp
    have hT : ∀ d, turnsF trn f d ≤ d := by
      intro d
      induction d with
      | zero => exact Nat.le_refl 0
      | succ d ih => unfold turnsF; split <;> omega
    rw [hf] at hl
    refine lv_iconst (v := nI 0) hx hb d_M_gear_13 (by decide) ?_
    refine lv_istore_n (lv' := [(3, .int (nI 0)), (2, .int (nI f)), (0, .ref (ad 400)), (1, .int x)]) hx hb d_M_gear_14 rfl hl (by decide) rfl (fun ls hl => ?_)
    refine lv_iload_n hx hb d_M_gear_15 rfl (lv_at hl 1 rfl) ?_
    refine lv_istore (lv' := [(4, .int (nI f)), (3, .int (nI 0)), (2, .int (nI f)), (0, .ref (ad 400)), (1, .int x)]) hx hb d_M_gear_16 hl (by decide) rfl (fun ls hl => ?_)
    suffices hloop : ∀ (d z : Nat) (H : Heap) (locs : List Loc) (ls : Array Slot), (f + z ≤ g + 1) → (g + 2 ≤ f + z + d) → gW D gCl (gA ad co dl s.heap.size) ad co dl H → va_S (gA ad co dl s.heap.size) s.heap H locs → lv_has ls 5 [(0, .ref (ad 400)), (1, .int x), (2, .int (nI f)), (3, .int (nI (turnsF trn f z))), (4, .int (nI (f + z)))] → W pp l ee _ s mm _ below meth cd H locs 0 0 _ (F0 mm 18 ls []) by
      exact hloop (g + 2 - f) 0 _ _ ls (by omega) (by omega) hW hS (lv_sub hl [3, 4, 2, 1, 0] rfl)
    clear hW hS hl
    intro d
    induction d with
    | zero => intro z H locs ls hz hd; omega
    | succ d ih =>
      intro z H locs ls hz hd hW hS hl
      have hTz := hT z
      refine lv_iload hx hb d_M_gear_18 (lv_at hl 4 rfl) ?_
      refine lv_aload_n hx hb d_M_gear_20 rfl (lv_at hl 0 rfl) ?_
      refine lv_iload_n hx hb d_M_gear_21 rfl (lv_at hl 2 rfl) ?_
      refine g_cVi (As := [.int (nI f)]) (rest := [.int (nI (f + z))]) ⟨hx, hb, hml, hown, hts⟩ (c_M_last l hdl h400 h417 f (by omega) hn) (gcwV 1 hts q_725 q_722 q_724 qs_20 q_9 (by decide +kernel) ⟨(Nat.le_of_ble_eq_true rfl), (Nat.le_of_ble_eq_true rfl)⟩) gNl_ok hN hK hW hS hA (hdl 400 (by decide) (by decide)) h400 rfl rfl hl.1 rfl (Nat.le_of_ble_eq_true rfl) d_M_gear_22 ⟨Nat.zero_le _, Nat.zero_le _⟩ (fun r co9 H locs hp8 hW hS => ?_)
      obtain ⟨rfl, hco9⟩ := hp8
      rw [hco9] at hW
      rw [← hg]
      refine n_icmp_gt (tgt := 53) hx hb (by omega) (by omega) d_M_gear_25 (by decide) (fun h2 => ?_) (fun h2 => ?_)
      · have hzz : z = g - f + 1 := by omega
        refine lv_iconst (v := nI 2) hx hb d_M_gear_53 (by decide) ?_
        refine lv_iload_n hx hb d_M_gear_54 rfl (lv_at hl 3 rfl) ?_
        refine n_mul hx hb d_M_gear_55 ?_
        refine lv_aload_n hx hb d_M_gear_56 rfl (lv_at hl 0 rfl) ?_
        refine lv_iload_n hx hb d_M_gear_57 rfl (lv_at hl 2 rfl) ?_
        refine g_cVi (As := [.int (nI f)]) (rest := [.int (nI (2 * (turnsF trn f z)))]) ⟨hx, hb, hml, hown, hts⟩ (c_M_last l hdl h400 h417 f (by omega) hn) (gcwV 1 hts q_725 q_722 q_724 qs_20 q_9 (by decide +kernel) ⟨(Nat.le_of_ble_eq_true rfl), (Nat.le_of_ble_eq_true rfl)⟩) gNl_ok hN hK hW hS hA (hdl 400 (by decide) (by decide)) h400 rfl rfl hl.1 rfl (Nat.le_of_ble_eq_true rfl) d_M_gear_58 ⟨Nat.zero_le _, Nat.zero_le _⟩ (fun r co9 H locs hp8 hW hS => ?_)
        obtain ⟨rfl, hco9⟩ := hp8
        rw [hco9] at hW
        rw [← hg]
        refine lv_iload_n hx hb d_M_gear_61 rfl (lv_at hl 2 rfl) ?_
        refine n_sub hx hb (by omega) d_M_gear_62 ?_
        refine lv_iconst (v := nI 1) hx hb d_M_gear_63 (by decide) ?_
        refine n_add hx hb d_M_gear_64 ?_
        refine n_icmp_le (tgt := 72) hx hb (by omega) (by omega) d_M_gear_65 (by decide) (fun h3 => ?_) (fun h3 => ?_)
        · refine lv_iconst (v := nI 0) hx hb d_M_gear_72 (by decide) ?_
          exact g_iret hx hb hr hlocks hW hS (⟨by rw [hsp, ← hzz]; exact bI_0 (decide_eq_false (by omega)), rfl⟩) d_M_gear_73
        · refine lv_iconst (v := nI 1) hx hb d_M_gear_68 (by decide) ?_
          refine lv_goto (tgt := 73) hx hb d_M_gear_69 (by decide) ?_
          exact g_iret hx hb hr hlocks hW hS (⟨by rw [hsp, ← hzz]; exact bI_1 (decide_eq_true (by omega)), rfl⟩) d_M_gear_73
      · refine lv_iload_n hx hb d_M_gear_28 rfl (lv_at hl 3 rfl) ?_
        refine lv_aload_n hx hb d_M_gear_29 rfl (lv_at hl 0 rfl) ?_
        refine g_get (C := R_M) (T := F_M) (N := 35) hx hb hts i_M hown hK hW (i := 400) (hdl 400 (by decide) (by decide)) h400 rfl 8 (by decide) (hts _ q_496) (fun _ h9 => h9) rfl d_M_gear_30 ?_
        refine lv_iload hx hb d_M_gear_33 (lv_at hl 4 rfl) ?_
        refine n_iald hx hb hK hW 0 (q := 407) (hdl 407 (by decide) (by decide)) h407 rfl (j := f + z) (by omega) (by omega) d_M_gear_35 ?_
        refine lv_iconst (v := nI 2) hx hb d_M_gear_36 (by decide) ?_
        refine lv_icmp_lt (tgt := 44) hx hb d_M_gear_37 (by decide) (fun h3 => ?_) (fun h3 => ?_)
        · refine lv_iconst (v := nI 0) hx hb d_M_gear_44 (by decide) ?_
          refine n_add hx hb d_M_gear_45 ?_
          refine n_topi (show nI ((turnsF trn f z) + 0) = nI (turnsF trn f (z + 1)) from by rw [turnsF, if_neg (Int32.not_le.mpr h3)]) ?_
          refine lv_istore_n (lv' := [(3, .int (nI (turnsF trn f (z + 1)))), (0, .ref (ad 400)), (1, .int x), (2, .int (nI f)), (4, .int (nI (f + z)))]) hx hb d_M_gear_46 rfl hl (by decide) rfl (fun ls hl => ?_)
          refine n_iinc (lv' := [(4, .int (nI (f + z + 1))), (3, .int (nI (turnsF trn f (z + 1)))), (0, .ref (ad 400)), (1, .int x), (2, .int (nI f))]) hx hb d_M_gear_47 hl (k := 4) rfl (by decide) rfl (fun ls hl => ?_)
          refine lv_goto (tgt := 18) hx hb d_M_gear_50 (by decide) ?_
          exact ih (z + 1) _ _ ls (by omega) (by omega) hW hS (lv_sub hl [2, 3, 4, 1, 0] rfl)
        · refine lv_iconst (v := nI 1) hx hb d_M_gear_40 (by decide) ?_
          refine lv_goto (tgt := 45) hx hb d_M_gear_41 (by decide) ?_
          refine n_add hx hb d_M_gear_45 ?_
          refine n_topi (show nI ((turnsF trn f z) + 1) = nI (turnsF trn f (z + 1)) from by rw [turnsF, if_pos (Int32.not_lt.mp h3)]) ?_
          refine lv_istore_n (lv' := [(3, .int (nI (turnsF trn f (z + 1)))), (0, .ref (ad 400)), (1, .int x), (2, .int (nI f)), (4, .int (nI (f + z)))]) hx hb d_M_gear_46 rfl hl (by decide) rfl (fun ls hl => ?_)
          refine n_iinc (lv' := [(4, .int (nI (f + z + 1))), (3, .int (nI (turnsF trn f (z + 1)))), (0, .ref (ad 400)), (1, .int x), (2, .int (nI f))]) hx hb d_M_gear_47 hl (k := 4) rfl (by decide) rfl (fun ls hl => ?_)
          refine lv_goto (tgt := 18) hx hb d_M_gear_50 (by decide) ?_
          exact ih (z + 1) _ _ ls (by omega) (by omega) hW hS (lv_sub hl [2, 3, 4, 1, 0] rfl)
  · refine lv_iconst (v := (-1)) hx hb d_M_gear_11 (by decide) ?_
    exact g_iret hx hb hr hlocks hW hS (⟨by rw [sGear, if_pos h1], rfl⟩) d_M_gear_12
