set_option maxHeartbeats 4000000 in
set_option maxRecDepth 100000 in
/-- differs -/
theorem c_M_differs (l : Launch) {D : va_G} {cI cJ cG : ClassId} {ad : Nat → Nat} {co : Nat → va_E} {dl : List Nat} {a rw sh pg ce mg kn cs sm : Nat} (hdl : ∀ i, 400 ≤ i → i < 427 → i ∈ dl) (h400 : co 400 = mO ad a rw sh pg ce mg kn cs sm) {sec : Nat → Int64} {pf : Nat → Int64} {pt : Nat → Int64} {pa : Nat → Int32} {ln : Nat → Int32} (h405 : co 405 = .inl (cJ, 200, .inr (.inl sec))) (h410 : co 410 = .inl (cJ, 50, .inr (.inl pf))) (h411 : co 411 = .inl (cJ, 50, .inr (.inl pt))) (h412 : co 412 = .inl (cI, 50, .inl pa)) (h417 : co 417 = .inl (cI, 200, .inl ln)) (x e9 : Int32) (hn : kn ≤ 200) (hp : pg ≤ 50) : gMi l y_M_differs (Cond.code y_M_differs b_M_differs 6 (some .int) :: wA) ({ frames := 1, cells := 0, slots := 0, locals := 23 }) D gCl (gTy cI cJ cG) gNl [.ref (ad 400), .int x, .int e9] ad co dl (fun r co' => r = sDiffers kn pg pf pt pa ln sec x e9 ∧ co' = co) := by
  refine gMi_of (cc := b_M_differs) (maxL := 6) (ret := some .int) (by decide) rfl (Nat.le_of_ble_eq_true rfl) ?_
  intro pp ee s mm below meth cd ls hC hW hS hl
  obtain ⟨hx, hb, hr, hts0, hown, hlocks, hml, hK, hN⟩ := hC
  have hts : ∀ w ∈ wA, w.before _ s = true := fun w h => hts0 w (List.mem_cons_of_mem _ h)
  have hA : ∀ q, s.heap.size ≤ q → gA ad co dl s.heap.size q := fun q h => Or.inr h
  have hl : lv_has ls 6 [(0, .ref (ad 400)), (1, .int x), (2, .int e9)] := hl
  have hown : s.vm.findClass R_M = some mm.cls := hown
  by_cases hx0 : x < 0
  · refine lv_iload_n hx hb d_M_differs_0 rfl (lv_at hl 1 rfl) ?_
    refine lv_istore_n (lv' := [(3, .int x), (0, .ref (ad 400)), (1, .int x), (2, .int e9)]) hx hb d_M_differs_1 rfl hl (by decide) rfl (fun ls hl => ?_)
    refine lv_iconst (v := nI 0) hx hb d_M_differs_2 (by decide) ?_
    refine lv_istore (lv' := [(4, .int (nI 0)), (3, .int x), (0, .ref (ad 400)), (1, .int x), (2, .int e9)]) hx hb d_M_differs_3 hl (by decide) rfl (fun ls hl => ?_)
    refine lv_iload hx hb d_M_differs_5 (lv_at hl 0 rfl) ?_
    refine lv_aload_n hx hb d_M_differs_7 rfl (lv_at hl 2 rfl) ?_
    refine g_get (C := R_M) (T := F_M) (N := 35) hx hb hts i_M hown hK hW (i := 400) (hdl 400 (by decide) (by decide)) h400 rfl 22 (by decide) (hts _ q_510) (fun _ h9 => h9) rfl d_M_differs_8 ?_
    refine n_icmp_ge (tgt := 83) hx hb (by omega) (by omega) d_M_differs_11 (by decide) (fun h1 => ?_) (fun h1 => ?_)
    · refine lv_iconst (v := (-1)) hx hb d_M_differs_83 (by decide) ?_
      exact g_iret hx hb hr hlocks hW hS (⟨by rw [sDiffers, if_pos hx0], rfl⟩) d_M_differs_84
    · refine lv_iload_n hx hb d_M_differs_14 rfl (lv_at hl 3 rfl) ?_
      refine lv_if_lt (tgt := 83) hx hb d_M_differs_15 (by decide) (fun h2 => ?_) (fun h2 => ?_)
      · refine lv_iconst (v := (-1)) hx hb d_M_differs_83 (by decide) ?_
        exact g_iret hx hb hr hlocks hW hS (⟨by rw [sDiffers, if_pos hx0], rfl⟩) d_M_differs_84
      · exact absurd hx0 h2
  · have hsp : sDiffers kn pg pf pt pa ln sec x e9 = _ := if_neg hx0
    obtain ⟨j, hj, rfl⟩ := nI_of hx0
    rw [nI_clamp hj] at hsp
    by_cases he0 : e9 < 0
    · refine lv_iload_n hx hb d_M_differs_0 rfl (lv_at hl 1 rfl) ?_
      refine lv_istore_n (lv' := [(3, .int (nI j)), (0, .ref (ad 400)), (1, .int (nI j)), (2, .int e9)]) hx hb d_M_differs_1 rfl hl (by decide) rfl (fun ls hl => ?_)
      refine lv_iconst (v := nI 0) hx hb d_M_differs_2 (by decide) ?_
      refine lv_istore (lv' := [(4, .int (nI 0)), (3, .int (nI j)), (0, .ref (ad 400)), (1, .int (nI j)), (2, .int e9)]) hx hb d_M_differs_3 hl (by decide) rfl (fun ls hl => ?_)
      refine lv_iload hx hb d_M_differs_5 (lv_at hl 0 rfl) ?_
      refine lv_aload_n hx hb d_M_differs_7 rfl (lv_at hl 2 rfl) ?_
      refine g_get (C := R_M) (T := F_M) (N := 35) hx hb hts i_M hown hK hW (i := 400) (hdl 400 (by decide) (by decide)) h400 rfl 22 (by decide) (hts _ q_510) (fun _ h9 => h9) rfl d_M_differs_8 ?_
      refine n_icmp_ge (tgt := 83) hx hb (by omega) (by omega) d_M_differs_11 (by decide) (fun h1 => ?_) (fun h1 => ?_)
      · refine lv_iconst (v := (-1)) hx hb d_M_differs_83 (by decide) ?_
        exact g_iret hx hb hr hlocks hW hS (⟨by rw [hsp, if_neg (by simp [inB_neg he0])], rfl⟩) d_M_differs_84
      · refine lv_iload_n hx hb d_M_differs_14 rfl (lv_at hl 3 rfl) ?_
        refine n_if_lt (tgt := 83) hx hb (by omega) d_M_differs_15 (by decide) ?_
        refine lv_iload_n hx hb d_M_differs_18 rfl (lv_at hl 4 rfl) ?_
        refine lv_if_lt (tgt := 83) hx hb d_M_differs_19 (by decide) (fun h3 => ?_) (fun h3 => ?_)
        · refine lv_iconst (v := (-1)) hx hb d_M_differs_83 (by decide) ?_
          exact g_iret hx hb hr hlocks hW hS (⟨by rw [hsp, if_neg (by simp [inB_neg he0])], rfl⟩) d_M_differs_84
        · exact absurd he0 h3
    · obtain ⟨u, hu, rfl⟩ := nI_of he0
      by_cases he2 : 2 ≤ u
      · refine lv_iload_n hx hb d_M_differs_0 rfl (lv_at hl 1 rfl) ?_
        refine lv_istore_n (lv' := [(3, .int (nI j)), (0, .ref (ad 400)), (1, .int (nI j)), (2, .int (nI u))]) hx hb d_M_differs_1 rfl hl (by decide) rfl (fun ls hl => ?_)
        refine lv_iconst (v := nI 0) hx hb d_M_differs_2 (by decide) ?_
        refine lv_istore (lv' := [(4, .int (nI 0)), (3, .int (nI j)), (0, .ref (ad 400)), (1, .int (nI j)), (2, .int (nI u))]) hx hb d_M_differs_3 hl (by decide) rfl (fun ls hl => ?_)
        refine lv_iload hx hb d_M_differs_5 (lv_at hl 0 rfl) ?_
        refine lv_aload_n hx hb d_M_differs_7 rfl (lv_at hl 2 rfl) ?_
        refine g_get (C := R_M) (T := F_M) (N := 35) hx hb hts i_M hown hK hW (i := 400) (hdl 400 (by decide) (by decide)) h400 rfl 22 (by decide) (hts _ q_510) (fun _ h9 => h9) rfl d_M_differs_8 ?_
        refine n_icmp_ge (tgt := 83) hx hb (by omega) (by omega) d_M_differs_11 (by decide) (fun h1 => ?_) (fun h1 => ?_)
        · refine lv_iconst (v := (-1)) hx hb d_M_differs_83 (by decide) ?_
          exact g_iret hx hb hr hlocks hW hS (⟨by rw [hsp, if_neg (by simp [inB_ge hu he2])], rfl⟩) d_M_differs_84
        · refine lv_iload_n hx hb d_M_differs_14 rfl (lv_at hl 3 rfl) ?_
          refine n_if_lt (tgt := 83) hx hb (by omega) d_M_differs_15 (by decide) ?_
          refine lv_iload_n hx hb d_M_differs_18 rfl (lv_at hl 4 rfl) ?_
          refine n_if_lt (tgt := 83) hx hb (by omega) d_M_differs_19 (by decide) ?_
          refine lv_iload_n hx hb d_M_differs_22 rfl (lv_at hl 4 rfl) ?_
          refine lv_iconst (v := nI 2) hx hb d_M_differs_23 (by decide) ?_
          refine n_icmp_ge (tgt := 83) hx hb (by omega) (by omega) d_M_differs_24 (by decide) (fun h4 => ?_) (fun h4 => ?_)
          · refine lv_iconst (v := (-1)) hx hb d_M_differs_83 (by decide) ?_
            exact g_iret hx hb hr hlocks hW hS (⟨by rw [hsp, if_neg (by simp [inB_ge hu he2])], rfl⟩) d_M_differs_84
          · omega
      · rw [if_pos (inB_lt (by omega) (by decide))] at hsp
        refine lv_iload_n hx hb d_M_differs_0 rfl (lv_at hl 1 rfl) ?_
        refine lv_istore_n (lv' := [(3, .int (nI j)), (0, .ref (ad 400)), (1, .int (nI j)), (2, .int (nI u))]) hx hb d_M_differs_1 rfl hl (by decide) rfl (fun ls hl => ?_)
        refine lv_iconst (v := nI 0) hx hb d_M_differs_2 (by decide) ?_
        refine lv_istore (lv' := [(4, .int (nI 0)), (3, .int (nI j)), (0, .ref (ad 400)), (1, .int (nI j)), (2, .int (nI u))]) hx hb d_M_differs_3 hl (by decide) rfl (fun ls hl => ?_)
        suffices hloop : ∀ (d k q : Nat) (H : Heap) (locs : List Loc) (ls : Array Slot), (k ≤ kn) → (kn + 1 ≤ k + d) → (nthF (sDif pg pf pt pa ln sec) kn 0 j = nthF (sDif pg pf pt pa ln sec) (kn - k) k q) → (q ≤ j) → gW D gCl (gA ad co dl s.heap.size) ad co dl H → va_S (gA ad co dl s.heap.size) s.heap H locs → lv_has ls 6 [(0, .ref (ad 400)), (1, .int (nI j)), (2, .int (nI u)), (3, .int (nI q)), (4, .int (nI k))] → W pp l ee _ s mm _ below meth cd H locs 0 0 _ (F0 mm 5 ls []) by
          exact hloop (kn + 1) 0 j _ _ ls (by omega) (by omega) rfl (Nat.le_refl j) hW hS (lv_sub hl [2, 3, 4, 1, 0] rfl)
        clear hW hS hl
        intro d
        induction d with
        | zero => intro k q H locs ls hk hd hv hqj; omega
        | succ d ih =>
          intro k q H locs ls hk hd hv hqj hW hS hl
          refine lv_iload hx hb d_M_differs_5 (lv_at hl 4 rfl) ?_
          refine lv_aload_n hx hb d_M_differs_7 rfl (lv_at hl 0 rfl) ?_
          refine g_get (C := R_M) (T := F_M) (N := 35) hx hb hts i_M hown hK hW (i := 400) (hdl 400 (by decide) (by decide)) h400 rfl 22 (by decide) (hts _ q_510) (fun _ h9 => h9) rfl d_M_differs_8 ?_
          refine n_icmp_ge (tgt := 83) hx hb (by omega) (by omega) d_M_differs_11 (by decide) (fun h1 => ?_) (fun h1 => ?_)
          · have hkk : k = kn := by omega
            subst hkk
            rw [Nat.sub_self] at hv
            have hv : nthF (sDif pg pf pt pa ln sec) k 0 j = -1 := hv
            refine lv_iconst (v := (-1)) hx hb d_M_differs_83 (by decide) ?_
            exact g_iret hx hb hr hlocks hW hS (⟨by rw [hsp, if_pos hv], rfl⟩) d_M_differs_84
          · have hs : kn - k = (kn - (k + 1)) + 1 := by omega
            refine lv_iload_n hx hb d_M_differs_14 rfl (lv_at hl 1 rfl) ?_
            refine n_if_lt (tgt := 83) hx hb (by omega) d_M_differs_15 (by decide) ?_
            refine lv_iload_n hx hb d_M_differs_18 rfl (lv_at hl 2 rfl) ?_
            refine n_if_lt (tgt := 83) hx hb (by omega) d_M_differs_19 (by decide) ?_
            refine lv_iload_n hx hb d_M_differs_22 rfl (lv_at hl 2 rfl) ?_
            refine lv_iconst (v := nI 2) hx hb d_M_differs_23 (by decide) ?_
            refine n_icmp_ge (tgt := 83) hx hb (by omega) (by omega) d_M_differs_24 (by decide) (fun h2 => ?_) (fun h2 => ?_)
            · omega
            · refine lv_aload_n hx hb d_M_differs_27 rfl (lv_at hl 0 rfl) ?_
              refine lv_aload_n hx hb d_M_differs_28 rfl (lv_at hl 0 rfl) ?_
              refine g_get (C := R_M) (T := F_M) (N := 35) hx hb hts i_M hown hK hW (i := 400) (hdl 400 (by decide) (by decide)) h400 rfl 6 (by decide) (hts _ q_494) (fun _ h9 => h9) rfl d_M_differs_29 ?_
              refine lv_iload hx hb d_M_differs_32 (lv_at hl 4 rfl) ?_
              refine n_lald hx hb hK hW 1 (q := 405) (hdl 405 (by decide) (by decide)) h405 rfl (j := k) (by omega) (by omega) d_M_differs_34 ?_
              refine g_cVi (As := [.long (sec k)]) (rest := []) ⟨hx, hb, hml, hown, hts⟩ (c_M_told l hdl h400 h410 h411 h412 (sec k) hp) (gcwV 1 hts q_738 q_735 q_737 qs_21 q_9 (by decide +kernel) ⟨(Nat.le_of_ble_eq_true rfl), (Nat.le_of_ble_eq_true rfl)⟩) gNl_ok hN hK hW hS hA (hdl 400 (by decide) (by decide)) h400 rfl rfl hl.1 rfl (Nat.le_of_ble_eq_true rfl) d_M_differs_35 ⟨Nat.zero_le _, Nat.zero_le _⟩ (fun r co9 H locs hp9 hW hS => ?_)
              obtain ⟨rfl, hco9⟩ := hp9
              rw [hco9] at hW
              refine lv_istore (lv' := [(5, .int (toldF pf pt pa (sec k) pg)), (0, .ref (ad 400)), (1, .int (nI j)), (2, .int (nI u)), (3, .int (nI q)), (4, .int (nI k))]) hx hb d_M_differs_38 hl (by decide) rfl (fun ls hl => ?_)
              refine lv_iload hx hb d_M_differs_40 (lv_at hl 0 rfl) ?_
              refine lv_iconst (v := (-1)) hx hb d_M_differs_42 (by decide) ?_
              refine lv_icmp_eq (tgt := 77) hx hb d_M_differs_43 (by decide) (fun h3 => ?_) (fun h3 => ?_)
              · refine n_iinc (lv' := [(4, .int (nI (k + 1))), (5, .int (toldF pf pt pa (sec k) pg)), (0, .ref (ad 400)), (1, .int (nI j)), (2, .int (nI u)), (3, .int (nI q))]) hx hb d_M_differs_77 hl (k := 5) rfl (by decide) rfl (fun ls hl => ?_)
                refine lv_goto (tgt := 5) hx hb d_M_differs_80 (by decide) ?_
                exact ih (k + 1) q _ _ ls (by omega) (by omega) (by rw [hv, hs, nthF, if_neg (by simp [sDif, h3])]) hqj hW hS (lv_sub hl [2, 3, 4, 5, 0] rfl)
              · refine lv_iload hx hb d_M_differs_46 (lv_at hl 0 rfl) ?_
                refine lv_aload_n hx hb d_M_differs_48 rfl (lv_at hl 1 rfl) ?_
                refine g_get (C := R_M) (T := F_M) (N := 35) hx hb hts i_M hown hK hW (i := 400) (hdl 400 (by decide) (by decide)) h400 rfl 23 (by decide) (hts _ q_511) (fun _ h9 => h9) rfl d_M_differs_49 ?_
                refine lv_iload hx hb d_M_differs_52 (lv_at hl 5 rfl) ?_
                refine n_iald hx hb hK hW 0 (q := 417) (hdl 417 (by decide) (by decide)) h417 rfl (j := k) (by omega) (by omega) d_M_differs_54 ?_
                refine lv_icmp_eq (tgt := 77) hx hb d_M_differs_55 (by decide) (fun h4 => ?_) (fun h4 => ?_)
                · refine n_iinc (lv' := [(4, .int (nI (k + 1))), (5, .int (toldF pf pt pa (sec k) pg)), (0, .ref (ad 400)), (1, .int (nI j)), (2, .int (nI u)), (3, .int (nI q))]) hx hb d_M_differs_77 hl (k := 5) rfl (by decide) rfl (fun ls hl => ?_)
                  refine lv_goto (tgt := 5) hx hb d_M_differs_80 (by decide) ?_
                  exact ih (k + 1) q _ _ ls (by omega) (by omega) (by rw [hv, hs, nthF, if_neg (by simp [sDif, h4])]) hqj hW hS (lv_sub hl [2, 3, 4, 5, 0] rfl)
                · have hst : (sDif pg pf pt pa ln sec) k = true := by simp [sDif, h3, h4]
                  refine lv_iload_n hx hb d_M_differs_58 rfl (lv_at hl 4 rfl) ?_
                  refine n_if_ne (tgt := 74) hx hb (by omega) d_M_differs_59 (by decide) (fun h5 => ?_) (fun h5 => ?_)
                  · obtain ⟨q, rfl⟩ : ∃ z, q = z + 1 := ⟨q - 1, by omega⟩
                    refine n_idec (lv' := [(3, .int (nI q)), (5, .int (toldF pf pt pa (sec k) pg)), (0, .ref (ad 400)), (1, .int (nI j)), (2, .int (nI u)), (4, .int (nI k))]) hx hb d_M_differs_74 hl (k := 4) rfl (by decide) rfl (fun ls hl => ?_)
                    refine n_iinc (lv' := [(4, .int (nI (k + 1))), (3, .int (nI q)), (5, .int (toldF pf pt pa (sec k) pg)), (0, .ref (ad 400)), (1, .int (nI j)), (2, .int (nI u))]) hx hb d_M_differs_77 hl (k := 5) rfl (by decide) rfl (fun ls hl => ?_)
                    refine lv_goto (tgt := 5) hx hb d_M_differs_80 (by decide) ?_
                    exact ih (k + 1) q _ _ ls (by omega) (by omega) (by rw [hv, hs, nthF, if_pos hst, if_neg (by omega)]; rfl) (by omega) hW hS (lv_sub hl [3, 4, 5, 1, 0] rfl)
                  · rw [hs, nthF, if_pos hst, if_pos h5] at hv
                    rw [hv, if_neg (nI_ne_m1 (by omega)), nI_clamp (show k < 2 ^ 31 by omega)] at hsp
                    refine lv_iload_n hx hb d_M_differs_62 rfl (lv_at hl 3 rfl) ?_
                    refine n_if_ne (tgt := 71) hx hb (by omega) d_M_differs_63 (by decide) (fun h6 => ?_) (fun h6 => ?_)
                    · refine lv_iload hx hb d_M_differs_71 (lv_at hl 0 rfl) ?_
                      exact g_iret hx hb hr hlocks hW hS (⟨by rw [hsp, if_neg (nI_ne0 h6 hu)], rfl⟩) d_M_differs_73
                    · refine lv_iload hx hb d_M_differs_66 (lv_at hl 5 rfl) ?_
                      refine lv_goto (tgt := 73) hx hb d_M_differs_68 (by decide) ?_
                      exact g_iret hx hb hr hlocks hW hS (⟨by rw [hsp, if_pos (show nI u = 0 by rw [h6]; exact nI_0)], rfl⟩) d_M_differs_73
set_option maxHeartbeats 4000000 in
set_option maxRecDepth 100000 in
/-- map -/
theorem c_M_map (l : Launch) {D : va_G} {cI cJ cG : ClassId} {ad : Nat → Nat} {co : Nat → va_E} {dl : List Nat} {a rw sh pg ce mg kn cs sm : Nat} (hdl : ∀ i, 400 ≤ i → i < 427 → i ∈ dl) (h400 : co 400 = mO ad a rw sh pg ce mg kn cs sm) {cr : Nat → Int32} {cx : Nat → Int32} {cy : Nat → Int32} {ct : Nat → Int64} {ln : Nat → Int32} (h413 : co 413 = .inl (cI, 300, .inl cr)) (h414 : co 414 = .inl (cI, 300, .inl cx)) (h415 : co 415 = .inl (cI, 300, .inl cy)) (h416 : co 416 = .inl (cJ, 300, .inr (.inl ct))) (h417 : co 417 = .inl (cI, 200, .inl ln)) (x y : Int32) (hn : kn ≤ 200) (hc : ce ≤ 300) (hcr : ∀ i, i < ce → ∃ r, cr i = nI r ∧ r < 200) : gMl l y_M_map (Cond.code y_M_map b_M_map 6 (some .long) :: wA) ({ frames := 0, cells := 0, slots := 0, locals := 0 }) D gCl (gTy cI cJ cG) gNl [.ref (ad 400), .int x, .int y] ad co dl (fun r co' => r = (if 0 < kn ∧ inB x 20 = true ∧ inB y 20 = true then sMap kn ln cr cx cy ct x y ce else -1) ∧ co' = co) := by
  refine gMl_of (cc := b_M_map) (maxL := 6) (ret := some .long) (by decide) rfl (Nat.le_of_ble_eq_true rfl) ?_
  intro pp ee s mm below meth cd ls hC hW hS hl
  obtain ⟨hx, hb, hr, hts0, hown, hlocks, hml, hK, hN⟩ := hC
  have hts : ∀ w ∈ wA, w.before _ s = true := fun w h => hts0 w (List.mem_cons_of_mem _ h)
  have hA : ∀ q, s.heap.size ≤ q → gA ad co dl s.heap.size q := fun q h => Or.inr h
  have hl : lv_has ls 6 [(0, .ref (ad 400)), (1, .int x), (2, .int y)] := hl
  have hown : s.vm.findClass R_M = some mm.cls := hown
  refine lv_aload_n hx hb d_M_map_0 rfl (lv_at hl 0 rfl) ?_
  refine g_get (C := R_M) (T := F_M) (N := 35) hx hb hts i_M hown hK hW (i := 400) (hdl 400 (by decide) (by decide)) h400 rfl 22 (by decide) (hts _ q_510) (fun _ h9 => h9) rfl d_M_map_1 ?_
  refine n_if_eq (tgt := 27) hx hb (by omega) d_M_map_4 (by decide) (fun h1 => ?_) (fun h1 => ?_)
  · refine lv_ldc2 hx hb hown (hts _ q_685) d_M_map_27 ?_
    exact g_lret hx hb hr hlocks hW hS (⟨by rw [if_neg (by simp [h1])], rfl⟩) d_M_map_30
  · refine lv_iload_n hx hb d_M_map_7 rfl (lv_at hl 1 rfl) ?_
    refine lv_if_lt (tgt := 27) hx hb d_M_map_8 (by decide) (fun h2 => ?_) (fun h2 => ?_)
    · refine lv_ldc2 hx hb hown (hts _ q_685) d_M_map_27 ?_
      exact g_lret hx hb hr hlocks hW hS (⟨by rw [if_neg (by simp [inB_neg h2])], rfl⟩) d_M_map_30
    · obtain ⟨i, hi, rfl⟩ := nI_of h2
      refine lv_iload_n hx hb d_M_map_11 rfl (lv_at hl 1 rfl) ?_
      refine lv_bipush (v := nI 19) hx hb d_M_map_12 (by decide) ?_
      refine n_icmp_gt (tgt := 27) hx hb (by omega) (by omega) d_M_map_14 (by decide) (fun h3 => ?_) (fun h3 => ?_)
      · refine lv_ldc2 hx hb hown (hts _ q_685) d_M_map_27 ?_
        exact g_lret hx hb hr hlocks hW hS (⟨by rw [if_neg (by simp [inB_ge hi (show 20 ≤ i by omega)])], rfl⟩) d_M_map_30
      · refine lv_iload_n hx hb d_M_map_17 rfl (lv_at hl 2 rfl) ?_
        refine lv_if_lt (tgt := 27) hx hb d_M_map_18 (by decide) (fun h4 => ?_) (fun h4 => ?_)
        · refine lv_ldc2 hx hb hown (hts _ q_685) d_M_map_27 ?_
          exact g_lret hx hb hr hlocks hW hS (⟨by rw [if_neg (by simp [inB_neg h4])], rfl⟩) d_M_map_30
        · obtain ⟨j, hj, rfl⟩ := nI_of h4
          refine lv_iload_n hx hb d_M_map_21 rfl (lv_at hl 2 rfl) ?_
          refine lv_bipush (v := nI 19) hx hb d_M_map_22 (by decide) ?_
          refine n_icmp_le (tgt := 31) hx hb (by omega) (by omega) d_M_map_24 (by decide) (fun h5 => ?_) (fun h5 => ?_)
          · refine lv_lconst (v := 0) hx hb d_M_map_31 (by decide) ?_
            refine lv_lstore_n (lv' := [(3, .long 0), (0, .ref (ad 400)), (1, .int (nI i)), (2, .int (nI j))]) hx hb d_M_map_32 rfl hl (by decide) rfl (fun ls hl => ?_)
            refine lv_iconst (v := nI 0) hx hb d_M_map_33 (by decide) ?_
            refine lv_istore (lv' := [(5, .int (nI 0)), (3, .long 0), (0, .ref (ad 400)), (1, .int (nI i)), (2, .int (nI j))]) hx hb d_M_map_34 hl (by decide) rfl (fun ls hl => ?_)
            suffices hloop : ∀ (d k : Nat) (H : Heap) (locs : List Loc) (ls : Array Slot), (k ≤ ce) → (ce + 1 ≤ k + d) → gW D gCl (gA ad co dl s.heap.size) ad co dl H → va_S (gA ad co dl s.heap.size) s.heap H locs → lv_has ls 6 [(0, .ref (ad 400)), (1, .int (nI i)), (2, .int (nI j)), (3, .long (sMap kn ln cr cx cy ct (nI i) (nI j) k)), (5, .int (nI k))] → W pp l ee _ s mm _ below meth cd H locs 0 0 _ (F0 mm 36 ls []) by
              exact hloop (ce + 1) 0 _ _ ls (by omega) (by omega) hW hS (lv_sub hl [2, 3, 4, 1, 0] rfl)
            clear hW hS hl
            intro d
            induction d with
            | zero => intro k H locs ls hk hd; omega
            | succ d ih =>
              intro k H locs ls hk hd hW hS hl
              refine lv_iload hx hb d_M_map_36 (lv_at hl 4 rfl) ?_
              refine lv_aload_n hx hb d_M_map_38 rfl (lv_at hl 0 rfl) ?_
              refine g_get (C := R_M) (T := F_M) (N := 35) hx hb hts i_M hown hK hW (i := 400) (hdl 400 (by decide) (by decide)) h400 rfl 16 (by decide) (hts _ q_504) (fun _ h9 => h9) rfl d_M_map_39 ?_
              refine n_icmp_ge (tgt := 117) hx hb (by omega) (by omega) d_M_map_42 (by decide) (fun h6 => ?_) (fun h6 => ?_)
              · have hkk : k = ce := by omega
                subst hkk
                refine lv_lload_n hx hb d_M_map_117 rfl (lv_at hl 3 rfl) ?_
                exact g_lret hx hb hr hlocks hW hS (⟨by rw [if_pos ⟨by omega, inB_lt (by omega) (by decide), inB_lt (by omega) (by decide)⟩], rfl⟩) d_M_map_118
              · refine lv_lload_n hx hb d_M_map_45 rfl (lv_at hl 3 rfl) ?_
                refine lv_aload_n hx hb d_M_map_46 rfl (lv_at hl 0 rfl) ?_
                refine g_get (C := R_M) (T := F_M) (N := 35) hx hb hts i_M hown hK hW (i := 400) (hdl 400 (by decide) (by decide)) h400 rfl 18 (by decide) (hts _ q_506) (fun _ h9 => h9) rfl d_M_map_47 ?_
                refine lv_iload hx hb d_M_map_50 (lv_at hl 4 rfl) ?_
                refine n_iald hx hb hK hW 0 (q := 414) (hdl 414 (by decide) (by decide)) h414 rfl (j := k) (by omega) (by omega) d_M_map_52 ?_
                refine lv_iload_n hx hb d_M_map_53 rfl (lv_at hl 1 rfl) ?_
                refine lv_icmp_ne (tgt := 108) hx hb d_M_map_54 (by decide) (fun h7 => ?_) (fun h7 => ?_)
                · refine lv_lconst (v := 0) hx hb d_M_map_108 (by decide) ?_
                  refine lv_ladd hx hb d_M_map_109 ?_
                  refine n_topl (show _ = sMap kn ln cr cx cy ct (nI i) (nI j) (k + 1) by rw [sMap, if_neg (fun z => h7 z.1)]) ?_
                  refine lv_lstore_n (lv' := [(3, .long (sMap kn ln cr cx cy ct (nI i) (nI j) (k + 1))), (0, .ref (ad 400)), (1, .int (nI i)), (2, .int (nI j)), (5, .int (nI k))]) hx hb d_M_map_110 rfl hl (by decide) rfl (fun ls hl => ?_)
                  refine n_iinc (lv' := [(5, .int (nI (k + 1))), (3, .long (sMap kn ln cr cx cy ct (nI i) (nI j) (k + 1))), (0, .ref (ad 400)), (1, .int (nI i)), (2, .int (nI j))]) hx hb d_M_map_111 hl (k := 4) rfl (by decide) rfl (fun ls hl => ?_)
                  refine lv_goto (tgt := 36) hx hb d_M_map_114 (by decide) ?_
                  exact ih (k + 1) _ _ ls (by omega) (by omega) hW hS (lv_sub hl [2, 3, 4, 1, 0] rfl)
                · refine lv_aload_n hx hb d_M_map_57 rfl (lv_at hl 0 rfl) ?_
                  refine g_get (C := R_M) (T := F_M) (N := 35) hx hb hts i_M hown hK hW (i := 400) (hdl 400 (by decide) (by decide)) h400 rfl 19 (by decide) (hts _ q_507) (fun _ h9 => h9) rfl d_M_map_58 ?_
                  refine lv_iload hx hb d_M_map_61 (lv_at hl 4 rfl) ?_
                  refine n_iald hx hb hK hW 0 (q := 415) (hdl 415 (by decide) (by decide)) h415 rfl (j := k) (by omega) (by omega) d_M_map_63 ?_
                  refine lv_iload_n hx hb d_M_map_64 rfl (lv_at hl 2 rfl) ?_
                  refine lv_icmp_ne (tgt := 108) hx hb d_M_map_65 (by decide) (fun h8 => ?_) (fun h8 => ?_)
                  · refine lv_lconst (v := 0) hx hb d_M_map_108 (by decide) ?_
                    refine lv_ladd hx hb d_M_map_109 ?_
                    refine n_topl (show _ = sMap kn ln cr cx cy ct (nI i) (nI j) (k + 1) by rw [sMap, if_neg (fun z => h8 z.2.1)]) ?_
                    refine lv_lstore_n (lv' := [(3, .long (sMap kn ln cr cx cy ct (nI i) (nI j) (k + 1))), (0, .ref (ad 400)), (1, .int (nI i)), (2, .int (nI j)), (5, .int (nI k))]) hx hb d_M_map_110 rfl hl (by decide) rfl (fun ls hl => ?_)
                    refine n_iinc (lv' := [(5, .int (nI (k + 1))), (3, .long (sMap kn ln cr cx cy ct (nI i) (nI j) (k + 1))), (0, .ref (ad 400)), (1, .int (nI i)), (2, .int (nI j))]) hx hb d_M_map_111 hl (k := 4) rfl (by decide) rfl (fun ls hl => ?_)
                    refine lv_goto (tgt := 36) hx hb d_M_map_114 (by decide) ?_
                    exact ih (k + 1) _ _ ls (by omega) (by omega) hW hS (lv_sub hl [2, 3, 4, 1, 0] rfl)
                  · obtain ⟨r, hr1, hr2⟩ := hcr k h6
                    refine lv_aload_n hx hb d_M_map_68 rfl (lv_at hl 0 rfl) ?_
                    refine g_get (C := R_M) (T := F_M) (N := 35) hx hb hts i_M hown hK hW (i := 400) (hdl 400 (by decide) (by decide)) h400 rfl 17 (by decide) (hts _ q_505) (fun _ h9 => h9) rfl d_M_map_69 ?_
                    refine lv_iload hx hb d_M_map_72 (lv_at hl 4 rfl) ?_
                    refine n_iald hx hb hK hW 0 (q := 413) (hdl 413 (by decide) (by decide)) h413 rfl (j := k) (by omega) (by omega) d_M_map_74 ?_
                    refine n_topi (show cr k = nI r from hr1) ?_
                    refine lv_aload_n hx hb d_M_map_75 rfl (lv_at hl 0 rfl) ?_
                    refine g_get (C := R_M) (T := F_M) (N := 35) hx hb hts i_M hown hK hW (i := 400) (hdl 400 (by decide) (by decide)) h400 rfl 22 (by decide) (hts _ q_510) (fun _ h9 => h9) rfl d_M_map_76 ?_
                    refine n_icmp_ge (tgt := 108) hx hb (by omega) (by omega) d_M_map_79 (by decide) (fun h9 => ?_) (fun h9 => ?_)
                    · refine lv_lconst (v := 0) hx hb d_M_map_108 (by decide) ?_
                      refine lv_ladd hx hb d_M_map_109 ?_
                      refine n_topl (show _ = sMap kn ln cr cx cy ct (nI i) (nI j) (k + 1) by rw [sMap, if_neg (fun z => by rw [hr1] at z; exact absurd ((nI_ltI (by omega) (by omega)).mp z.2.2.1) (by omega))]) ?_
                      refine lv_lstore_n (lv' := [(3, .long (sMap kn ln cr cx cy ct (nI i) (nI j) (k + 1))), (0, .ref (ad 400)), (1, .int (nI i)), (2, .int (nI j)), (5, .int (nI k))]) hx hb d_M_map_110 rfl hl (by decide) rfl (fun ls hl => ?_)
                      refine n_iinc (lv' := [(5, .int (nI (k + 1))), (3, .long (sMap kn ln cr cx cy ct (nI i) (nI j) (k + 1))), (0, .ref (ad 400)), (1, .int (nI i)), (2, .int (nI j))]) hx hb d_M_map_111 hl (k := 4) rfl (by decide) rfl (fun ls hl => ?_)
                      refine lv_goto (tgt := 36) hx hb d_M_map_114 (by decide) ?_
                      exact ih (k + 1) _ _ ls (by omega) (by omega) hW hS (lv_sub hl [2, 3, 4, 1, 0] rfl)
                    · refine lv_aload_n hx hb d_M_map_82 rfl (lv_at hl 0 rfl) ?_
                      refine g_get (C := R_M) (T := F_M) (N := 35) hx hb hts i_M hown hK hW (i := 400) (hdl 400 (by decide) (by decide)) h400 rfl 23 (by decide) (hts _ q_511) (fun _ h9 => h9) rfl d_M_map_83 ?_
                      refine lv_aload_n hx hb d_M_map_86 rfl (lv_at hl 0 rfl) ?_
                      refine g_get (C := R_M) (T := F_M) (N := 35) hx hb hts i_M hown hK hW (i := 400) (hdl 400 (by decide) (by decide)) h400 rfl 17 (by decide) (hts _ q_505) (fun _ h9 => h9) rfl d_M_map_87 ?_
                      refine lv_iload hx hb d_M_map_90 (lv_at hl 4 rfl) ?_
                      refine n_iald hx hb hK hW 0 (q := 413) (hdl 413 (by decide) (by decide)) h413 rfl (j := k) (by omega) (by omega) d_M_map_92 ?_
                      refine n_topi (show cr k = nI r from hr1) ?_
                      refine n_iald hx hb hK hW 0 (q := 417) (hdl 417 (by decide) (by decide)) h417 rfl (j := r) (by omega) (by omega) d_M_map_93 ?_
                      refine lv_iconst (v := nI 3) hx hb d_M_map_94 (by decide) ?_
                      refine lv_icmp_ne (tgt := 108) hx hb d_M_map_95 (by decide) (fun h10 => ?_) (fun h10 => ?_)
                      · refine lv_lconst (v := 0) hx hb d_M_map_108 (by decide) ?_
                        refine lv_ladd hx hb d_M_map_109 ?_
                        refine n_topl (show _ = sMap kn ln cr cx cy ct (nI i) (nI j) (k + 1) by rw [sMap, if_neg (fun z => h10 (by have := z.2.2.2; rw [hr1, nI_clamp (show r < 2 ^ 31 by omega)] at this; exact this))]) ?_
                        refine lv_lstore_n (lv' := [(3, .long (sMap kn ln cr cx cy ct (nI i) (nI j) (k + 1))), (0, .ref (ad 400)), (1, .int (nI i)), (2, .int (nI j)), (5, .int (nI k))]) hx hb d_M_map_110 rfl hl (by decide) rfl (fun ls hl => ?_)
                        refine n_iinc (lv' := [(5, .int (nI (k + 1))), (3, .long (sMap kn ln cr cx cy ct (nI i) (nI j) (k + 1))), (0, .ref (ad 400)), (1, .int (nI i)), (2, .int (nI j))]) hx hb d_M_map_111 hl (k := 4) rfl (by decide) rfl (fun ls hl => ?_)
                        refine lv_goto (tgt := 36) hx hb d_M_map_114 (by decide) ?_
                        exact ih (k + 1) _ _ ls (by omega) (by omega) hW hS (lv_sub hl [2, 3, 4, 1, 0] rfl)
                      · refine lv_aload_n hx hb d_M_map_98 rfl (lv_at hl 0 rfl) ?_
                        refine g_get (C := R_M) (T := F_M) (N := 35) hx hb hts i_M hown hK hW (i := 400) (hdl 400 (by decide) (by decide)) h400 rfl 20 (by decide) (hts _ q_508) (fun _ h9 => h9) rfl d_M_map_99 ?_
                        refine lv_iload hx hb d_M_map_102 (lv_at hl 4 rfl) ?_
                        refine n_lald hx hb hK hW 1 (q := 416) (hdl 416 (by decide) (by decide)) h416 rfl (j := k) (by omega) (by omega) d_M_map_104 ?_
                        refine lv_goto (tgt := 109) hx hb d_M_map_105 (by decide) ?_
                        refine lv_ladd hx hb d_M_map_109 ?_
                        refine n_topl (show _ = sMap kn ln cr cx cy ct (nI i) (nI j) (k + 1) by rw [sMap, if_pos ⟨h7, h8, by rw [hr1]; exact nI_lt h9 (by omega), by rw [hr1, nI_clamp (show r < 2 ^ 31 by omega)]; exact h10⟩]) ?_
                        refine lv_lstore_n (lv' := [(3, .long (sMap kn ln cr cx cy ct (nI i) (nI j) (k + 1))), (0, .ref (ad 400)), (1, .int (nI i)), (2, .int (nI j)), (5, .int (nI k))]) hx hb d_M_map_110 rfl hl (by decide) rfl (fun ls hl => ?_)
                        refine n_iinc (lv' := [(5, .int (nI (k + 1))), (3, .long (sMap kn ln cr cx cy ct (nI i) (nI j) (k + 1))), (0, .ref (ad 400)), (1, .int (nI i)), (2, .int (nI j))]) hx hb d_M_map_111 hl (k := 4) rfl (by decide) rfl (fun ls hl => ?_)
                        refine lv_goto (tgt := 36) hx hb d_M_map_114 (by decide) ?_
                        exact ih (k + 1) _ _ ls (by omega) (by omega) hW hS (lv_sub hl [2, 3, 4, 1, 0] rfl)
          · refine lv_ldc2 hx hb hown (hts _ q_685) d_M_map_27 ?_
            exact g_lret hx hb hr hlocks hW hS (⟨by rw [if_neg (by simp [inB_ge hj (show 20 ≤ j by omega)])], rfl⟩) d_M_map_30
