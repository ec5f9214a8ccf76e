set_option maxHeartbeats 4000000 in
set_option maxRecDepth 100000 in
/-- leftOut -/
theorem c_M_leftOut (l : Launch) {D : va_G} {cI cJ cG : ClassId} {ad : Nat → Nat} {co : Nat → va_E} {dl : List Nat} {a rw sh pg ce mg kn cs sm : Nat} (hdl : ∀ i, 400 ≤ i → i < 427 → i ∈ dl) (h400 : co 400 = mO ad a rw sh pg ce mg kn cs sm) {fm : Nat → Int32} {fs : Nat → Int32} {cls : Nat → Int32} {shp : Nat → Int32} {tr : Nat → Int32} {so : Nat → Int32} {lg : Nat → Int32} {sc : Nat → Int32} {lc : Nat → Int32} {fd : Nat → Int32} (h401 : co 401 = .inl (cI, 144, .inl fm)) (h402 : co 402 = .inl (cI, 120, .inl fs)) (h406 : co 406 = .inl (cI, 200, .inl cls)) (h408 : co 408 = .inl (cI, 200, .inl shp)) (h409 : co 409 = .inl (cI, 200, .inl tr)) (h420 : co 420 = .inl (cI, 2400, .inl so)) (h421 : co 421 = .inl (cI, 2400, .inl lg)) (h422 : co 422 = .inl (cI, 12, .inl sc)) (h423 : co 423 = .inl (cI, 12, .inl lc)) (h426 : co 426 = .inl (cI, 200, .inl fd)) {cl : Nat → Nat} {mv sp : Nat → Nat → Nat} (w : Int32) (ha : a ≤ 12) (hn2 : rw ≤ 200) (hok : 0 < rw → okN a (alw tr shp w) cl mv sp rw) (hcl : ∀ k, k < rw → cls k = nI (cl k) ∧ cl k < 10) (hmv : ∀ i j, i < a → j < a → fm (12 * i + j) = nI (mv i j)) (hsp : ∀ i c, i < a → c < 10 → fs (10 * i + c) = nI (sp i c)) (hsh : ∀ k, k < rw → shp k ≠ -1) : gMi l y_M_leftOut (Cond.code y_M_leftOut b_M_leftOut 6 (some .int) :: wA) ({ frames := 2, cells := 0, slots := 0, locals := 51 }) D gCl (gTy cI cJ cG) gNl [.ref (ad 400), .int w] ad co dl (fun r co' => (cntF (fun k => decide (shp k = w) && decide (¬ tr k = -1)) rw = 0 ∧ r = -1 ∧ co' = co) ∨ (0 < cntF (fun k => decide (shp k = w) && decide (¬ tr k = -1)) rw ∧ r = nI (1000 * cntF (fun k => decide (shp k = w) && decide (¬ tr k = -1) && decide (¬ tr k = nI (bln a (alw tr shp w) cl mv sp rw k))) rw / cntF (fun k => decide (shp k = w) && decide (¬ tr k = -1)) rw) ∧ ∃ f420 f421 f422 f423 f426 : Nat → Int32, co' = wS cI cJ co f420 f421 f422 f423 f426)) := by
  refine gMi_of (cc := b_M_leftOut) (maxL := 6) (ret := some .int) (by decide) rfl (Nat.le_of_ble_eq_true rfl) ?_
  intro pp ee s mm below meth cd ls hC hW hS hl
  obtain ⟨hx, hb, hr, hts0, hown, hlocks, hml, hK, hN⟩ := hC
  have hts : ∀ w ∈ wA, w.before _ s = true := fun w h => hts0 w (List.mem_cons_of_mem _ h)
  have hA : ∀ q, s.heap.size ≤ q → gA ad co dl s.heap.size q := fun q h => Or.inr h
  have hl : lv_has ls 6 [(0, .ref (ad 400)), (1, .int w)] := hl
  have hown : s.vm.findClass R_M = some mm.cls := hown
  refine lv_iconst (v := nI 0) hx hb d_M_leftOut_0 (by decide) ?_
  refine lv_istore_n (lv' := [(2, .int (nI 0)), (0, .ref (ad 400)), (1, .int w)]) hx hb d_M_leftOut_1 rfl hl (by decide) rfl (fun ls hl => ?_)
  refine lv_iconst (v := nI 0) hx hb d_M_leftOut_2 (by decide) ?_
  refine lv_istore_n (lv' := [(3, .int (nI 0)), (2, .int (nI 0)), (0, .ref (ad 400)), (1, .int w)]) hx hb d_M_leftOut_3 rfl hl (by decide) rfl (fun ls hl => ?_)
  suffices hloop : ∀ (d k : Nat) (H : Heap) (locs : List Loc) (ls : Array Slot), (k ≤ rw) → (rw + 1 ≤ k + d) → gW D gCl (gA ad co dl s.heap.size) ad (co) dl H → va_S (gA ad co dl s.heap.size) s.heap H locs → lv_has ls 6 [(0, .ref (ad 400)), (1, .int w), (2, .int (nI (cntF (fun k => decide (shp k = w) && decide (¬ tr k = -1)) k))), (3, .int (nI k))] → W pp l ee _ s mm _ below meth cd H locs 0 0 _ (F0 mm 4 ls []) by
    exact hloop (rw + 1) 0 _ _ ls (by omega) (by omega) hW hS (lv_sub hl [2, 3, 1, 0] rfl)
  clear hW hS hl
  intro d
  induction d with
  | zero => intro k H locs ls hk hd; omega
  | succ d ih1 =>
    intro k H locs ls hk hd hW hS hl
    refine lv_iload_n hx hb d_M_leftOut_4 rfl (lv_at hl 3 rfl) ?_
    refine lv_aload_n hx hb d_M_leftOut_5 rfl (lv_at hl 0 rfl) ?_
    refine g_get (C := R_M) (T := F_M) (N := 35) hx hb hts i_M hown hK hW (i := 400) (hdl 400 (by decide) (by decide)) h400 rfl 5 (by decide) (hts _ q_493) (fun _ h9 => h9) rfl d_M_leftOut_6 ?_
    refine n_icmp_ge (tgt := 46) hx hb (by omega) (by omega) d_M_leftOut_9 (by decide) (fun h1 => ?_) (fun h1 => ?_)
    · have hkr : k = rw := by omega
      rw [hkr] at hl
      obtain ⟨M9, hM9⟩ : ∃ v, v = cntF (fun k => decide (shp k = w) && decide (¬ tr k = -1)) rw := ⟨_, rfl⟩
      have hMl := cntF_le (fun k => decide (shp k = w) && decide (¬ tr k = -1)) rw
      rw [← hM9] at hl hMl
      refine lv_iload_n hx hb d_M_leftOut_46 rfl (lv_at hl 2 rfl) ?_
      refine n_if_ne (tgt := 52) hx hb (by omega) d_M_leftOut_47 (by decide) (fun h2 => ?_) (fun h2 => ?_)
      · have hn0 : 0 < rw := by omega
        refine lv_aload_n hx hb d_M_leftOut_52 rfl (lv_at hl 0 rfl) ?_
        refine lv_iload_n hx hb d_M_leftOut_53 rfl (lv_at hl 1 rfl) ?_
        refine g_cVi (As := [.int w]) (rest := []) ⟨hx, hb, hml, hown, hts⟩ (c_M_search l hdl h400 h401 h402 h406 h408 h409 h420 h421 h422 h423 h426 w ha (hok hn0) hcl hmv hsp hsh) (gcwV 1 hts q_654 q_651 q_653 qs_11 q_9 (by decide +kernel) ⟨(Nat.le_of_ble_eq_true rfl), (Nat.le_of_ble_eq_true rfl)⟩) gNl_ok hN hK hW hS hA (hdl 400 (by decide) (by decide)) h400 rfl rfl hl.1 rfl (Nat.le_of_ble_eq_true rfl) d_M_leftOut_54 ⟨Nat.zero_le _, Nat.zero_le _⟩ (fun r co9 H locs hp9 hW hS => ?_)
        obtain ⟨f420, f421, f422, f423, f426, hco9, rfl, hfd⟩ := hp9
        rw [hco9] at hW
        refine lv_istore_n (lv' := [(3, .int (nI (bcs a (alw tr shp w) cl mv sp rw))), (0, .ref (ad 400)), (1, .int w), (2, .int (nI M9))]) hx hb d_M_leftOut_57 rfl hl (by decide) rfl (fun ls hl => ?_)
        refine lv_iconst (v := nI 0) hx hb d_M_leftOut_58 (by decide) ?_
        refine lv_istore (lv' := [(4, .int (nI 0)), (3, .int (nI (bcs a (alw tr shp w) cl mv sp rw))), (0, .ref (ad 400)), (1, .int w), (2, .int (nI M9))]) hx hb d_M_leftOut_59 hl (by decide) rfl (fun ls hl => ?_)
        refine lv_iconst (v := nI 0) hx hb d_M_leftOut_61 (by decide) ?_
        refine lv_istore (lv' := [(5, .int (nI 0)), (4, .int (nI 0)), (3, .int (nI (bcs a (alw tr shp w) cl mv sp rw))), (0, .ref (ad 400)), (1, .int w), (2, .int (nI M9))]) hx hb d_M_leftOut_62 hl (by decide) rfl (fun ls hl => ?_)
        suffices hloop : ∀ (d2 k : Nat) (H : Heap) (locs : List Loc) (ls : Array Slot), (k ≤ rw) → (rw + 1 ≤ k + d2) → gW D gCl (gA ad co dl s.heap.size) ad (wS cI cJ co f420 f421 f422 f423 f426) dl H → va_S (gA ad co dl s.heap.size) s.heap H locs → lv_has ls 6 [(0, .ref (ad 400)), (1, .int w), (2, .int (nI M9)), (4, .int (nI (cntF (fun k => decide (shp k = w) && decide (¬ tr k = -1) && decide (¬ tr k = nI (bln a (alw tr shp w) cl mv sp rw k))) k))), (5, .int (nI k))] → W pp l ee _ s mm _ below meth cd H locs 0 0 _ (F0 mm 64 ls []) by
          exact hloop (rw + 1) 0 _ _ ls (by omega) (by omega) hW hS (lv_sub hl [3, 4, 5, 1, 0] rfl)
        clear hW hS hl
        intro d2
        induction d2 with
        | zero => intro k H locs ls hk2 hd2; omega
        | succ d2 ih2 =>
          intro k H locs ls hk2 hd2 hW hS hl
          refine lv_iload hx hb d_M_leftOut_64 (lv_at hl 4 rfl) ?_
          refine lv_aload_n hx hb d_M_leftOut_66 rfl (lv_at hl 0 rfl) ?_
          refine g_get (C := R_M) (T := F_M) (N := 35) hx hb hts i_M hown hK hW (i := 400) (hdl 400 (by decide) (by decide)) ((wS_o (by decide)).trans h400) rfl 5 (by decide) (hts _ q_493) (fun _ h9 => h9) rfl d_M_leftOut_67 ?_
          refine n_icmp_ge (tgt := 128) hx hb (by omega) (by omega) d_M_leftOut_70 (by decide) (fun h3 => ?_) (fun h3 => ?_)
          · have hkr2 : k = rw := by omega
            rw [hkr2] at hl
            have hwl := cntF_le (fun k => decide (shp k = w) && decide (¬ tr k = -1) && decide (¬ tr k = nI (bln a (alw tr shp w) cl mv sp rw k))) rw
            refine lv_sipush (v := nI 1000) hx hb d_M_leftOut_128 (by decide) ?_
            refine lv_iload hx hb d_M_leftOut_131 (lv_at hl 3 rfl) ?_
            refine n_mul hx hb d_M_leftOut_133 ?_
            refine lv_iload_n hx hb d_M_leftOut_134 rfl (lv_at hl 2 rfl) ?_
            refine n_div hx hb (by omega) (by omega) (by omega) d_M_leftOut_135 ?_
            exact g_iret hx hb hr hlocks hW hS (Or.inr ⟨by omega, by rw [hM9], _, _, _, _, _, rfl⟩) d_M_leftOut_136
          · refine lv_iload hx hb d_M_leftOut_73 (lv_at hl 3 rfl) ?_
            refine lv_aload_n hx hb d_M_leftOut_75 rfl (lv_at hl 0 rfl) ?_
            refine g_get (C := R_M) (T := F_M) (N := 35) hx hb hts i_M hown hK hW (i := 400) (hdl 400 (by decide) (by decide)) ((wS_o (by decide)).trans h400) rfl 9 (by decide) (hts _ q_497) (fun _ h9 => h9) rfl d_M_leftOut_76 ?_
            refine lv_iload hx hb d_M_leftOut_79 (lv_at hl 4 rfl) ?_
            refine n_iald hx hb hK hW 0 (q := 408) (hdl 408 (by decide) (by decide)) ((wS_o (by decide)).trans h408) rfl (j := k) (by omega) (by omega) d_M_leftOut_81 ?_
            refine lv_iload_n hx hb d_M_leftOut_82 rfl (lv_at hl 1 rfl) ?_
            refine lv_icmp_ne (tgt := 118) hx hb d_M_leftOut_83 (by decide) (fun h4 => ?_) (fun h4 => ?_)
            · refine lv_iconst (v := nI 0) hx hb d_M_leftOut_118 (by decide) ?_
              refine n_add hx hb d_M_leftOut_119 ?_
              refine n_topi (show nI ((cntF (fun k => decide (shp k = w) && decide (¬ tr k = -1) && decide (¬ tr k = nI (bln a (alw tr shp w) cl mv sp rw k))) k) + 0) = nI (cntF (fun k => decide (shp k = w) && decide (¬ tr k = -1) && decide (¬ tr k = nI (bln a (alw tr shp w) cl mv sp rw k))) (k + 1)) from by rw [cntF, if_neg (by simp [h4])]) ?_
              refine lv_istore (lv' := [(4, .int (nI (cntF (fun k => decide (shp k = w) && decide (¬ tr k = -1) && decide (¬ tr k = nI (bln a (alw tr shp w) cl mv sp rw k))) (k + 1)))), (0, .ref (ad 400)), (1, .int w), (2, .int (nI M9)), (5, .int (nI k))]) hx hb d_M_leftOut_120 hl (by decide) rfl (fun ls hl => ?_)
              refine n_iinc (lv' := [(5, .int (nI (k + 1))), (4, .int (nI (cntF (fun k => decide (shp k = w) && decide (¬ tr k = -1) && decide (¬ tr k = nI (bln a (alw tr shp w) cl mv sp rw k))) (k + 1)))), (0, .ref (ad 400)), (1, .int w), (2, .int (nI M9))]) hx hb d_M_leftOut_122 hl (k := 4) rfl (by decide) rfl (fun ls hl => ?_)
              refine lv_goto (tgt := 64) hx hb d_M_leftOut_125 (by decide) ?_
              exact ih2 (k + 1) _ _ ls (by omega) (by omega) hW hS (lv_sub hl [2, 3, 4, 1, 0] rfl)
            · refine lv_aload_n hx hb d_M_leftOut_86 rfl (lv_at hl 0 rfl) ?_
              refine g_get (C := R_M) (T := F_M) (N := 35) hx hb hts i_M hown hK hW (i := 400) (hdl 400 (by decide) (by decide)) ((wS_o (by decide)).trans h400) rfl 10 (by decide) (hts _ q_498) (fun _ h9 => h9) rfl d_M_leftOut_87 ?_
              refine lv_iload hx hb d_M_leftOut_90 (lv_at hl 4 rfl) ?_
              refine n_iald hx hb hK hW 0 (q := 409) (hdl 409 (by decide) (by decide)) ((wS_o (by decide)).trans h409) rfl (j := k) (by omega) (by omega) d_M_leftOut_92 ?_
              refine lv_iconst (v := (-1)) hx hb d_M_leftOut_93 (by decide) ?_
              refine lv_icmp_eq (tgt := 118) hx hb d_M_leftOut_94 (by decide) (fun h5 => ?_) (fun h5 => ?_)
              · refine lv_iconst (v := nI 0) hx hb d_M_leftOut_118 (by decide) ?_
                refine n_add hx hb d_M_leftOut_119 ?_
                refine n_topi (show nI ((cntF (fun k => decide (shp k = w) && decide (¬ tr k = -1) && decide (¬ tr k = nI (bln a (alw tr shp w) cl mv sp rw k))) k) + 0) = nI (cntF (fun k => decide (shp k = w) && decide (¬ tr k = -1) && decide (¬ tr k = nI (bln a (alw tr shp w) cl mv sp rw k))) (k + 1)) from by rw [cntF, if_neg (by simp [h5])]) ?_
                refine lv_istore (lv' := [(4, .int (nI (cntF (fun k => decide (shp k = w) && decide (¬ tr k = -1) && decide (¬ tr k = nI (bln a (alw tr shp w) cl mv sp rw k))) (k + 1)))), (0, .ref (ad 400)), (1, .int w), (2, .int (nI M9)), (5, .int (nI k))]) hx hb d_M_leftOut_120 hl (by decide) rfl (fun ls hl => ?_)
                refine n_iinc (lv' := [(5, .int (nI (k + 1))), (4, .int (nI (cntF (fun k => decide (shp k = w) && decide (¬ tr k = -1) && decide (¬ tr k = nI (bln a (alw tr shp w) cl mv sp rw k))) (k + 1)))), (0, .ref (ad 400)), (1, .int w), (2, .int (nI M9))]) hx hb d_M_leftOut_122 hl (k := 4) rfl (by decide) rfl (fun ls hl => ?_)
                refine lv_goto (tgt := 64) hx hb d_M_leftOut_125 (by decide) ?_
                exact ih2 (k + 1) _ _ ls (by omega) (by omega) hW hS (lv_sub hl [2, 3, 4, 1, 0] rfl)
              · have hfk := hfd k h3
                refine lv_aload_n hx hb d_M_leftOut_97 rfl (lv_at hl 0 rfl) ?_
                refine g_get (C := R_M) (T := F_M) (N := 35) hx hb hts i_M hown hK hW (i := 400) (hdl 400 (by decide) (by decide)) ((wS_o (by decide)).trans h400) rfl 10 (by decide) (hts _ q_498) (fun _ h9 => h9) rfl d_M_leftOut_98 ?_
                refine lv_iload hx hb d_M_leftOut_101 (lv_at hl 4 rfl) ?_
                refine n_iald hx hb hK hW 0 (q := 409) (hdl 409 (by decide) (by decide)) ((wS_o (by decide)).trans h409) rfl (j := k) (by omega) (by omega) d_M_leftOut_103 ?_
                refine lv_aload_n hx hb d_M_leftOut_104 rfl (lv_at hl 0 rfl) ?_
                refine g_get (C := R_M) (T := F_M) (N := 35) hx hb hts i_M hown hK hW (i := 400) (hdl 400 (by decide) (by decide)) ((wS_o (by decide)).trans h400) rfl 34 (by decide) (hts _ q_522) (fun _ h9 => h9) rfl d_M_leftOut_105 ?_
                refine lv_iload hx hb d_M_leftOut_108 (lv_at hl 4 rfl) ?_
                refine n_iald hx hb hK hW 0 (q := 426) (hdl 426 (by decide) (by decide)) wS_426 rfl (j := k) (by omega) (by omega) d_M_leftOut_110 ?_
                refine lv_icmp_eq (tgt := 118) hx hb d_M_leftOut_111 (by decide) (fun h6 => ?_) (fun h6 => ?_)
                · refine lv_iconst (v := nI 0) hx hb d_M_leftOut_118 (by decide) ?_
                  refine n_add hx hb d_M_leftOut_119 ?_
                  refine n_topi (show nI ((cntF (fun k => decide (shp k = w) && decide (¬ tr k = -1) && decide (¬ tr k = nI (bln a (alw tr shp w) cl mv sp rw k))) k) + 0) = nI (cntF (fun k => decide (shp k = w) && decide (¬ tr k = -1) && decide (¬ tr k = nI (bln a (alw tr shp w) cl mv sp rw k))) (k + 1)) from by rw [cntF, if_neg (by rw [hfk] at h6; simp [h6])]) ?_
                  refine lv_istore (lv' := [(4, .int (nI (cntF (fun k => decide (shp k = w) && decide (¬ tr k = -1) && decide (¬ tr k = nI (bln a (alw tr shp w) cl mv sp rw k))) (k + 1)))), (0, .ref (ad 400)), (1, .int w), (2, .int (nI M9)), (5, .int (nI k))]) hx hb d_M_leftOut_120 hl (by decide) rfl (fun ls hl => ?_)
                  refine n_iinc (lv' := [(5, .int (nI (k + 1))), (4, .int (nI (cntF (fun k => decide (shp k = w) && decide (¬ tr k = -1) && decide (¬ tr k = nI (bln a (alw tr shp w) cl mv sp rw k))) (k + 1)))), (0, .ref (ad 400)), (1, .int w), (2, .int (nI M9))]) hx hb d_M_leftOut_122 hl (k := 4) rfl (by decide) rfl (fun ls hl => ?_)
                  refine lv_goto (tgt := 64) hx hb d_M_leftOut_125 (by decide) ?_
                  exact ih2 (k + 1) _ _ ls (by omega) (by omega) hW hS (lv_sub hl [2, 3, 4, 1, 0] rfl)
                · refine lv_iconst (v := nI 1) hx hb d_M_leftOut_114 (by decide) ?_
                  refine lv_goto (tgt := 119) hx hb d_M_leftOut_115 (by decide) ?_
                  refine n_add hx hb d_M_leftOut_119 ?_
                  refine n_topi (show nI ((cntF (fun k => decide (shp k = w) && decide (¬ tr k = -1) && decide (¬ tr k = nI (bln a (alw tr shp w) cl mv sp rw k))) k) + 1) = nI (cntF (fun k => decide (shp k = w) && decide (¬ tr k = -1) && decide (¬ tr k = nI (bln a (alw tr shp w) cl mv sp rw k))) (k + 1)) from by rw [cntF, if_pos (by rw [hfk] at h6; simp [h4, h5, h6])]) ?_
                  refine lv_istore (lv' := [(4, .int (nI (cntF (fun k => decide (shp k = w) && decide (¬ tr k = -1) && decide (¬ tr k = nI (bln a (alw tr shp w) cl mv sp rw k))) (k + 1)))), (0, .ref (ad 400)), (1, .int w), (2, .int (nI M9)), (5, .int (nI k))]) hx hb d_M_leftOut_120 hl (by decide) rfl (fun ls hl => ?_)
                  refine n_iinc (lv' := [(5, .int (nI (k + 1))), (4, .int (nI (cntF (fun k => decide (shp k = w) && decide (¬ tr k = -1) && decide (¬ tr k = nI (bln a (alw tr shp w) cl mv sp rw k))) (k + 1)))), (0, .ref (ad 400)), (1, .int w), (2, .int (nI M9))]) hx hb d_M_leftOut_122 hl (k := 4) rfl (by decide) rfl (fun ls hl => ?_)
                  refine lv_goto (tgt := 64) hx hb d_M_leftOut_125 (by decide) ?_
                  exact ih2 (k + 1) _ _ ls (by omega) (by omega) hW hS (lv_sub hl [2, 3, 4, 1, 0] rfl)
      · refine lv_iconst (v := (-1)) hx hb d_M_leftOut_50 (by decide) ?_
        exact g_iret hx hb hr hlocks hW hS (Or.inl ⟨by omega, rfl, rfl⟩) d_M_leftOut_51
    · refine lv_iload_n hx hb d_M_leftOut_12 rfl (lv_at hl 2 rfl) ?_
      refine lv_aload_n hx hb d_M_leftOut_13 rfl (lv_at hl 0 rfl) ?_
      refine g_get (C := R_M) (T := F_M) (N := 35) hx hb hts i_M hown hK hW (i := 400) (hdl 400 (by decide) (by decide)) h400 rfl 9 (by decide) (hts _ q_497) (fun _ h9 => h9) rfl d_M_leftOut_14 ?_
      refine lv_iload_n hx hb d_M_leftOut_17 rfl (lv_at hl 3 rfl) ?_
      refine n_iald hx hb hK hW 0 (q := 408) (hdl 408 (by decide) (by decide)) h408 rfl (j := k) (by omega) (by omega) d_M_leftOut_18 ?_
      refine lv_iload_n hx hb d_M_leftOut_19 rfl (lv_at hl 1 rfl) ?_
      refine lv_icmp_ne (tgt := 37) hx hb d_M_leftOut_20 (by decide) (fun h4 => ?_) (fun h4 => ?_)
      · refine lv_iconst (v := nI 0) hx hb d_M_leftOut_37 (by decide) ?_
        refine n_add hx hb d_M_leftOut_38 ?_
        refine n_topi (show nI ((cntF (fun k => decide (shp k = w) && decide (¬ tr k = -1)) k) + 0) = nI (cntF (fun k => decide (shp k = w) && decide (¬ tr k = -1)) (k + 1)) from by rw [cntF, if_neg (by simp [h4])]) ?_
        refine lv_istore_n (lv' := [(2, .int (nI (cntF (fun k => decide (shp k = w) && decide (¬ tr k = -1)) (k + 1)))), (0, .ref (ad 400)), (1, .int w), (3, .int (nI k))]) hx hb d_M_leftOut_39 rfl hl (by decide) rfl (fun ls hl => ?_)
        refine n_iinc (lv' := [(3, .int (nI (k + 1))), (2, .int (nI (cntF (fun k => decide (shp k = w) && decide (¬ tr k = -1)) (k + 1)))), (0, .ref (ad 400)), (1, .int w)]) hx hb d_M_leftOut_40 hl (k := 3) rfl (by decide) rfl (fun ls hl => ?_)
        refine lv_goto (tgt := 4) hx hb d_M_leftOut_43 (by decide) ?_
        exact ih1 (k + 1) _ _ ls (by omega) (by omega) hW hS (lv_sub hl [2, 3, 1, 0] rfl)
      · refine lv_aload_n hx hb d_M_leftOut_23 rfl (lv_at hl 0 rfl) ?_
        refine g_get (C := R_M) (T := F_M) (N := 35) hx hb hts i_M hown hK hW (i := 400) (hdl 400 (by decide) (by decide)) h400 rfl 10 (by decide) (hts _ q_498) (fun _ h9 => h9) rfl d_M_leftOut_24 ?_
        refine lv_iload_n hx hb d_M_leftOut_27 rfl (lv_at hl 3 rfl) ?_
        refine n_iald hx hb hK hW 0 (q := 409) (hdl 409 (by decide) (by decide)) h409 rfl (j := k) (by omega) (by omega) d_M_leftOut_28 ?_
        refine lv_iconst (v := (-1)) hx hb d_M_leftOut_29 (by decide) ?_
        refine lv_icmp_eq (tgt := 37) hx hb d_M_leftOut_30 (by decide) (fun h5 => ?_) (fun h5 => ?_)
        · refine lv_iconst (v := nI 0) hx hb d_M_leftOut_37 (by decide) ?_
          refine n_add hx hb d_M_leftOut_38 ?_
          refine n_topi (show nI ((cntF (fun k => decide (shp k = w) && decide (¬ tr k = -1)) k) + 0) = nI (cntF (fun k => decide (shp k = w) && decide (¬ tr k = -1)) (k + 1)) from by rw [cntF, if_neg (by simp [h5])]) ?_
          refine lv_istore_n (lv' := [(2, .int (nI (cntF (fun k => decide (shp k = w) && decide (¬ tr k = -1)) (k + 1)))), (0, .ref (ad 400)), (1, .int w), (3, .int (nI k))]) hx hb d_M_leftOut_39 rfl hl (by decide) rfl (fun ls hl => ?_)
          refine n_iinc (lv' := [(3, .int (nI (k + 1))), (2, .int (nI (cntF (fun k => decide (shp k = w) && decide (¬ tr k = -1)) (k + 1)))), (0, .ref (ad 400)), (1, .int w)]) hx hb d_M_leftOut_40 hl (k := 3) rfl (by decide) rfl (fun ls hl => ?_)
          refine lv_goto (tgt := 4) hx hb d_M_leftOut_43 (by decide) ?_
          exact ih1 (k + 1) _ _ ls (by omega) (by omega) hW hS (lv_sub hl [2, 3, 1, 0] rfl)
        · refine lv_iconst (v := nI 1) hx hb d_M_leftOut_33 (by decide) ?_
          refine lv_goto (tgt := 38) hx hb d_M_leftOut_34 (by decide) ?_
          refine n_add hx hb d_M_leftOut_38 ?_
          refine n_topi (show nI ((cntF (fun k => decide (shp k = w) && decide (¬ tr k = -1)) k) + 1) = nI (cntF (fun k => decide (shp k = w) && decide (¬ tr k = -1)) (k + 1)) from by rw [cntF, if_pos (by simp [h4, h5])]) ?_
          refine lv_istore_n (lv' := [(2, .int (nI (cntF (fun k => decide (shp k = w) && decide (¬ tr k = -1)) (k + 1)))), (0, .ref (ad 400)), (1, .int w), (3, .int (nI k))]) hx hb d_M_leftOut_39 rfl hl (by decide) rfl (fun ls hl => ?_)
          refine n_iinc (lv' := [(3, .int (nI (k + 1))), (2, .int (nI (cntF (fun k => decide (shp k = w) && decide (¬ tr k = -1)) (k + 1)))), (0, .ref (ad 400)), (1, .int w)]) hx hb d_M_leftOut_40 hl (k := 3) rfl (by decide) rfl (fun ls hl => ?_)
          refine lv_goto (tgt := 4) hx hb d_M_leftOut_43 (by decide) ?_
          exact ih1 (k + 1) _ _ ls (by omega) (by omega) hW hS (lv_sub hl [2, 3, 1, 0] rfl)
