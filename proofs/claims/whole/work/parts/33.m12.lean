set_option maxHeartbeats 4000000 in
set_option maxRecDepth 100000 in
/-- save -/
theorem c_M_save (l : Launch) {D : va_G} {cI cJ cG : ClassId} {ad : Nat → Nat} {co : Nat → va_E} {dl : List Nat} {a rw sh pg ce mg kn cs sm : Nat} (hdl : ∀ i, 400 ≤ i → i < 427 → i ∈ dl) (h400 : co 400 = mO ad a rw sh pg ce mg kn cs sm) {fm : Nat → Int32} {fs : Nat → Int32} {om : Nat → Int32} {os : Nat → Int32} (h401 : co 401 = .inl (cI, 144, .inl fm)) (h402 : co 402 = .inl (cI, 120, .inl fs)) (h403 : co 403 = .inl (cI, 144, .inl om)) (h404 : co 404 = .inl (cI, 120, .inl os)) (bk : Bool) : gMv l y_M_save (Cond.code y_M_save b_M_save 3 none :: wA) ({ frames := 0, cells := 0, slots := 0, locals := 0 }) D gCl (gTy cI cJ cG) gNl [.ref (ad 400), .int (bI bk)] ad co dl (fun co' => ∃ f401 f402 f403 f404 : Nat → Int32, co' = wV cI cJ co f401 f402 f403 f404 ∧ (∀ j, j < 144 → f401 j = (if bk then om j else fm j) ∧ f403 j = (if bk then om j else fm j)) ∧ ∀ j, j < 120 → f402 j = (if bk then os j else fs j) ∧ f404 j = (if bk then os j else fs j)) := by
  refine gMv_of (cc := b_M_save) (maxL := 3) (ret := none) (by decide) rfl (Nat.le_of_ble_eq_true rfl) ?_
  intro pp ee s mm below meth cd ls hC hW hS hl
  obtain ⟨hx, hb, hr, hts0, hown, hlocks, hml, hK, hN⟩ := hC
  have hts : ∀ w ∈ wA, w.before _ s = true := fun w h => hts0 w (List.mem_cons_of_mem _ h)
  have hA : ∀ q, s.heap.size ≤ q → gA ad co dl s.heap.size q := fun q h => Or.inr h
  have hl : lv_has ls 3 [(0, .ref (ad 400)), (1, .int (bI bk))] := hl
  have hown : s.vm.findClass R_M = some mm.cls := hown
  have hW := gW_eq (wV_self (cJ := cJ) h401 h402 h403 h404) hW
  refine lv_iconst (v := nI 0) hx hb d_M_save_0 (by decide) ?_
  refine lv_istore_n (lv' := [(2, .int (nI 0)), (0, .ref (ad 400)), (1, .int (bI bk))]) hx hb d_M_save_1 rfl hl (by decide) rfl (fun ls hl => ?_)
  suffices hloop : ∀ (dA k : Nat) (U V : Nat → Int32) (H : Heap) (locs : List Loc) (ls : Array Slot), (k ≤ 144) → (144 + 1 ≤ k + dA) → (∀ j, j < k → U j = (if bk then om j else fm j) ∧ V j = (if bk then om j else fm j)) → (∀ j, k ≤ j → U j = fm j ∧ V j = om j) → gW D gCl (gA ad co dl s.heap.size) ad (wV cI cJ co U fs V os) dl H → va_S (gA ad co dl s.heap.size) s.heap H locs → lv_has ls 3 [(0, .ref (ad 400)), (1, .int (bI bk)), (2, .int (nI k))] → W pp l ee _ s mm _ below meth cd H locs 0 0 _ (F0 mm 2 ls []) by
    exact hloop (144 + 1) 0 fm om _ _ ls (by omega) (by omega) (fun j h => absurd h (Nat.not_lt_zero j)) (fun _ _ => ⟨rfl, rfl⟩) hW hS (lv_sub hl [1, 2, 0] rfl)
  clear hW hS hl
  intro dA
  induction dA with
  | zero => intro k U V H locs ls hkA hdA hUA hVA; omega
  | succ dA ihA =>
    intro k U V H locs ls hkA hdA hUA hVA hW hS hl
    refine lv_iload_n hx hb d_M_save_2 rfl (lv_at hl 2 rfl) ?_
    refine lv_sipush (v := nI 144) hx hb d_M_save_3 (by decide) ?_
    refine n_icmp_ge (tgt := 52) hx hb (by omega) (by omega) d_M_save_6 (by decide) (fun h1 => ?_) (fun h1 => ?_)
    · have hkN : k = 144 := by omega
      rw [hkN] at hUA
      clear ihA hkA hdA hVA h1
      obtain ⟨U1, hU1⟩ : ∃ g, g = U := ⟨_, rfl⟩
      obtain ⟨V1, hV1⟩ : ∃ g, g = V := ⟨_, rfl⟩
      rw [← hU1, ← hV1] at hW
      rw [← hU1, ← hV1] at hUA
      clear hU1 hV1
      refine lv_iconst (v := nI 0) hx hb d_M_save_52 (by decide) ?_
      refine lv_istore_n (lv' := [(2, .int (nI 0)), (0, .ref (ad 400)), (1, .int (bI bk))]) hx hb d_M_save_53 rfl hl (by decide) rfl (fun ls hl => ?_)
      suffices hloop : ∀ (dB k : Nat) (U V : Nat → Int32) (H : Heap) (locs : List Loc) (ls : Array Slot), (k ≤ 120) → (120 + 1 ≤ k + dB) → (∀ j, j < k → U j = (if bk then os j else fs j) ∧ V j = (if bk then os j else fs j)) → (∀ j, k ≤ j → U j = fs j ∧ V j = os j) → gW D gCl (gA ad co dl s.heap.size) ad (wV cI cJ co U1 U V1 V) dl H → va_S (gA ad co dl s.heap.size) s.heap H locs → lv_has ls 3 [(0, .ref (ad 400)), (1, .int (bI bk)), (2, .int (nI k))] → W pp l ee _ s mm _ below meth cd H locs 0 0 _ (F0 mm 54 ls []) by
        exact hloop (120 + 1) 0 fs os _ _ ls (by omega) (by omega) (fun j h => absurd h (Nat.not_lt_zero j)) (fun _ _ => ⟨rfl, rfl⟩) hW hS (lv_sub hl [1, 2, 0] rfl)
      clear hW hS hl
      intro dB
      induction dB with
      | zero => intro k U V H locs ls hkB hdB hUB hVB; omega
      | succ dB ihB =>
        intro k U V H locs ls hkB hdB hUB hVB hW hS hl
        refine lv_iload_n hx hb d_M_save_54 rfl (lv_at hl 2 rfl) ?_
        refine lv_bipush (v := nI 120) hx hb d_M_save_55 (by decide) ?_
        refine n_icmp_ge (tgt := 103) hx hb (by omega) (by omega) d_M_save_57 (by decide) (fun h1 => ?_) (fun h1 => ?_)
        · have hkN : k = 120 := by omega
          rw [hkN] at hUB
          exact g_vret hx hb hr hlocks hW hS (⟨_, _, _, _, rfl, hUA, hUB⟩) d_M_save_103
        · have hv9 := hVB k (Nat.le_refl k)
          refine lv_aload_n hx hb d_M_save_60 rfl (lv_at hl 0 rfl) ?_
          refine g_get (C := R_M) (T := F_M) (N := 35) hx hb hts i_M hown hK hW (i := 400) (hdl 400 (by decide) (by decide)) ((wV_o (by decide)).trans h400) rfl 2 (by decide) (hts _ q_490) (fun _ h9 => h9) rfl d_M_save_61 ?_
          refine lv_iload_n hx hb d_M_save_64 rfl (lv_at hl 2 rfl) ?_
          refine lv_iload_n hx hb d_M_save_65 rfl (lv_at hl 1 rfl) ?_
          refine n_ifz_eq (tgt := 78) hx hb d_M_save_66 (by decide) (fun h2 => ?_) (fun h2 => ?_)
          · refine lv_aload_n hx hb d_M_save_78 rfl (lv_at hl 0 rfl) ?_
            refine g_get (C := R_M) (T := F_M) (N := 35) hx hb hts i_M hown hK hW (i := 400) (hdl 400 (by decide) (by decide)) ((wV_o (by decide)).trans h400) rfl 2 (by decide) (hts _ q_490) (fun _ h9 => h9) rfl d_M_save_79 ?_
            refine lv_iload_n hx hb d_M_save_82 rfl (lv_at hl 2 rfl) ?_
            refine n_iald hx hb hK hW 0 (q := 402) (hdl 402 (by decide) (by decide)) wV_402 rfl (j := k) (by omega) (by omega) d_M_save_83 ?_
            refine n_iast (x := U k) hx hb hK hW hS 0 (q := 402) (hdl 402 (by decide) (by decide)) wV_402 rfl (j := k) (by omega) (by omega) d_M_save_84 (fun H locs hW hS => ?_)
            rw [wV_u402] at hW
            refine lv_aload_n hx hb d_M_save_85 rfl (lv_at hl 0 rfl) ?_
            refine g_get (C := R_M) (T := F_M) (N := 35) hx hb hts i_M hown hK hW (i := 400) (hdl 400 (by decide) (by decide)) ((wV_o (by decide)).trans h400) rfl 4 (by decide) (hts _ q_492) (fun _ h9 => h9) rfl d_M_save_86 ?_
            refine lv_iload_n hx hb d_M_save_89 rfl (lv_at hl 2 rfl) ?_
            refine lv_aload_n hx hb d_M_save_90 rfl (lv_at hl 0 rfl) ?_
            refine g_get (C := R_M) (T := F_M) (N := 35) hx hb hts i_M hown hK hW (i := 400) (hdl 400 (by decide) (by decide)) ((wV_o (by decide)).trans h400) rfl 2 (by decide) (hts _ q_490) (fun _ h9 => h9) rfl d_M_save_91 ?_
            refine lv_iload_n hx hb d_M_save_94 rfl (lv_at hl 2 rfl) ?_
            refine n_iald hx hb hK hW 0 (q := 402) (hdl 402 (by decide) (by decide)) wV_402 rfl (j := k) (by omega) (by omega) d_M_save_95 ?_
            refine n_iast (x := (upd U k (U k)) k) hx hb hK hW hS 0 (q := 404) (hdl 404 (by decide) (by decide)) wV_404 rfl (j := k) (by omega) (by omega) d_M_save_96 (fun H locs hW hS => ?_)
            rw [wV_u404] at hW
            refine n_iinc (lv' := [(2, .int (nI (k + 1))), (0, .ref (ad 400)), (1, .int (bI bk))]) hx hb d_M_save_97 hl (k := 2) rfl (by decide) rfl (fun ls hl => ?_)
            refine lv_goto (tgt := 54) hx hb d_M_save_100 (by decide) ?_
            refine ihB (k + 1) (upd U k (U k)) (upd V k (upd U k (U k) k)) _ _ ls (by omega) (by omega) (lt_s (fun j hj => ?_) ?_) (fun j hj => ?_) hW hS (lv_sub hl [1, 2, 0] rfl)
            · rw [pk_un (show j ≠ k by omega), pk_un (show j ≠ k by omega)]; exact hUB j hj
            · rw [pk_us, pk_us, hv9.1]; simp [h2]
            · rw [pk_un (show j ≠ k by omega), pk_un (show j ≠ k by omega)]; exact hVB j (by omega)
          · refine lv_aload_n hx hb d_M_save_69 rfl (lv_at hl 0 rfl) ?_
            refine g_get (C := R_M) (T := F_M) (N := 35) hx hb hts i_M hown hK hW (i := 400) (hdl 400 (by decide) (by decide)) ((wV_o (by decide)).trans h400) rfl 4 (by decide) (hts _ q_492) (fun _ h9 => h9) rfl d_M_save_70 ?_
            refine lv_iload_n hx hb d_M_save_73 rfl (lv_at hl 2 rfl) ?_
            refine n_iald hx hb hK hW 0 (q := 404) (hdl 404 (by decide) (by decide)) wV_404 rfl (j := k) (by omega) (by omega) d_M_save_74 ?_
            refine lv_goto (tgt := 84) hx hb d_M_save_75 (by decide) ?_
            refine n_iast (x := V k) hx hb hK hW hS 0 (q := 402) (hdl 402 (by decide) (by decide)) wV_402 rfl (j := k) (by omega) (by omega) d_M_save_84 (fun H locs hW hS => ?_)
            rw [wV_u402] at hW
            refine lv_aload_n hx hb d_M_save_85 rfl (lv_at hl 0 rfl) ?_
            refine g_get (C := R_M) (T := F_M) (N := 35) hx hb hts i_M hown hK hW (i := 400) (hdl 400 (by decide) (by decide)) ((wV_o (by decide)).trans h400) rfl 4 (by decide) (hts _ q_492) (fun _ h9 => h9) rfl d_M_save_86 ?_
            refine lv_iload_n hx hb d_M_save_89 rfl (lv_at hl 2 rfl) ?_
            refine lv_aload_n hx hb d_M_save_90 rfl (lv_at hl 0 rfl) ?_
            refine g_get (C := R_M) (T := F_M) (N := 35) hx hb hts i_M hown hK hW (i := 400) (hdl 400 (by decide) (by decide)) ((wV_o (by decide)).trans h400) rfl 2 (by decide) (hts _ q_490) (fun _ h9 => h9) rfl d_M_save_91 ?_
            refine lv_iload_n hx hb d_M_save_94 rfl (lv_at hl 2 rfl) ?_
            refine n_iald hx hb hK hW 0 (q := 402) (hdl 402 (by decide) (by decide)) wV_402 rfl (j := k) (by omega) (by omega) d_M_save_95 ?_
            refine n_iast (x := (upd U k (V k)) k) hx hb hK hW hS 0 (q := 404) (hdl 404 (by decide) (by decide)) wV_404 rfl (j := k) (by omega) (by omega) d_M_save_96 (fun H locs hW hS => ?_)
            rw [wV_u404] at hW
            refine n_iinc (lv' := [(2, .int (nI (k + 1))), (0, .ref (ad 400)), (1, .int (bI bk))]) hx hb d_M_save_97 hl (k := 2) rfl (by decide) rfl (fun ls hl => ?_)
            refine lv_goto (tgt := 54) hx hb d_M_save_100 (by decide) ?_
            refine ihB (k + 1) (upd U k (V k)) (upd V k (upd U k (V k) k)) _ _ ls (by omega) (by omega) (lt_s (fun j hj => ?_) ?_) (fun j hj => ?_) hW hS (lv_sub hl [1, 2, 0] rfl)
            · rw [pk_un (show j ≠ k by omega), pk_un (show j ≠ k by omega)]; exact hUB j hj
            · rw [pk_us, pk_us, hv9.2]; simp [h2]
            · rw [pk_un (show j ≠ k by omega), pk_un (show j ≠ k by omega)]; exact hVB j (by omega)
    · have hv9 := hVA k (Nat.le_refl k)
      refine lv_aload_n hx hb d_M_save_9 rfl (lv_at hl 0 rfl) ?_
      refine g_get (C := R_M) (T := F_M) (N := 35) hx hb hts i_M hown hK hW (i := 400) (hdl 400 (by decide) (by decide)) ((wV_o (by decide)).trans h400) rfl 1 (by decide) (hts _ q_489) (fun _ h9 => h9) rfl d_M_save_10 ?_
      refine lv_iload_n hx hb d_M_save_13 rfl (lv_at hl 2 rfl) ?_
      refine lv_iload_n hx hb d_M_save_14 rfl (lv_at hl 1 rfl) ?_
      refine n_ifz_eq (tgt := 27) hx hb d_M_save_15 (by decide) (fun h2 => ?_) (fun h2 => ?_)
      · refine lv_aload_n hx hb d_M_save_27 rfl (lv_at hl 0 rfl) ?_
        refine g_get (C := R_M) (T := F_M) (N := 35) hx hb hts i_M hown hK hW (i := 400) (hdl 400 (by decide) (by decide)) ((wV_o (by decide)).trans h400) rfl 1 (by decide) (hts _ q_489) (fun _ h9 => h9) rfl d_M_save_28 ?_
        refine lv_iload_n hx hb d_M_save_31 rfl (lv_at hl 2 rfl) ?_
        refine n_iald hx hb hK hW 0 (q := 401) (hdl 401 (by decide) (by decide)) wV_401 rfl (j := k) (by omega) (by omega) d_M_save_32 ?_
        refine n_iast (x := U k) hx hb hK hW hS 0 (q := 401) (hdl 401 (by decide) (by decide)) wV_401 rfl (j := k) (by omega) (by omega) d_M_save_33 (fun H locs hW hS => ?_)
        rw [wV_u401] at hW
        refine lv_aload_n hx hb d_M_save_34 rfl (lv_at hl 0 rfl) ?_
        refine g_get (C := R_M) (T := F_M) (N := 35) hx hb hts i_M hown hK hW (i := 400) (hdl 400 (by decide) (by decide)) ((wV_o (by decide)).trans h400) rfl 3 (by decide) (hts _ q_491) (fun _ h9 => h9) rfl d_M_save_35 ?_
        refine lv_iload_n hx hb d_M_save_38 rfl (lv_at hl 2 rfl) ?_
        refine lv_aload_n hx hb d_M_save_39 rfl (lv_at hl 0 rfl) ?_
        refine g_get (C := R_M) (T := F_M) (N := 35) hx hb hts i_M hown hK hW (i := 400) (hdl 400 (by decide) (by decide)) ((wV_o (by decide)).trans h400) rfl 1 (by decide) (hts _ q_489) (fun _ h9 => h9) rfl d_M_save_40 ?_
        refine lv_iload_n hx hb d_M_save_43 rfl (lv_at hl 2 rfl) ?_
        refine n_iald hx hb hK hW 0 (q := 401) (hdl 401 (by decide) (by decide)) wV_401 rfl (j := k) (by omega) (by omega) d_M_save_44 ?_
        refine n_iast (x := (upd U k (U k)) k) hx hb hK hW hS 0 (q := 403) (hdl 403 (by decide) (by decide)) wV_403 rfl (j := k) (by omega) (by omega) d_M_save_45 (fun H locs hW hS => ?_)
        rw [wV_u403] at hW
        refine n_iinc (lv' := [(2, .int (nI (k + 1))), (0, .ref (ad 400)), (1, .int (bI bk))]) hx hb d_M_save_46 hl (k := 2) rfl (by decide) rfl (fun ls hl => ?_)
        refine lv_goto (tgt := 2) hx hb d_M_save_49 (by decide) ?_
        refine ihA (k + 1) (upd U k (U k)) (upd V k (upd U k (U k) k)) _ _ ls (by omega) (by omega) (lt_s (fun j hj => ?_) ?_) (fun j hj => ?_) hW hS (lv_sub hl [1, 2, 0] rfl)
        · rw [pk_un (show j ≠ k by omega), pk_un (show j ≠ k by omega)]; exact hUA j hj
        · rw [pk_us, pk_us, hv9.1]; simp [h2]
        · rw [pk_un (show j ≠ k by omega), pk_un (show j ≠ k by omega)]; exact hVA j (by omega)
      · refine lv_aload_n hx hb d_M_save_18 rfl (lv_at hl 0 rfl) ?_
        refine g_get (C := R_M) (T := F_M) (N := 35) hx hb hts i_M hown hK hW (i := 400) (hdl 400 (by decide) (by decide)) ((wV_o (by decide)).trans h400) rfl 3 (by decide) (hts _ q_491) (fun _ h9 => h9) rfl d_M_save_19 ?_
        refine lv_iload_n hx hb d_M_save_22 rfl (lv_at hl 2 rfl) ?_
        refine n_iald hx hb hK hW 0 (q := 403) (hdl 403 (by decide) (by decide)) wV_403 rfl (j := k) (by omega) (by omega) d_M_save_23 ?_
        refine lv_goto (tgt := 33) hx hb d_M_save_24 (by decide) ?_
        refine n_iast (x := V k) hx hb hK hW hS 0 (q := 401) (hdl 401 (by decide) (by decide)) wV_401 rfl (j := k) (by omega) (by omega) d_M_save_33 (fun H locs hW hS => ?_)
        rw [wV_u401] at hW
        refine lv_aload_n hx hb d_M_save_34 rfl (lv_at hl 0 rfl) ?_
        refine g_get (C := R_M) (T := F_M) (N := 35) hx hb hts i_M hown hK hW (i := 400) (hdl 400 (by decide) (by decide)) ((wV_o (by decide)).trans h400) rfl 3 (by decide) (hts _ q_491) (fun _ h9 => h9) rfl d_M_save_35 ?_
        refine lv_iload_n hx hb d_M_save_38 rfl (lv_at hl 2 rfl) ?_
        refine lv_aload_n hx hb d_M_save_39 rfl (lv_at hl 0 rfl) ?_
        refine g_get (C := R_M) (T := F_M) (N := 35) hx hb hts i_M hown hK hW (i := 400) (hdl 400 (by decide) (by decide)) ((wV_o (by decide)).trans h400) rfl 1 (by decide) (hts _ q_489) (fun _ h9 => h9) rfl d_M_save_40 ?_
        refine lv_iload_n hx hb d_M_save_43 rfl (lv_at hl 2 rfl) ?_
        refine n_iald hx hb hK hW 0 (q := 401) (hdl 401 (by decide) (by decide)) wV_401 rfl (j := k) (by omega) (by omega) d_M_save_44 ?_
        refine n_iast (x := (upd U k (V k)) k) hx hb hK hW hS 0 (q := 403) (hdl 403 (by decide) (by decide)) wV_403 rfl (j := k) (by omega) (by omega) d_M_save_45 (fun H locs hW hS => ?_)
        rw [wV_u403] at hW
        refine n_iinc (lv' := [(2, .int (nI (k + 1))), (0, .ref (ad 400)), (1, .int (bI bk))]) hx hb d_M_save_46 hl (k := 2) rfl (by decide) rfl (fun ls hl => ?_)
        refine lv_goto (tgt := 2) hx hb d_M_save_49 (by decide) ?_
        refine ihA (k + 1) (upd U k (V k)) (upd V k (upd U k (V k) k)) _ _ ls (by omega) (by omega) (lt_s (fun j hj => ?_) ?_) (fun j hj => ?_) hW hS (lv_sub hl [1, 2, 0] rfl)
        · rw [pk_un (show j ≠ k by omega), pk_un (show j ≠ k by omega)]; exact hUA j hj
        · rw [pk_us, pk_us, hv9.2]; simp [h2]
        · rw [pk_un (show j ≠ k by omega), pk_un (show j ≠ k by omega)]; exact hVA j (by omega)
set_option maxHeartbeats 4000000 in
set_option maxRecDepth 100000 in
/-- count -/
theorem c_M_count (l : Launch) {D : va_G} {cI cJ cG : ClassId} {ad : Nat → Nat} {co : Nat → va_E} {dl : List Nat} {a rw sh pg ce mg kn cs sm : Nat} (hdl : ∀ i, 400 ≤ i → i < 427 → i ∈ dl) (h400 : co 400 = mO ad a rw sh pg ce mg kn cs sm) {fm : Nat → Int32} {fs : Nat → Int32} {cls : Nat → Int32} {ln : Nat → Int32} (h401 : co 401 = .inl (cI, 144, .inl fm)) (h402 : co 402 = .inl (cI, 120, .inl fs)) (h406 : co 406 = .inl (cI, 200, .inl cls)) (h417 : co 417 = .inl (cI, 200, .inl ln)) {X cl : Nat → Nat} {mv sp : Nat → Nat → Nat} (ha : a ≤ 12) (hn0 : 0 < rw) (hn2 : rw ≤ 200) (hcl : ∀ k, k < rw → cls k = nI (cl k) ∧ cl k < 10) (hX : ∀ k, k < rw → ln k = nI (X k) ∧ X k < a) (hmv : ∀ i j, i < a → j < a → fm (12 * i + j) = nI (mv i j)) (hsp : ∀ i c, i < a → c < 10 → fs (10 * i + c) = nI (sp i c)) : gMv l y_M_count (Cond.code y_M_count b_M_count 8 none :: wA) ({ frames := 0, cells := 0, slots := 0, locals := 0 }) D gCl (gTy cI cJ cG) gNl [.ref (ad 400)] ad co dl (fun co' => ∃ f401 f402 : Nat → Int32, co' = wC cI cJ co f401 f402 ∧ (∀ i j, i < a → j < a → f401 (12 * i + j) = nI (ftm X rw mv i j)) ∧ ∀ i c, i < a → c < 10 → f402 (10 * i + c) = nI (fts X cl rw sp i c)) := by
  refine gMv_of (cc := b_M_count) (maxL := 8) (ret := none) (by decide) rfl (Nat.le_of_ble_eq_true rfl) ?_
  intro pp ee s mm below meth cd ls hC hW hS hl
  obtain ⟨hx, hb, hr, hts0, hown, hlocks, hml, hK, hN⟩ := hC
  have hts : ∀ w ∈ wA, w.before _ s = true := fun w h => hts0 w (List.mem_cons_of_mem _ h)
  have hA : ∀ q, s.heap.size ≤ q → gA ad co dl s.heap.size q := fun q h => Or.inr h
  have hl : lv_has ls 8 [(0, .ref (ad 400))] := hl
  have hown : s.vm.findClass R_M = some mm.cls := hown
  have hW := gW_eq (wC_self (cJ := cJ) h401 h402) hW
  refine lv_iconst (v := nI 0) hx hb d_M_count_0 (by decide) ?_
  refine lv_istore_n (lv' := [(1, .int (nI 0)), (0, .ref (ad 400))]) hx hb d_M_count_1 rfl hl (by decide) rfl (fun ls hl => ?_)
  suffices hloop : ∀ (d z : Nat) (U V : Nat → Int32) (H : Heap) (locs : List Loc) (ls : Array Slot), (z ≤ a) → (a + 1 ≤ z + d) → (∀ i j, i < a → j < a → U (12 * i + j) = nI (if i < z then ftm X rw mv i j else mv i j)) → (∀ i c, i < a → c < 10 → V (10 * i + c) = nI (if i < z then fts X cl rw sp i c else sp i c)) → gW D gCl (gA ad co dl s.heap.size) ad (wC cI cJ co U V) dl H → va_S (gA ad co dl s.heap.size) s.heap H locs → lv_has ls 8 [(0, .ref (ad 400)), (1, .int (nI z))] → W pp l ee _ s mm _ below meth cd H locs 0 0 _ (F0 mm 2 ls []) by
    exact hloop (a + 1) 0 fm fs _ _ ls (by omega) (by omega) hmv hsp hW hS (lv_sub hl [1, 0] rfl)
  clear hW hS hl
  intro d
  induction d with
  | zero => intro z U V H locs ls hz hd hU hV; omega
  | succ d ih1 =>
    intro z U V H locs ls hz hd hU hV hW hS hl
    refine lv_iload_n hx hb d_M_count_2 rfl (lv_at hl 1 rfl) ?_
    refine lv_aload_n hx hb d_M_count_3 rfl (lv_at hl 0 rfl) ?_
    refine g_get (C := R_M) (T := F_M) (N := 35) hx hb hts i_M hown hK hW (i := 400) (hdl 400 (by decide) (by decide)) ((wC_o (by decide)).trans h400) rfl 0 (by decide) (hts _ q_488) (fun _ h9 => h9) rfl d_M_count_4 ?_
    refine n_icmp_ge (tgt := 291) hx hb (by omega) (by omega) d_M_count_7 (by decide) (fun h1 => ?_) (fun h1 => ?_)
    · have hza : z = a := by omega
      exact g_vret hx hb hr hlocks hW hS (⟨_, _, rfl, fun i j hi hj => by rw [hU i j hi hj, if_pos (by omega)], fun i c hi hc => by rw [hV i c hi hc, if_pos (by omega)]⟩) d_M_count_291
    · refine lv_lconst (v := lN 0) hx hb d_M_count_10 (by decide) ?_
      refine lv_lstore_n (lv' := [(2, .long (lN 0)), (0, .ref (ad 400)), (1, .int (nI z))]) hx hb d_M_count_11 rfl hl (by decide) rfl (fun ls hl => ?_)
      refine lv_iconst (v := nI 0) hx hb d_M_count_12 (by decide) ?_
      refine lv_istore (lv' := [(4, .int (nI 0)), (2, .long (lN 0)), (0, .ref (ad 400)), (1, .int (nI z))]) hx hb d_M_count_13 hl (by decide) rfl (fun ls hl => ?_)
      suffices hloop : ∀ (d2 k : Nat) (H : Heap) (locs : List Loc) (ls : Array Slot), (k ≤ rw - 1) → (rw ≤ k + d2) → gW D gCl (gA ad co dl s.heap.size) ad (wC cI cJ co U V) dl H → va_S (gA ad co dl s.heap.size) s.heap H locs → lv_has ls 8 [(0, .ref (ad 400)), (1, .int (nI z)), (2, .long (lN (cntF (fun k => decide (X k = z)) k))), (4, .int (nI k))] → W pp l ee _ s mm _ below meth cd H locs 0 0 _ (F0 mm 15 ls []) by
        exact hloop rw 0 _ _ ls (by omega) (by omega) hW hS (lv_sub hl [2, 3, 1, 0] rfl)
      clear hW hS hl
      intro d2
      induction d2 with
      | zero => intro k H locs ls hk hd2; omega
      | succ d2 ih2 =>
        intro k H locs ls hk hd2 hW hS hl
        refine lv_iload hx hb d_M_count_15 (lv_at hl 3 rfl) ?_
        refine lv_iconst (v := nI 1) hx hb d_M_count_17 (by decide) ?_
        refine n_add hx hb d_M_count_18 ?_
        refine lv_aload_n hx hb d_M_count_19 rfl (lv_at hl 0 rfl) ?_
        refine g_get (C := R_M) (T := F_M) (N := 35) hx hb hts i_M hown hK hW (i := 400) (hdl 400 (by decide) (by decide)) ((wC_o (by decide)).trans h400) rfl 5 (by decide) (hts _ q_493) (fun _ h9 => h9) rfl d_M_count_20 ?_
        refine n_icmp_ge (tgt := 51) hx hb (by omega) (by omega) d_M_count_23 (by decide) (fun h2 => ?_) (fun h2 => ?_)
        · have hkr : k = rw - 1 := by omega
          obtain ⟨N, hN9⟩ : ∃ v, v = nCh X z rw := ⟨_, rfl⟩
          have hNl := nCh_le X z rw
          rw [← hN9] at hNl
          rw [hkr, show cntF (fun k => decide (X k = z)) (rw - 1) = N from hN9.symm] at hl
          clear ih2
          refine lv_iconst (v := nI 0) hx hb d_M_count_51 (by decide) ?_
          refine lv_istore (lv' := [(4, .int (nI 0)), (0, .ref (ad 400)), (1, .int (nI z)), (2, .long (lN N))]) hx hb d_M_count_52 hl (by decide) rfl (fun ls hl => ?_)
          suffices hloop : ∀ (d3 b : Nat) (U1 : Nat → Int32) (H : Heap) (locs : List Loc) (ls : Array Slot), (b ≤ a) → (a + 1 ≤ b + d3) → (∀ i j, i < a → j < a → U1 (12 * i + j) = nI (if i < z ∨ (i = z ∧ j < b) then ftm X rw mv i j else mv i j)) → gW D gCl (gA ad co dl s.heap.size) ad (wC cI cJ co U1 V) dl H → va_S (gA ad co dl s.heap.size) s.heap H locs → lv_has ls 8 [(0, .ref (ad 400)), (1, .int (nI z)), (2, .long (lN N)), (4, .int (nI b))] → W pp l ee _ s mm _ below meth cd H locs 0 0 _ (F0 mm 54 ls []) by
            exact hloop (a + 1) 0 U _ _ ls (by omega) (by omega) (fun i j hi hj => by rw [hU i j hi hj]; congr 2; apply propext; omega) hW hS (lv_sub hl [1, 2, 3, 0] rfl)
          clear hW hS hl
          intro d3
          induction d3 with
          | zero => intro b U1 H locs ls hbb hd3 hU1; omega
          | succ d3 ih3 =>
            intro b U1 H locs ls hbb hd3 hU1 hW hS hl
            refine lv_iload hx hb d_M_count_54 (lv_at hl 3 rfl) ?_
            refine lv_aload_n hx hb d_M_count_56 rfl (lv_at hl 0 rfl) ?_
            refine g_get (C := R_M) (T := F_M) (N := 35) hx hb hts i_M hown hK hW (i := 400) (hdl 400 (by decide) (by decide)) ((wC_o (by decide)).trans h400) rfl 0 (by decide) (hts _ q_488) (fun _ h9 => h9) rfl d_M_count_57 ?_
            refine n_icmp_ge (tgt := 156) hx hb (by omega) (by omega) d_M_count_60 (by decide) (fun h3 => ?_) (fun h3 => ?_)
            · have hUz : ∀ i j, i < a → j < a → U1 (12 * i + j) = nI (if i < z + 1 then ftm X rw mv i j else mv i j) := fun i j hi hj => by rw [hU1 i j hi hj]; congr 2; apply propext; omega
              clear ih3 hU1
              have hXl := hX (rw - 1) (by omega)
              refine lv_lload_n hx hb d_M_count_156 rfl (lv_at hl 2 rfl) ?_
              refine lv_aload_n hx hb d_M_count_157 rfl (lv_at hl 0 rfl) ?_
              refine g_get (C := R_M) (T := F_M) (N := 35) hx hb hts i_M hown hK hW (i := 400) (hdl 400 (by decide) (by decide)) ((wC_o (by decide)).trans h400) rfl 5 (by decide) (hts _ q_493) (fun _ h9 => h9) rfl d_M_count_158 ?_
              refine n_if_le (tgt := 183) hx hb (by omega) d_M_count_161 (by decide) (fun h8 => ?_) (fun h8 => ?_)
              · omega
              · refine lv_aload_n hx hb d_M_count_164 rfl (lv_at hl 0 rfl) ?_
                refine g_get (C := R_M) (T := F_M) (N := 35) hx hb hts i_M hown hK hW (i := 400) (hdl 400 (by decide) (by decide)) ((wC_o (by decide)).trans h400) rfl 23 (by decide) (hts _ q_511) (fun _ h9 => h9) rfl d_M_count_165 ?_
                refine lv_aload_n hx hb d_M_count_168 rfl (lv_at hl 0 rfl) ?_
                refine g_get (C := R_M) (T := F_M) (N := 35) hx hb hts i_M hown hK hW (i := 400) (hdl 400 (by decide) (by decide)) ((wC_o (by decide)).trans h400) rfl 5 (by decide) (hts _ q_493) (fun _ h9 => h9) rfl d_M_count_169 ?_
                refine lv_iconst (v := nI 1) hx hb d_M_count_172 (by decide) ?_
                refine n_sub hx hb (by omega) d_M_count_173 ?_
                refine n_iald hx hb hK hW 0 (q := 417) (hdl 417 (by decide) (by decide)) ((wC_o (by decide)).trans h417) rfl (j := rw - 1) (by omega) (by omega) d_M_count_174 ?_
                refine n_topi (show ln (rw - 1) = nI (X (rw - 1)) from hXl.1) ?_
                refine lv_iload_n hx hb d_M_count_175 rfl (lv_at hl 1 rfl) ?_
                refine n_icmp_ne (tgt := 183) hx hb (show X (rw - 1) < 2 ^ 31 by omega) (by omega) d_M_count_176 (by decide) (fun h9 => ?_) (fun h9 => ?_)
                · refine lv_lconst (v := lN 0) hx hb d_M_count_183 (by decide) ?_
                  refine lv_ladd hx hb d_M_count_184 ?_
                  refine n_topl (show _ = lN (N + 0) from lN_add _ _) ?_
                  refine n_topl (show _ = lN (nRw X z rw) by
                    rw [nRw, hN9, nCh]
                    conv => rhs; rw [show rw = rw - 1 + 1 by omega]
                    rw [cntF, if_neg (by simp [h9])]) ?_
                  obtain ⟨M9, hM9⟩ : ∃ v, v = nRw X z rw := ⟨_, rfl⟩
                  have hMl := nRw_le X z rw
                  rw [← hM9] at hMl
                  rw [← hM9]
                  refine lv_lstore_n (lv' := [(2, .long (lN M9)), (0, .ref (ad 400)), (1, .int (nI z)), (4, .int (nI b))]) hx hb d_M_count_185 rfl hl (by decide) rfl (fun ls hl => ?_)
                  refine lv_iconst (v := nI 0) hx hb d_M_count_186 (by decide) ?_
                  refine lv_istore (lv' := [(4, .int (nI 0)), (2, .long (lN M9)), (0, .ref (ad 400)), (1, .int (nI z))]) hx hb d_M_count_187 hl (by decide) rfl (fun ls hl => ?_)
                  suffices hloop : ∀ (d5 y : Nat) (V1 : Nat → Int32) (H : Heap) (locs : List Loc) (ls : Array Slot), (y ≤ 10) → (11 ≤ y + d5) → (∀ i c, i < a → c < 10 → V1 (10 * i + c) = nI (if i < z ∨ (i = z ∧ c < y) then fts X cl rw sp i c else sp i c)) → gW D gCl (gA ad co dl s.heap.size) ad (wC cI cJ co U1 V1) dl H → va_S (gA ad co dl s.heap.size) s.heap H locs → lv_has ls 8 [(0, .ref (ad 400)), (1, .int (nI z)), (2, .long (lN M9)), (4, .int (nI y))] → W pp l ee _ s mm _ below meth cd H locs 0 0 _ (F0 mm 189 ls []) by
                    exact hloop 11 0 V _ _ ls (by omega) (by omega) (fun i c hi hc => by rw [hV i c hi hc]; congr 2; apply propext; omega) hW hS (lv_sub hl [2, 3, 1, 0] rfl)
                  clear hW hS hl
                  intro d5
                  induction d5 with
                  | zero => intro y V1 H locs ls hy hd5 hV1; omega
                  | succ d5 ih5 =>
                    intro y V1 H locs ls hy hd5 hV1 hW hS hl
                    refine lv_iload hx hb d_M_count_189 (lv_at hl 3 rfl) ?_
                    refine lv_bipush (v := nI 10) hx hb d_M_count_191 (by decide) ?_
                    refine n_icmp_ge (tgt := 285) hx hb (by omega) (by omega) d_M_count_193 (by decide) (fun h10 => ?_) (fun h10 => ?_)
                    · refine n_iinc (lv' := [(1, .int (nI (z + 1))), (0, .ref (ad 400)), (2, .long (lN M9)), (4, .int (nI y))]) hx hb d_M_count_285 hl (k := 1) rfl (by decide) rfl (fun ls hl => ?_)
                      refine lv_goto (tgt := 2) hx hb d_M_count_288 (by decide) ?_
                      refine ih1 (z + 1) U1 V1 _ _ ls (by omega) (by omega) hUz (fun i c hi hc => by rw [hV1 i c hi hc]; congr 2; apply propext; omega) hW hS (lv_sub hl [1, 0] rfl)
                    · refine lv_lload_n hx hb d_M_count_196 rfl (lv_at hl 2 rfl) ?_
                      refine lv_lconst (v := lN 0) hx hb d_M_count_197 (by decide) ?_
                      refine W.lcmp hx hb d_M_count_198 ?_
                      refine lv_if_le (tgt := 285) hx hb d_M_count_199 (by decide) (fun h11 => ?_) (fun h11 => ?_)
                      · have hM0 := lcN_le (by omega) h11
                        refine n_iinc (lv' := [(1, .int (nI (z + 1))), (0, .ref (ad 400)), (2, .long (lN M9)), (4, .int (nI y))]) hx hb d_M_count_285 hl (k := 1) rfl (by decide) rfl (fun ls hl => ?_)
                        refine lv_goto (tgt := 2) hx hb d_M_count_288 (by decide) ?_
                        refine ih1 (z + 1) U1 V1 _ _ ls (by omega) (by omega) hUz (fun i c hi hc => by
                          rw [hV1 i c hi hc]
                          by_cases hiz : i = z
                          · subst hiz
                            have hf : fts X cl rw sp i c = sp i c := by rw [fts, if_pos (hM9.symm.trans hM0)]
                            rw [hf, ite_self, ite_self]
                          · congr 2; apply propext; omega) hW hS (lv_sub hl [1, 0] rfl)
                      · have hM0 := lcN_nle (by omega) h11
                        refine lv_lconst (v := lN 0) hx hb d_M_count_202 (by decide) ?_
                        refine lv_lstore (lv' := [(5, .long (lN 0)), (0, .ref (ad 400)), (1, .int (nI z)), (2, .long (lN M9)), (4, .int (nI y))]) hx hb d_M_count_203 hl (by decide) rfl (fun ls hl => ?_)
                        refine lv_iconst (v := nI 0) hx hb d_M_count_205 (by decide) ?_
                        refine lv_istore (lv' := [(7, .int (nI 0)), (5, .long (lN 0)), (0, .ref (ad 400)), (1, .int (nI z)), (2, .long (lN M9)), (4, .int (nI y))]) hx hb d_M_count_206 hl (by decide) rfl (fun ls hl => ?_)
                        suffices hloop : ∀ (d6 k : Nat) (H : Heap) (locs : List Loc) (ls : Array Slot), (k ≤ rw) → (rw + 1 ≤ k + d6) → gW D gCl (gA ad co dl s.heap.size) ad (wC cI cJ co U1 V1) dl H → va_S (gA ad co dl s.heap.size) s.heap H locs → lv_has ls 8 [(0, .ref (ad 400)), (1, .int (nI z)), (2, .long (lN M9)), (4, .int (nI y)), (5, .long (lN (cntF (fun k => decide (X k = z) && decide (cl k = y)) k))), (7, .int (nI k))] → W pp l ee _ s mm _ below meth cd H locs 0 0 _ (F0 mm 208 ls []) by
                          exact hloop (rw + 1) 0 _ _ ls (by omega) (by omega) hW hS (lv_sub hl [2, 3, 4, 5, 1, 0] rfl)
                        clear hW hS hl
                        intro d6
                        induction d6 with
                        | zero => intro k H locs ls hk6 hd6; omega
                        | succ d6 ih6 =>
                          intro k H locs ls hk6 hd6 hW hS hl
                          refine lv_iload hx hb d_M_count_208 (lv_at hl 5 rfl) ?_
                          refine lv_aload_n hx hb d_M_count_210 rfl (lv_at hl 0 rfl) ?_
                          refine g_get (C := R_M) (T := F_M) (N := 35) hx hb hts i_M hown hK hW (i := 400) (hdl 400 (by decide) (by decide)) ((wC_o (by decide)).trans h400) rfl 5 (by decide) (hts _ q_493) (fun _ h9 => h9) rfl d_M_count_211 ?_
                          refine n_icmp_ge (tgt := 256) hx hb (by omega) (by omega) d_M_count_214 (by decide) (fun h12 => ?_) (fun h12 => ?_)
                          · have hkr6 : k = rw := by omega
                            obtain ⟨m9, hm9⟩ : ∃ v, v = nRc X cl z y rw := ⟨_, rfl⟩
                            have hml9 := nRc_le X cl z y rw
                            rw [← hm9, ← hM9] at hml9
                            rw [hkr6, show cntF (fun k => decide (X k = z) && decide (cl k = y)) rw = m9 from hm9.symm] at hl
                            clear ih6
                            refine lv_aload_n hx hb d_M_count_256 rfl (lv_at hl 0 rfl) ?_
                            refine g_get (C := R_M) (T := F_M) (N := 35) hx hb hts i_M hown hK hW (i := 400) (hdl 400 (by decide) (by decide)) ((wC_o (by decide)).trans h400) rfl 2 (by decide) (hts _ q_490) (fun _ h9 => h9) rfl d_M_count_257 ?_
                            refine lv_bipush (v := nI 10) hx hb d_M_count_260 (by decide) ?_
                            refine lv_iload_n hx hb d_M_count_262 rfl (lv_at hl 1 rfl) ?_
                            refine n_mul hx hb d_M_count_263 ?_
                            refine lv_iload hx hb d_M_count_264 (lv_at hl 3 rfl) ?_
                            refine n_add hx hb d_M_count_266 ?_
                            refine lv_ldc2 hx hb hown (hts _ q_680) d_M_count_267 ?_
                            refine n_topl (show (1000 : Int64) = lN 1000 by decide) ?_
                            refine lv_lload_n hx hb d_M_count_270 rfl (lv_at hl 2 rfl) ?_
                            refine lv_lload hx hb d_M_count_271 (lv_at hl 4 rfl) ?_
                            refine lv_lsub hx hb d_M_count_273 ?_
                            refine n_topl (show _ = lN (M9 - m9) from lN_sub (by omega)) ?_
                            refine lv_lmul hx hb d_M_count_274 ?_
                            refine n_topl (show _ = lN (1000 * (M9 - m9)) from lN_mul _ _) ?_
                            refine lv_lload_n hx hb d_M_count_275 rfl (lv_at hl 2 rfl) ?_
                            refine lv_ldiv hx hb d_M_count_276 (lN_ne0 (by omega) (by omega)) ?_
                            refine n_topl (show _ = lN ((1000 * (M9 - m9)) / M9) from pk_lDiv (by omega) (by omega) (by omega)) ?_
                            refine lv_l2i (v := nI ((1000 * (M9 - m9)) / M9)) hx hb d_M_count_277 (lN_i _) ?_
                            refine n_iast (x := nI ((1000 * (M9 - m9)) / M9)) hx hb hK hW hS 0 (q := 402) (hdl 402 (by decide) (by decide)) wC_402 rfl (j := (10 * z) + y) (by omega) (by omega) d_M_count_278 (fun H locs hW hS => ?_)
                            rw [wC_u402] at hW
                            refine n_iinc (lv' := [(4, .int (nI (y + 1))), (0, .ref (ad 400)), (1, .int (nI z)), (2, .long (lN M9)), (5, .long (lN m9)), (7, .int (nI rw))]) hx hb d_M_count_279 hl (k := 3) rfl (by decide) rfl (fun ls hl => ?_)
                            refine lv_goto (tgt := 189) hx hb d_M_count_282 (by decide) ?_
                            refine ih5 (y + 1) (upd V1 (10 * z + y) (nI (1000 * (M9 - m9) / M9))) _ _ ls (by omega) (by omega) (fun i c hi hc => ?_) hW hS (lv_sub hl [1, 2, 3, 0] rfl)
                            by_cases hij : i = z ∧ c = y
                            · obtain ⟨rfl, rfl⟩ := hij
                              rw [pk_us, if_pos (by omega), fts, if_neg (by omega), ← hM9, ← hm9]
                            · rw [pk_un (show 10 * i + c ≠ 10 * z + y by omega), hV1 i c hi hc]; congr 2; apply propext; omega
                          · have hXk := hX k h12
                            have hck := hcl k h12
                            refine lv_lload hx hb d_M_count_217 (lv_at hl 4 rfl) ?_
                            refine lv_aload_n hx hb d_M_count_219 rfl (lv_at hl 0 rfl) ?_
                            refine g_get (C := R_M) (T := F_M) (N := 35) hx hb hts i_M hown hK hW (i := 400) (hdl 400 (by decide) (by decide)) ((wC_o (by decide)).trans h400) rfl 23 (by decide) (hts _ q_511) (fun _ h9 => h9) rfl d_M_count_220 ?_
                            refine lv_iload hx hb d_M_count_223 (lv_at hl 5 rfl) ?_
                            refine n_iald hx hb hK hW 0 (q := 417) (hdl 417 (by decide) (by decide)) ((wC_o (by decide)).trans h417) rfl (j := k) (by omega) (by omega) d_M_count_225 ?_
                            refine n_topi (show ln k = nI (X k) from hXk.1) ?_
                            refine lv_iload_n hx hb d_M_count_226 rfl (lv_at hl 1 rfl) ?_
                            refine n_icmp_ne (tgt := 246) hx hb (show X k < 2 ^ 31 by omega) (by omega) d_M_count_227 (by decide) (fun h13 => ?_) (fun h13 => ?_)
                            · refine lv_lconst (v := lN 0) hx hb d_M_count_246 (by decide) ?_
                              refine lv_ladd hx hb d_M_count_247 ?_
                              refine n_topl (show _ = lN ((cntF (fun k => decide (X k = z) && decide (cl k = y)) k) + 0) from lN_add _ _) ?_
                              refine n_topl (show _ = lN (cntF (fun k => decide (X k = z) && decide (cl k = y)) (k + 1)) by rw [cntF, if_neg (by simp [h13])]) ?_
                              refine lv_lstore (lv' := [(5, .long (lN (cntF (fun k => decide (X k = z) && decide (cl k = y)) (k + 1)))), (0, .ref (ad 400)), (1, .int (nI z)), (2, .long (lN M9)), (4, .int (nI y)), (7, .int (nI k))]) hx hb d_M_count_248 hl (by decide) rfl (fun ls hl => ?_)
                              refine n_iinc (lv' := [(7, .int (nI (k + 1))), (5, .long (lN (cntF (fun k => decide (X k = z) && decide (cl k = y)) (k + 1)))), (0, .ref (ad 400)), (1, .int (nI z)), (2, .long (lN M9)), (4, .int (nI y))]) hx hb d_M_count_250 hl (k := 5) rfl (by decide) rfl (fun ls hl => ?_)
                              refine lv_goto (tgt := 208) hx hb d_M_count_253 (by decide) ?_
                              exact ih6 (k + 1) _ _ ls (by omega) (by omega) hW hS (lv_sub hl [2, 3, 4, 5, 1, 0] rfl)
                            · refine lv_aload_n hx hb d_M_count_230 rfl (lv_at hl 0 rfl) ?_
                              refine g_get (C := R_M) (T := F_M) (N := 35) hx hb hts i_M hown hK hW (i := 400) (hdl 400 (by decide) (by decide)) ((wC_o (by decide)).trans h400) rfl 7 (by decide) (hts _ q_495) (fun _ h9 => h9) rfl d_M_count_231 ?_
                              refine lv_iload hx hb d_M_count_234 (lv_at hl 5 rfl) ?_
                              refine n_iald hx hb hK hW 0 (q := 406) (hdl 406 (by decide) (by decide)) ((wC_o (by decide)).trans h406) rfl (j := k) (by omega) (by omega) d_M_count_236 ?_
                              refine n_topi (show cls k = nI (cl k) from hck.1) ?_
                              refine lv_iload hx hb d_M_count_237 (lv_at hl 3 rfl) ?_
                              refine n_icmp_ne (tgt := 246) hx hb (show cl k < 2 ^ 31 by omega) (by omega) d_M_count_239 (by decide) (fun h14 => ?_) (fun h14 => ?_)
                              · refine lv_lconst (v := lN 0) hx hb d_M_count_246 (by decide) ?_
                                refine lv_ladd hx hb d_M_count_247 ?_
                                refine n_topl (show _ = lN ((cntF (fun k => decide (X k = z) && decide (cl k = y)) k) + 0) from lN_add _ _) ?_
                                refine n_topl (show _ = lN (cntF (fun k => decide (X k = z) && decide (cl k = y)) (k + 1)) by rw [cntF, if_neg (by simp [h14])]) ?_
                                refine lv_lstore (lv' := [(5, .long (lN (cntF (fun k => decide (X k = z) && decide (cl k = y)) (k + 1)))), (0, .ref (ad 400)), (1, .int (nI z)), (2, .long (lN M9)), (4, .int (nI y)), (7, .int (nI k))]) hx hb d_M_count_248 hl (by decide) rfl (fun ls hl => ?_)
                                refine n_iinc (lv' := [(7, .int (nI (k + 1))), (5, .long (lN (cntF (fun k => decide (X k = z) && decide (cl k = y)) (k + 1)))), (0, .ref (ad 400)), (1, .int (nI z)), (2, .long (lN M9)), (4, .int (nI y))]) hx hb d_M_count_250 hl (k := 5) rfl (by decide) rfl (fun ls hl => ?_)
                                refine lv_goto (tgt := 208) hx hb d_M_count_253 (by decide) ?_
                                exact ih6 (k + 1) _ _ ls (by omega) (by omega) hW hS (lv_sub hl [2, 3, 4, 5, 1, 0] rfl)
                              · refine lv_lconst (v := lN 1) hx hb d_M_count_242 (by decide) ?_
                                refine lv_goto (tgt := 247) hx hb d_M_count_243 (by decide) ?_
                                refine lv_ladd hx hb d_M_count_247 ?_
                                refine n_topl (show _ = lN ((cntF (fun k => decide (X k = z) && decide (cl k = y)) k) + 1) from lN_add _ _) ?_
                                refine n_topl (show _ = lN (cntF (fun k => decide (X k = z) && decide (cl k = y)) (k + 1)) by rw [cntF, if_pos (by simp [h13, h14])]) ?_
                                refine lv_lstore (lv' := [(5, .long (lN (cntF (fun k => decide (X k = z) && decide (cl k = y)) (k + 1)))), (0, .ref (ad 400)), (1, .int (nI z)), (2, .long (lN M9)), (4, .int (nI y)), (7, .int (nI k))]) hx hb d_M_count_248 hl (by decide) rfl (fun ls hl => ?_)
                                refine n_iinc (lv' := [(7, .int (nI (k + 1))), (5, .long (lN (cntF (fun k => decide (X k = z) && decide (cl k = y)) (k + 1)))), (0, .ref (ad 400)), (1, .int (nI z)), (2, .long (lN M9)), (4, .int (nI y))]) hx hb d_M_count_250 hl (k := 5) rfl (by decide) rfl (fun ls hl => ?_)
                                refine lv_goto (tgt := 208) hx hb d_M_count_253 (by decide) ?_
                                exact ih6 (k + 1) _ _ ls (by omega) (by omega) hW hS (lv_sub hl [2, 3, 4, 5, 1, 0] rfl)
                · refine lv_lconst (v := lN 1) hx hb d_M_count_179 (by decide) ?_
                  refine lv_goto (tgt := 184) hx hb d_M_count_180 (by decide) ?_
                  refine lv_ladd hx hb d_M_count_184 ?_
                  refine n_topl (show _ = lN (N + 1) from lN_add _ _) ?_
                  refine n_topl (show _ = lN (nRw X z rw) by
                    rw [nRw, hN9, nCh]
                    conv => rhs; rw [show rw = rw - 1 + 1 by omega]
                    rw [cntF, if_pos (by simp [h9])]) ?_
                  obtain ⟨M9, hM9⟩ : ∃ v, v = nRw X z rw := ⟨_, rfl⟩
                  have hMl := nRw_le X z rw
                  rw [← hM9] at hMl
                  rw [← hM9]
                  refine lv_lstore_n (lv' := [(2, .long (lN M9)), (0, .ref (ad 400)), (1, .int (nI z)), (4, .int (nI b))]) hx hb d_M_count_185 rfl hl (by decide) rfl (fun ls hl => ?_)
                  refine lv_iconst (v := nI 0) hx hb d_M_count_186 (by decide) ?_
                  refine lv_istore (lv' := [(4, .int (nI 0)), (2, .long (lN M9)), (0, .ref (ad 400)), (1, .int (nI z))]) hx hb d_M_count_187 hl (by decide) rfl (fun ls hl => ?_)
                  suffices hloop : ∀ (d5 y : Nat) (V1 : Nat → Int32) (H : Heap) (locs : List Loc) (ls : Array Slot), (y ≤ 10) → (11 ≤ y + d5) → (∀ i c, i < a → c < 10 → V1 (10 * i + c) = nI (if i < z ∨ (i = z ∧ c < y) then fts X cl rw sp i c else sp i c)) → gW D gCl (gA ad co dl s.heap.size) ad (wC cI cJ co U1 V1) dl H → va_S (gA ad co dl s.heap.size) s.heap H locs → lv_has ls 8 [(0, .ref (ad 400)), (1, .int (nI z)), (2, .long (lN M9)), (4, .int (nI y))] → W pp l ee _ s mm _ below meth cd H locs 0 0 _ (F0 mm 189 ls []) by
                    exact hloop 11 0 V _ _ ls (by omega) (by omega) (fun i c hi hc => by rw [hV i c hi hc]; congr 2; apply propext; omega) hW hS (lv_sub hl [2, 3, 1, 0] rfl)
                  clear hW hS hl
                  intro d5
                  induction d5 with
                  | zero => intro y V1 H locs ls hy hd5 hV1; omega
                  | succ d5 ih5 =>
                    intro y V1 H locs ls hy hd5 hV1 hW hS hl
                    refine lv_iload hx hb d_M_count_189 (lv_at hl 3 rfl) ?_
                    refine lv_bipush (v := nI 10) hx hb d_M_count_191 (by decide) ?_
                    refine n_icmp_ge (tgt := 285) hx hb (by omega) (by omega) d_M_count_193 (by decide) (fun h10 => ?_) (fun h10 => ?_)
                    · refine n_iinc (lv' := [(1, .int (nI (z + 1))), (0, .ref (ad 400)), (2, .long (lN M9)), (4, .int (nI y))]) hx hb d_M_count_285 hl (k := 1) rfl (by decide) rfl (fun ls hl => ?_)
                      refine lv_goto (tgt := 2) hx hb d_M_count_288 (by decide) ?_
                      refine ih1 (z + 1) U1 V1 _ _ ls (by omega) (by omega) hUz (fun i c hi hc => by rw [hV1 i c hi hc]; congr 2; apply propext; omega) hW hS (lv_sub hl [1, 0] rfl)
                    · refine lv_lload_n hx hb d_M_count_196 rfl (lv_at hl 2 rfl) ?_
                      refine lv_lconst (v := lN 0) hx hb d_M_count_197 (by decide) ?_
                      refine W.lcmp hx hb d_M_count_198 ?_
                      refine lv_if_le (tgt := 285) hx hb d_M_count_199 (by decide) (fun h11 => ?_) (fun h11 => ?_)
                      · have hM0 := lcN_le (by omega) h11
                        refine n_iinc (lv' := [(1, .int (nI (z + 1))), (0, .ref (ad 400)), (2, .long (lN M9)), (4, .int (nI y))]) hx hb d_M_count_285 hl (k := 1) rfl (by decide) rfl (fun ls hl => ?_)
                        refine lv_goto (tgt := 2) hx hb d_M_count_288 (by decide) ?_
                        refine ih1 (z + 1) U1 V1 _ _ ls (by omega) (by omega) hUz (fun i c hi hc => by
                          rw [hV1 i c hi hc]
                          by_cases hiz : i = z
                          · subst hiz
                            have hf : fts X cl rw sp i c = sp i c := by rw [fts, if_pos (hM9.symm.trans hM0)]
                            rw [hf, ite_self, ite_self]
                          · congr 2; apply propext; omega) hW hS (lv_sub hl [1, 0] rfl)
                      · have hM0 := lcN_nle (by omega) h11
                        refine lv_lconst (v := lN 0) hx hb d_M_count_202 (by decide) ?_
                        refine lv_lstore (lv' := [(5, .long (lN 0)), (0, .ref (ad 400)), (1, .int (nI z)), (2, .long (lN M9)), (4, .int (nI y))]) hx hb d_M_count_203 hl (by decide) rfl (fun ls hl => ?_)
                        refine lv_iconst (v := nI 0) hx hb d_M_count_205 (by decide) ?_
                        refine lv_istore (lv' := [(7, .int (nI 0)), (5, .long (lN 0)), (0, .ref (ad 400)), (1, .int (nI z)), (2, .long (lN M9)), (4, .int (nI y))]) hx hb d_M_count_206 hl (by decide) rfl (fun ls hl => ?_)
                        suffices hloop : ∀ (d6 k : Nat) (H : Heap) (locs : List Loc) (ls : Array Slot), (k ≤ rw) → (rw + 1 ≤ k + d6) → gW D gCl (gA ad co dl s.heap.size) ad (wC cI cJ co U1 V1) dl H → va_S (gA ad co dl s.heap.size) s.heap H locs → lv_has ls 8 [(0, .ref (ad 400)), (1, .int (nI z)), (2, .long (lN M9)), (4, .int (nI y)), (5, .long (lN (cntF (fun k => decide (X k = z) && decide (cl k = y)) k))), (7, .int (nI k))] → W pp l ee _ s mm _ below meth cd H locs 0 0 _ (F0 mm 208 ls []) by
                          exact hloop (rw + 1) 0 _ _ ls (by omega) (by omega) hW hS (lv_sub hl [2, 3, 4, 5, 1, 0] rfl)
                        clear hW hS hl
                        intro d6
                        induction d6 with
                        | zero => intro k H locs ls hk6 hd6; omega
                        | succ d6 ih6 =>
                          intro k H locs ls hk6 hd6 hW hS hl
                          refine lv_iload hx hb d_M_count_208 (lv_at hl 5 rfl) ?_
                          refine lv_aload_n hx hb d_M_count_210 rfl (lv_at hl 0 rfl) ?_
                          refine g_get (C := R_M) (T := F_M) (N := 35) hx hb hts i_M hown hK hW (i := 400) (hdl 400 (by decide) (by decide)) ((wC_o (by decide)).trans h400) rfl 5 (by decide) (hts _ q_493) (fun _ h9 => h9) rfl d_M_count_211 ?_
                          refine n_icmp_ge (tgt := 256) hx hb (by omega) (by omega) d_M_count_214 (by decide) (fun h12 => ?_) (fun h12 => ?_)
                          · have hkr6 : k = rw := by omega
                            obtain ⟨m9, hm9⟩ : ∃ v, v = nRc X cl z y rw := ⟨_, rfl⟩
                            have hml9 := nRc_le X cl z y rw
                            rw [← hm9, ← hM9] at hml9
                            rw [hkr6, show cntF (fun k => decide (X k = z) && decide (cl k = y)) rw = m9 from hm9.symm] at hl
                            clear ih6
                            refine lv_aload_n hx hb d_M_count_256 rfl (lv_at hl 0 rfl) ?_
                            refine g_get (C := R_M) (T := F_M) (N := 35) hx hb hts i_M hown hK hW (i := 400) (hdl 400 (by decide) (by decide)) ((wC_o (by decide)).trans h400) rfl 2 (by decide) (hts _ q_490) (fun _ h9 => h9) rfl d_M_count_257 ?_
                            refine lv_bipush (v := nI 10) hx hb d_M_count_260 (by decide) ?_
                            refine lv_iload_n hx hb d_M_count_262 rfl (lv_at hl 1 rfl) ?_
                            refine n_mul hx hb d_M_count_263 ?_
                            refine lv_iload hx hb d_M_count_264 (lv_at hl 3 rfl) ?_
                            refine n_add hx hb d_M_count_266 ?_
                            refine lv_ldc2 hx hb hown (hts _ q_680) d_M_count_267 ?_
                            refine n_topl (show (1000 : Int64) = lN 1000 by decide) ?_
                            refine lv_lload_n hx hb d_M_count_270 rfl (lv_at hl 2 rfl) ?_
                            refine lv_lload hx hb d_M_count_271 (lv_at hl 4 rfl) ?_
                            refine lv_lsub hx hb d_M_count_273 ?_
                            refine n_topl (show _ = lN (M9 - m9) from lN_sub (by omega)) ?_
                            refine lv_lmul hx hb d_M_count_274 ?_
                            refine n_topl (show _ = lN (1000 * (M9 - m9)) from lN_mul _ _) ?_
                            refine lv_lload_n hx hb d_M_count_275 rfl (lv_at hl 2 rfl) ?_
                            refine lv_ldiv hx hb d_M_count_276 (lN_ne0 (by omega) (by omega)) ?_
                            refine n_topl (show _ = lN ((1000 * (M9 - m9)) / M9) from pk_lDiv (by omega) (by omega) (by omega)) ?_
                            refine lv_l2i (v := nI ((1000 * (M9 - m9)) / M9)) hx hb d_M_count_277 (lN_i _) ?_
                            refine n_iast (x := nI ((1000 * (M9 - m9)) / M9)) hx hb hK hW hS 0 (q := 402) (hdl 402 (by decide) (by decide)) wC_402 rfl (j := (10 * z) + y) (by omega) (by omega) d_M_count_278 (fun H locs hW hS => ?_)
                            rw [wC_u402] at hW
                            refine n_iinc (lv' := [(4, .int (nI (y + 1))), (0, .ref (ad 400)), (1, .int (nI z)), (2, .long (lN M9)), (5, .long (lN m9)), (7, .int (nI rw))]) hx hb d_M_count_279 hl (k := 3) rfl (by decide) rfl (fun ls hl => ?_)
                            refine lv_goto (tgt := 189) hx hb d_M_count_282 (by decide) ?_
                            refine ih5 (y + 1) (upd V1 (10 * z + y) (nI (1000 * (M9 - m9) / M9))) _ _ ls (by omega) (by omega) (fun i c hi hc => ?_) hW hS (lv_sub hl [1, 2, 3, 0] rfl)
                            by_cases hij : i = z ∧ c = y
                            · obtain ⟨rfl, rfl⟩ := hij
                              rw [pk_us, if_pos (by omega), fts, if_neg (by omega), ← hM9, ← hm9]
                            · rw [pk_un (show 10 * i + c ≠ 10 * z + y by omega), hV1 i c hi hc]; congr 2; apply propext; omega
                          · have hXk := hX k h12
                            have hck := hcl k h12
                            refine lv_lload hx hb d_M_count_217 (lv_at hl 4 rfl) ?_
                            refine lv_aload_n hx hb d_M_count_219 rfl (lv_at hl 0 rfl) ?_
                            refine g_get (C := R_M) (T := F_M) (N := 35) hx hb hts i_M hown hK hW (i := 400) (hdl 400 (by decide) (by decide)) ((wC_o (by decide)).trans h400) rfl 23 (by decide) (hts _ q_511) (fun _ h9 => h9) rfl d_M_count_220 ?_
                            refine lv_iload hx hb d_M_count_223 (lv_at hl 5 rfl) ?_
                            refine n_iald hx hb hK hW 0 (q := 417) (hdl 417 (by decide) (by decide)) ((wC_o (by decide)).trans h417) rfl (j := k) (by omega) (by omega) d_M_count_225 ?_
                            refine n_topi (show ln k = nI (X k) from hXk.1) ?_
                            refine lv_iload_n hx hb d_M_count_226 rfl (lv_at hl 1 rfl) ?_
                            refine n_icmp_ne (tgt := 246) hx hb (show X k < 2 ^ 31 by omega) (by omega) d_M_count_227 (by decide) (fun h13 => ?_) (fun h13 => ?_)
                            · refine lv_lconst (v := lN 0) hx hb d_M_count_246 (by decide) ?_
                              refine lv_ladd hx hb d_M_count_247 ?_
                              refine n_topl (show _ = lN ((cntF (fun k => decide (X k = z) && decide (cl k = y)) k) + 0) from lN_add _ _) ?_
                              refine n_topl (show _ = lN (cntF (fun k => decide (X k = z) && decide (cl k = y)) (k + 1)) by rw [cntF, if_neg (by simp [h13])]) ?_
                              refine lv_lstore (lv' := [(5, .long (lN (cntF (fun k => decide (X k = z) && decide (cl k = y)) (k + 1)))), (0, .ref (ad 400)), (1, .int (nI z)), (2, .long (lN M9)), (4, .int (nI y)), (7, .int (nI k))]) hx hb d_M_count_248 hl (by decide) rfl (fun ls hl => ?_)
                              refine n_iinc (lv' := [(7, .int (nI (k + 1))), (5, .long (lN (cntF (fun k => decide (X k = z) && decide (cl k = y)) (k + 1)))), (0, .ref (ad 400)), (1, .int (nI z)), (2, .long (lN M9)), (4, .int (nI y))]) hx hb d_M_count_250 hl (k := 5) rfl (by decide) rfl (fun ls hl => ?_)
                              refine lv_goto (tgt := 208) hx hb d_M_count_253 (by decide) ?_
                              exact ih6 (k + 1) _ _ ls (by omega) (by omega) hW hS (lv_sub hl [2, 3, 4, 5, 1, 0] rfl)
                            · refine lv_aload_n hx hb d_M_count_230 rfl (lv_at hl 0 rfl) ?_
                              refine g_get (C := R_M) (T := F_M) (N := 35) hx hb hts i_M hown hK hW (i := 400) (hdl 400 (by decide) (by decide)) ((wC_o (by decide)).trans h400) rfl 7 (by decide) (hts _ q_495) (fun _ h9 => h9) rfl d_M_count_231 ?_
                              refine lv_iload hx hb d_M_count_234 (lv_at hl 5 rfl) ?_
                              refine n_iald hx hb hK hW 0 (q := 406) (hdl 406 (by decide) (by decide)) ((wC_o (by decide)).trans h406) rfl (j := k) (by omega) (by omega) d_M_count_236 ?_
                              refine n_topi (show cls k = nI (cl k) from hck.1) ?_
                              refine lv_iload hx hb d_M_count_237 (lv_at hl 3 rfl) ?_
                              refine n_icmp_ne (tgt := 246) hx hb (show cl k < 2 ^ 31 by omega) (by omega) d_M_count_239 (by decide) (fun h14 => ?_) (fun h14 => ?_)
                              · refine lv_lconst (v := lN 0) hx hb d_M_count_246 (by decide) ?_
                                refine lv_ladd hx hb d_M_count_247 ?_
                                refine n_topl (show _ = lN ((cntF (fun k => decide (X k = z) && decide (cl k = y)) k) + 0) from lN_add _ _) ?_
                                refine n_topl (show _ = lN (cntF (fun k => decide (X k = z) && decide (cl k = y)) (k + 1)) by rw [cntF, if_neg (by simp [h14])]) ?_
                                refine lv_lstore (lv' := [(5, .long (lN (cntF (fun k => decide (X k = z) && decide (cl k = y)) (k + 1)))), (0, .ref (ad 400)), (1, .int (nI z)), (2, .long (lN M9)), (4, .int (nI y)), (7, .int (nI k))]) hx hb d_M_count_248 hl (by decide) rfl (fun ls hl => ?_)
                                refine n_iinc (lv' := [(7, .int (nI (k + 1))), (5, .long (lN (cntF (fun k => decide (X k = z) && decide (cl k = y)) (k + 1)))), (0, .ref (ad 400)), (1, .int (nI z)), (2, .long (lN M9)), (4, .int (nI y))]) hx hb d_M_count_250 hl (k := 5) rfl (by decide) rfl (fun ls hl => ?_)
                                refine lv_goto (tgt := 208) hx hb d_M_count_253 (by decide) ?_
                                exact ih6 (k + 1) _ _ ls (by omega) (by omega) hW hS (lv_sub hl [2, 3, 4, 5, 1, 0] rfl)
                              · refine lv_lconst (v := lN 1) hx hb d_M_count_242 (by decide) ?_
                                refine lv_goto (tgt := 247) hx hb d_M_count_243 (by decide) ?_
                                refine lv_ladd hx hb d_M_count_247 ?_
                                refine n_topl (show _ = lN ((cntF (fun k => decide (X k = z) && decide (cl k = y)) k) + 1) from lN_add _ _) ?_
                                refine n_topl (show _ = lN (cntF (fun k => decide (X k = z) && decide (cl k = y)) (k + 1)) by rw [cntF, if_pos (by simp [h13, h14])]) ?_
                                refine lv_lstore (lv' := [(5, .long (lN (cntF (fun k => decide (X k = z) && decide (cl k = y)) (k + 1)))), (0, .ref (ad 400)), (1, .int (nI z)), (2, .long (lN M9)), (4, .int (nI y)), (7, .int (nI k))]) hx hb d_M_count_248 hl (by decide) rfl (fun ls hl => ?_)
                                refine n_iinc (lv' := [(7, .int (nI (k + 1))), (5, .long (lN (cntF (fun k => decide (X k = z) && decide (cl k = y)) (k + 1)))), (0, .ref (ad 400)), (1, .int (nI z)), (2, .long (lN M9)), (4, .int (nI y))]) hx hb d_M_count_250 hl (k := 5) rfl (by decide) rfl (fun ls hl => ?_)
                                refine lv_goto (tgt := 208) hx hb d_M_count_253 (by decide) ?_
                                exact ih6 (k + 1) _ _ ls (by omega) (by omega) hW hS (lv_sub hl [2, 3, 4, 5, 1, 0] rfl)
            · refine lv_lload_n hx hb d_M_count_63 rfl (lv_at hl 2 rfl) ?_
              refine lv_lconst (v := lN 0) hx hb d_M_count_64 (by decide) ?_
              refine W.lcmp hx hb d_M_count_65 ?_
              refine lv_if_le (tgt := 156) hx hb d_M_count_66 (by decide) (fun h4 => ?_) (fun h4 => ?_)
              · have hN0 := lcN_le (by omega) h4
                have hUz : ∀ i j, i < a → j < a → U1 (12 * i + j) = nI (if i < z + 1 then ftm X rw mv i j else mv i j) := fun i j hi hj => by
                  rw [hU1 i j hi hj]
                  by_cases hiz : i = z
                  · subst hiz
                    have hf : ftm X rw mv i j = mv i j := by rw [ftm, if_pos (hN9.symm.trans hN0)]
                    rw [hf, ite_self, ite_self]
                  · congr 2; apply propext; omega
                clear ih3 hU1
                have hXl := hX (rw - 1) (by omega)
                refine lv_lload_n hx hb d_M_count_156 rfl (lv_at hl 2 rfl) ?_
                refine lv_aload_n hx hb d_M_count_157 rfl (lv_at hl 0 rfl) ?_
                refine g_get (C := R_M) (T := F_M) (N := 35) hx hb hts i_M hown hK hW (i := 400) (hdl 400 (by decide) (by decide)) ((wC_o (by decide)).trans h400) rfl 5 (by decide) (hts _ q_493) (fun _ h9 => h9) rfl d_M_count_158 ?_
                refine n_if_le (tgt := 183) hx hb (by omega) d_M_count_161 (by decide) (fun h8 => ?_) (fun h8 => ?_)
                · omega
                · refine lv_aload_n hx hb d_M_count_164 rfl (lv_at hl 0 rfl) ?_
                  refine g_get (C := R_M) (T := F_M) (N := 35) hx hb hts i_M hown hK hW (i := 400) (hdl 400 (by decide) (by decide)) ((wC_o (by decide)).trans h400) rfl 23 (by decide) (hts _ q_511) (fun _ h9 => h9) rfl d_M_count_165 ?_
                  refine lv_aload_n hx hb d_M_count_168 rfl (lv_at hl 0 rfl) ?_
                  refine g_get (C := R_M) (T := F_M) (N := 35) hx hb hts i_M hown hK hW (i := 400) (hdl 400 (by decide) (by decide)) ((wC_o (by decide)).trans h400) rfl 5 (by decide) (hts _ q_493) (fun _ h9 => h9) rfl d_M_count_169 ?_
                  refine lv_iconst (v := nI 1) hx hb d_M_count_172 (by decide) ?_
                  refine n_sub hx hb (by omega) d_M_count_173 ?_
                  refine n_iald hx hb hK hW 0 (q := 417) (hdl 417 (by decide) (by decide)) ((wC_o (by decide)).trans h417) rfl (j := rw - 1) (by omega) (by omega) d_M_count_174 ?_
                  refine n_topi (show ln (rw - 1) = nI (X (rw - 1)) from hXl.1) ?_
                  refine lv_iload_n hx hb d_M_count_175 rfl (lv_at hl 1 rfl) ?_
                  refine n_icmp_ne (tgt := 183) hx hb (show X (rw - 1) < 2 ^ 31 by omega) (by omega) d_M_count_176 (by decide) (fun h9 => ?_) (fun h9 => ?_)
                  · refine lv_lconst (v := lN 0) hx hb d_M_count_183 (by decide) ?_
                    refine lv_ladd hx hb d_M_count_184 ?_
                    refine n_topl (show _ = lN (N + 0) from lN_add _ _) ?_
                    refine n_topl (show _ = lN (nRw X z rw) by
                      rw [nRw, hN9, nCh]
                      conv => rhs; rw [show rw = rw - 1 + 1 by omega]
                      rw [cntF, if_neg (by simp [h9])]) ?_
                    obtain ⟨M9, hM9⟩ : ∃ v, v = nRw X z rw := ⟨_, rfl⟩
                    have hMl := nRw_le X z rw
                    rw [← hM9] at hMl
                    rw [← hM9]
                    refine lv_lstore_n (lv' := [(2, .long (lN M9)), (0, .ref (ad 400)), (1, .int (nI z)), (4, .int (nI b))]) hx hb d_M_count_185 rfl hl (by decide) rfl (fun ls hl => ?_)
                    refine lv_iconst (v := nI 0) hx hb d_M_count_186 (by decide) ?_
                    refine lv_istore (lv' := [(4, .int (nI 0)), (2, .long (lN M9)), (0, .ref (ad 400)), (1, .int (nI z))]) hx hb d_M_count_187 hl (by decide) rfl (fun ls hl => ?_)
                    suffices hloop : ∀ (d5 y : Nat) (V1 : Nat → Int32) (H : Heap) (locs : List Loc) (ls : Array Slot), (y ≤ 10) → (11 ≤ y + d5) → (∀ i c, i < a → c < 10 → V1 (10 * i + c) = nI (if i < z ∨ (i = z ∧ c < y) then fts X cl rw sp i c else sp i c)) → gW D gCl (gA ad co dl s.heap.size) ad (wC cI cJ co U1 V1) dl H → va_S (gA ad co dl s.heap.size) s.heap H locs → lv_has ls 8 [(0, .ref (ad 400)), (1, .int (nI z)), (2, .long (lN M9)), (4, .int (nI y))] → W pp l ee _ s mm _ below meth cd H locs 0 0 _ (F0 mm 189 ls []) by
                      exact hloop 11 0 V _ _ ls (by omega) (by omega) (fun i c hi hc => by rw [hV i c hi hc]; congr 2; apply propext; omega) hW hS (lv_sub hl [2, 3, 1, 0] rfl)
                    clear hW hS hl
                    intro d5
                    induction d5 with
                    | zero => intro y V1 H locs ls hy hd5 hV1; omega
                    | succ d5 ih5 =>
                      intro y V1 H locs ls hy hd5 hV1 hW hS hl
                      refine lv_iload hx hb d_M_count_189 (lv_at hl 3 rfl) ?_
                      refine lv_bipush (v := nI 10) hx hb d_M_count_191 (by decide) ?_
                      refine n_icmp_ge (tgt := 285) hx hb (by omega) (by omega) d_M_count_193 (by decide) (fun h10 => ?_) (fun h10 => ?_)
                      · refine n_iinc (lv' := [(1, .int (nI (z + 1))), (0, .ref (ad 400)), (2, .long (lN M9)), (4, .int (nI y))]) hx hb d_M_count_285 hl (k := 1) rfl (by decide) rfl (fun ls hl => ?_)
                        refine lv_goto (tgt := 2) hx hb d_M_count_288 (by decide) ?_
                        refine ih1 (z + 1) U1 V1 _ _ ls (by omega) (by omega) hUz (fun i c hi hc => by rw [hV1 i c hi hc]; congr 2; apply propext; omega) hW hS (lv_sub hl [1, 0] rfl)
                      · refine lv_lload_n hx hb d_M_count_196 rfl (lv_at hl 2 rfl) ?_
                        refine lv_lconst (v := lN 0) hx hb d_M_count_197 (by decide) ?_
                        refine W.lcmp hx hb d_M_count_198 ?_
                        refine lv_if_le (tgt := 285) hx hb d_M_count_199 (by decide) (fun h11 => ?_) (fun h11 => ?_)
                        · have hM0 := lcN_le (by omega) h11
                          refine n_iinc (lv' := [(1, .int (nI (z + 1))), (0, .ref (ad 400)), (2, .long (lN M9)), (4, .int (nI y))]) hx hb d_M_count_285 hl (k := 1) rfl (by decide) rfl (fun ls hl => ?_)
                          refine lv_goto (tgt := 2) hx hb d_M_count_288 (by decide) ?_
                          refine ih1 (z + 1) U1 V1 _ _ ls (by omega) (by omega) hUz (fun i c hi hc => by
                            rw [hV1 i c hi hc]
                            by_cases hiz : i = z
                            · subst hiz
                              have hf : fts X cl rw sp i c = sp i c := by rw [fts, if_pos (hM9.symm.trans hM0)]
                              rw [hf, ite_self, ite_self]
                            · congr 2; apply propext; omega) hW hS (lv_sub hl [1, 0] rfl)
                        · have hM0 := lcN_nle (by omega) h11
                          refine lv_lconst (v := lN 0) hx hb d_M_count_202 (by decide) ?_
                          refine lv_lstore (lv' := [(5, .long (lN 0)), (0, .ref (ad 400)), (1, .int (nI z)), (2, .long (lN M9)), (4, .int (nI y))]) hx hb d_M_count_203 hl (by decide) rfl (fun ls hl => ?_)
                          refine lv_iconst (v := nI 0) hx hb d_M_count_205 (by decide) ?_
                          refine lv_istore (lv' := [(7, .int (nI 0)), (5, .long (lN 0)), (0, .ref (ad 400)), (1, .int (nI z)), (2, .long (lN M9)), (4, .int (nI y))]) hx hb d_M_count_206 hl (by decide) rfl (fun ls hl => ?_)
                          suffices hloop : ∀ (d6 k : Nat) (H : Heap) (locs : List Loc) (ls : Array Slot), (k ≤ rw) → (rw + 1 ≤ k + d6) → gW D gCl (gA ad co dl s.heap.size) ad (wC cI cJ co U1 V1) dl H → va_S (gA ad co dl s.heap.size) s.heap H locs → lv_has ls 8 [(0, .ref (ad 400)), (1, .int (nI z)), (2, .long (lN M9)), (4, .int (nI y)), (5, .long (lN (cntF (fun k => decide (X k = z) && decide (cl k = y)) k))), (7, .int (nI k))] → W pp l ee _ s mm _ below meth cd H locs 0 0 _ (F0 mm 208 ls []) by
                            exact hloop (rw + 1) 0 _ _ ls (by omega) (by omega) hW hS (lv_sub hl [2, 3, 4, 5, 1, 0] rfl)
                          clear hW hS hl
                          intro d6
                          induction d6 with
                          | zero => intro k H locs ls hk6 hd6; omega
                          | succ d6 ih6 =>
                            intro k H locs ls hk6 hd6 hW hS hl
                            refine lv_iload hx hb d_M_count_208 (lv_at hl 5 rfl) ?_
                            refine lv_aload_n hx hb d_M_count_210 rfl (lv_at hl 0 rfl) ?_
                            refine g_get (C := R_M) (T := F_M) (N := 35) hx hb hts i_M hown hK hW (i := 400) (hdl 400 (by decide) (by decide)) ((wC_o (by decide)).trans h400) rfl 5 (by decide) (hts _ q_493) (fun _ h9 => h9) rfl d_M_count_211 ?_
                            refine n_icmp_ge (tgt := 256) hx hb (by omega) (by omega) d_M_count_214 (by decide) (fun h12 => ?_) (fun h12 => ?_)
                            · have hkr6 : k = rw := by omega
                              obtain ⟨m9, hm9⟩ : ∃ v, v = nRc X cl z y rw := ⟨_, rfl⟩
                              have hml9 := nRc_le X cl z y rw
                              rw [← hm9, ← hM9] at hml9
                              rw [hkr6, show cntF (fun k => decide (X k = z) && decide (cl k = y)) rw = m9 from hm9.symm] at hl
                              clear ih6
                              refine lv_aload_n hx hb d_M_count_256 rfl (lv_at hl 0 rfl) ?_
                              refine g_get (C := R_M) (T := F_M) (N := 35) hx hb hts i_M hown hK hW (i := 400) (hdl 400 (by decide) (by decide)) ((wC_o (by decide)).trans h400) rfl 2 (by decide) (hts _ q_490) (fun _ h9 => h9) rfl d_M_count_257 ?_
                              refine lv_bipush (v := nI 10) hx hb d_M_count_260 (by decide) ?_
                              refine lv_iload_n hx hb d_M_count_262 rfl (lv_at hl 1 rfl) ?_
                              refine n_mul hx hb d_M_count_263 ?_
                              refine lv_iload hx hb d_M_count_264 (lv_at hl 3 rfl) ?_
                              refine n_add hx hb d_M_count_266 ?_
                              refine lv_ldc2 hx hb hown (hts _ q_680) d_M_count_267 ?_
                              refine n_topl (show (1000 : Int64) = lN 1000 by decide) ?_
                              refine lv_lload_n hx hb d_M_count_270 rfl (lv_at hl 2 rfl) ?_
                              refine lv_lload hx hb d_M_count_271 (lv_at hl 4 rfl) ?_
                              refine lv_lsub hx hb d_M_count_273 ?_
                              refine n_topl (show _ = lN (M9 - m9) from lN_sub (by omega)) ?_
                              refine lv_lmul hx hb d_M_count_274 ?_
                              refine n_topl (show _ = lN (1000 * (M9 - m9)) from lN_mul _ _) ?_
                              refine lv_lload_n hx hb d_M_count_275 rfl (lv_at hl 2 rfl) ?_
                              refine lv_ldiv hx hb d_M_count_276 (lN_ne0 (by omega) (by omega)) ?_
                              refine n_topl (show _ = lN ((1000 * (M9 - m9)) / M9) from pk_lDiv (by omega) (by omega) (by omega)) ?_
                              refine lv_l2i (v := nI ((1000 * (M9 - m9)) / M9)) hx hb d_M_count_277 (lN_i _) ?_
                              refine n_iast (x := nI ((1000 * (M9 - m9)) / M9)) hx hb hK hW hS 0 (q := 402) (hdl 402 (by decide) (by decide)) wC_402 rfl (j := (10 * z) + y) (by omega) (by omega) d_M_count_278 (fun H locs hW hS => ?_)
                              rw [wC_u402] at hW
                              refine n_iinc (lv' := [(4, .int (nI (y + 1))), (0, .ref (ad 400)), (1, .int (nI z)), (2, .long (lN M9)), (5, .long (lN m9)), (7, .int (nI rw))]) hx hb d_M_count_279 hl (k := 3) rfl (by decide) rfl (fun ls hl => ?_)
                              refine lv_goto (tgt := 189) hx hb d_M_count_282 (by decide) ?_
                              refine ih5 (y + 1) (upd V1 (10 * z + y) (nI (1000 * (M9 - m9) / M9))) _ _ ls (by omega) (by omega) (fun i c hi hc => ?_) hW hS (lv_sub hl [1, 2, 3, 0] rfl)
                              by_cases hij : i = z ∧ c = y
                              · obtain ⟨rfl, rfl⟩ := hij
                                rw [pk_us, if_pos (by omega), fts, if_neg (by omega), ← hM9, ← hm9]
                              · rw [pk_un (show 10 * i + c ≠ 10 * z + y by omega), hV1 i c hi hc]; congr 2; apply propext; omega
                            · have hXk := hX k h12
                              have hck := hcl k h12
                              refine lv_lload hx hb d_M_count_217 (lv_at hl 4 rfl) ?_
                              refine lv_aload_n hx hb d_M_count_219 rfl (lv_at hl 0 rfl) ?_
                              refine g_get (C := R_M) (T := F_M) (N := 35) hx hb hts i_M hown hK hW (i := 400) (hdl 400 (by decide) (by decide)) ((wC_o (by decide)).trans h400) rfl 23 (by decide) (hts _ q_511) (fun _ h9 => h9) rfl d_M_count_220 ?_
                              refine lv_iload hx hb d_M_count_223 (lv_at hl 5 rfl) ?_
                              refine n_iald hx hb hK hW 0 (q := 417) (hdl 417 (by decide) (by decide)) ((wC_o (by decide)).trans h417) rfl (j := k) (by omega) (by omega) d_M_count_225 ?_
                              refine n_topi (show ln k = nI (X k) from hXk.1) ?_
                              refine lv_iload_n hx hb d_M_count_226 rfl (lv_at hl 1 rfl) ?_
                              refine n_icmp_ne (tgt := 246) hx hb (show X k < 2 ^ 31 by omega) (by omega) d_M_count_227 (by decide) (fun h13 => ?_) (fun h13 => ?_)
                              · refine lv_lconst (v := lN 0) hx hb d_M_count_246 (by decide) ?_
                                refine lv_ladd hx hb d_M_count_247 ?_
                                refine n_topl (show _ = lN ((cntF (fun k => decide (X k = z) && decide (cl k = y)) k) + 0) from lN_add _ _) ?_
                                refine n_topl (show _ = lN (cntF (fun k => decide (X k = z) && decide (cl k = y)) (k + 1)) by rw [cntF, if_neg (by simp [h13])]) ?_
                                refine lv_lstore (lv' := [(5, .long (lN (cntF (fun k => decide (X k = z) && decide (cl k = y)) (k + 1)))), (0, .ref (ad 400)), (1, .int (nI z)), (2, .long (lN M9)), (4, .int (nI y)), (7, .int (nI k))]) hx hb d_M_count_248 hl (by decide) rfl (fun ls hl => ?_)
                                refine n_iinc (lv' := [(7, .int (nI (k + 1))), (5, .long (lN (cntF (fun k => decide (X k = z) && decide (cl k = y)) (k + 1)))), (0, .ref (ad 400)), (1, .int (nI z)), (2, .long (lN M9)), (4, .int (nI y))]) hx hb d_M_count_250 hl (k := 5) rfl (by decide) rfl (fun ls hl => ?_)
                                refine lv_goto (tgt := 208) hx hb d_M_count_253 (by decide) ?_
                                exact ih6 (k + 1) _ _ ls (by omega) (by omega) hW hS (lv_sub hl [2, 3, 4, 5, 1, 0] rfl)
                              · refine lv_aload_n hx hb d_M_count_230 rfl (lv_at hl 0 rfl) ?_
                                refine g_get (C := R_M) (T := F_M) (N := 35) hx hb hts i_M hown hK hW (i := 400) (hdl 400 (by decide) (by decide)) ((wC_o (by decide)).trans h400) rfl 7 (by decide) (hts _ q_495) (fun _ h9 => h9) rfl d_M_count_231 ?_
                                refine lv_iload hx hb d_M_count_234 (lv_at hl 5 rfl) ?_
                                refine n_iald hx hb hK hW 0 (q := 406) (hdl 406 (by decide) (by decide)) ((wC_o (by decide)).trans h406) rfl (j := k) (by omega) (by omega) d_M_count_236 ?_
                                refine n_topi (show cls k = nI (cl k) from hck.1) ?_
                                refine lv_iload hx hb d_M_count_237 (lv_at hl 3 rfl) ?_
                                refine n_icmp_ne (tgt := 246) hx hb (show cl k < 2 ^ 31 by omega) (by omega) d_M_count_239 (by decide) (fun h14 => ?_) (fun h14 => ?_)
                                · refine lv_lconst (v := lN 0) hx hb d_M_count_246 (by decide) ?_
                                  refine lv_ladd hx hb d_M_count_247 ?_
                                  refine n_topl (show _ = lN ((cntF (fun k => decide (X k = z) && decide (cl k = y)) k) + 0) from lN_add _ _) ?_
                                  refine n_topl (show _ = lN (cntF (fun k => decide (X k = z) && decide (cl k = y)) (k + 1)) by rw [cntF, if_neg (by simp [h14])]) ?_
                                  refine lv_lstore (lv' := [(5, .long (lN (cntF (fun k => decide (X k = z) && decide (cl k = y)) (k + 1)))), (0, .ref (ad 400)), (1, .int (nI z)), (2, .long (lN M9)), (4, .int (nI y)), (7, .int (nI k))]) hx hb d_M_count_248 hl (by decide) rfl (fun ls hl => ?_)
                                  refine n_iinc (lv' := [(7, .int (nI (k + 1))), (5, .long (lN (cntF (fun k => decide (X k = z) && decide (cl k = y)) (k + 1)))), (0, .ref (ad 400)), (1, .int (nI z)), (2, .long (lN M9)), (4, .int (nI y))]) hx hb d_M_count_250 hl (k := 5) rfl (by decide) rfl (fun ls hl => ?_)
                                  refine lv_goto (tgt := 208) hx hb d_M_count_253 (by decide) ?_
                                  exact ih6 (k + 1) _ _ ls (by omega) (by omega) hW hS (lv_sub hl [2, 3, 4, 5, 1, 0] rfl)
                                · refine lv_lconst (v := lN 1) hx hb d_M_count_242 (by decide) ?_
                                  refine lv_goto (tgt := 247) hx hb d_M_count_243 (by decide) ?_
                                  refine lv_ladd hx hb d_M_count_247 ?_
                                  refine n_topl (show _ = lN ((cntF (fun k => decide (X k = z) && decide (cl k = y)) k) + 1) from lN_add _ _) ?_
                                  refine n_topl (show _ = lN (cntF (fun k => decide (X k = z) && decide (cl k = y)) (k + 1)) by rw [cntF, if_pos (by simp [h13, h14])]) ?_
                                  refine lv_lstore (lv' := [(5, .long (lN (cntF (fun k => decide (X k = z) && decide (cl k = y)) (k + 1)))), (0, .ref (ad 400)), (1, .int (nI z)), (2, .long (lN M9)), (4, .int (nI y)), (7, .int (nI k))]) hx hb d_M_count_248 hl (by decide) rfl (fun ls hl => ?_)
                                  refine n_iinc (lv' := [(7, .int (nI (k + 1))), (5, .long (lN (cntF (fun k => decide (X k = z) && decide (cl k = y)) (k + 1)))), (0, .ref (ad 400)), (1, .int (nI z)), (2, .long (lN M9)), (4, .int (nI y))]) hx hb d_M_count_250 hl (k := 5) rfl (by decide) rfl (fun ls hl => ?_)
                                  refine lv_goto (tgt := 208) hx hb d_M_count_253 (by decide) ?_
                                  exact ih6 (k + 1) _ _ ls (by omega) (by omega) hW hS (lv_sub hl [2, 3, 4, 5, 1, 0] rfl)
                  · refine lv_lconst (v := lN 1) hx hb d_M_count_179 (by decide) ?_
                    refine lv_goto (tgt := 184) hx hb d_M_count_180 (by decide) ?_
                    refine lv_ladd hx hb d_M_count_184 ?_
                    refine n_topl (show _ = lN (N + 1) from lN_add _ _) ?_
                    refine n_topl (show _ = lN (nRw X z rw) by
                      rw [nRw, hN9, nCh]
                      conv => rhs; rw [show rw = rw - 1 + 1 by omega]
                      rw [cntF, if_pos (by simp [h9])]) ?_
                    obtain ⟨M9, hM9⟩ : ∃ v, v = nRw X z rw := ⟨_, rfl⟩
                    have hMl := nRw_le X z rw
                    rw [← hM9] at hMl
                    rw [← hM9]
                    refine lv_lstore_n (lv' := [(2, .long (lN M9)), (0, .ref (ad 400)), (1, .int (nI z)), (4, .int (nI b))]) hx hb d_M_count_185 rfl hl (by decide) rfl (fun ls hl => ?_)
                    refine lv_iconst (v := nI 0) hx hb d_M_count_186 (by decide) ?_
                    refine lv_istore (lv' := [(4, .int (nI 0)), (2, .long (lN M9)), (0, .ref (ad 400)), (1, .int (nI z))]) hx hb d_M_count_187 hl (by decide) rfl (fun ls hl => ?_)
                    suffices hloop : ∀ (d5 y : Nat) (V1 : Nat → Int32) (H : Heap) (locs : List Loc) (ls : Array Slot), (y ≤ 10) → (11 ≤ y + d5) → (∀ i c, i < a → c < 10 → V1 (10 * i + c) = nI (if i < z ∨ (i = z ∧ c < y) then fts X cl rw sp i c else sp i c)) → gW D gCl (gA ad co dl s.heap.size) ad (wC cI cJ co U1 V1) dl H → va_S (gA ad co dl s.heap.size) s.heap H locs → lv_has ls 8 [(0, .ref (ad 400)), (1, .int (nI z)), (2, .long (lN M9)), (4, .int (nI y))] → W pp l ee _ s mm _ below meth cd H locs 0 0 _ (F0 mm 189 ls []) by
                      exact hloop 11 0 V _ _ ls (by omega) (by omega) (fun i c hi hc => by rw [hV i c hi hc]; congr 2; apply propext; omega) hW hS (lv_sub hl [2, 3, 1, 0] rfl)
                    clear hW hS hl
                    intro d5
                    induction d5 with
                    | zero => intro y V1 H locs ls hy hd5 hV1; omega
                    | succ d5 ih5 =>
                      intro y V1 H locs ls hy hd5 hV1 hW hS hl
                      refine lv_iload hx hb d_M_count_189 (lv_at hl 3 rfl) ?_
                      refine lv_bipush (v := nI 10) hx hb d_M_count_191 (by decide) ?_
                      refine n_icmp_ge (tgt := 285) hx hb (by omega) (by omega) d_M_count_193 (by decide) (fun h10 => ?_) (fun h10 => ?_)
                      · refine n_iinc (lv' := [(1, .int (nI (z + 1))), (0, .ref (ad 400)), (2, .long (lN M9)), (4, .int (nI y))]) hx hb d_M_count_285 hl (k := 1) rfl (by decide) rfl (fun ls hl => ?_)
                        refine lv_goto (tgt := 2) hx hb d_M_count_288 (by decide) ?_
                        refine ih1 (z + 1) U1 V1 _ _ ls (by omega) (by omega) hUz (fun i c hi hc => by rw [hV1 i c hi hc]; congr 2; apply propext; omega) hW hS (lv_sub hl [1, 0] rfl)
                      · refine lv_lload_n hx hb d_M_count_196 rfl (lv_at hl 2 rfl) ?_
                        refine lv_lconst (v := lN 0) hx hb d_M_count_197 (by decide) ?_
                        refine W.lcmp hx hb d_M_count_198 ?_
                        refine lv_if_le (tgt := 285) hx hb d_M_count_199 (by decide) (fun h11 => ?_) (fun h11 => ?_)
                        · have hM0 := lcN_le (by omega) h11
                          refine n_iinc (lv' := [(1, .int (nI (z + 1))), (0, .ref (ad 400)), (2, .long (lN M9)), (4, .int (nI y))]) hx hb d_M_count_285 hl (k := 1) rfl (by decide) rfl (fun ls hl => ?_)
                          refine lv_goto (tgt := 2) hx hb d_M_count_288 (by decide) ?_
                          refine ih1 (z + 1) U1 V1 _ _ ls (by omega) (by omega) hUz (fun i c hi hc => by
                            rw [hV1 i c hi hc]
                            by_cases hiz : i = z
                            · subst hiz
                              have hf : fts X cl rw sp i c = sp i c := by rw [fts, if_pos (hM9.symm.trans hM0)]
                              rw [hf, ite_self, ite_self]
                            · congr 2; apply propext; omega) hW hS (lv_sub hl [1, 0] rfl)
                        · have hM0 := lcN_nle (by omega) h11
                          refine lv_lconst (v := lN 0) hx hb d_M_count_202 (by decide) ?_
                          refine lv_lstore (lv' := [(5, .long (lN 0)), (0, .ref (ad 400)), (1, .int (nI z)), (2, .long (lN M9)), (4, .int (nI y))]) hx hb d_M_count_203 hl (by decide) rfl (fun ls hl => ?_)
                          refine lv_iconst (v := nI 0) hx hb d_M_count_205 (by decide) ?_
                          refine lv_istore (lv' := [(7, .int (nI 0)), (5, .long (lN 0)), (0, .ref (ad 400)), (1, .int (nI z)), (2, .long (lN M9)), (4, .int (nI y))]) hx hb d_M_count_206 hl (by decide) rfl (fun ls hl => ?_)
                          suffices hloop : ∀ (d6 k : Nat) (H : Heap) (locs : List Loc) (ls : Array Slot), (k ≤ rw) → (rw + 1 ≤ k + d6) → gW D gCl (gA ad co dl s.heap.size) ad (wC cI cJ co U1 V1) dl H → va_S (gA ad co dl s.heap.size) s.heap H locs → lv_has ls 8 [(0, .ref (ad 400)), (1, .int (nI z)), (2, .long (lN M9)), (4, .int (nI y)), (5, .long (lN (cntF (fun k => decide (X k = z) && decide (cl k = y)) k))), (7, .int (nI k))] → W pp l ee _ s mm _ below meth cd H locs 0 0 _ (F0 mm 208 ls []) by
                            exact hloop (rw + 1) 0 _ _ ls (by omega) (by omega) hW hS (lv_sub hl [2, 3, 4, 5, 1, 0] rfl)
                          clear hW hS hl
                          intro d6
                          induction d6 with
                          | zero => intro k H locs ls hk6 hd6; omega
                          | succ d6 ih6 =>
                            intro k H locs ls hk6 hd6 hW hS hl
                            refine lv_iload hx hb d_M_count_208 (lv_at hl 5 rfl) ?_
                            refine lv_aload_n hx hb d_M_count_210 rfl (lv_at hl 0 rfl) ?_
                            refine g_get (C := R_M) (T := F_M) (N := 35) hx hb hts i_M hown hK hW (i := 400) (hdl 400 (by decide) (by decide)) ((wC_o (by decide)).trans h400) rfl 5 (by decide) (hts _ q_493) (fun _ h9 => h9) rfl d_M_count_211 ?_
                            refine n_icmp_ge (tgt := 256) hx hb (by omega) (by omega) d_M_count_214 (by decide) (fun h12 => ?_) (fun h12 => ?_)
                            · have hkr6 : k = rw := by omega
                              obtain ⟨m9, hm9⟩ : ∃ v, v = nRc X cl z y rw := ⟨_, rfl⟩
                              have hml9 := nRc_le X cl z y rw
                              rw [← hm9, ← hM9] at hml9
                              rw [hkr6, show cntF (fun k => decide (X k = z) && decide (cl k = y)) rw = m9 from hm9.symm] at hl
                              clear ih6
                              refine lv_aload_n hx hb d_M_count_256 rfl (lv_at hl 0 rfl) ?_
                              refine g_get (C := R_M) (T := F_M) (N := 35) hx hb hts i_M hown hK hW (i := 400) (hdl 400 (by decide) (by decide)) ((wC_o (by decide)).trans h400) rfl 2 (by decide) (hts _ q_490) (fun _ h9 => h9) rfl d_M_count_257 ?_
                              refine lv_bipush (v := nI 10) hx hb d_M_count_260 (by decide) ?_
                              refine lv_iload_n hx hb d_M_count_262 rfl (lv_at hl 1 rfl) ?_
                              refine n_mul hx hb d_M_count_263 ?_
                              refine lv_iload hx hb d_M_count_264 (lv_at hl 3 rfl) ?_
                              refine n_add hx hb d_M_count_266 ?_
                              refine lv_ldc2 hx hb hown (hts _ q_680) d_M_count_267 ?_
                              refine n_topl (show (1000 : Int64) = lN 1000 by decide) ?_
                              refine lv_lload_n hx hb d_M_count_270 rfl (lv_at hl 2 rfl) ?_
                              refine lv_lload hx hb d_M_count_271 (lv_at hl 4 rfl) ?_
                              refine lv_lsub hx hb d_M_count_273 ?_
                              refine n_topl (show _ = lN (M9 - m9) from lN_sub (by omega)) ?_
                              refine lv_lmul hx hb d_M_count_274 ?_
                              refine n_topl (show _ = lN (1000 * (M9 - m9)) from lN_mul _ _) ?_
                              refine lv_lload_n hx hb d_M_count_275 rfl (lv_at hl 2 rfl) ?_
                              refine lv_ldiv hx hb d_M_count_276 (lN_ne0 (by omega) (by omega)) ?_
                              refine n_topl (show _ = lN ((1000 * (M9 - m9)) / M9) from pk_lDiv (by omega) (by omega) (by omega)) ?_
                              refine lv_l2i (v := nI ((1000 * (M9 - m9)) / M9)) hx hb d_M_count_277 (lN_i _) ?_
                              refine n_iast (x := nI ((1000 * (M9 - m9)) / M9)) hx hb hK hW hS 0 (q := 402) (hdl 402 (by decide) (by decide)) wC_402 rfl (j := (10 * z) + y) (by omega) (by omega) d_M_count_278 (fun H locs hW hS => ?_)
                              rw [wC_u402] at hW
                              refine n_iinc (lv' := [(4, .int (nI (y + 1))), (0, .ref (ad 400)), (1, .int (nI z)), (2, .long (lN M9)), (5, .long (lN m9)), (7, .int (nI rw))]) hx hb d_M_count_279 hl (k := 3) rfl (by decide) rfl (fun ls hl => ?_)
                              refine lv_goto (tgt := 189) hx hb d_M_count_282 (by decide) ?_
                              refine ih5 (y + 1) (upd V1 (10 * z + y) (nI (1000 * (M9 - m9) / M9))) _ _ ls (by omega) (by omega) (fun i c hi hc => ?_) hW hS (lv_sub hl [1, 2, 3, 0] rfl)
                              by_cases hij : i = z ∧ c = y
                              · obtain ⟨rfl, rfl⟩ := hij
                                rw [pk_us, if_pos (by omega), fts, if_neg (by omega), ← hM9, ← hm9]
                              · rw [pk_un (show 10 * i + c ≠ 10 * z + y by omega), hV1 i c hi hc]; congr 2; apply propext; omega
                            · have hXk := hX k h12
                              have hck := hcl k h12
                              refine lv_lload hx hb d_M_count_217 (lv_at hl 4 rfl) ?_
                              refine lv_aload_n hx hb d_M_count_219 rfl (lv_at hl 0 rfl) ?_
                              refine g_get (C := R_M) (T := F_M) (N := 35) hx hb hts i_M hown hK hW (i := 400) (hdl 400 (by decide) (by decide)) ((wC_o (by decide)).trans h400) rfl 23 (by decide) (hts _ q_511) (fun _ h9 => h9) rfl d_M_count_220 ?_
                              refine lv_iload hx hb d_M_count_223 (lv_at hl 5 rfl) ?_
                              refine n_iald hx hb hK hW 0 (q := 417) (hdl 417 (by decide) (by decide)) ((wC_o (by decide)).trans h417) rfl (j := k) (by omega) (by omega) d_M_count_225 ?_
                              refine n_topi (show ln k = nI (X k) from hXk.1) ?_
                              refine lv_iload_n hx hb d_M_count_226 rfl (lv_at hl 1 rfl) ?_
                              refine n_icmp_ne (tgt := 246) hx hb (show X k < 2 ^ 31 by omega) (by omega) d_M_count_227 (by decide) (fun h13 => ?_) (fun h13 => ?_)
                              · refine lv_lconst (v := lN 0) hx hb d_M_count_246 (by decide) ?_
                                refine lv_ladd hx hb d_M_count_247 ?_
                                refine n_topl (show _ = lN ((cntF (fun k => decide (X k = z) && decide (cl k = y)) k) + 0) from lN_add _ _) ?_
                                refine n_topl (show _ = lN (cntF (fun k => decide (X k = z) && decide (cl k = y)) (k + 1)) by rw [cntF, if_neg (by simp [h13])]) ?_
                                refine lv_lstore (lv' := [(5, .long (lN (cntF (fun k => decide (X k = z) && decide (cl k = y)) (k + 1)))), (0, .ref (ad 400)), (1, .int (nI z)), (2, .long (lN M9)), (4, .int (nI y)), (7, .int (nI k))]) hx hb d_M_count_248 hl (by decide) rfl (fun ls hl => ?_)
                                refine n_iinc (lv' := [(7, .int (nI (k + 1))), (5, .long (lN (cntF (fun k => decide (X k = z) && decide (cl k = y)) (k + 1)))), (0, .ref (ad 400)), (1, .int (nI z)), (2, .long (lN M9)), (4, .int (nI y))]) hx hb d_M_count_250 hl (k := 5) rfl (by decide) rfl (fun ls hl => ?_)
                                refine lv_goto (tgt := 208) hx hb d_M_count_253 (by decide) ?_
                                exact ih6 (k + 1) _ _ ls (by omega) (by omega) hW hS (lv_sub hl [2, 3, 4, 5, 1, 0] rfl)
                              · refine lv_aload_n hx hb d_M_count_230 rfl (lv_at hl 0 rfl) ?_
                                refine g_get (C := R_M) (T := F_M) (N := 35) hx hb hts i_M hown hK hW (i := 400) (hdl 400 (by decide) (by decide)) ((wC_o (by decide)).trans h400) rfl 7 (by decide) (hts _ q_495) (fun _ h9 => h9) rfl d_M_count_231 ?_
                                refine lv_iload hx hb d_M_count_234 (lv_at hl 5 rfl) ?_
                                refine n_iald hx hb hK hW 0 (q := 406) (hdl 406 (by decide) (by decide)) ((wC_o (by decide)).trans h406) rfl (j := k) (by omega) (by omega) d_M_count_236 ?_
                                refine n_topi (show cls k = nI (cl k) from hck.1) ?_
                                refine lv_iload hx hb d_M_count_237 (lv_at hl 3 rfl) ?_
                                refine n_icmp_ne (tgt := 246) hx hb (show cl k < 2 ^ 31 by omega) (by omega) d_M_count_239 (by decide) (fun h14 => ?_) (fun h14 => ?_)
                                · refine lv_lconst (v := lN 0) hx hb d_M_count_246 (by decide) ?_
                                  refine lv_ladd hx hb d_M_count_247 ?_
                                  refine n_topl (show _ = lN ((cntF (fun k => decide (X k = z) && decide (cl k = y)) k) + 0) from lN_add _ _) ?_
                                  refine n_topl (show _ = lN (cntF (fun k => decide (X k = z) && decide (cl k = y)) (k + 1)) by rw [cntF, if_neg (by simp [h14])]) ?_
                                  refine lv_lstore (lv' := [(5, .long (lN (cntF (fun k => decide (X k = z) && decide (cl k = y)) (k + 1)))), (0, .ref (ad 400)), (1, .int (nI z)), (2, .long (lN M9)), (4, .int (nI y)), (7, .int (nI k))]) hx hb d_M_count_248 hl (by decide) rfl (fun ls hl => ?_)
                                  refine n_iinc (lv' := [(7, .int (nI (k + 1))), (5, .long (lN (cntF (fun k => decide (X k = z) && decide (cl k = y)) (k + 1)))), (0, .ref (ad 400)), (1, .int (nI z)), (2, .long (lN M9)), (4, .int (nI y))]) hx hb d_M_count_250 hl (k := 5) rfl (by decide) rfl (fun ls hl => ?_)
                                  refine lv_goto (tgt := 208) hx hb d_M_count_253 (by decide) ?_
                                  exact ih6 (k + 1) _ _ ls (by omega) (by omega) hW hS (lv_sub hl [2, 3, 4, 5, 1, 0] rfl)
                                · refine lv_lconst (v := lN 1) hx hb d_M_count_242 (by decide) ?_
                                  refine lv_goto (tgt := 247) hx hb d_M_count_243 (by decide) ?_
                                  refine lv_ladd hx hb d_M_count_247 ?_
                                  refine n_topl (show _ = lN ((cntF (fun k => decide (X k = z) && decide (cl k = y)) k) + 1) from lN_add _ _) ?_
                                  refine n_topl (show _ = lN (cntF (fun k => decide (X k = z) && decide (cl k = y)) (k + 1)) by rw [cntF, if_pos (by simp [h13, h14])]) ?_
                                  refine lv_lstore (lv' := [(5, .long (lN (cntF (fun k => decide (X k = z) && decide (cl k = y)) (k + 1)))), (0, .ref (ad 400)), (1, .int (nI z)), (2, .long (lN M9)), (4, .int (nI y)), (7, .int (nI k))]) hx hb d_M_count_248 hl (by decide) rfl (fun ls hl => ?_)
                                  refine n_iinc (lv' := [(7, .int (nI (k + 1))), (5, .long (lN (cntF (fun k => decide (X k = z) && decide (cl k = y)) (k + 1)))), (0, .ref (ad 400)), (1, .int (nI z)), (2, .long (lN M9)), (4, .int (nI y))]) hx hb d_M_count_250 hl (k := 5) rfl (by decide) rfl (fun ls hl => ?_)
                                  refine lv_goto (tgt := 208) hx hb d_M_count_253 (by decide) ?_
                                  exact ih6 (k + 1) _ _ ls (by omega) (by omega) hW hS (lv_sub hl [2, 3, 4, 5, 1, 0] rfl)
              · have hN0 := lcN_nle (by omega) h4
                refine lv_lconst (v := lN 0) hx hb d_M_count_69 (by decide) ?_
                refine lv_lstore (lv' := [(5, .long (lN 0)), (0, .ref (ad 400)), (1, .int (nI z)), (2, .long (lN N)), (4, .int (nI b))]) hx hb d_M_count_70 hl (by decide) rfl (fun ls hl => ?_)
                refine lv_iconst (v := nI 0) hx hb d_M_count_72 (by decide) ?_
                refine lv_istore (lv' := [(7, .int (nI 0)), (5, .long (lN 0)), (0, .ref (ad 400)), (1, .int (nI z)), (2, .long (lN N)), (4, .int (nI b))]) hx hb d_M_count_73 hl (by decide) rfl (fun ls hl => ?_)
                suffices hloop : ∀ (d4 k : Nat) (H : Heap) (locs : List Loc) (ls : Array Slot), (k ≤ rw - 1) → (rw ≤ k + d4) → gW D gCl (gA ad co dl s.heap.size) ad (wC cI cJ co U1 V) dl H → va_S (gA ad co dl s.heap.size) s.heap H locs → lv_has ls 8 [(0, .ref (ad 400)), (1, .int (nI z)), (2, .long (lN N)), (4, .int (nI b)), (5, .long (lN (cntF (fun k => decide (X k = z) && decide (X (k + 1) = b)) k))), (7, .int (nI k))] → W pp l ee _ s mm _ below meth cd H locs 0 0 _ (F0 mm 75 ls []) by
                  exact hloop rw 0 _ _ ls (by omega) (by omega) hW hS (lv_sub hl [2, 3, 4, 5, 1, 0] rfl)
                clear hW hS hl
                intro d4
                induction d4 with
                | zero => intro k H locs ls hk4 hd4; omega
                | succ d4 ih4 =>
                  intro k H locs ls hk4 hd4 hW hS hl
                  refine lv_iload hx hb d_M_count_75 (lv_at hl 5 rfl) ?_
                  refine lv_iconst (v := nI 1) hx hb d_M_count_77 (by decide) ?_
                  refine n_add hx hb d_M_count_78 ?_
                  refine lv_aload_n hx hb d_M_count_79 rfl (lv_at hl 0 rfl) ?_
                  refine g_get (C := R_M) (T := F_M) (N := 35) hx hb hts i_M hown hK hW (i := 400) (hdl 400 (by decide) (by decide)) ((wC_o (by decide)).trans h400) rfl 5 (by decide) (hts _ q_493) (fun _ h9 => h9) rfl d_M_count_80 ?_
                  refine n_icmp_ge (tgt := 127) hx hb (by omega) (by omega) d_M_count_83 (by decide) (fun h5 => ?_) (fun h5 => ?_)
                  · have hkr4 : k = rw - 1 := by omega
                    obtain ⟨m9, hm9⟩ : ∃ v, v = nCb X z b rw := ⟨_, rfl⟩
                    have hml9 := nCb_le X z b rw
                    rw [← hm9, ← hN9] at hml9
                    rw [hkr4, show cntF (fun k => decide (X k = z) && decide (X (k + 1) = b)) (rw - 1) = m9 from hm9.symm] at hl
                    clear ih4
                    refine lv_aload_n hx hb d_M_count_127 rfl (lv_at hl 0 rfl) ?_
                    refine g_get (C := R_M) (T := F_M) (N := 35) hx hb hts i_M hown hK hW (i := 400) (hdl 400 (by decide) (by decide)) ((wC_o (by decide)).trans h400) rfl 1 (by decide) (hts _ q_489) (fun _ h9 => h9) rfl d_M_count_128 ?_
                    refine lv_bipush (v := nI 12) hx hb d_M_count_131 (by decide) ?_
                    refine lv_iload_n hx hb d_M_count_133 rfl (lv_at hl 1 rfl) ?_
                    refine n_mul hx hb d_M_count_134 ?_
                    refine lv_iload hx hb d_M_count_135 (lv_at hl 3 rfl) ?_
                    refine n_add hx hb d_M_count_137 ?_
                    refine lv_ldc2 hx hb hown (hts _ q_680) d_M_count_138 ?_
                    refine n_topl (show (1000 : Int64) = lN 1000 by decide) ?_
                    refine lv_lload_n hx hb d_M_count_141 rfl (lv_at hl 2 rfl) ?_
                    refine lv_lload hx hb d_M_count_142 (lv_at hl 4 rfl) ?_
                    refine lv_lsub hx hb d_M_count_144 ?_
                    refine n_topl (show _ = lN (N - m9) from lN_sub (by omega)) ?_
                    refine lv_lmul hx hb d_M_count_145 ?_
                    refine n_topl (show _ = lN (1000 * (N - m9)) from lN_mul _ _) ?_
                    refine lv_lload_n hx hb d_M_count_146 rfl (lv_at hl 2 rfl) ?_
                    refine lv_ldiv hx hb d_M_count_147 (lN_ne0 (by omega) (by omega)) ?_
                    refine n_topl (show _ = lN ((1000 * (N - m9)) / N) from pk_lDiv (by omega) (by omega) (by omega)) ?_
                    refine lv_l2i (v := nI ((1000 * (N - m9)) / N)) hx hb d_M_count_148 (lN_i _) ?_
                    refine n_iast (x := nI ((1000 * (N - m9)) / N)) hx hb hK hW hS 0 (q := 401) (hdl 401 (by decide) (by decide)) wC_401 rfl (j := (12 * z) + b) (by omega) (by omega) d_M_count_149 (fun H locs hW hS => ?_)
                    rw [wC_u401] at hW
                    refine n_iinc (lv' := [(4, .int (nI (b + 1))), (0, .ref (ad 400)), (1, .int (nI z)), (2, .long (lN N)), (5, .long (lN m9)), (7, .int (nI (rw - 1)))]) hx hb d_M_count_150 hl (k := 3) rfl (by decide) rfl (fun ls hl => ?_)
                    refine lv_goto (tgt := 54) hx hb d_M_count_153 (by decide) ?_
                    refine ih3 (b + 1) (upd U1 (12 * z + b) (nI (1000 * (N - m9) / N))) _ _ ls (by omega) (by omega) (fun i j hi hj => ?_) hW hS (lv_sub hl [1, 2, 3, 0] rfl)
                    by_cases hij : i = z ∧ j = b
                    · obtain ⟨rfl, rfl⟩ := hij
                      rw [pk_us, if_pos (by omega), ftm, if_neg (by omega), ← hN9, ← hm9]
                    · rw [pk_un (show 12 * i + j ≠ 12 * z + b by omega), hU1 i j hi hj]; congr 2; apply propext; omega
                  · have hXk := hX k (by omega)
                    have hXk1 := hX (k + 1) (by omega)
                    refine lv_lload hx hb d_M_count_86 (lv_at hl 4 rfl) ?_
                    refine lv_aload_n hx hb d_M_count_88 rfl (lv_at hl 0 rfl) ?_
                    refine g_get (C := R_M) (T := F_M) (N := 35) hx hb hts i_M hown hK hW (i := 400) (hdl 400 (by decide) (by decide)) ((wC_o (by decide)).trans h400) rfl 23 (by decide) (hts _ q_511) (fun _ h9 => h9) rfl d_M_count_89 ?_
                    refine lv_iload hx hb d_M_count_92 (lv_at hl 5 rfl) ?_
                    refine n_iald hx hb hK hW 0 (q := 417) (hdl 417 (by decide) (by decide)) ((wC_o (by decide)).trans h417) rfl (j := k) (by omega) (by omega) d_M_count_94 ?_
                    refine n_topi (show ln k = nI (X k) from hXk.1) ?_
                    refine lv_iload_n hx hb d_M_count_95 rfl (lv_at hl 1 rfl) ?_
                    refine n_icmp_ne (tgt := 117) hx hb (show X k < 2 ^ 31 by omega) (by omega) d_M_count_96 (by decide) (fun h6 => ?_) (fun h6 => ?_)
                    · refine lv_lconst (v := lN 0) hx hb d_M_count_117 (by decide) ?_
                      refine lv_ladd hx hb d_M_count_118 ?_
                      refine n_topl (show _ = lN ((cntF (fun k => decide (X k = z) && decide (X (k + 1) = b)) k) + 0) from lN_add _ _) ?_
                      refine n_topl (show _ = lN (cntF (fun k => decide (X k = z) && decide (X (k + 1) = b)) (k + 1)) by rw [cntF, if_neg (by simp [h6])]) ?_
                      refine lv_lstore (lv' := [(5, .long (lN (cntF (fun k => decide (X k = z) && decide (X (k + 1) = b)) (k + 1)))), (0, .ref (ad 400)), (1, .int (nI z)), (2, .long (lN N)), (4, .int (nI b)), (7, .int (nI k))]) hx hb d_M_count_119 hl (by decide) rfl (fun ls hl => ?_)
                      refine n_iinc (lv' := [(7, .int (nI (k + 1))), (5, .long (lN (cntF (fun k => decide (X k = z) && decide (X (k + 1) = b)) (k + 1)))), (0, .ref (ad 400)), (1, .int (nI z)), (2, .long (lN N)), (4, .int (nI b))]) hx hb d_M_count_121 hl (k := 5) rfl (by decide) rfl (fun ls hl => ?_)
                      refine lv_goto (tgt := 75) hx hb d_M_count_124 (by decide) ?_
                      exact ih4 (k + 1) _ _ ls (by omega) (by omega) hW hS (lv_sub hl [2, 3, 4, 5, 1, 0] rfl)
                    · refine lv_aload_n hx hb d_M_count_99 rfl (lv_at hl 0 rfl) ?_
                      refine g_get (C := R_M) (T := F_M) (N := 35) hx hb hts i_M hown hK hW (i := 400) (hdl 400 (by decide) (by decide)) ((wC_o (by decide)).trans h400) rfl 23 (by decide) (hts _ q_511) (fun _ h9 => h9) rfl d_M_count_100 ?_
                      refine lv_iload hx hb d_M_count_103 (lv_at hl 5 rfl) ?_
                      refine lv_iconst (v := nI 1) hx hb d_M_count_105 (by decide) ?_
                      refine n_add hx hb d_M_count_106 ?_
                      refine n_iald hx hb hK hW 0 (q := 417) (hdl 417 (by decide) (by decide)) ((wC_o (by decide)).trans h417) rfl (j := k + 1) (by omega) (by omega) d_M_count_107 ?_
                      refine n_topi (show ln (k + 1) = nI (X (k + 1)) from hXk1.1) ?_
                      refine lv_iload hx hb d_M_count_108 (lv_at hl 3 rfl) ?_
                      refine n_icmp_ne (tgt := 117) hx hb (show X (k + 1) < 2 ^ 31 by omega) (by omega) d_M_count_110 (by decide) (fun h7 => ?_) (fun h7 => ?_)
                      · refine lv_lconst (v := lN 0) hx hb d_M_count_117 (by decide) ?_
                        refine lv_ladd hx hb d_M_count_118 ?_
                        refine n_topl (show _ = lN ((cntF (fun k => decide (X k = z) && decide (X (k + 1) = b)) k) + 0) from lN_add _ _) ?_
                        refine n_topl (show _ = lN (cntF (fun k => decide (X k = z) && decide (X (k + 1) = b)) (k + 1)) by rw [cntF, if_neg (by simp [h7])]) ?_
                        refine lv_lstore (lv' := [(5, .long (lN (cntF (fun k => decide (X k = z) && decide (X (k + 1) = b)) (k + 1)))), (0, .ref (ad 400)), (1, .int (nI z)), (2, .long (lN N)), (4, .int (nI b)), (7, .int (nI k))]) hx hb d_M_count_119 hl (by decide) rfl (fun ls hl => ?_)
                        refine n_iinc (lv' := [(7, .int (nI (k + 1))), (5, .long (lN (cntF (fun k => decide (X k = z) && decide (X (k + 1) = b)) (k + 1)))), (0, .ref (ad 400)), (1, .int (nI z)), (2, .long (lN N)), (4, .int (nI b))]) hx hb d_M_count_121 hl (k := 5) rfl (by decide) rfl (fun ls hl => ?_)
                        refine lv_goto (tgt := 75) hx hb d_M_count_124 (by decide) ?_
                        exact ih4 (k + 1) _ _ ls (by omega) (by omega) hW hS (lv_sub hl [2, 3, 4, 5, 1, 0] rfl)
                      · refine lv_lconst (v := lN 1) hx hb d_M_count_113 (by decide) ?_
                        refine lv_goto (tgt := 118) hx hb d_M_count_114 (by decide) ?_
                        refine lv_ladd hx hb d_M_count_118 ?_
                        refine n_topl (show _ = lN ((cntF (fun k => decide (X k = z) && decide (X (k + 1) = b)) k) + 1) from lN_add _ _) ?_
                        refine n_topl (show _ = lN (cntF (fun k => decide (X k = z) && decide (X (k + 1) = b)) (k + 1)) by rw [cntF, if_pos (by simp [h6, h7])]) ?_
                        refine lv_lstore (lv' := [(5, .long (lN (cntF (fun k => decide (X k = z) && decide (X (k + 1) = b)) (k + 1)))), (0, .ref (ad 400)), (1, .int (nI z)), (2, .long (lN N)), (4, .int (nI b)), (7, .int (nI k))]) hx hb d_M_count_119 hl (by decide) rfl (fun ls hl => ?_)
                        refine n_iinc (lv' := [(7, .int (nI (k + 1))), (5, .long (lN (cntF (fun k => decide (X k = z) && decide (X (k + 1) = b)) (k + 1)))), (0, .ref (ad 400)), (1, .int (nI z)), (2, .long (lN N)), (4, .int (nI b))]) hx hb d_M_count_121 hl (k := 5) rfl (by decide) rfl (fun ls hl => ?_)
                        refine lv_goto (tgt := 75) hx hb d_M_count_124 (by decide) ?_
                        exact ih4 (k + 1) _ _ ls (by omega) (by omega) hW hS (lv_sub hl [2, 3, 4, 5, 1, 0] rfl)
        · have hXk := hX k (by omega)
          refine lv_lload_n hx hb d_M_count_26 rfl (lv_at hl 2 rfl) ?_
          refine lv_aload_n hx hb d_M_count_27 rfl (lv_at hl 0 rfl) ?_
          refine g_get (C := R_M) (T := F_M) (N := 35) hx hb hts i_M hown hK hW (i := 400) (hdl 400 (by decide) (by decide)) ((wC_o (by decide)).trans h400) rfl 23 (by decide) (hts _ q_511) (fun _ h9 => h9) rfl d_M_count_28 ?_
          refine lv_iload hx hb d_M_count_31 (lv_at hl 3 rfl) ?_
          refine n_iald hx hb hK hW 0 (q := 417) (hdl 417 (by decide) (by decide)) ((wC_o (by decide)).trans h417) rfl (j := k) (by omega) (by omega) d_M_count_33 ?_
          refine n_topi (show ln k = nI (X k) from hXk.1) ?_
          refine lv_iload_n hx hb d_M_count_34 rfl (lv_at hl 1 rfl) ?_
          refine n_icmp_ne (tgt := 42) hx hb (show X k < 2 ^ 31 by omega) (by omega) d_M_count_35 (by decide) (fun h3 => ?_) (fun h3 => ?_)
          · refine lv_lconst (v := lN 0) hx hb d_M_count_42 (by decide) ?_
            refine lv_ladd hx hb d_M_count_43 ?_
            refine n_topl (show _ = lN ((cntF (fun k => decide (X k = z)) k) + 0) from lN_add _ _) ?_
            refine n_topl (show _ = lN (cntF (fun k => decide (X k = z)) (k + 1)) by rw [cntF, if_neg (by simp [h3])]) ?_
            refine lv_lstore_n (lv' := [(2, .long (lN (cntF (fun k => decide (X k = z)) (k + 1)))), (0, .ref (ad 400)), (1, .int (nI z)), (4, .int (nI k))]) hx hb d_M_count_44 rfl hl (by decide) rfl (fun ls hl => ?_)
            refine n_iinc (lv' := [(4, .int (nI (k + 1))), (2, .long (lN (cntF (fun k => decide (X k = z)) (k + 1)))), (0, .ref (ad 400)), (1, .int (nI z))]) hx hb d_M_count_45 hl (k := 3) rfl (by decide) rfl (fun ls hl => ?_)
            refine lv_goto (tgt := 15) hx hb d_M_count_48 (by decide) ?_
            exact ih2 (k + 1) _ _ ls (by omega) (by omega) hW hS (lv_sub hl [2, 3, 1, 0] rfl)
          · refine lv_lconst (v := lN 1) hx hb d_M_count_38 (by decide) ?_
            refine lv_goto (tgt := 43) hx hb d_M_count_39 (by decide) ?_
            refine lv_ladd hx hb d_M_count_43 ?_
            refine n_topl (show _ = lN ((cntF (fun k => decide (X k = z)) k) + 1) from lN_add _ _) ?_
            refine n_topl (show _ = lN (cntF (fun k => decide (X k = z)) (k + 1)) by rw [cntF, if_pos (by simp [h3])]) ?_
            refine lv_lstore_n (lv' := [(2, .long (lN (cntF (fun k => decide (X k = z)) (k + 1)))), (0, .ref (ad 400)), (1, .int (nI z)), (4, .int (nI k))]) hx hb d_M_count_44 rfl hl (by decide) rfl (fun ls hl => ?_)
            refine n_iinc (lv' := [(4, .int (nI (k + 1))), (2, .long (lN (cntF (fun k => decide (X k = z)) (k + 1)))), (0, .ref (ad 400)), (1, .int (nI z))]) hx hb d_M_count_45 hl (k := 3) rfl (by decide) rfl (fun ls hl => ?_)
            refine lv_goto (tgt := 15) hx hb d_M_count_48 (by decide) ?_
            exact ih2 (k + 1) _ _ ls (by omega) (by omega) hW hS (lv_sub hl [2, 3, 1, 0] rfl)
