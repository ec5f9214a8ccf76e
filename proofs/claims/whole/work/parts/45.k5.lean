set_option maxHeartbeats 4000000 in
set_option maxRecDepth 100000 in
/-- stepBefore -/
theorem c_F_stepBefore (l : Launch) {D : va_G} {cI cJ cG : ClassId} {ad : Nat → Nat} {co : Nat → va_E} {dl : List Nat} {a fc bb ff n : Nat}  (hdl : ∀ i, kD a i → i ∈ dl) (w16 : co 16 = oF ad fc a bb ff) (w1 : co 1 = oT ad n) {cls : Nat → Int32} {shp : Nat → Int32} {tr : Nat → Int32} (w3 : co 3 = .inl (cI, 200, .inl cls)) (w5 : co 5 = .inl (cI, 200, .inl shp)) (w6 : co 6 = .inl (cI, 200, .inl tr)) (r : Nat) {tb c1 c2 m1 m2 : Nat} (htab : (tb = 7 ∧ c1 = 8 ∧ c2 = 9 ∧ m1 = 40 ∧ m2 = 60) ∨ (tb = 10 ∧ c1 = 11 ∧ c2 = 12 ∧ m1 = 80 ∧ m2 = 100) ∨ (tb = 13 ∧ c1 = 14 ∧ c2 = 15 ∧ m1 = 120 ∧ m2 = 140)) (wtb : co tb = oB ad c1 c2) (wc1 : co c1 = oG ad cG a m1) (wc2 : co c2 = oG ad cG a m2) {MV SP : Nat → Nat → Int32} (wm1 : ∀ i, i < a → co (m1 + i) = .inl (cI, a, .inl (MV i))) (wm2 : ∀ i, i < a → co (m2 + i) = .inl (cI, 10, .inl (SP i))) {cl : Nat → Nat} {mv sp : Nat → Nat → Nat} (ha : a ≤ 12) (hok : okN a (alw tr shp (-1)) cl mv sp n) (hcl : ∀ k, k < n → cls k = nI (cl k) ∧ cl k < 10) (hmv : ∀ i j, i < a → j < a → MV i j = nI (mv i j)) (hsp : ∀ i c, i < a → c < 10 → SP i c = nI (sp i c)) (hbf : (bb = 20 ∧ ff = 21) ∨ (bb = 21 ∧ ff = 20)) (hr9 : r < n) {fb fa : Nat → Int32} (wbb : co bb = .inl (cI, a, .inl fb)) (wff : co ff = .inl (cI, a, .inl fa)) {u : Nat → Nat} (hu : ∀ j, j < a → fb j = nI (u j) ∧ u j ≤ 4000000) : gMv l y_F_stepBefore (Cond.code y_F_stepBefore b_F_stepBefore 8 none :: wA) ({ frames := 1, cells := 0, slots := 0, locals := 60 }) D gCl (gTy cI cJ cG) gNl [.ref (ad 16), .ref (ad 1), .ref (ad tb), .int (nI r)] ad co dl (fun co' => ∃ g, co' = va_up (va_up co ff (.inl (cI, a, .inl g))) 16 (oF ad fc a ff bb) ∧ ∀ j, j < a → g j = nI (rmin ((alw tr shp (-1)) r) (fun c => u c + sp c (cl r) + mv c j) a)) := by
  refine gMv_of (cc := b_F_stepBefore) (maxL := 8) (ret := none) (by decide) rfl (Nat.le_of_ble_eq_true rfl) ?_
  intro pp ee s mm below meth cd ls hC hW hS hl
  obtain ⟨hx, hb, hr, hts0, hown, hlocks, hml, hK, hN⟩ := hC
  have hts : ∀ w ∈ wA, w.before _ s = true := fun w h => hts0 w (List.mem_cons_of_mem _ h)
  have hA : ∀ q, s.heap.size ≤ q → gA ad co dl s.heap.size q := fun q h => Or.inr h
  have hl : lv_has ls 8 [(0, .ref (ad 16)), (1, .ref (ad 1)), (2, .ref (ad tb)), (3, .int (nI r))] := hl
  have hown : s.vm.findClass R_F = some mm.cls := hown
  have hn0 : 0 < n := hok.1
  have hn2 : n ≤ 200 := hok.2.1
  have ha0 : 0 < a := hok.2.2.1
  have hBIG : BIG = 1000000000 := rfl
  have hcr := hcl r hr9
  refine lv_aload_n hx hb d_F_stepBefore_0 rfl (lv_at hl 1 rfl) ?_
  refine g_get (C := R_T) (T := F_T) (N := 6) hx hb hts i_T hown hK hW (i := 1) (hdl (1) (by unfold kD; omega)) w1 rfl 1 (by decide) (hts _ q_36) (fun _ h9 => h9) rfl d_F_stepBefore_1 ?_
  refine lv_iload_n hx hb d_F_stepBefore_4 rfl (lv_at hl 3 rfl) ?_
  refine n_iald hx hb hK hW 0 (q := 3) (hdl (3) (by unfold kD; omega)) w3 rfl (j := r) (by omega) (by omega) d_F_stepBefore_5 ?_
  refine n_topi (show cls r = nI (cl r) from hcr.1) ?_
  refine lv_istore (lv' := [(4, .int (nI (cl r))), (0, .ref (ad 16)), (1, .ref (ad 1)), (2, .ref (ad tb)), (3, .int (nI r))]) hx hb d_F_stepBefore_6 hl (by decide) rfl (fun ls hl => ?_)
  refine lv_aload_n hx hb d_F_stepBefore_8 rfl (lv_at hl 1 rfl) ?_
  refine g_get (C := R_F) (T := F_F) (N := 7) hx hb hts i_F hown hK hW (i := 16) (hdl (16) (by unfold kD; omega)) w16 rfl 6 (by decide) (hts _ q_98) (fun _ h9 => h9) rfl d_F_stepBefore_9 ?_
  refine lv_ldc hx hb hown (hts _ q_266) d_F_stepBefore_12 ?_
  refine n_topi (show (1000000000 : Int32) = nI 1000000000 by decide) ?_
  refine g_cSv (As := [.ref (ad ff), .int (nI 1000000000)]) (rest := []) ⟨hx, hb, hml, hown, hts⟩ (c_JA_fill l (q := ff) (hdl _ (by unfold kD; omega)) wff (by omega) (nI 1000000000)) (gcwS 2 hts q_284 q_282 q_283 q_11 (by decide +kernel) ⟨(Nat.le_of_ble_eq_true rfl), (Nat.le_of_ble_eq_true rfl)⟩) gNl_ok hN hK hW hS hA rfl hl.1 rfl (Nat.le_of_ble_eq_true rfl) d_F_stepBefore_14 ⟨Nat.zero_le _, Nat.zero_le _⟩ (fun co9 H locs hp9 hW hS => ?_)
  rw [hp9] at hW
  refine lv_iconst (v := nI 0) hx hb d_F_stepBefore_17 (by decide) ?_
  refine lv_istore (lv' := [(5, .int (nI 0)), (4, .int (nI (cl r))), (0, .ref (ad 16)), (1, .ref (ad 1)), (2, .ref (ad tb)), (3, .int (nI r))]) hx hb d_F_stepBefore_18 hl (by decide) rfl (fun ls hl => ?_)
  suffices hloop : ∀ (d c : Nat) (g : Nat → Int32) (H : Heap) (locs : List Loc) (ls : Array Slot), (c ≤ a) → (a + 1 ≤ c + d) → (∀ j, j < a → g j = nI (rmin ((alw tr shp (-1)) r) (fun c => u c + sp c (cl r) + mv c j) c)) → gW D gCl (gA ad co dl s.heap.size) ad (va_up co ff (.inl (cI, a, .inl g))) dl H → va_S (gA ad co dl s.heap.size) s.heap H locs → lv_has ls 8 [(0, .ref (ad 16)), (1, .ref (ad 1)), (2, .ref (ad tb)), (3, .int (nI r)), (4, .int (nI (cl r))), (5, .int (nI c))] → W pp l ee _ s mm _ below meth cd H locs 0 0 _ (F0 mm 20 ls []) by
    exact hloop (a + 1) 0 _ _ _ ls (by omega) (by omega) (fun j hj => by rw [if_pos hj]; rfl) hW hS (lv_sub hl [2, 3, 4, 5, 1, 0] rfl)
  clear hW hS hl
  intro d
  induction d with
  | zero => intro c g H locs ls hc hd hg; omega
  | succ d ih =>
    intro c g H locs ls hc hd hg hW hS hl
    refine lv_iload hx hb d_F_stepBefore_20 (lv_at hl 5 rfl) ?_
    refine lv_aload_n hx hb d_F_stepBefore_22 rfl (lv_at hl 0 rfl) ?_
    refine g_get (C := R_F) (T := F_F) (N := 7) hx hb hts i_F hown hK hW (i := 16) (hdl (16) (by unfold kD; omega)) ((va_up_ne _ _ (by omega)).trans w16) rfl 2 (by decide) (hts _ q_94) (fun _ h9 => h9) rfl d_F_stepBefore_23 ?_
    refine n_icmp_ge (tgt := 114) hx hb (by omega) (by omega) d_F_stepBefore_26 (by decide) (fun h1 => ?_) (fun h1 => ?_)
    · have hca : c = a := by omega
      rw [hca] at hg
      refine lv_aload_n hx hb d_F_stepBefore_114 rfl (lv_at hl 0 rfl) ?_
      refine g_get (C := R_F) (T := F_F) (N := 7) hx hb hts i_F hown hK hW (i := 16) (hdl (16) (by unfold kD; omega)) ((va_up_ne _ _ (by omega)).trans w16) rfl 5 (by decide) (hts _ q_97) (fun _ h9 => h9) rfl d_F_stepBefore_115 ?_
      refine lv_astore (lv' := [(5, .ref (ad bb)), (0, .ref (ad 16)), (1, .ref (ad 1)), (2, .ref (ad tb)), (3, .int (nI r)), (4, .int (nI (cl r)))]) hx hb d_F_stepBefore_118 hl (by decide) rfl (fun ls hl => ?_)
      refine lv_aload_n hx hb d_F_stepBefore_120 rfl (lv_at hl 1 rfl) ?_
      refine lv_aload_n hx hb d_F_stepBefore_121 rfl (lv_at hl 1 rfl) ?_
      refine g_get (C := R_F) (T := F_F) (N := 7) hx hb hts i_F hown hK hW (i := 16) (hdl (16) (by unfold kD; omega)) ((va_up_ne _ _ (by omega)).trans w16) rfl 6 (by decide) (hts _ q_98) (fun _ h9 => h9) rfl d_F_stepBefore_122 ?_
      refine g_put (ty := .array .int) (v := .ref (ad ff)) (C := R_F) (T := F_F) (N := 7) hx hb hts i_F fy_F fy_F_ok fn_F hown hK hW hS (i := 16) (hdl (16) (by unfold kD; omega)) ((va_up_ne _ _ (by omega)).trans w16) rfl 5 (by decide) (hts _ q_97) (fun _ h9 => h9) rfl (by decide +kernel) rfl rfl (Nat.le_of_ble_eq_true rfl) d_F_stepBefore_125 (fun H locs hW hS => ?_)
      refine lv_aload_n hx hb d_F_stepBefore_128 rfl (lv_at hl 1 rfl) ?_
      refine lv_aload hx hb d_F_stepBefore_129 (lv_at hl 0 rfl) ?_
      refine g_put (ty := .array .int) (v := .ref (ad bb)) (C := R_F) (T := F_F) (N := 7) hx hb hts i_F fy_F fy_F_ok fn_F hown hK hW hS (i := 16) (hdl (16) (by unfold kD; omega)) (va_up_self _ _ _) rfl 6 (by decide) (hts _ q_98) (fun _ h9 => h9) rfl (by decide +kernel) rfl rfl (Nat.le_of_ble_eq_true rfl) d_F_stepBefore_131 (fun H locs hW hS => ?_)
      exact g_vret hx hb hr hlocks hW hS (⟨g, by rw [bx_uu]; rfl, hg⟩) d_F_stepBefore_134
    · refine lv_aload_n hx hb d_F_stepBefore_29 rfl (lv_at hl 1 rfl) ?_
      refine lv_iload_n hx hb d_F_stepBefore_30 rfl (lv_at hl 3 rfl) ?_
      refine lv_iload hx hb d_F_stepBefore_31 (lv_at hl 5 rfl) ?_
      refine lv_iconst (v := (-1)) hx hb d_F_stepBefore_33 (by decide) ?_
      refine g_cVi (As := [.int (nI r), .int (nI c), .int (-1)]) (rest := []) ⟨hx, hb, hml, hown, hts⟩ (c_T_allows l hdl ((va_up_ne _ _ (by omega)).trans w1) ((va_up_ne _ _ (by omega)).trans w5) ((va_up_ne _ _ (by omega)).trans w6) r c (-1) (by omega)) (gcwV 3 hts q_265 q_262 q_263 q_264 q_3 (by decide +kernel) ⟨(Nat.le_of_ble_eq_true rfl), (Nat.le_of_ble_eq_true rfl)⟩) gNl_ok hN hK hW hS hA (hdl (1) (by unfold kD; omega)) ((va_up_ne _ _ (by omega)).trans w1) rfl rfl hl.1 rfl (Nat.le_of_ble_eq_true rfl) d_F_stepBefore_34 ⟨Nat.zero_le _, Nat.zero_le _⟩ (fun r co9 H locs hp9 hW hS => ?_)
      obtain ⟨rfl, hco9⟩ := hp9
      rw [hco9] at hW
      refine n_ifz_eq (tgt := 108) hx hb d_F_stepBefore_37 (by decide) (fun h2 => ?_) (fun h2 => ?_)
      · refine n_iinc (lv' := [(5, .int (nI (c + 1))), (0, .ref (ad 16)), (1, .ref (ad 1)), (2, .ref (ad tb)), (3, .int (nI r)), (4, .int (nI (cl r)))]) hx hb d_F_stepBefore_108 hl (k := 5) rfl (by decide) rfl (fun ls hl => ?_)
        refine lv_goto (tgt := 20) hx hb d_F_stepBefore_111 (by decide) ?_
        exact ih (c + 1) g _ _ ls (by omega) (by omega) (fun j hj => by rw [hg j hj, rmin_no h2]) hW hS (lv_sub hl [1, 2, 3, 4, 5, 0] rfl)
      · have huc := hu c h1
        have hsc := hok.2.2.2.2.1 c r h1 hr9
        refine lv_aload_n hx hb d_F_stepBefore_40 rfl (lv_at hl 0 rfl) ?_
        refine g_get (C := R_F) (T := F_F) (N := 7) hx hb hts i_F hown hK hW (i := 16) (hdl (16) (by unfold kD; omega)) ((va_up_ne _ _ (by omega)).trans w16) rfl 5 (by decide) (hts _ q_97) (fun _ h9 => h9) rfl d_F_stepBefore_41 ?_
        refine lv_iload hx hb d_F_stepBefore_44 (lv_at hl 5 rfl) ?_
        refine n_iald hx hb hK hW 0 (q := bb) (hdl (bb) (by unfold kD; omega)) ((va_up_ne _ _ (by omega)).trans wbb) rfl (j := c) (by omega) (by omega) d_F_stepBefore_46 ?_
        refine n_topi (show fb c = nI (u c) from huc.1) ?_
        refine lv_aload_n hx hb d_F_stepBefore_47 rfl (lv_at hl 2 rfl) ?_
        refine g_get (C := R_B) (T := F_B) (N := 2) hx hb hts i_B hown hK hW (i := tb) (hdl (tb) (by unfold kD; omega)) ((va_up_ne _ _ (by omega)).trans wtb) rfl 1 (by decide) (hts _ q_75) (fun _ h9 => h9) rfl d_F_stepBefore_48 ?_
        refine lv_iload hx hb d_F_stepBefore_51 (lv_at hl 5 rfl) ?_
        refine n_aald hx hb hK hW 2 (q := c2) (hdl (c2) (by unfold kD; omega)) ((va_up_ne _ _ (by omega)).trans wc2) rfl rfl (j := c) (by omega) (by omega) (b := ad (m2 + c)) (if_pos (by omega)) d_F_stepBefore_53 ?_
        refine lv_iload hx hb d_F_stepBefore_54 (lv_at hl 4 rfl) ?_
        refine n_iald hx hb hK hW 0 (q := m2 + c) (hdl (m2 + c) (by unfold kD; omega)) ((va_up_ne _ _ (by omega)).trans (wm2 c (by omega))) rfl (j := cl r) (by omega) (by omega) d_F_stepBefore_56 ?_
        refine n_topi (show (SP c) (cl r) = nI (sp c (cl r)) from hsp c (cl r) h1 hcr.2) ?_
        refine n_add hx hb d_F_stepBefore_57 ?_
        refine lv_istore (lv' := [(6, .int (nI ((u c) + (sp c (cl r))))), (0, .ref (ad 16)), (1, .ref (ad 1)), (2, .ref (ad tb)), (3, .int (nI r)), (4, .int (nI (cl r))), (5, .int (nI c))]) hx hb d_F_stepBefore_58 hl (by decide) rfl (fun ls hl => ?_)
        refine lv_iconst (v := nI 0) hx hb d_F_stepBefore_60 (by decide) ?_
        refine lv_istore (lv' := [(7, .int (nI 0)), (6, .int (nI ((u c) + (sp c (cl r))))), (0, .ref (ad 16)), (1, .ref (ad 1)), (2, .ref (ad tb)), (3, .int (nI r)), (4, .int (nI (cl r))), (5, .int (nI c))]) hx hb d_F_stepBefore_61 hl (by decide) rfl (fun ls hl => ?_)
        suffices hloop : ∀ (d2 y : Nat) (g2 : Nat → Int32) (H : Heap) (locs : List Loc) (ls : Array Slot), (y ≤ a) → (a + 1 ≤ y + d2) → (∀ j, j < a → g2 j = nI (rmin ((alw tr shp (-1)) r) (fun c => u c + sp c (cl r) + mv c j) (if j < y then c + 1 else c))) → gW D gCl (gA ad co dl s.heap.size) ad (va_up co ff (.inl (cI, a, .inl g2))) dl H → va_S (gA ad co dl s.heap.size) s.heap H locs → lv_has ls 8 [(0, .ref (ad 16)), (1, .ref (ad 1)), (2, .ref (ad tb)), (3, .int (nI r)), (4, .int (nI (cl r))), (5, .int (nI c)), (6, .int (nI (u c + sp c (cl r)))), (7, .int (nI y))] → W pp l ee _ s mm _ below meth cd H locs 0 0 _ (F0 mm 63 ls []) by
          exact hloop (a + 1) 0 g _ _ ls (by omega) (by omega) (fun j hj => by rw [if_neg (Nat.not_lt_zero j)]; exact hg j hj) hW hS (lv_sub hl [2, 3, 4, 5, 6, 7, 1, 0] rfl)
        clear hW hS hl
        intro d2
        induction d2 with
        | zero => intro y g2 H locs ls hy hd2 hg2; omega
        | succ d2 ih2 =>
          intro y g2 H locs ls hy hd2 hg2 hW hS hl
          refine lv_iload hx hb d_F_stepBefore_63 (lv_at hl 7 rfl) ?_
          refine lv_aload_n hx hb d_F_stepBefore_65 rfl (lv_at hl 0 rfl) ?_
          refine g_get (C := R_F) (T := F_F) (N := 7) hx hb hts i_F hown hK hW (i := 16) (hdl (16) (by unfold kD; omega)) ((va_up_ne _ _ (by omega)).trans w16) rfl 2 (by decide) (hts _ q_94) (fun _ h9 => h9) rfl d_F_stepBefore_66 ?_
          refine n_icmp_ge (tgt := 108) hx hb (by omega) (by omega) d_F_stepBefore_69 (by decide) (fun h3 => ?_) (fun h3 => ?_)
          · have hya : y = a := by omega
            rw [hya] at hg2
            refine n_iinc (lv' := [(5, .int (nI (c + 1))), (0, .ref (ad 16)), (1, .ref (ad 1)), (2, .ref (ad tb)), (3, .int (nI r)), (4, .int (nI (cl r))), (6, .int (nI (u c + sp c (cl r)))), (7, .int (nI y))]) hx hb d_F_stepBefore_108 hl (k := 5) rfl (by decide) rfl (fun ls hl => ?_)
            refine lv_goto (tgt := 20) hx hb d_F_stepBefore_111 (by decide) ?_
            exact ih (c + 1) g2 _ _ ls (by omega) (by omega) (fun j hj => by rw [hg2 j hj, if_pos hj]) hW hS (lv_sub hl [1, 2, 3, 4, 5, 0] rfl)
          · have hmc := hok.2.2.2.1 c y h1 h3
            have hgy := hg2 y h3
            rw [if_neg (Nat.lt_irrefl y)] at hgy
            have hrb := rmin_le_big ((alw tr shp (-1)) r) (fun c => u c + sp c (cl r) + mv c y) c
            refine lv_aload_n hx hb d_F_stepBefore_72 rfl (lv_at hl 0 rfl) ?_
            refine g_get (C := R_F) (T := F_F) (N := 7) hx hb hts i_F hown hK hW (i := 16) (hdl (16) (by unfold kD; omega)) ((va_up_ne _ _ (by omega)).trans w16) rfl 6 (by decide) (hts _ q_98) (fun _ h9 => h9) rfl d_F_stepBefore_73 ?_
            refine lv_iload hx hb d_F_stepBefore_76 (lv_at hl 7 rfl) ?_
            refine lv_aload_n hx hb d_F_stepBefore_78 rfl (lv_at hl 0 rfl) ?_
            refine g_get (C := R_F) (T := F_F) (N := 7) hx hb hts i_F hown hK hW (i := 16) (hdl (16) (by unfold kD; omega)) ((va_up_ne _ _ (by omega)).trans w16) rfl 6 (by decide) (hts _ q_98) (fun _ h9 => h9) rfl d_F_stepBefore_79 ?_
            refine lv_iload hx hb d_F_stepBefore_82 (lv_at hl 7 rfl) ?_
            refine n_iald hx hb hK hW 0 (q := ff) (hdl (ff) (by unfold kD; omega)) (va_up_self _ _ _) rfl (j := y) (by omega) (by omega) d_F_stepBefore_84 ?_
            refine n_topi (show g2 y = nI (rmin ((alw tr shp (-1)) r) (fun c => u c + sp c (cl r) + mv c y) c) from hgy) ?_
            refine lv_iload hx hb d_F_stepBefore_85 (lv_at hl 6 rfl) ?_
            refine lv_aload_n hx hb d_F_stepBefore_87 rfl (lv_at hl 2 rfl) ?_
            refine g_get (C := R_B) (T := F_B) (N := 2) hx hb hts i_B hown hK hW (i := tb) (hdl (tb) (by unfold kD; omega)) ((va_up_ne _ _ (by omega)).trans wtb) rfl 0 (by decide) (hts _ q_72) (fun _ h9 => h9) rfl d_F_stepBefore_88 ?_
            refine lv_iload hx hb d_F_stepBefore_91 (lv_at hl 5 rfl) ?_
            refine n_aald hx hb hK hW 2 (q := c1) (hdl (c1) (by unfold kD; omega)) ((va_up_ne _ _ (by omega)).trans wc1) rfl rfl (j := c) (by omega) (by omega) (b := ad (m1 + c)) (if_pos (by omega)) d_F_stepBefore_93 ?_
            refine lv_iload hx hb d_F_stepBefore_94 (lv_at hl 7 rfl) ?_
            refine n_iald hx hb hK hW 0 (q := m1 + c) (hdl (m1 + c) (by unfold kD; omega)) ((va_up_ne _ _ (by omega)).trans (wm1 c (by omega))) rfl (j := y) (by omega) (by omega) d_F_stepBefore_96 ?_
            refine n_topi (show (MV c) y = nI (mv c y) from hmv c y h1 h3) ?_
            refine n_add hx hb d_F_stepBefore_97 ?_
            refine va_mmin hx hb (hml.trans hl.1.symm) hown (hts _ q_289) (hts _ q_21) (hts _ q_2) (hts _ qm_min) (Nat.le_of_ble_eq_true rfl) (Nat.le_of_ble_eq_true rfl) (Nat.zero_le _) (Nat.zero_le _) d_F_stepBefore_98 ?_
            refine n_topi (show _ = nI (min (rmin ((alw tr shp (-1)) r) (fun c => u c + sp c (cl r) + mv c y) c) ((u c + sp c (cl r)) + (mv c y))) from nI_min (by omega) (by omega)) ?_
            refine n_topi (show nI (min (rmin ((alw tr shp (-1)) r) (fun c => u c + sp c (cl r) + mv c y) c) ((u c + sp c (cl r)) + (mv c y))) = nI (rmin ((alw tr shp (-1)) r) (fun c => u c + sp c (cl r) + mv c y) (c + 1)) from by rw [rmin, if_pos h2]) ?_
            refine n_iast (x := nI (rmin ((alw tr shp (-1)) r) (fun c => u c + sp c (cl r) + mv c y) (c + 1))) hx hb hK hW hS 0 (q := ff) (hdl (ff) (by unfold kD; omega)) (va_up_self _ _ _) rfl (j := y) (by omega) (by omega) d_F_stepBefore_101 (fun H locs hW hS => ?_)
            rw [bx_uu] at hW
            refine n_iinc (lv' := [(7, .int (nI (y + 1))), (0, .ref (ad 16)), (1, .ref (ad 1)), (2, .ref (ad tb)), (3, .int (nI r)), (4, .int (nI (cl r))), (5, .int (nI c)), (6, .int (nI (u c + sp c (cl r))))]) hx hb d_F_stepBefore_102 hl (k := 7) rfl (by decide) rfl (fun ls hl => ?_)
            refine lv_goto (tgt := 63) hx hb d_F_stepBefore_105 (by decide) ?_
            refine ih2 (y + 1) _ _ _ ls (by omega) (by omega) (fun j hj => ?_) hW hS (lv_sub hl [1, 2, 3, 4, 5, 6, 7, 0] rfl)
            by_cases hjy : j = y
            · subst hjy; rw [pk_us, if_pos (by omega)]
            · rw [pk_un hjy, hg2 j hj]
              by_cases hj2 : j < y
              · rw [if_pos hj2, if_pos (by omega)]
              · rw [if_neg hj2, if_neg (by omega)]
set_option maxHeartbeats 4000000 in
set_option maxRecDepth 100000 in
/-- find -/
theorem c_F_find (l : Launch) {D : va_G} {cI cJ cG : ClassId} {ad : Nat → Nat} {co : Nat → va_E} {dl : List Nat} {a fc bb ff n : Nat}  (hdl : ∀ i, kD a i → i ∈ dl) (w16 : co 16 = oF ad fc a bb ff) (w1 : co 1 = oT ad n) {cls : Nat → Int32} {shp : Nat → Int32} {tr : Nat → Int32} {fl : Nat → Int32} (w3 : co 3 = .inl (cI, 200, .inl cls)) (w5 : co 5 = .inl (cI, 200, .inl shp)) (w6 : co 6 = .inl (cI, 200, .inl tr)) (w17 : co 17 = .inl (cI, 200, .inl fl)) (w : Int32) {tb c1 c2 m1 m2 : Nat} (htab : (tb = 7 ∧ c1 = 8 ∧ c2 = 9 ∧ m1 = 40 ∧ m2 = 60) ∨ (tb = 10 ∧ c1 = 11 ∧ c2 = 12 ∧ m1 = 80 ∧ m2 = 100) ∨ (tb = 13 ∧ c1 = 14 ∧ c2 = 15 ∧ m1 = 120 ∧ m2 = 140)) (wtb : co tb = oB ad c1 c2) (wc1 : co c1 = oG ad cG a m1) (wc2 : co c2 = oG ad cG a m2) {MV SP : Nat → Nat → Int32} (wm1 : ∀ i, i < a → co (m1 + i) = .inl (cI, a, .inl (MV i))) (wm2 : ∀ i, i < a → co (m2 + i) = .inl (cI, 10, .inl (SP i))) {cl : Nat → Nat} {mv sp : Nat → Nat → Nat} (ha : a ≤ 12) (hok : okN a (alw tr shp w) cl mv sp n) (hcl : ∀ k, k < n → cls k = nI (cl k) ∧ cl k < 10) (hmv : ∀ i j, i < a → j < a → MV i j = nI (mv i j)) (hsp : ∀ i c, i < a → c < 10 → SP i c = nI (sp i c)) (hbf : (bb = 20 ∧ ff = 21) ∨ (bb = 21 ∧ ff = 20)) (w18 : co 18 = oG ad cG 200 200) {G0 : Nat → Nat → Int32} (wG0 : ∀ r, r < 200 → co (200 + r) = .inl (cI, a, .inl (G0 r))) {zz : Nat → Int32} (w19 : co 19 = .inl (cI, a, .inl zz)) (hzz : ∀ j, j < a → zz j = nI 0) : gMv l y_F_find (Cond.code y_F_find b_F_find 5 none :: wA) ({ frames := 2, cells := 0, slots := 0, locals := 54 }) D gCl (gTy cI cJ cG) gNl [.ref (ad 16), .ref (ad 1), .ref (ad tb), .int w] ad co dl (fun co' => ∃ G, co' = va_up (va_up (gG cI 200 200 a co G) 17 (.inl (cI, 200, .inl (fun j => if j < n then nI (bln a (alw tr shp w) cl mv sp n j) else fl j)))) 16 (oF ad (bcs a (alw tr shp w) cl mv sp n) a bb ff) ∧ ∀ r b, r < n → b < a → G r b = nI (tgo a (alw tr shp w) cl mv sp n r b)) := by
  refine gMv_of (cc := b_F_find) (maxL := 5) (ret := none) (by decide) rfl (Nat.le_of_ble_eq_true rfl) ?_
  intro pp ee s mm below meth cd ls hC hW hS hl
  obtain ⟨hx, hb, hr, hts0, hown, hlocks, hml, hK, hN⟩ := hC
  have hts : ∀ w ∈ wA, w.before _ s = true := fun w h => hts0 w (List.mem_cons_of_mem _ h)
  have hA : ∀ q, s.heap.size ≤ q → gA ad co dl s.heap.size q := fun q h => Or.inr h
  have hl : lv_has ls 5 [(0, .ref (ad 16)), (1, .ref (ad 1)), (2, .ref (ad tb)), (3, .int w)] := hl
  have hown : s.vm.findClass R_F = some mm.cls := hown
  have hn0 : 0 < n := hok.1
  have hn2 : n ≤ 200 := hok.2.1
  have ha0 : 0 < a := hok.2.2.1
  have hBIG : BIG = 1000000000 := rfl
  have hW := gW_eq (gG_self wG0) hW
  refine lv_aload_n hx hb d_F_find_0 rfl (lv_at hl 1 rfl) ?_
  refine g_get (C := R_T) (T := F_T) (N := 6) hx hb hts i_T hown hK hW (i := 1) (hdl (1) (by unfold kD; omega)) ((gG_o (by omega)).trans w1) rfl 5 (by decide) (hts _ q_43) (fun _ h9 => h9) rfl d_F_find_1 ?_
  refine lv_iconst (v := nI 1) hx hb d_F_find_4 (by decide) ?_
  refine lv_isub hx hb d_F_find_5 ?_
  refine lv_istore (lv' := [(4, .int ((nI n) - (nI 1))), (0, .ref (ad 16)), (1, .ref (ad 1)), (2, .ref (ad tb)), (3, .int w)]) hx hb d_F_find_6 hl (by decide) rfl (fun ls hl => ?_)
  suffices hloop : ∀ (d q : Nat) (G : Nat → Nat → Int32) (H : Heap) (locs : List Loc) (ls : Array Slot), (q ≤ n) → (q + 1 ≤ d) → (∀ r b, q ≤ r → r < n → b < a → G r b = nI (tgo a (alw tr shp w) cl mv sp n r b)) → gW D gCl (gA ad co dl s.heap.size) ad (gG cI 200 200 a co G) dl H → va_S (gA ad co dl s.heap.size) s.heap H locs → lv_has ls 5 [(0, .ref (ad 16)), (1, .ref (ad 1)), (2, .ref (ad tb)), (3, .int w), (4, .int (nI q - nI 1))] → W pp l ee _ s mm _ below meth cd H locs 0 0 _ (F0 mm 8 ls []) by
    exact hloop (n + 1) n G0 _ _ ls (Nat.le_refl _) (Nat.le_refl _) (fun r b h1 h2 => absurd h2 (by omega)) hW hS (lv_sub hl [1, 2, 3, 4, 0] rfl)
  clear hW hS hl
  intro d
  induction d with
  | zero => intro q G H locs ls hq hd hG; omega
  | succ d ih =>
    intro q G H locs ls hq hd hG hW hS hl
    rcases Nat.eq_zero_or_pos q with h0 | h0
    · subst h0
      clear ih
      refine lv_iload hx hb d_F_find_8 (lv_at hl 4 rfl) ?_
      refine lv_if_lt (tgt := 28) hx hb d_F_find_10 (by decide) (fun h1 => ?_) (fun h1 => ?_)
      · have hbl := bln_ok hok
        have hbig : ∀ r j, r < n → j < a → tgo a (alw tr shp w) cl mv sp n r j ≤ 1000000000 := fun r j hr hj => by
          cases hal : (alw tr shp w) r j with
          | true => have := tgo_le hok hr hj hal; omega
          | false => rw [tgo_big hal]; exact Nat.le_refl _
        refine lv_aload_n hx hb d_F_find_28 rfl (lv_at hl 0 rfl) ?_
        refine g_get (C := R_F) (T := F_F) (N := 7) hx hb hts i_F hown hK hW (i := 16) (hdl (16) (by unfold kD; omega)) ((gG_o (by omega)).trans w16) rfl 0 (by decide) (hts _ q_88) (fun _ h9 => h9) rfl d_F_find_29 ?_
        refine lv_iconst (v := nI 0) hx hb d_F_find_32 (by decide) ?_
        refine lv_aload_n hx hb d_F_find_33 rfl (lv_at hl 0 rfl) ?_
        refine lv_aload_n hx hb d_F_find_34 rfl (lv_at hl 0 rfl) ?_
        refine g_get (C := R_F) (T := F_F) (N := 7) hx hb hts i_F hown hK hW (i := 16) (hdl (16) (by unfold kD; omega)) ((gG_o (by omega)).trans w16) rfl 4 (by decide) (hts _ q_96) (fun _ h9 => h9) rfl d_F_find_35 ?_
        refine lv_aload_n hx hb d_F_find_38 rfl (lv_at hl 0 rfl) ?_
        refine g_get (C := R_F) (T := F_F) (N := 7) hx hb hts i_F hown hK hW (i := 16) (hdl (16) (by unfold kD; omega)) ((gG_o (by omega)).trans w16) rfl 3 (by decide) (hts _ q_95) (fun _ h9 => h9) rfl d_F_find_39 ?_
        refine lv_iconst (v := nI 0) hx hb d_F_find_42 (by decide) ?_
        refine n_aald hx hb hK hW 2 (q := 18) (hdl (18) (by unfold kD; omega)) ((gG_o (by omega)).trans w18) rfl rfl (j := 0) (by omega) (by omega) (b := ad (200 + 0)) (if_pos (by omega)) d_F_find_43 ?_
        refine g_cVi (As := [.ref (ad 19), .ref (ad (200 + 0))]) (rest := [.int (nI 0), .ref (ad 17)]) ⟨hx, hb, hml, hown, hts⟩ (c_F_cheapest l hdl ((gG_o (by omega)).trans w16) (q1 := 19) (q2 := 200 + 0) (u := fun _ => 0) (v := fun j => tgo a (alw tr shp w) cl mv sp n 0 j) (hdl _ (by unfold kD; omega)) (hdl _ (by unfold kD; omega)) ((gG_o (by omega)).trans w19) (gG_at (by omega)) ha0 ha hzz (fun j hj => hG 0 j (Nat.zero_le _) hn0 hj) (fun j hj => by have := hbig 0 j hn0 hj; show 0 + tgo a (alw tr shp w) cl mv sp n 0 j < 2 ^ 31; omega)) (gcwV 2 hts q_270 q_267 q_269 qs_2 q_5 (by decide +kernel) ⟨(Nat.le_of_ble_eq_true rfl), (Nat.le_of_ble_eq_true rfl)⟩) gNl_ok hN hK hW hS hA (hdl (16) (by unfold kD; omega)) ((gG_o (by omega)).trans w16) rfl rfl hl.1 rfl (Nat.le_of_ble_eq_true rfl) d_F_find_44 ⟨Nat.zero_le _, Nat.zero_le _⟩ (fun r co9 H locs hp9 hW hS => ?_)
        obtain ⟨rfl, hco9⟩ := hp9
        rw [hco9] at hW
        refine n_topi (show nI (amin (fun j => 0 + tgo a (alw tr shp w) cl mv sp n 0 j) (a - 1)) = nI (bln a (alw tr shp w) cl mv sp n 0) from by congr 1; exact amin_congr (fun j _ => Nat.zero_add _)) ?_
        refine n_iast (x := nI (bln a (alw tr shp w) cl mv sp n 0)) hx hb hK hW hS 0 (q := 17) (hdl (17) (by unfold kD; omega)) ((gG_o (by omega)).trans w17) rfl (j := 0) (by omega) (by omega) d_F_find_47 (fun H locs hW hS => ?_)
        have hb0 := hbl 0 hn0
        refine lv_aload_n hx hb d_F_find_48 rfl (lv_at hl 0 rfl) ?_
        refine lv_aload_n hx hb d_F_find_49 rfl (lv_at hl 0 rfl) ?_
        refine g_get (C := R_F) (T := F_F) (N := 7) hx hb hts i_F hown hK hW (i := 16) (hdl (16) (by unfold kD; omega)) ((va_up_ne _ _ (by decide)).trans ((gG_o (by omega)).trans w16)) rfl 3 (by decide) (hts _ q_95) (fun _ h9 => h9) rfl d_F_find_50 ?_
        refine lv_iconst (v := nI 0) hx hb d_F_find_53 (by decide) ?_
        refine n_aald hx hb hK hW 2 (q := 18) (hdl (18) (by unfold kD; omega)) ((va_up_ne _ _ (by decide)).trans ((gG_o (by omega)).trans w18)) rfl rfl (j := 0) (by omega) (by omega) (b := ad (200 + 0)) (if_pos (by omega)) d_F_find_54 ?_
        refine lv_aload_n hx hb d_F_find_55 rfl (lv_at hl 0 rfl) ?_
        refine g_get (C := R_F) (T := F_F) (N := 7) hx hb hts i_F hown hK hW (i := 16) (hdl (16) (by unfold kD; omega)) ((va_up_ne _ _ (by decide)).trans ((gG_o (by omega)).trans w16)) rfl 0 (by decide) (hts _ q_88) (fun _ h9 => h9) rfl d_F_find_56 ?_
        refine lv_iconst (v := nI 0) hx hb d_F_find_59 (by decide) ?_
        refine n_iald hx hb hK hW 0 (q := 17) (hdl (17) (by unfold kD; omega)) (va_up_self _ _ _) rfl (j := 0) (by omega) (by omega) d_F_find_60 ?_
        refine n_topi (show (upd fl 0 (nI (bln a (alw tr shp w) cl mv sp n 0))) 0 = nI (bln a (alw tr shp w) cl mv sp n 0) from pk_us) ?_
        refine n_iald hx hb hK hW 0 (q := 200 + 0) (hdl (200 + 0) (by unfold kD; omega)) ((va_up_ne _ _ (by omega)).trans (gG_at (by omega))) rfl (j := bln a (alw tr shp w) cl mv sp n 0) hb0.1 (by omega) d_F_find_61 ?_
        refine n_topi (show (G 0) (bln a (alw tr shp w) cl mv sp n 0) = nI (bcs a (alw tr shp w) cl mv sp n) from hG 0 _ (Nat.zero_le _) hn0 hb0.1) ?_
        refine g_put (ty := .int) (v := .int (nI (bcs a (alw tr shp w) cl mv sp n))) (C := R_F) (T := F_F) (N := 7) hx hb hts i_F fy_F fy_F_ok fn_F hown hK hW hS (i := 16) (hdl (16) (by unfold kD; omega)) ((va_up_ne _ _ (by decide)).trans ((gG_o (by omega)).trans w16)) rfl 1 (by decide) (hts _ q_91) (fun _ h9 => h9) rfl (by decide +kernel) rfl rfl (Nat.le_of_ble_eq_true rfl) d_F_find_62 (fun H locs hW hS => ?_)
        obtain ⟨c9, hc9, hW⟩ := gW_nm hW
        have k1 := (congrFun hc9 1).trans ((va_up_ne _ _ (by decide)).trans ((va_up_ne _ _ (by decide)).trans ((gG_o (by omega)).trans w1)))
        have ktb := (congrFun hc9 tb).trans ((va_up_ne _ _ (by omega)).trans ((va_up_ne _ _ (by omega)).trans ((gG_o (by omega)).trans wtb)))
        have kc1 := (congrFun hc9 c1).trans ((va_up_ne _ _ (by omega)).trans ((va_up_ne _ _ (by omega)).trans ((gG_o (by omega)).trans wc1)))
        have kc2 := (congrFun hc9 c2).trans ((va_up_ne _ _ (by omega)).trans ((va_up_ne _ _ (by omega)).trans ((gG_o (by omega)).trans wc2)))
        have k17 := (congrFun hc9 17).trans ((va_up_ne _ _ (by decide)).trans (va_up_self _ _ _))
        have k18 := (congrFun hc9 18).trans ((va_up_ne _ _ (by decide)).trans ((va_up_ne _ _ (by decide)).trans ((gG_o (by omega)).trans w18)))
        have k16 : c9 16 = oF ad (bcs a (alw tr shp w) cl mv sp n) a bb ff := (congrFun hc9 16).trans (va_up_self _ _ _)
        have km1 : ∀ i, i < a → c9 (m1 + i) = .inl (cI, a, .inl (MV i)) := fun i hi => (congrFun hc9 (m1 + i)).trans (((va_up_ne _ _ (by omega)).trans ((va_up_ne _ _ (by omega)).trans ((gG_o (by omega)).trans (wm1 i hi)))))
        have kG : ∀ r, r < 200 → c9 (200 + r) = .inl (cI, a, .inl (G r)) := fun r hr => (congrFun hc9 (200 + r)).trans (((va_up_ne _ _ (by omega)).trans ((va_up_ne _ _ (by omega)).trans (gG_at hr))))
        refine lv_iconst (v := nI 1) hx hb d_F_find_65 (by decide) ?_
        refine lv_istore (lv' := [(4, .int (nI 1)), (0, .ref (ad 16)), (1, .ref (ad 1)), (2, .ref (ad tb)), (3, .int w)]) hx hb d_F_find_66 hl (by decide) rfl (fun ls hl => ?_)
        have k17 : c9 17 = .inl (cI, 200, .inl (upd fl 0 (nI (bln a (alw tr shp w) cl mv sp n 0)))) := k17
        have hW := gW_eq (show c9 = va_up c9 17 (.inl (cI, 200, .inl (upd fl 0 (nI (bln a (alw tr shp w) cl mv sp n 0))))) from by funext i; by_cases h : i = 17; (subst h; rw [va_up_self]; exact k17); rw [va_up_ne _ _ h]) hW
        suffices hloop : ∀ (d2 k : Nat) (f2 : Nat → Int32) (H : Heap) (locs : List Loc) (ls : Array Slot), (1 ≤ k) → (k ≤ n) → (n + 1 ≤ k + d2) → (∀ j, f2 j = if j < k then nI (bln a (alw tr shp w) cl mv sp n j) else fl j) → gW D gCl (gA ad co dl s.heap.size) ad (va_up c9 17 (.inl (cI, 200, .inl f2))) dl H → va_S (gA ad co dl s.heap.size) s.heap H locs → lv_has ls 5 [(0, .ref (ad 16)), (1, .ref (ad 1)), (2, .ref (ad tb)), (4, .int (nI k))] → W pp l ee _ s mm _ below meth cd H locs 0 0 _ (F0 mm 68 ls []) by
          exact hloop (n + 1) 1 _ _ _ ls (Nat.le_refl 1) (by omega) (by omega) (fun j => by
          by_cases hj : j = 0
          · subst hj; rw [pk_us, if_pos (by omega)]
          · rw [pk_un hj, if_neg (by omega)]) hW hS (lv_sub hl [1, 2, 3, 0] rfl)
        clear hW hS hl
        intro d2
        induction d2 with
        | zero => intro k f2 H locs ls hk1 hk hd2 hf2; omega
        | succ d2 ih2 =>
          intro k f2 H locs ls hk1 hk hd2 hf2 hW hS hl
          refine lv_iload hx hb d_F_find_68 (lv_at hl 3 rfl) ?_
          refine lv_aload_n hx hb d_F_find_70 rfl (lv_at hl 1 rfl) ?_
          refine g_get (C := R_T) (T := F_T) (N := 6) hx hb hts i_T hown hK hW (i := 1) (hdl (1) (by unfold kD; omega)) ((va_up_ne _ _ (by omega)).trans k1) rfl 5 (by decide) (hts _ q_43) (fun _ h9 => h9) rfl d_F_find_71 ?_
          refine n_icmp_ge (tgt := 115) hx hb (by omega) (by omega) d_F_find_74 (by decide) (fun h2 => ?_) (fun h2 => ?_)
          · have hkn : k = n := by omega
            rw [hkn] at hf2
            have e2 := funext hf2
            subst e2
            have hfin : va_up c9 17 (.inl (cI, 200, .inl (fun j => if j < n then nI (bln a (alw tr shp w) cl mv sp n j) else fl j))) = va_up (va_up (gG cI 200 200 a co G) 17 (.inl (cI, 200, .inl (fun j => if j < n then nI (bln a (alw tr shp w) cl mv sp n j) else fl j)))) 16 (oF ad (bcs a (alw tr shp w) cl mv sp n) a bb ff) := by
              rw [hc9]
              funext i
              by_cases q16 : i = 16
              · subst q16; simp [va_up]
              by_cases q17 : i = 17
              · subst q17; simp [va_up]
              simp [va_up, q16, q17]
            rw [hfin] at hW
            exact g_vret hx hb hr hlocks hW hS (⟨G, rfl, fun r b hr9 hb9 => hG r b (Nat.zero_le r) hr9 hb9⟩) d_F_find_115
          · obtain ⟨k, rfl⟩ : ∃ z, k = z + 1 := ⟨k - 1, by omega⟩
            have hbk := hbl k (by omega)
            have hfk : f2 (k + 1 - 1) = nI (bln a (alw tr shp w) cl mv sp n k) := by rw [Nat.add_sub_cancel, hf2 k, if_pos (by omega)]
            refine lv_aload_n hx hb d_F_find_77 rfl (lv_at hl 0 rfl) ?_
            refine g_get (C := R_F) (T := F_F) (N := 7) hx hb hts i_F hown hK hW (i := 16) (hdl (16) (by unfold kD; omega)) ((va_up_ne _ _ (by omega)).trans k16) rfl 0 (by decide) (hts _ q_88) (fun _ h9 => h9) rfl d_F_find_78 ?_
            refine lv_iload hx hb d_F_find_81 (lv_at hl 3 rfl) ?_
            refine lv_aload_n hx hb d_F_find_83 rfl (lv_at hl 0 rfl) ?_
            refine lv_aload_n hx hb d_F_find_84 rfl (lv_at hl 2 rfl) ?_
            refine g_get (C := R_B) (T := F_B) (N := 2) hx hb hts i_B hown hK hW (i := tb) (hdl (tb) (by unfold kD; omega)) ((va_up_ne _ _ (by omega)).trans ktb) rfl 0 (by decide) (hts _ q_72) (fun _ h9 => h9) rfl d_F_find_85 ?_
            refine lv_aload_n hx hb d_F_find_88 rfl (lv_at hl 0 rfl) ?_
            refine g_get (C := R_F) (T := F_F) (N := 7) hx hb hts i_F hown hK hW (i := 16) (hdl (16) (by unfold kD; omega)) ((va_up_ne _ _ (by omega)).trans k16) rfl 0 (by decide) (hts _ q_88) (fun _ h9 => h9) rfl d_F_find_89 ?_
            refine lv_iload hx hb d_F_find_92 (lv_at hl 3 rfl) ?_
            refine lv_iconst (v := nI 1) hx hb d_F_find_94 (by decide) ?_
            refine n_sub hx hb (by omega) d_F_find_95 ?_
            refine n_iald hx hb hK hW 0 (q := 17) (hdl (17) (by unfold kD; omega)) (va_up_self _ _ _) rfl (j := (k + 1) - 1) (by omega) (by omega) d_F_find_96 ?_
            refine n_topi (show f2 ((k + 1) - 1) = nI (bln a (alw tr shp w) cl mv sp n k) from hfk) ?_
            refine n_aald hx hb hK hW 2 (q := c1) (hdl (c1) (by unfold kD; omega)) ((va_up_ne _ _ (by omega)).trans kc1) rfl rfl (j := bln a (alw tr shp w) cl mv sp n k) hbk.1 (by omega) (b := ad (m1 + (bln a (alw tr shp w) cl mv sp n k))) (if_pos hbk.1) d_F_find_97 ?_
            refine lv_aload_n hx hb d_F_find_98 rfl (lv_at hl 0 rfl) ?_
            refine g_get (C := R_F) (T := F_F) (N := 7) hx hb hts i_F hown hK hW (i := 16) (hdl (16) (by unfold kD; omega)) ((va_up_ne _ _ (by omega)).trans k16) rfl 3 (by decide) (hts _ q_95) (fun _ h9 => h9) rfl d_F_find_99 ?_
            refine lv_iload hx hb d_F_find_102 (lv_at hl 3 rfl) ?_
            refine n_aald hx hb hK hW 2 (q := 18) (hdl (18) (by unfold kD; omega)) ((va_up_ne _ _ (by omega)).trans k18) rfl rfl (j := k + 1) (by omega) (by omega) (b := ad (200 + (k + 1))) (if_pos (by omega)) d_F_find_104 ?_
            refine g_cVi (As := [.ref (ad (m1 + (bln a (alw tr shp w) cl mv sp n k))), .ref (ad (200 + (k + 1)))]) (rest := [.int (nI (k + 1)), .ref (ad 17)]) ⟨hx, hb, hml, hown, hts⟩ (c_F_cheapest l hdl ((va_up_ne _ _ (by omega)).trans k16) (q1 := m1 + bln a (alw tr shp w) cl mv sp n k) (q2 := 200 + (k + 1)) (u := fun j => mv (bln a (alw tr shp w) cl mv sp n k) j) (v := fun j => tgo a (alw tr shp w) cl mv sp n (k + 1) j) (hdl _ (by have := hbk.1; unfold kD; omega)) (hdl _ (by unfold kD; omega)) ((va_up_ne _ _ (by have := hbk.1; omega)).trans (km1 _ hbk.1)) ((va_up_ne _ _ (by omega)).trans (kG (k + 1) (by omega))) ha0 ha (fun j hj => hmv _ j hbk.1 hj) (fun j hj => hG (k + 1) j (Nat.zero_le _) h2 hj) (fun j hj => by have := hbig (k + 1) j h2 hj; have := hok.2.2.2.1 _ j hbk.1 hj; show mv (bln a (alw tr shp w) cl mv sp n k) j + tgo a (alw tr shp w) cl mv sp n (k + 1) j < 2 ^ 31; omega)) (gcwV 2 hts q_270 q_267 q_269 qs_2 q_5 (by decide +kernel) ⟨(Nat.le_of_ble_eq_true rfl), (Nat.le_of_ble_eq_true rfl)⟩) gNl_ok hN hK hW hS hA (hdl (16) (by unfold kD; omega)) ((va_up_ne _ _ (by omega)).trans k16) rfl rfl hl.1 rfl (Nat.le_of_ble_eq_true rfl) d_F_find_105 ⟨Nat.zero_le _, Nat.zero_le _⟩ (fun r co9 H locs hp9 hW hS => ?_)
            obtain ⟨rfl, hco9⟩ := hp9
            rw [hco9] at hW
            rw [show amin (fun j => mv (bln a (alw tr shp w) cl mv sp n k) j + tgo a (alw tr shp w) cl mv sp n (k + 1) j) (a - 1) = bln a (alw tr shp w) cl mv sp n (k + 1) from rfl]
            refine n_iast (x := nI (bln a (alw tr shp w) cl mv sp n (k + 1))) hx hb hK hW hS 0 (q := 17) (hdl (17) (by unfold kD; omega)) (va_up_self _ _ _) rfl (j := k + 1) (by omega) (by omega) d_F_find_108 (fun H locs hW hS => ?_)
            rw [bx_uu] at hW
            refine n_iinc (lv' := [(4, .int (nI (k + 1 + 1))), (0, .ref (ad 16)), (1, .ref (ad 1)), (2, .ref (ad tb))]) hx hb d_F_find_109 hl (k := 3) rfl (by decide) rfl (fun ls hl => ?_)
            refine lv_goto (tgt := 68) hx hb d_F_find_112 (by decide) ?_
            refine ih2 (k + 1 + 1) _ _ _ ls (by omega) (by omega) (by omega) (fun j => ?_) hW hS (lv_sub hl [1, 2, 3, 0] rfl)
            by_cases hj : j = k + 1
            · subst hj; rw [pk_us, if_pos (by omega)]
            · rw [pk_un hj, hf2 j]
              by_cases hj2 : j < k + 1
              · rw [if_pos hj2, if_pos (by omega)]
              · rw [if_neg hj2, if_neg (by omega)]
      · exact absurd (by decide) h1
    · obtain ⟨r, rfl⟩ : ∃ z, q = z + 1 := ⟨q - 1, by omega⟩
      rw [show nI (r + 1) - nI 1 = nI r from nI_pred r] at hl
      refine lv_iload hx hb d_F_find_8 (lv_at hl 4 rfl) ?_
      refine n_if_lt (tgt := 28) hx hb (by omega) d_F_find_10 (by decide) ?_
      refine lv_aload_n hx hb d_F_find_13 rfl (lv_at hl 0 rfl) ?_
      refine lv_aload_n hx hb d_F_find_14 rfl (lv_at hl 1 rfl) ?_
      refine lv_aload_n hx hb d_F_find_15 rfl (lv_at hl 2 rfl) ?_
      refine lv_iload hx hb d_F_find_16 (lv_at hl 4 rfl) ?_
      refine lv_iload_n hx hb d_F_find_18 rfl (lv_at hl 3 rfl) ?_
      refine g_cVv (As := [.ref (ad 1), .ref (ad tb), .int (nI r), .int w]) (rest := []) ⟨hx, hb, hml, hown, hts⟩ (c_F_fillToGo l hdl ((gG_o (by omega)).trans w16) ((gG_o (by omega)).trans w1) ((gG_o (by omega)).trans w3) ((gG_o (by omega)).trans w5) ((gG_o (by omega)).trans w6) r w htab ((gG_o (by omega)).trans wtb) ((gG_o (by omega)).trans wc1) ((gG_o (by omega)).trans wc2) (fun i hi => ((gG_o (by omega)).trans (wm1 i hi))) (fun i hi => ((gG_o (by omega)).trans (wm2 i hi))) ha hok hcl hmv hsp (by omega) ((gG_o (by omega)).trans w18) (gG_at (by omega)) (fun h9 => ⟨gG_at (by omega), fun b hb9 => hG (r + 1) b (by omega) h9 hb9⟩)) (gcwV 4 hts q_261 q_258 q_260 qs_1 q_5 (by decide +kernel) ⟨(Nat.le_of_ble_eq_true rfl), (Nat.le_of_ble_eq_true rfl)⟩) gNl_ok hN hK hW hS hA (hdl (16) (by unfold kD; omega)) ((gG_o (by omega)).trans w16) rfl rfl hl.1 rfl (Nat.le_of_ble_eq_true rfl) d_F_find_19 ⟨Nat.zero_le _, Nat.zero_le _⟩ (fun co9 H locs hp9 hW hS => ?_)
      obtain ⟨g, hco9, hg⟩ := hp9
      rw [hco9, gG_u (show r < 200 by omega)] at hW
      refine lv_iinc (v := (nI r) + (-1)) (lv' := [(4, .int ((nI r) + (-1))), (0, .ref (ad 16)), (1, .ref (ad 1)), (2, .ref (ad tb)), (3, .int w)]) hx hb d_F_find_22 hl (k := 4) rfl rfl (by decide) rfl (fun ls hl => ?_)
      rw [show nI r + (-1) = nI r - nI 1 by rw [Int32.sub_eq_add_neg]; rfl] at hl
      refine lv_goto (tgt := 8) hx hb d_F_find_25 (by decide) ?_
      refine ih r (va_up G r g) _ _ ls (by omega) (by omega) (fun k b hk1 hk2 hb9 => ?_) hW hS (lv_sub hl [1, 2, 3, 4, 0] rfl)
      by_cases hkr : k = r
      · subst hkr; rw [va_up_self]; exact hg b hb9
      · rw [va_up_ne _ _ hkr]; exact hG k b (by omega) hk2 hb9
