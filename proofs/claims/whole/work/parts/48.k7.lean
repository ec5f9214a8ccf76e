set_option maxHeartbeats 4000000 in
set_option maxRecDepth 100000 in
/-- takeOver -/
theorem c_N_takeOver (l : Launch) {D : va_G} {cI cJ cG : ClassId} {ad : Nat → Nat} {co : Nat → va_E} {dl : List Nat} {a kn kc fc bb ff n : Nat}  (hdl : ∀ i, kD a i → i ∈ dl) (w22 : co 22 = oN ad kn kc) (w16 : co 16 = oF ad fc a bb ff) (w1 : co 1 = oT ad n) {cls : Nat → Int32} {shp : Nat → Int32} {tr : Nat → Int32} {fl : Nat → Int32} {ln : Nat → Int32} {nx : Nat → Int32} (w3 : co 3 = .inl (cI, 200, .inl cls)) (w5 : co 5 = .inl (cI, 200, .inl shp)) (w6 : co 6 = .inl (cI, 200, .inl tr)) (w17 : co 17 = .inl (cI, 200, .inl fl)) (w23 : co 23 = .inl (cI, 200, .inl ln)) (w24 : co 24 = .inl (cI, 200, .inl nx)) {tb c1 c2 m1 m2 : Nat} (htab : (tb = 7 ∧ c1 = 8 ∧ c2 = 9 ∧ m1 = 40 ∧ m2 = 60) ∨ (tb = 10 ∧ c1 = 11 ∧ c2 = 12 ∧ m1 = 80 ∧ m2 = 100) ∨ (tb = 13 ∧ c1 = 14 ∧ c2 = 15 ∧ m1 = 120 ∧ m2 = 140)) (wtb : co tb = oB ad c1 c2) (wc1 : co c1 = oG ad cG a m1) (wc2 : co c2 = oG ad cG a m2) {MV SP : Nat → Nat → Int32} (wm1 : ∀ i, i < a → co (m1 + i) = .inl (cI, a, .inl (MV i))) (wm2 : ∀ i, i < a → co (m2 + i) = .inl (cI, 10, .inl (SP i))) {cl : Nat → Nat} {mv sp : Nat → Nat → Nat} (ha : a ≤ 12) (hok : okN a (alw tr shp (-1)) cl mv sp n) (hcl : ∀ k, k < n → cls k = nI (cl k) ∧ cl k < 10) (hmv : ∀ i j, i < a → j < a → MV i j = nI (mv i j)) (hsp : ∀ i c, i < a → c < 10 → SP i c = nI (sp i c)) (hbf : (bb = 20 ∧ ff = 21) ∨ (bb = 21 ∧ ff = 20)) (hsh : ∀ k, k < n → shp k ≠ -1) (w18 : co 18 = oG ad cG 200 200) {G : Nat → Nat → Int32} (wG : ∀ r, r < 200 → co (200 + r) = .inl (cI, a, .inl (G r))) (hG : ∀ r b, r < n → b < a → G r b = nI (tgo a (alw tr shp (-1)) cl mv sp n r b)) (hfl : ∀ k, k < n → fl k = nI (bln a (alw tr shp (-1)) cl mv sp n k)) {fb fa : Nat → Int32} (wbb : co bb = .inl (cI, a, .inl fb)) (wff : co ff = .inl (cI, a, .inl fa)) : gMv l y_N_takeOver (Cond.code y_N_takeOver b_N_takeOver 4 none :: wA) ({ frames := 3, cells := 0, slots := 0, locals := 112 }) D gCl (gTy cI cJ cG) gNl [.ref (ad 22), .ref (ad 1), .ref (ad tb), .ref (ad 16)] ad co dl (fun co' => ∃ x y g20 g21, ((x = 20 ∧ y = 21) ∨ (x = 21 ∧ y = 20)) ∧ co' = va_up (va_up (va_up (va_up (va_up (va_up co 22 (oN ad n fc)) 23 (.inl (cI, 200, .inl (fun j => if j < n then fl j else ln j)))) 20 (.inl (cI, a, .inl g20))) 21 (.inl (cI, a, .inl g21))) 24 (.inl (cI, 200, .inl (fun j => if j < n then nxt a (alw tr shp (-1)) cl mv sp n tr j else nx j)))) 16 (oF ad fc a x y)) := by
  refine gMv_of (cc := b_N_takeOver) (maxL := 4) (ret := none) (by decide) rfl (Nat.le_of_ble_eq_true rfl) ?_
  intro pp ee s mm below meth cd ls hC hW hS hl
  obtain ⟨hx, hb, hr, hts0, hown, hlocks, hml, hK, hN⟩ := hC
  have hts : ∀ w ∈ wA, w.before _ s = true := fun w h => hts0 w (List.mem_cons_of_mem _ h)
  have hA : ∀ q, s.heap.size ≤ q → gA ad co dl s.heap.size q := fun q h => Or.inr h
  have hl : lv_has ls 4 [(0, .ref (ad 22)), (1, .ref (ad 1)), (2, .ref (ad tb)), (3, .ref (ad 16))] := hl
  have hown : s.vm.findClass R_N = some mm.cls := hown
  have hn0 : 0 < n := hok.1
  have hn2 : n ≤ 200 := hok.2.1
  refine lv_aload_n hx hb d_N_takeOver_0 rfl (lv_at hl 0 rfl) ?_
  refine lv_aload_n hx hb d_N_takeOver_1 rfl (lv_at hl 1 rfl) ?_
  refine g_get (C := R_T) (T := F_T) (N := 6) hx hb hts i_T hown hK hW (i := 1) (hdl (1) (by unfold kD; omega)) w1 rfl 5 (by decide) (hts _ q_44) (fun _ h9 => h9) rfl d_N_takeOver_2 ?_
  refine g_put (ty := .int) (v := .int (nI n)) (C := R_N) (T := F_N) (N := 4) hx hb hts i_N fy_N fy_N_ok fn_N hown hK hW hS (i := 22) (hdl (22) (by unfold kD; omega)) w22 rfl 2 (by decide) (hts _ q_124) (fun _ h9 => h9) rfl (by decide +kernel) rfl rfl (Nat.le_of_ble_eq_true rfl) d_N_takeOver_5 (fun H locs hW hS => ?_)
  refine lv_aload_n hx hb d_N_takeOver_8 rfl (lv_at hl 0 rfl) ?_
  refine lv_aload_n hx hb d_N_takeOver_9 rfl (lv_at hl 3 rfl) ?_
  refine g_get (C := R_F) (T := F_F) (N := 7) hx hb hts i_F hown hK hW (i := 16) (hdl (16) (by unfold kD; omega)) ((va_up_ne _ _ (by decide)).trans w16) rfl 1 (by decide) (hts _ q_92) (fun _ h9 => h9) rfl d_N_takeOver_10 ?_
  refine g_put (ty := .int) (v := .int (nI fc)) (C := R_N) (T := F_N) (N := 4) hx hb hts i_N fy_N fy_N_ok fn_N hown hK hW hS (i := 22) (hdl (22) (by unfold kD; omega)) (va_up_self _ _ _) rfl 3 (by decide) (hts _ q_126) (fun _ h9 => h9) rfl (by decide +kernel) rfl rfl (Nat.le_of_ble_eq_true rfl) d_N_takeOver_13 (fun H locs hW hS => ?_)
  rw [bx_uu] at hW
  have hW : gW D gCl (gA ad co dl s.heap.size) ad (va_up co 22 (oN ad n fc)) dl _ := hW
  refine lv_aload_n hx hb d_N_takeOver_16 rfl (lv_at hl 3 rfl) ?_
  refine g_get (C := R_F) (T := F_F) (N := 7) hx hb hts i_F hown hK hW (i := 16) (hdl (16) (by unfold kD; omega)) ((va_up_ne _ _ (by omega)).trans w16) rfl 0 (by decide) (hts _ q_89) (fun _ h9 => h9) rfl d_N_takeOver_17 ?_
  refine lv_iconst (v := nI 0) hx hb d_N_takeOver_20 (by decide) ?_
  refine lv_aload_n hx hb d_N_takeOver_21 rfl (lv_at hl 0 rfl) ?_
  refine g_get (C := R_N) (T := F_N) (N := 4) hx hb hts i_N hown hK hW (i := 22) (hdl (22) (by unfold kD; omega)) (va_up_self _ _ _) rfl 0 (by decide) (hts _ q_120) (fun _ h9 => h9) rfl d_N_takeOver_22 ?_
  refine lv_iconst (v := nI 0) hx hb d_N_takeOver_25 (by decide) ?_
  refine lv_aload_n hx hb d_N_takeOver_26 rfl (lv_at hl 0 rfl) ?_
  refine g_get (C := R_N) (T := F_N) (N := 4) hx hb hts i_N hown hK hW (i := 22) (hdl (22) (by unfold kD; omega)) (va_up_self _ _ _) rfl 2 (by decide) (hts _ q_124) (fun _ h9 => h9) rfl d_N_takeOver_27 ?_
  refine g_copyi hx hb (hml.trans hl.1.symm) hown (hts _ q_275) (hts _ q_277) (hts _ q_276) (hts _ q_10) hK hW hS 0 (q0 := 17) (q1 := 23) (hdl (17) (by unfold kD; omega)) (hdl (23) (by unfold kD; omega)) ((va_up_ne _ _ (by omega)).trans w17) ((va_up_ne _ _ (by omega)).trans w23) rfl (n := n) (by omega) (by omega) (by omega) (Nat.le_of_ble_eq_true rfl) (Nat.le_of_ble_eq_true rfl) d_N_takeOver_30 (fun H locs hW hS => ?_)
  refine lv_aload_n hx hb d_N_takeOver_33 rfl (lv_at hl 3 rfl) ?_
  refine lv_aload_n hx hb d_N_takeOver_34 rfl (lv_at hl 1 rfl) ?_
  refine lv_aload_n hx hb d_N_takeOver_35 rfl (lv_at hl 2 rfl) ?_
  refine lv_aload_n hx hb d_N_takeOver_36 rfl (lv_at hl 0 rfl) ?_
  refine g_get (C := R_N) (T := F_N) (N := 4) hx hb hts i_N hown hK hW (i := 22) (hdl (22) (by unfold kD; omega)) ((va_up_ne _ _ (by omega)).trans (va_up_self _ _ _)) rfl 1 (by decide) (hts _ q_122) (fun _ h9 => h9) rfl d_N_takeOver_37 ?_
  refine g_cVv (As := [.ref (ad 1), .ref (ad tb), .ref (ad 24)]) (rest := []) ⟨hx, hb, hml, hown, hts⟩ (c_F_fillNextCosts l hdl ((va_up_ne _ _ (by omega)).trans ((va_up_ne _ _ (by omega)).trans w16)) ((va_up_ne _ _ (by omega)).trans ((va_up_ne _ _ (by omega)).trans w1)) ((va_up_ne _ _ (by omega)).trans ((va_up_ne _ _ (by omega)).trans w3)) ((va_up_ne _ _ (by omega)).trans ((va_up_ne _ _ (by omega)).trans w5)) ((va_up_ne _ _ (by omega)).trans ((va_up_ne _ _ (by omega)).trans w6)) ((va_up_ne _ _ (by omega)).trans ((va_up_ne _ _ (by omega)).trans w17)) ((va_up_ne _ _ (by omega)).trans ((va_up_ne _ _ (by omega)).trans w24)) htab ((va_up_ne _ _ (by omega)).trans ((va_up_ne _ _ (by omega)).trans wtb)) ((va_up_ne _ _ (by omega)).trans ((va_up_ne _ _ (by omega)).trans wc1)) ((va_up_ne _ _ (by omega)).trans ((va_up_ne _ _ (by omega)).trans wc2)) (fun i hi => ((va_up_ne _ _ (by omega)).trans ((va_up_ne _ _ (by omega)).trans (wm1 i hi)))) (fun i hi => ((va_up_ne _ _ (by omega)).trans ((va_up_ne _ _ (by omega)).trans (wm2 i hi)))) ha hok hcl hmv hsp hbf hsh ((va_up_ne _ _ (by omega)).trans ((va_up_ne _ _ (by omega)).trans w18)) (fun r hr9 => ((va_up_ne _ _ (by omega)).trans ((va_up_ne _ _ (by omega)).trans (wG r hr9)))) hG hfl ((va_up_ne _ _ (by omega)).trans ((va_up_ne _ _ (by omega)).trans wbb)) ((va_up_ne _ _ (by omega)).trans ((va_up_ne _ _ (by omega)).trans wff))) (gcwV 3 hts q_281 q_278 q_279 q_280 q_5 (by decide +kernel) ⟨(Nat.le_of_ble_eq_true rfl), (Nat.le_of_ble_eq_true rfl)⟩) gNl_ok hN hK hW hS hA (hdl (16) (by unfold kD; omega)) ((va_up_ne _ _ (by omega)).trans ((va_up_ne _ _ (by omega)).trans w16)) rfl rfl hl.1 rfl (Nat.le_of_ble_eq_true rfl) d_N_takeOver_40 ⟨Nat.zero_le _, Nat.zero_le _⟩ (fun co9 H locs hp9 hW hS => ?_)
  obtain ⟨x, y, g20, g21, hxy, hco9⟩ := hp9
  rw [hco9] at hW
  exact g_vret hx hb hr hlocks hW hS (⟨x, y, g20, g21, hxy, rfl⟩) d_N_takeOver_43
set_option maxHeartbeats 4000000 in
set_option maxRecDepth 100000 in
/-- fitShares -/
theorem c_B_fitShares (l : Launch) {D : va_G} {cI cJ cG : ClassId} {ad : Nat → Nat} {co : Nat → va_E} {dl : List Nat} {q1 q2 L : Nat} {f1 f2 : Nat → Int32} {u : Nat → Nat} (hq1 : q1 ∈ dl) (hq2 : q2 ∈ dl) (hne : q1 ≠ q2) (wq1 : co q1 = .inl (cI, L, .inl f1)) (wq2 : co q2 = .inl (cI, L, .inl f2)) (hL : L ≤ 12) (hu : ∀ j, j < L → f1 j = nI (u j) ∧ u j ≤ 200) : gMv l y_B_fitShares (Cond.code y_B_fitShares b_B_fitShares 4 none :: wA) ({ frames := 0, cells := 0, slots := 0, locals := 0 }) D gCl (gTy cI cJ cG) gNl [.ref (ad q1), .ref (ad q2)] ad co dl (fun co' => ∃ g, co' = va_up co q2 (.inl (cI, L, .inl g)) ∧ ∀ j, j < L → g j = if sumF u L = 0 then f2 j else nI (1000 * (sumF u L - u j) / sumF u L)) := by
  refine gMv_of (cc := b_B_fitShares) (maxL := 4) (ret := none) (by decide) rfl (Nat.le_of_ble_eq_true rfl) ?_
  intro pp ee s mm below meth cd ls hC hW hS hl
  obtain ⟨hx, hb, hr, hts0, hown, hlocks, hml, hK, hN⟩ := hC
  have hts : ∀ w ∈ wA, w.before _ s = true := fun w h => hts0 w (List.mem_cons_of_mem _ h)
  have hA : ∀ q, s.heap.size ≤ q → gA ad co dl s.heap.size q := fun q h => Or.inr h
  have hl : lv_has ls 4 [(0, .ref (ad q1)), (1, .ref (ad q2))] := hl
  have hown : s.vm.findClass R_B = some mm.cls := hown
  have hW := gW_eq (show co = va_up co q2 (.inl (cI, L, .inl f2)) from by funext i; by_cases h : i = q2; (subst h; rw [va_up_self]; exact wq2); rw [va_up_ne _ _ h]) hW
  refine lv_iconst (v := nI 0) hx hb d_B_fitShares_0 (by decide) ?_
  refine lv_istore_n (lv' := [(2, .int (nI 0)), (0, .ref (ad q1)), (1, .ref (ad q2))]) hx hb d_B_fitShares_1 rfl hl (by decide) rfl (fun ls hl => ?_)
  refine lv_iconst (v := nI 0) hx hb d_B_fitShares_2 (by decide) ?_
  refine lv_istore_n (lv' := [(3, .int (nI 0)), (2, .int (nI 0)), (0, .ref (ad q1)), (1, .ref (ad q2))]) hx hb d_B_fitShares_3 rfl hl (by decide) rfl (fun ls hl => ?_)
  suffices hloop : ∀ (d k : Nat) (H : Heap) (locs : List Loc) (ls : Array Slot), (k ≤ L) → (L + 1 ≤ k + d) → gW D gCl (gA ad co dl s.heap.size) ad (va_up co q2 (.inl (cI, L, .inl f2))) dl H → va_S (gA ad co dl s.heap.size) s.heap H locs → lv_has ls 4 [(0, .ref (ad q1)), (1, .ref (ad q2)), (2, .int (nI (sumF u k))), (3, .int (nI k))] → W pp l ee _ s mm _ below meth cd H locs 0 0 _ (F0 mm 4 ls []) by
    exact hloop (L + 1) 0 _ _ ls (by omega) (by omega) hW hS (lv_sub hl [2, 3, 1, 0] rfl)
  clear hW hS hl
  intro d
  induction d with
  | zero => intro k H locs ls hk hd; omega
  | succ d ih =>
    intro k H locs ls hk hd hW hS hl
    refine lv_iload_n hx hb d_B_fitShares_4 rfl (lv_at hl 3 rfl) ?_
    refine lv_aload_n hx hb d_B_fitShares_5 rfl (lv_at hl 0 rfl) ?_
    refine g_alen hx hb hK hW 0 (q := q1) hq1 ((va_up_ne _ _ hne).trans wq1) rfl (v := nI L) rfl d_B_fitShares_6 ?_
    refine n_icmp_ge (tgt := 22) hx hb (by omega) (by omega) d_B_fitShares_7 (by decide) (fun h1 => ?_) (fun h1 => ?_)
    · have hkL : k = L := by omega
      rw [hkL] at hl
      have hS9 := sumF_le (u := u) (B := 200) (k := L) (fun j hj => (hu j hj).2)
      refine lv_iload_n hx hb d_B_fitShares_22 rfl (lv_at hl 2 rfl) ?_
      refine n_if_ne (tgt := 27) hx hb (by omega) d_B_fitShares_23 (by decide) (fun h2 => ?_) (fun h2 => ?_)
      · refine lv_iconst (v := nI 0) hx hb d_B_fitShares_27 (by decide) ?_
        refine lv_istore_n (lv' := [(3, .int (nI 0)), (0, .ref (ad q1)), (1, .ref (ad q2)), (2, .int (nI (sumF u L)))]) hx hb d_B_fitShares_28 rfl hl (by decide) rfl (fun ls hl => ?_)
        suffices hloop : ∀ (d2 y : Nat) (g : Nat → Int32) (H : Heap) (locs : List Loc) (ls : Array Slot), (y ≤ L) → (L + 1 ≤ y + d2) → (∀ j, j < y → g j = nI (1000 * (sumF u L - u j) / sumF u L)) → gW D gCl (gA ad co dl s.heap.size) ad (va_up co q2 (.inl (cI, L, .inl g))) dl H → va_S (gA ad co dl s.heap.size) s.heap H locs → lv_has ls 4 [(0, .ref (ad q1)), (1, .ref (ad q2)), (2, .int (nI (sumF u L))), (3, .int (nI y))] → W pp l ee _ s mm _ below meth cd H locs 0 0 _ (F0 mm 29 ls []) by
          exact hloop (L + 1) 0 f2 _ _ ls (by omega) (by omega) (fun j h => absurd h (Nat.not_lt_zero j)) hW hS (lv_sub hl [1, 2, 3, 0] rfl)
        clear hW hS hl
        intro d2
        induction d2 with
        | zero => intro y g H locs ls hy hd2 hg; omega
        | succ d2 ih2 =>
          intro y g H locs ls hy hd2 hg hW hS hl
          refine lv_iload_n hx hb d_B_fitShares_29 rfl (lv_at hl 3 rfl) ?_
          refine lv_aload_n hx hb d_B_fitShares_30 rfl (lv_at hl 0 rfl) ?_
          refine g_alen hx hb hK hW 0 (q := q1) hq1 ((va_up_ne _ _ hne).trans wq1) rfl (v := nI L) rfl d_B_fitShares_31 ?_
          refine n_icmp_ge (tgt := 55) hx hb (by omega) (by omega) d_B_fitShares_32 (by decide) (fun h3 => ?_) (fun h3 => ?_)
          · have hyL : y = L := by omega
            rw [hyL] at hg
            exact g_vret hx hb hr hlocks hW hS (⟨g, rfl, fun j hj => by rw [if_neg (by omega)]; exact hg j hj⟩) d_B_fitShares_55
          · have huy := hu y h3
            have hge := sumF_ge (u := u) h3
            refine lv_aload_n hx hb d_B_fitShares_35 rfl (lv_at hl 1 rfl) ?_
            refine lv_iload_n hx hb d_B_fitShares_36 rfl (lv_at hl 3 rfl) ?_
            refine lv_sipush (v := nI 1000) hx hb d_B_fitShares_37 (by decide) ?_
            refine lv_iload_n hx hb d_B_fitShares_40 rfl (lv_at hl 2 rfl) ?_
            refine lv_aload_n hx hb d_B_fitShares_41 rfl (lv_at hl 0 rfl) ?_
            refine lv_iload_n hx hb d_B_fitShares_42 rfl (lv_at hl 3 rfl) ?_
            refine n_iald hx hb hK hW 0 (q := q1) hq1 ((va_up_ne _ _ hne).trans wq1) rfl (j := y) (by omega) (by omega) d_B_fitShares_43 ?_
            refine n_topi (show f1 y = nI (u y) from huy.1) ?_
            refine n_sub hx hb (by omega) d_B_fitShares_44 ?_
            refine n_mul hx hb d_B_fitShares_45 ?_
            refine lv_iload_n hx hb d_B_fitShares_46 rfl (lv_at hl 2 rfl) ?_
            refine n_div hx hb (by omega) (by omega) (by omega) d_B_fitShares_47 ?_
            refine n_iast (x := nI ((1000 * ((sumF u L) - (u y))) / (sumF u L))) hx hb hK hW hS 0 (q := q2) hq2 (va_up_self _ _ _) rfl (j := y) (by omega) (by omega) d_B_fitShares_48 (fun H locs hW hS => ?_)
            rw [bx_uu] at hW
            refine n_iinc (lv' := [(3, .int (nI (y + 1))), (0, .ref (ad q1)), (1, .ref (ad q2)), (2, .int (nI (sumF u L)))]) hx hb d_B_fitShares_49 hl (k := 3) rfl (by decide) rfl (fun ls hl => ?_)
            refine lv_goto (tgt := 29) hx hb d_B_fitShares_52 (by decide) ?_
            exact ih2 (y + 1) _ _ _ ls (by omega) (by omega) (lt_s (fun j hj => by rw [pk_un (show j ≠ y by omega)]; exact hg j hj) pk_us) hW hS (lv_sub hl [1, 2, 3, 0] rfl)
      · exact g_vret hx hb hr hlocks hW hS (⟨f2, rfl, fun j hj => by rw [if_pos h2]⟩) d_B_fitShares_26
    · have huk := hu k h1
      have hS9 := sumF_le (u := u) (B := 200) (k := k) (fun j hj => (hu j (by omega)).2)
      refine lv_iload_n hx hb d_B_fitShares_10 rfl (lv_at hl 2 rfl) ?_
      refine lv_aload_n hx hb d_B_fitShares_11 rfl (lv_at hl 0 rfl) ?_
      refine lv_iload_n hx hb d_B_fitShares_12 rfl (lv_at hl 3 rfl) ?_
      refine n_iald hx hb hK hW 0 (q := q1) hq1 ((va_up_ne _ _ hne).trans wq1) rfl (j := k) (by omega) (by omega) d_B_fitShares_13 ?_
      refine n_topi (show f1 k = nI (u k) from huk.1) ?_
      refine n_add hx hb d_B_fitShares_14 ?_
      refine lv_istore_n (lv' := [(2, .int (nI ((sumF u k) + (u k)))), (0, .ref (ad q1)), (1, .ref (ad q2)), (3, .int (nI k))]) hx hb d_B_fitShares_15 rfl hl (by decide) rfl (fun ls hl => ?_)
      refine n_iinc (lv' := [(3, .int (nI (k + 1))), (2, .int (nI ((sumF u k) + (u k)))), (0, .ref (ad q1)), (1, .ref (ad q2))]) hx hb d_B_fitShares_16 hl (k := 3) rfl (by decide) rfl (fun ls hl => ?_)
      refine lv_goto (tgt := 4) hx hb d_B_fitShares_19 (by decide) ?_
      exact ih (k + 1) _ _ ls (by omega) (by omega) hW hS (lv_sub hl [2, 3, 1, 0] rfl)
