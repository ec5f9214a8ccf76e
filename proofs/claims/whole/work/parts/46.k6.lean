set_option maxHeartbeats 4000000 in
set_option maxRecDepth 100000 in
/-- fillNextCosts -/
theorem c_F_fillNextCosts (l : Launch) {D : va_G} {cI cJ cG : ClassId} {ad : Nat → Nat} {co : Nat → va_E} {dl : List Nat} {a fc bb ff n : Nat}  (hdl : ∀ i, kD a i → i ∈ dl) (w16 : co 16 = oF ad fc a bb ff) (w1 : co 1 = oT ad n) {cls : Nat → Int32} {shp : Nat → Int32} {tr : Nat → Int32} {fl : Nat → Int32} {nx : Nat → Int32} (w3 : co 3 = .inl (cI, 200, .inl cls)) (w5 : co 5 = .inl (cI, 200, .inl shp)) (w6 : co 6 = .inl (cI, 200, .inl tr)) (w17 : co 17 = .inl (cI, 200, .inl fl)) (w24 : co 24 = .inl (cI, 200, .inl nx)) {tb c1 c2 m1 m2 : Nat} (htab : (tb = 7 ∧ c1 = 8 ∧ c2 = 9 ∧ m1 = 40 ∧ m2 = 60) ∨ (tb = 10 ∧ c1 = 11 ∧ c2 = 12 ∧ m1 = 80 ∧ m2 = 100) ∨ (tb = 13 ∧ c1 = 14 ∧ c2 = 15 ∧ m1 = 120 ∧ m2 = 140)) (wtb : co tb = oB ad c1 c2) (wc1 : co c1 = oG ad cG a m1) (wc2 : co c2 = oG ad cG a m2) {MV SP : Nat → Nat → Int32} (wm1 : ∀ i, i < a → co (m1 + i) = .inl (cI, a, .inl (MV i))) (wm2 : ∀ i, i < a → co (m2 + i) = .inl (cI, 10, .inl (SP i))) {cl : Nat → Nat} {mv sp : Nat → Nat → Nat} (ha : a ≤ 12) (hok : okN a (alw tr shp (-1)) cl mv sp n) (hcl : ∀ k, k < n → cls k = nI (cl k) ∧ cl k < 10) (hmv : ∀ i j, i < a → j < a → MV i j = nI (mv i j)) (hsp : ∀ i c, i < a → c < 10 → SP i c = nI (sp i c)) (hbf : (bb = 20 ∧ ff = 21) ∨ (bb = 21 ∧ ff = 20)) (hsh : ∀ k, k < n → shp k ≠ -1) (w18 : co 18 = oG ad cG 200 200) {G : Nat → Nat → Int32} (wG : ∀ r, r < 200 → co (200 + r) = .inl (cI, a, .inl (G r))) (hG : ∀ r b, r < n → b < a → G r b = nI (tgo a (alw tr shp (-1)) cl mv sp n r b)) (hfl : ∀ k, k < n → fl k = nI (bln a (alw tr shp (-1)) cl mv sp n k)) {fb fa : Nat → Int32} (wbb : co bb = .inl (cI, a, .inl fb)) (wff : co ff = .inl (cI, a, .inl fa)) : gMv l y_F_fillNextCosts (Cond.code y_F_fillNextCosts b_F_fillNextCosts 6 none :: wA) ({ frames := 2, cells := 0, slots := 0, locals := 87 }) D gCl (gTy cI cJ cG) gNl [.ref (ad 16), .ref (ad 1), .ref (ad tb), .ref (ad 24)] ad co dl (fun co' => ∃ x y g20 g21, ((x = 20 ∧ y = 21) ∨ (x = 21 ∧ y = 20)) ∧ co' = va_up (va_up (va_up (va_up co 20 (.inl (cI, a, .inl g20))) 21 (.inl (cI, a, .inl g21))) 24 (.inl (cI, 200, .inl (fun j => if j < n then nxt a (alw tr shp (-1)) cl mv sp n tr j else nx j)))) 16 (oF ad fc a x y)) := by
  refine gMv_of (cc := b_F_fillNextCosts) (maxL := 6) (ret := none) (by decide) rfl (Nat.le_of_ble_eq_true rfl) ?_
  intro pp ee s mm below meth cd ls hC hW hS hl
  obtain ⟨hx, hb, hr, hts0, hown, hlocks, hml, hK, hN⟩ := hC
  have hts : ∀ w ∈ wA, w.before _ s = true := fun w h => hts0 w (List.mem_cons_of_mem _ h)
  have hA : ∀ q, s.heap.size ≤ q → gA ad co dl s.heap.size q := fun q h => Or.inr h
  have hl : lv_has ls 6 [(0, .ref (ad 16)), (1, .ref (ad 1)), (2, .ref (ad tb)), (3, .ref (ad 24))] := hl
  have hown : s.vm.findClass R_F = some mm.cls := hown
  have hn0 : 0 < n := hok.1
  have hn2 : n ≤ 200 := hok.2.1
  have ha0 : 0 < a := hok.2.2.1
  have hBIG : BIG = 1000000000 := rfl
  refine lv_aload_n hx hb d_F_fillNextCosts_0 rfl (lv_at hl 0 rfl) ?_
  refine g_get (C := R_F) (T := F_F) (N := 7) hx hb hts i_F hown hK hW (i := 16) (hdl (16) (by unfold kD; omega)) w16 rfl 5 (by decide) (hts _ q_97) (fun _ h9 => h9) rfl d_F_fillNextCosts_1 ?_
  refine lv_iconst (v := nI 0) hx hb d_F_fillNextCosts_4 (by decide) ?_
  refine n_topi (show nI 0 = nI 0 from rfl) ?_
  refine g_cSv (As := [.ref (ad bb), .int (nI 0)]) (rest := []) ⟨hx, hb, hml, hown, hts⟩ (c_JA_fill l (q := bb) (hdl _ (by unfold kD; omega)) wbb (by omega) (nI 0)) (gcwS 2 hts q_284 q_282 q_283 q_11 (by decide +kernel) ⟨(Nat.le_of_ble_eq_true rfl), (Nat.le_of_ble_eq_true rfl)⟩) gNl_ok hN hK hW hS hA rfl hl.1 rfl (Nat.le_of_ble_eq_true rfl) d_F_fillNextCosts_5 ⟨Nat.zero_le _, Nat.zero_le _⟩ (fun co9 H locs hp9 hW hS => ?_)
  rw [hp9] at hW
  obtain ⟨g20, g21, h20, h21, hW⟩ : ∃ g20 g21 : Nat → Int32, (bb = 20 → ∀ j, j < a → g20 j = nI 0) ∧ (bb = 21 → ∀ j, j < a → g21 j = nI 0) ∧ gW D gCl (gA ad co dl s.heap.size) ad (va_up (va_up (va_up (va_up co 20 (.inl (cI, a, .inl g20))) 21 (.inl (cI, a, .inl g21))) 24 (.inl (cI, 200, .inl nx))) 16 (oF ad fc a bb ff)) dl H := by
    rcases hbf with ⟨rfl, rfl⟩ | ⟨rfl, rfl⟩
    · refine ⟨fun j => if j < a then nI 0 else fb j, fa, fun _ j hj => if_pos hj, fun q => absurd q (by decide), gW_eq ?_ hW⟩
      funext i
      by_cases q20 : i = 20
      · subst q20; simp [va_up]
      by_cases q21 : i = 21
      · subst q21; simp [va_up, wff]
      by_cases q24 : i = 24
      · subst q24; simp [va_up, w24]
      by_cases q16 : i = 16
      · subst q16; simp [va_up, w16]
      simp [va_up, q20, q21, q24, q16]
    · refine ⟨fa, fun j => if j < a then nI 0 else fb j, fun q => absurd q (by decide), fun _ j hj => if_pos hj, gW_eq ?_ hW⟩
      funext i
      by_cases q20 : i = 20
      · subst q20; simp [va_up, wff]
      by_cases q21 : i = 21
      · subst q21; simp [va_up]
      by_cases q24 : i = 24
      · subst q24; simp [va_up, w24]
      by_cases q16 : i = 16
      · subst q16; simp [va_up, w16]
      simp [va_up, q20, q21, q24, q16]
  refine lv_iconst (v := nI 0) hx hb d_F_fillNextCosts_8 (by decide) ?_
  refine lv_istore (lv' := [(4, .int (nI 0)), (0, .ref (ad 16)), (1, .ref (ad 1)), (2, .ref (ad tb)), (3, .ref (ad 24))]) hx hb d_F_fillNextCosts_9 hl (by decide) rfl (fun ls hl => ?_)
  suffices hloop : ∀ (d k x y : Nat) (g20 g21 N1 : Nat → Int32) (H : Heap) (locs : List Loc) (ls : Array Slot), (k ≤ n) → (n + 1 ≤ k + d) → ((x = 20 ∧ y = 21) ∨ (x = 21 ∧ y = 20)) → (x = 20 → ∀ j, k < n → j < a → g20 j = nI (bfo a (alw tr shp (-1)) cl mv sp k j)) → (x = 21 → ∀ j, k < n → j < a → g21 j = nI (bfo a (alw tr shp (-1)) cl mv sp k j)) → (∀ j, N1 j = if j < k then nxt a (alw tr shp (-1)) cl mv sp n tr j else nx j) → gW D gCl (gA ad co dl s.heap.size) ad (va_up (va_up (va_up (va_up co 20 (.inl (cI, a, .inl g20))) 21 (.inl (cI, a, .inl g21))) 24 (.inl (cI, 200, .inl N1))) 16 (oF ad fc a x y)) dl H → va_S (gA ad co dl s.heap.size) s.heap H locs → lv_has ls 6 [(0, .ref (ad 16)), (1, .ref (ad 1)), (2, .ref (ad tb)), (3, .ref (ad 24)), (4, .int (nI k))] → W pp l ee _ s mm _ below meth cd H locs 0 0 _ (F0 mm 11 ls []) by
    exact hloop (n + 1) 0 bb ff g20 g21 nx _ _ ls (by omega) (by omega) hbf (fun q j _ hj => h20 q j hj) (fun q j _ hj => h21 q j hj) (fun _ => rfl) hW hS (lv_sub hl [1, 2, 3, 4, 0] rfl)
  clear hW hS hl
  intro d
  induction d with
  | zero => intro k x y g20 g21 N1 H locs ls hk hd hxy hb20 hb21 hN1; omega
  | succ d ih =>
    intro k x y g20 g21 N1 H locs ls hk hd hxy hb20 hb21 hN1 hW hS hl
    obtain ⟨c9, hc9, hW⟩ := gW_nm hW
    have k1 := (congrFun hc9 1).trans ((va_up_ne _ _ (by omega)).trans ((va_up_ne _ _ (by omega)).trans ((va_up_ne _ _ (by omega)).trans ((va_up_ne _ _ (by omega)).trans w1))))
    have k3 := (congrFun hc9 3).trans ((va_up_ne _ _ (by omega)).trans ((va_up_ne _ _ (by omega)).trans ((va_up_ne _ _ (by omega)).trans ((va_up_ne _ _ (by omega)).trans w3))))
    have k5 := (congrFun hc9 5).trans ((va_up_ne _ _ (by omega)).trans ((va_up_ne _ _ (by omega)).trans ((va_up_ne _ _ (by omega)).trans ((va_up_ne _ _ (by omega)).trans w5))))
    have k6 := (congrFun hc9 6).trans ((va_up_ne _ _ (by omega)).trans ((va_up_ne _ _ (by omega)).trans ((va_up_ne _ _ (by omega)).trans ((va_up_ne _ _ (by omega)).trans w6))))
    have k17 := (congrFun hc9 17).trans ((va_up_ne _ _ (by omega)).trans ((va_up_ne _ _ (by omega)).trans ((va_up_ne _ _ (by omega)).trans ((va_up_ne _ _ (by omega)).trans w17))))
    have k18 := (congrFun hc9 18).trans ((va_up_ne _ _ (by omega)).trans ((va_up_ne _ _ (by omega)).trans ((va_up_ne _ _ (by omega)).trans ((va_up_ne _ _ (by omega)).trans w18))))
    have ktb := (congrFun hc9 tb).trans ((va_up_ne _ _ (by omega)).trans ((va_up_ne _ _ (by omega)).trans ((va_up_ne _ _ (by omega)).trans ((va_up_ne _ _ (by omega)).trans wtb))))
    have kc1 := (congrFun hc9 c1).trans ((va_up_ne _ _ (by omega)).trans ((va_up_ne _ _ (by omega)).trans ((va_up_ne _ _ (by omega)).trans ((va_up_ne _ _ (by omega)).trans wc1))))
    have kc2 := (congrFun hc9 c2).trans ((va_up_ne _ _ (by omega)).trans ((va_up_ne _ _ (by omega)).trans ((va_up_ne _ _ (by omega)).trans ((va_up_ne _ _ (by omega)).trans wc2))))
    have km1 : ∀ i, i < a → c9 (m1 + i) = .inl (cI, a, .inl (MV i)) := fun i hi => (congrFun hc9 (m1 + i)).trans ((va_up_ne _ _ (by omega)).trans ((va_up_ne _ _ (by omega)).trans ((va_up_ne _ _ (by omega)).trans ((va_up_ne _ _ (by omega)).trans (wm1 i hi)))))
    have km2 : ∀ i, i < a → c9 (m2 + i) = .inl (cI, 10, .inl (SP i)) := fun i hi => (congrFun hc9 (m2 + i)).trans ((va_up_ne _ _ (by omega)).trans ((va_up_ne _ _ (by omega)).trans ((va_up_ne _ _ (by omega)).trans ((va_up_ne _ _ (by omega)).trans (wm2 i hi)))))
    have kG : ∀ r, r < 200 → c9 (200 + r) = .inl (cI, a, .inl (G r)) := fun r hr => (congrFun hc9 (200 + r)).trans ((va_up_ne _ _ (by omega)).trans ((va_up_ne _ _ (by omega)).trans ((va_up_ne _ _ (by omega)).trans ((va_up_ne _ _ (by omega)).trans (wG r hr)))))
    have k16 : c9 16 = oF ad fc a x y := (congrFun hc9 16).trans (va_up_self _ _ _)
    have k24 : c9 24 = .inl (cI, 200, .inl N1) := (congrFun hc9 24).trans ((va_up_ne _ _ (by decide)).trans (va_up_self _ _ _))
    have k20 : c9 20 = .inl (cI, a, .inl g20) := (congrFun hc9 20).trans ((va_up_ne _ _ (by decide)).trans ((va_up_ne _ _ (by decide)).trans ((va_up_ne _ _ (by decide)).trans (va_up_self _ _ _))))
    have k21 : c9 21 = .inl (cI, a, .inl g21) := (congrFun hc9 21).trans ((va_up_ne _ _ (by decide)).trans ((va_up_ne _ _ (by decide)).trans (va_up_self _ _ _)))
    obtain ⟨gx, gy, kx, ky, hgx⟩ : ∃ gx gy : Nat → Int32, c9 x = .inl (cI, a, .inl gx) ∧ c9 y = .inl (cI, a, .inl gy) ∧ ∀ j, k < n → j < a → gx j = nI (bfo a (alw tr shp (-1)) cl mv sp k j) := by
      rcases hxy with ⟨rfl, rfl⟩ | ⟨rfl, rfl⟩
      · exact ⟨g20, g21, k20, k21, hb20 rfl⟩
      · exact ⟨g21, g20, k21, k20, hb21 rfl⟩
    refine lv_iload hx hb d_F_fillNextCosts_11 (lv_at hl 4 rfl) ?_
    refine lv_aload_n hx hb d_F_fillNextCosts_13 rfl (lv_at hl 1 rfl) ?_
    refine g_get (C := R_T) (T := F_T) (N := 6) hx hb hts i_T hown hK hW (i := 1) (hdl (1) (by unfold kD; omega)) k1 rfl 5 (by decide) (hts _ q_43) (fun _ h9 => h9) rfl d_F_fillNextCosts_14 ?_
    refine n_icmp_ge (tgt := 91) hx hb (by omega) (by omega) d_F_fillNextCosts_17 (by decide) (fun h1 => ?_) (fun h1 => ?_)
    · have hkn : k = n := by omega
      rw [hkn] at hN1
      rw [show N1 = (fun j => if j < n then nxt a (alw tr shp (-1)) cl mv sp n tr j else nx j) from funext hN1] at hc9
      rw [hc9] at hW
      exact g_vret hx hb hr hlocks hW hS (⟨x, y, g20, g21, hxy, rfl⟩) d_F_fillNextCosts_91
    · have hbk := bln_ok hok k h1
      obtain ⟨X, hX⟩ : ∃ z, z = bln a (alw tr shp (-1)) cl mv sp n k := ⟨_, rfl⟩
      rw [← hX] at hbk
      have hflk : fl k = nI X := by rw [hX]; exact hfl k h1
      have hbig : ∀ j, j < a → tgo a (alw tr shp (-1)) cl mv sp n k j ≤ 1000000000 := fun j hj => by
        cases hal : (alw tr shp (-1)) k j with
        | true => have := tgo_le hok h1 hj hal; omega
        | false => rw [tgo_big hal]; exact Nat.le_refl _
      refine lv_aload_n hx hb d_F_fillNextCosts_20 rfl (lv_at hl 0 rfl) ?_
      refine g_get (C := R_F) (T := F_F) (N := 7) hx hb hts i_F hown hK hW (i := 16) (hdl (16) (by unfold kD; omega)) k16 rfl 2 (by decide) (hts _ q_94) (fun _ h9 => h9) rfl d_F_fillNextCosts_21 ?_
      refine lv_iconst (v := nI 1) hx hb d_F_fillNextCosts_24 (by decide) ?_
      refine n_icmp_le (tgt := 43) hx hb (by omega) (by omega) d_F_fillNextCosts_25 (by decide) (fun h2 => ?_) (fun h2 => ?_)
      · refine lv_iconst (v := nI 0) hx hb d_F_fillNextCosts_43 (by decide) ?_
        refine lv_istore (lv' := [(5, .int (nI 0)), (0, .ref (ad 16)), (1, .ref (ad 1)), (2, .ref (ad tb)), (3, .ref (ad 24)), (4, .int (nI k))]) hx hb d_F_fillNextCosts_44 hl (by decide) rfl (fun ls hl => ?_)
        refine lv_aload_n hx hb d_F_fillNextCosts_46 rfl (lv_at hl 4 rfl) ?_
        refine lv_iload hx hb d_F_fillNextCosts_47 (lv_at hl 5 rfl) ?_
        refine lv_iload hx hb d_F_fillNextCosts_49 (lv_at hl 0 rfl) ?_
        refine n_if_eq (tgt := 75) hx hb (by omega) d_F_fillNextCosts_51 (by decide) (fun h9 => ?_) (fun h9 => absurd h9 (by omega))
        refine lv_iconst (v := (-1)) hx hb d_F_fillNextCosts_75 (by decide) ?_
        refine n_iast (x := (-1)) hx hb hK hW hS 0 (q := 24) (hdl (24) (by unfold kD; omega)) k24 rfl (j := k) (by omega) (by omega) d_F_fillNextCosts_76 (fun H locs hW hS => ?_)
        have hnk : nxt a (alw tr shp (-1)) cl mv sp n tr k = -1 := by rw [nxt, if_neg (fun q => by omega)]
        refine lv_aload_n hx hb d_F_fillNextCosts_77 rfl (lv_at hl 1 rfl) ?_
        refine lv_aload_n hx hb d_F_fillNextCosts_78 rfl (lv_at hl 2 rfl) ?_
        refine lv_aload_n hx hb d_F_fillNextCosts_79 rfl (lv_at hl 3 rfl) ?_
        refine lv_iload hx hb d_F_fillNextCosts_80 (lv_at hl 5 rfl) ?_
        refine g_cVv (As := [.ref (ad 1), .ref (ad tb), .int (nI k)]) (rest := []) ⟨hx, hb, hml, hown, hts⟩ (c_F_stepBefore l hdl ((va_up_ne _ _ (by omega)).trans k16) ((va_up_ne _ _ (by omega)).trans k1) ((va_up_ne _ _ (by omega)).trans k3) ((va_up_ne _ _ (by omega)).trans k5) ((va_up_ne _ _ (by omega)).trans k6) k htab ((va_up_ne _ _ (by omega)).trans ktb) ((va_up_ne _ _ (by omega)).trans kc1) ((va_up_ne _ _ (by omega)).trans kc2) (fun i hi => ((va_up_ne _ _ (by omega)).trans (km1 i hi))) (fun i hi => ((va_up_ne _ _ (by omega)).trans (km2 i hi))) ha hok hcl hmv hsp hxy h1 ((va_up_ne _ _ (by omega)).trans kx) ((va_up_ne _ _ (by omega)).trans ky) (u := fun j => bfo a (alw tr shp (-1)) cl mv sp k j) (fun j hj => ⟨hgx j h1 hj, by have := bfo_le hok k j h1 hj; show bfo a (alw tr shp (-1)) cl mv sp k j ≤ 4000000; omega⟩)) (gcwV 3 hts q_293 q_290 q_292 qs_4 q_5 (by decide +kernel) ⟨(Nat.le_of_ble_eq_true rfl), (Nat.le_of_ble_eq_true rfl)⟩) gNl_ok hN hK hW hS hA (hdl (16) (by unfold kD; omega)) ((va_up_ne _ _ (by decide)).trans k16) rfl rfl hl.1 rfl (Nat.le_of_ble_eq_true rfl) d_F_fillNextCosts_82 ⟨Nat.zero_le _, Nat.zero_le _⟩ (fun co9 H locs hp8 hW hS => ?_)
        obtain ⟨g, hco8, hg⟩ := hp8
        rw [hco8] at hW
        refine n_iinc (lv' := [(4, .int (nI (k + 1))), (5, .int (nI 0)), (0, .ref (ad 16)), (1, .ref (ad 1)), (2, .ref (ad tb)), (3, .ref (ad 24))]) hx hb d_F_fillNextCosts_85 hl (k := 5) rfl (by decide) rfl (fun ls hl => ?_)
        refine lv_goto (tgt := 11) hx hb d_F_fillNextCosts_88 (by decide) ?_
        have hN2 : ∀ j, (upd N1 k (-1)) j = if j < k + 1 then nxt a (alw tr shp (-1)) cl mv sp n tr j else nx j := fun j => by
          by_cases hj : j = k
          · subst hj; rw [pk_us, if_pos (by omega), hnk]
          · rw [pk_un hj, hN1 j]
            by_cases hj2 : j < k
            · rw [if_pos hj2, if_pos (by omega)]
            · rw [if_neg hj2, if_neg (by omega)]
        rcases hxy with ⟨rfl, rfl⟩ | ⟨rfl, rfl⟩
        · have hfin : va_up (va_up (va_up c9 24 (.inl (cI, 200, .inl (upd N1 k (-1))))) 21 (.inl (cI, a, .inl g))) 16 (oF ad fc a 21 20) = va_up (va_up (va_up (va_up co 20 (.inl (cI, a, .inl g20))) 21 (.inl (cI, a, .inl g))) 24 (.inl (cI, 200, .inl (upd N1 k (-1))))) 16 (oF ad fc a 21 20) := by
            rw [hc9]
            funext i
            by_cases q20 : i = 20
            · subst q20; simp [va_up]
            by_cases q21 : i = 21
            · subst q21; simp [va_up]
            by_cases q24 : i = 24
            · subst q24; simp [va_up]
            by_cases q16 : i = 16
            · subst q16; simp [va_up]
            simp [va_up, q20, q21, q24, q16]
          rw [hfin] at hW
          exact ih (k + 1) 21 20 g20 g (upd N1 k (-1)) _ _ ls (by omega) (by omega) (Or.inr ⟨rfl, rfl⟩) (fun q => absurd q (by decide)) (fun _ j _ hj => hg j hj) hN2 hW hS (lv_sub hl [2, 3, 4, 5, 0] rfl)
        · have hfin : va_up (va_up (va_up c9 24 (.inl (cI, 200, .inl (upd N1 k (-1))))) 20 (.inl (cI, a, .inl g))) 16 (oF ad fc a 20 21) = va_up (va_up (va_up (va_up co 20 (.inl (cI, a, .inl g))) 21 (.inl (cI, a, .inl g21))) 24 (.inl (cI, 200, .inl (upd N1 k (-1))))) 16 (oF ad fc a 20 21) := by
            rw [hc9]
            funext i
            by_cases q20 : i = 20
            · subst q20; simp [va_up]
            by_cases q21 : i = 21
            · subst q21; simp [va_up]
            by_cases q24 : i = 24
            · subst q24; simp [va_up]
            by_cases q16 : i = 16
            · subst q16; simp [va_up]
            simp [va_up, q20, q21, q24, q16]
          rw [hfin] at hW
          exact ih (k + 1) 20 21 g g21 (upd N1 k (-1)) _ _ ls (by omega) (by omega) (Or.inl ⟨rfl, rfl⟩) (fun _ j _ hj => hg j hj) (fun q => absurd q (by decide)) hN2 hW hS (lv_sub hl [2, 3, 4, 5, 0] rfl)
      · refine lv_aload_n hx hb d_F_fillNextCosts_28 rfl (lv_at hl 1 rfl) ?_
        refine g_get (C := R_T) (T := F_T) (N := 6) hx hb hts i_T hown hK hW (i := 1) (hdl (1) (by unfold kD; omega)) k1 rfl 4 (by decide) (hts _ q_40) (fun _ h9 => h9) rfl d_F_fillNextCosts_29 ?_
        refine lv_iload hx hb d_F_fillNextCosts_32 (lv_at hl 4 rfl) ?_
        refine n_iald hx hb hK hW 0 (q := 6) (hdl (6) (by unfold kD; omega)) k6 rfl (j := k) (by omega) (by omega) d_F_fillNextCosts_34 ?_
        refine lv_iconst (v := (-1)) hx hb d_F_fillNextCosts_35 (by decide) ?_
        refine lv_icmp_ne (tgt := 43) hx hb d_F_fillNextCosts_36 (by decide) (fun h3 => ?_) (fun h3 => ?_)
        · refine lv_iconst (v := nI 0) hx hb d_F_fillNextCosts_43 (by decide) ?_
          refine lv_istore (lv' := [(5, .int (nI 0)), (0, .ref (ad 16)), (1, .ref (ad 1)), (2, .ref (ad tb)), (3, .ref (ad 24)), (4, .int (nI k))]) hx hb d_F_fillNextCosts_44 hl (by decide) rfl (fun ls hl => ?_)
          refine lv_aload_n hx hb d_F_fillNextCosts_46 rfl (lv_at hl 4 rfl) ?_
          refine lv_iload hx hb d_F_fillNextCosts_47 (lv_at hl 5 rfl) ?_
          refine lv_iload hx hb d_F_fillNextCosts_49 (lv_at hl 0 rfl) ?_
          refine n_if_eq (tgt := 75) hx hb (by omega) d_F_fillNextCosts_51 (by decide) (fun h9 => ?_) (fun h9 => absurd h9 (by omega))
          refine lv_iconst (v := (-1)) hx hb d_F_fillNextCosts_75 (by decide) ?_
          refine n_iast (x := (-1)) hx hb hK hW hS 0 (q := 24) (hdl (24) (by unfold kD; omega)) k24 rfl (j := k) (by omega) (by omega) d_F_fillNextCosts_76 (fun H locs hW hS => ?_)
          have hnk : nxt a (alw tr shp (-1)) cl mv sp n tr k = -1 := by rw [nxt, if_neg (fun q => h3 q.2)]
          refine lv_aload_n hx hb d_F_fillNextCosts_77 rfl (lv_at hl 1 rfl) ?_
          refine lv_aload_n hx hb d_F_fillNextCosts_78 rfl (lv_at hl 2 rfl) ?_
          refine lv_aload_n hx hb d_F_fillNextCosts_79 rfl (lv_at hl 3 rfl) ?_
          refine lv_iload hx hb d_F_fillNextCosts_80 (lv_at hl 5 rfl) ?_
          refine g_cVv (As := [.ref (ad 1), .ref (ad tb), .int (nI k)]) (rest := []) ⟨hx, hb, hml, hown, hts⟩ (c_F_stepBefore l hdl ((va_up_ne _ _ (by omega)).trans k16) ((va_up_ne _ _ (by omega)).trans k1) ((va_up_ne _ _ (by omega)).trans k3) ((va_up_ne _ _ (by omega)).trans k5) ((va_up_ne _ _ (by omega)).trans k6) k htab ((va_up_ne _ _ (by omega)).trans ktb) ((va_up_ne _ _ (by omega)).trans kc1) ((va_up_ne _ _ (by omega)).trans kc2) (fun i hi => ((va_up_ne _ _ (by omega)).trans (km1 i hi))) (fun i hi => ((va_up_ne _ _ (by omega)).trans (km2 i hi))) ha hok hcl hmv hsp hxy h1 ((va_up_ne _ _ (by omega)).trans kx) ((va_up_ne _ _ (by omega)).trans ky) (u := fun j => bfo a (alw tr shp (-1)) cl mv sp k j) (fun j hj => ⟨hgx j h1 hj, by have := bfo_le hok k j h1 hj; show bfo a (alw tr shp (-1)) cl mv sp k j ≤ 4000000; omega⟩)) (gcwV 3 hts q_293 q_290 q_292 qs_4 q_5 (by decide +kernel) ⟨(Nat.le_of_ble_eq_true rfl), (Nat.le_of_ble_eq_true rfl)⟩) gNl_ok hN hK hW hS hA (hdl (16) (by unfold kD; omega)) ((va_up_ne _ _ (by decide)).trans k16) rfl rfl hl.1 rfl (Nat.le_of_ble_eq_true rfl) d_F_fillNextCosts_82 ⟨Nat.zero_le _, Nat.zero_le _⟩ (fun co9 H locs hp8 hW hS => ?_)
          obtain ⟨g, hco8, hg⟩ := hp8
          rw [hco8] at hW
          refine n_iinc (lv' := [(4, .int (nI (k + 1))), (5, .int (nI 0)), (0, .ref (ad 16)), (1, .ref (ad 1)), (2, .ref (ad tb)), (3, .ref (ad 24))]) hx hb d_F_fillNextCosts_85 hl (k := 5) rfl (by decide) rfl (fun ls hl => ?_)
          refine lv_goto (tgt := 11) hx hb d_F_fillNextCosts_88 (by decide) ?_
          have hN2 : ∀ j, (upd N1 k (-1)) j = if j < k + 1 then nxt a (alw tr shp (-1)) cl mv sp n tr j else nx j := fun j => by
            by_cases hj : j = k
            · subst hj; rw [pk_us, if_pos (by omega), hnk]
            · rw [pk_un hj, hN1 j]
              by_cases hj2 : j < k
              · rw [if_pos hj2, if_pos (by omega)]
              · rw [if_neg hj2, if_neg (by omega)]
          rcases hxy with ⟨rfl, rfl⟩ | ⟨rfl, rfl⟩
          · have hfin : va_up (va_up (va_up c9 24 (.inl (cI, 200, .inl (upd N1 k (-1))))) 21 (.inl (cI, a, .inl g))) 16 (oF ad fc a 21 20) = va_up (va_up (va_up (va_up co 20 (.inl (cI, a, .inl g20))) 21 (.inl (cI, a, .inl g))) 24 (.inl (cI, 200, .inl (upd N1 k (-1))))) 16 (oF ad fc a 21 20) := by
              rw [hc9]
              funext i
              by_cases q20 : i = 20
              · subst q20; simp [va_up]
              by_cases q21 : i = 21
              · subst q21; simp [va_up]
              by_cases q24 : i = 24
              · subst q24; simp [va_up]
              by_cases q16 : i = 16
              · subst q16; simp [va_up]
              simp [va_up, q20, q21, q24, q16]
            rw [hfin] at hW
            exact ih (k + 1) 21 20 g20 g (upd N1 k (-1)) _ _ ls (by omega) (by omega) (Or.inr ⟨rfl, rfl⟩) (fun q => absurd q (by decide)) (fun _ j _ hj => hg j hj) hN2 hW hS (lv_sub hl [2, 3, 4, 5, 0] rfl)
          · have hfin : va_up (va_up (va_up c9 24 (.inl (cI, 200, .inl (upd N1 k (-1))))) 20 (.inl (cI, a, .inl g))) 16 (oF ad fc a 20 21) = va_up (va_up (va_up (va_up co 20 (.inl (cI, a, .inl g))) 21 (.inl (cI, a, .inl g21))) 24 (.inl (cI, 200, .inl (upd N1 k (-1))))) 16 (oF ad fc a 20 21) := by
              rw [hc9]
              funext i
              by_cases q20 : i = 20
              · subst q20; simp [va_up]
              by_cases q21 : i = 21
              · subst q21; simp [va_up]
              by_cases q24 : i = 24
              · subst q24; simp [va_up]
              by_cases q16 : i = 16
              · subst q16; simp [va_up]
              simp [va_up, q20, q21, q24, q16]
            rw [hfin] at hW
            exact ih (k + 1) 20 21 g g21 (upd N1 k (-1)) _ _ ls (by omega) (by omega) (Or.inl ⟨rfl, rfl⟩) (fun _ j _ hj => hg j hj) (fun q => absurd q (by decide)) hN2 hW hS (lv_sub hl [2, 3, 4, 5, 0] rfl)
        · refine lv_iconst (v := nI 1) hx hb d_F_fillNextCosts_39 (by decide) ?_
          refine lv_goto (tgt := 44) hx hb d_F_fillNextCosts_40 (by decide) ?_
          refine lv_istore (lv' := [(5, .int (nI 1)), (0, .ref (ad 16)), (1, .ref (ad 1)), (2, .ref (ad tb)), (3, .ref (ad 24)), (4, .int (nI k))]) hx hb d_F_fillNextCosts_44 hl (by decide) rfl (fun ls hl => ?_)
          refine lv_aload_n hx hb d_F_fillNextCosts_46 rfl (lv_at hl 4 rfl) ?_
          refine lv_iload hx hb d_F_fillNextCosts_47 (lv_at hl 5 rfl) ?_
          refine lv_iload hx hb d_F_fillNextCosts_49 (lv_at hl 0 rfl) ?_
          refine n_if_eq (tgt := 75) hx hb (by omega) d_F_fillNextCosts_51 (by decide) (fun h9 => absurd h9 (by omega)) (fun h9 => ?_)
          refine lv_aload_n hx hb d_F_fillNextCosts_54 rfl (lv_at hl 1 rfl) ?_
          refine lv_aload_n hx hb d_F_fillNextCosts_55 rfl (lv_at hl 1 rfl) ?_
          refine g_get (C := R_F) (T := F_F) (N := 7) hx hb hts i_F hown hK hW (i := 16) (hdl (16) (by unfold kD; omega)) k16 rfl 0 (by decide) (hts _ q_88) (fun _ h9 => h9) rfl d_F_fillNextCosts_56 ?_
          refine lv_iload hx hb d_F_fillNextCosts_59 (lv_at hl 5 rfl) ?_
          refine n_iald hx hb hK hW 0 (q := 17) (hdl (17) (by unfold kD; omega)) k17 rfl (j := k) (by omega) (by omega) d_F_fillNextCosts_61 ?_
          refine n_topi (show fl k = nI X from hflk) ?_
          refine lv_aload_n hx hb d_F_fillNextCosts_62 rfl (lv_at hl 1 rfl) ?_
          refine g_get (C := R_F) (T := F_F) (N := 7) hx hb hts i_F hown hK hW (i := 16) (hdl (16) (by unfold kD; omega)) k16 rfl 3 (by decide) (hts _ q_95) (fun _ h9 => h9) rfl d_F_fillNextCosts_63 ?_
          refine lv_iload hx hb d_F_fillNextCosts_66 (lv_at hl 5 rfl) ?_
          refine n_aald hx hb hK hW 2 (q := 18) (hdl (18) (by unfold kD; omega)) k18 rfl rfl (j := k) (by omega) (by omega) (b := ad (200 + k)) (if_pos (by omega)) d_F_fillNextCosts_68 ?_
          refine g_cVi (As := [.int (nI X), .ref (ad (200 + k))]) (rest := [.int (nI k), .ref (ad 24)]) ⟨hx, hb, hml, hown, hts⟩ (c_F_leastOther l hdl k16 (q2 := 200 + k) (X := X) (u := fun j => bfo a (alw tr shp (-1)) cl mv sp k j) (v := fun j => tgo a (alw tr shp (-1)) cl mv sp n k j) (by omega) (hdl _ (by unfold kD; omega)) kx (kG k (by omega)) ha hbk.1 (fun j hj => hgx j h1 hj) (fun j hj => hG k j h1 hj) (fun j hj => by have := hbig j hj; have := bfo_le hok k j h1 hj; show bfo a (alw tr shp (-1)) cl mv sp k j + tgo a (alw tr shp (-1)) cl mv sp n k j < 2 ^ 31; omega)) (gcwV 2 hts q_288 q_285 q_287 qs_3 q_5 (by decide +kernel) ⟨(Nat.le_of_ble_eq_true rfl), (Nat.le_of_ble_eq_true rfl)⟩) gNl_ok hN hK hW hS hA (hdl (16) (by unfold kD; omega)) k16 rfl rfl hl.1 rfl (Nat.le_of_ble_eq_true rfl) d_F_fillNextCosts_69 ⟨Nat.zero_le _, Nat.zero_le _⟩ (fun r co9 H locs hp9 hW hS => ?_)
          obtain ⟨rfl, hco9⟩ := hp9
          rw [hco9] at hW
          refine lv_goto (tgt := 76) hx hb d_F_fillNextCosts_72 (by decide) ?_
          refine n_iast (x := nI (rmin (fun j => decide (¬ j = X)) (fun j => bfo a (alw tr shp (-1)) cl mv sp k j + tgo a (alw tr shp (-1)) cl mv sp n k j) a)) hx hb hK hW hS 0 (q := 24) (hdl (24) (by unfold kD; omega)) k24 rfl (j := k) (by omega) (by omega) d_F_fillNextCosts_76 (fun H locs hW hS => ?_)
          have hnk : nxt a (alw tr shp (-1)) cl mv sp n tr k = nI (rmin (fun j => decide (¬ j = X)) (fun j => bfo a (alw tr shp (-1)) cl mv sp k j + tgo a (alw tr shp (-1)) cl mv sp n k j) a) := by rw [nxt, if_pos ⟨by omega, h3⟩, ← hX]
          refine lv_aload_n hx hb d_F_fillNextCosts_77 rfl (lv_at hl 1 rfl) ?_
          refine lv_aload_n hx hb d_F_fillNextCosts_78 rfl (lv_at hl 2 rfl) ?_
          refine lv_aload_n hx hb d_F_fillNextCosts_79 rfl (lv_at hl 3 rfl) ?_
          refine lv_iload hx hb d_F_fillNextCosts_80 (lv_at hl 5 rfl) ?_
          refine g_cVv (As := [.ref (ad 1), .ref (ad tb), .int (nI k)]) (rest := []) ⟨hx, hb, hml, hown, hts⟩ (c_F_stepBefore l hdl ((va_up_ne _ _ (by omega)).trans k16) ((va_up_ne _ _ (by omega)).trans k1) ((va_up_ne _ _ (by omega)).trans k3) ((va_up_ne _ _ (by omega)).trans k5) ((va_up_ne _ _ (by omega)).trans k6) k htab ((va_up_ne _ _ (by omega)).trans ktb) ((va_up_ne _ _ (by omega)).trans kc1) ((va_up_ne _ _ (by omega)).trans kc2) (fun i hi => ((va_up_ne _ _ (by omega)).trans (km1 i hi))) (fun i hi => ((va_up_ne _ _ (by omega)).trans (km2 i hi))) ha hok hcl hmv hsp hxy h1 ((va_up_ne _ _ (by omega)).trans kx) ((va_up_ne _ _ (by omega)).trans ky) (u := fun j => bfo a (alw tr shp (-1)) cl mv sp k j) (fun j hj => ⟨hgx j h1 hj, by have := bfo_le hok k j h1 hj; show bfo a (alw tr shp (-1)) cl mv sp k j ≤ 4000000; omega⟩)) (gcwV 3 hts q_293 q_290 q_292 qs_4 q_5 (by decide +kernel) ⟨(Nat.le_of_ble_eq_true rfl), (Nat.le_of_ble_eq_true rfl)⟩) gNl_ok hN hK hW hS hA (hdl (16) (by unfold kD; omega)) ((va_up_ne _ _ (by decide)).trans k16) rfl rfl hl.1 rfl (Nat.le_of_ble_eq_true rfl) d_F_fillNextCosts_82 ⟨Nat.zero_le _, Nat.zero_le _⟩ (fun co9 H locs hp8 hW hS => ?_)
          obtain ⟨g, hco8, hg⟩ := hp8
          rw [hco8] at hW
          refine n_iinc (lv' := [(4, .int (nI (k + 1))), (5, .int (nI 1)), (0, .ref (ad 16)), (1, .ref (ad 1)), (2, .ref (ad tb)), (3, .ref (ad 24))]) hx hb d_F_fillNextCosts_85 hl (k := 5) rfl (by decide) rfl (fun ls hl => ?_)
          refine lv_goto (tgt := 11) hx hb d_F_fillNextCosts_88 (by decide) ?_
          have hN2 : ∀ j, (upd N1 k (nI (rmin (fun j => decide (¬ j = X)) (fun j => bfo a (alw tr shp (-1)) cl mv sp k j + tgo a (alw tr shp (-1)) cl mv sp n k j) a))) j = if j < k + 1 then nxt a (alw tr shp (-1)) cl mv sp n tr j else nx j := fun j => by
            by_cases hj : j = k
            · subst hj; rw [pk_us, if_pos (by omega), hnk]
            · rw [pk_un hj, hN1 j]
              by_cases hj2 : j < k
              · rw [if_pos hj2, if_pos (by omega)]
              · rw [if_neg hj2, if_neg (by omega)]
          rcases hxy with ⟨rfl, rfl⟩ | ⟨rfl, rfl⟩
          · have hfin : va_up (va_up (va_up c9 24 (.inl (cI, 200, .inl (upd N1 k (nI (rmin (fun j => decide (¬ j = X)) (fun j => bfo a (alw tr shp (-1)) cl mv sp k j + tgo a (alw tr shp (-1)) cl mv sp n k j) a)))))) 21 (.inl (cI, a, .inl g))) 16 (oF ad fc a 21 20) = va_up (va_up (va_up (va_up co 20 (.inl (cI, a, .inl g20))) 21 (.inl (cI, a, .inl g))) 24 (.inl (cI, 200, .inl (upd N1 k (nI (rmin (fun j => decide (¬ j = X)) (fun j => bfo a (alw tr shp (-1)) cl mv sp k j + tgo a (alw tr shp (-1)) cl mv sp n k j) a)))))) 16 (oF ad fc a 21 20) := by
              rw [hc9]
              funext i
              by_cases q20 : i = 20
              · subst q20; simp [va_up]
              by_cases q21 : i = 21
              · subst q21; simp [va_up]
              by_cases q24 : i = 24
              · subst q24; simp [va_up]
              by_cases q16 : i = 16
              · subst q16; simp [va_up]
              simp [va_up, q20, q21, q24, q16]
            rw [hfin] at hW
            exact ih (k + 1) 21 20 g20 g (upd N1 k (nI (rmin (fun j => decide (¬ j = X)) (fun j => bfo a (alw tr shp (-1)) cl mv sp k j + tgo a (alw tr shp (-1)) cl mv sp n k j) a))) _ _ ls (by omega) (by omega) (Or.inr ⟨rfl, rfl⟩) (fun q => absurd q (by decide)) (fun _ j _ hj => hg j hj) hN2 hW hS (lv_sub hl [2, 3, 4, 5, 0] rfl)
          · have hfin : va_up (va_up (va_up c9 24 (.inl (cI, 200, .inl (upd N1 k (nI (rmin (fun j => decide (¬ j = X)) (fun j => bfo a (alw tr shp (-1)) cl mv sp k j + tgo a (alw tr shp (-1)) cl mv sp n k j) a)))))) 20 (.inl (cI, a, .inl g))) 16 (oF ad fc a 20 21) = va_up (va_up (va_up (va_up co 20 (.inl (cI, a, .inl g))) 21 (.inl (cI, a, .inl g21))) 24 (.inl (cI, 200, .inl (upd N1 k (nI (rmin (fun j => decide (¬ j = X)) (fun j => bfo a (alw tr shp (-1)) cl mv sp k j + tgo a (alw tr shp (-1)) cl mv sp n k j) a)))))) 16 (oF ad fc a 20 21) := by
              rw [hc9]
              funext i
              by_cases q20 : i = 20
              · subst q20; simp [va_up]
              by_cases q21 : i = 21
              · subst q21; simp [va_up]
              by_cases q24 : i = 24
              · subst q24; simp [va_up]
              by_cases q16 : i = 16
              · subst q16; simp [va_up]
              simp [va_up, q20, q21, q24, q16]
            rw [hfin] at hW
            exact ih (k + 1) 20 21 g g21 (upd N1 k (nI (rmin (fun j => decide (¬ j = X)) (fun j => bfo a (alw tr shp (-1)) cl mv sp k j + tgo a (alw tr shp (-1)) cl mv sp n k j) a))) _ _ ls (by omega) (by omega) (Or.inl ⟨rfl, rfl⟩) (fun _ j _ hj => hg j hj) (fun q => absurd q (by decide)) hN2 hW hS (lv_sub hl [2, 3, 4, 5, 0] rfl)
