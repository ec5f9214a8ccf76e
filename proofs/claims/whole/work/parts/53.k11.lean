set_option maxHeartbeats 4000000 in
set_option maxRecDepth 100000 in
/-- run -/
theorem c_K_run (l : Launch) {D : va_G} {cI cJ cG : ClassId} {ad : Nat → Nat} {co : Nat → va_E} {dl : List Nat} {a sh mg n : Nat} {kr : Int32}  (hdl : ∀ i, kD a i → i ∈ dl) (w0 : co 0 = oK ad a kr sh mg) (w1 : co 1 = oT ad n) {cls : Nat → Int32} {shp : Nat → Int32} {tr : Nat → Int32} (w3 : co 3 = .inl (cI, 200, .inl cls)) (w5 : co 5 = .inl (cI, 200, .inl shp)) (w6 : co 6 = .inl (cI, 200, .inl tr)) {kn kc : Nat} {ln nx : Nat → Int32} {cl : Nat → Nat} {mv sp : Nat → Nat → Nat} (ha : a ≤ 12) (hn2 : n ≤ 200) (hcl : ∀ k, k < n → cls k = nI (cl k) ∧ cl k < 10) (hsh : ∀ k, k < n → shp k ≠ -1) (hkS : kSt cI cG ad a co) (hkC : kSc cI ad a co) (hkT : kTb cI a mv sp co) (hkL : kLt cI ad kn kc ln nx co) (hok : 0 < n → okN a (alw tr shp (-1)) cl mv sp n) : gMi l y_K_run (Cond.code y_K_run b_K_run 1 (some .int) :: wA) ({ frames := 4, cells := 0, slots := 0, locals := 135 }) D gCl (gTy cI cJ cG) gNl [.ref (ad 0)] ad co dl (fun r co' => (n = 0 ∧ r = -1 ∧ co' = co) ∨ (0 < n ∧ r = nI (bcs a (alw tr shp (-1)) cl mv sp n) ∧ kSt cI cG ad a co' ∧ kSc cI ad a co' ∧ kTb cI a mv sp co' ∧ kLt cI ad n (bcs a (alw tr shp (-1)) cl mv sp n) (fun j => if j < n then nI (bln a (alw tr shp (-1)) cl mv sp n j) else ln j) (fun j => if j < n then nxt a (alw tr shp (-1)) cl mv sp n tr j else nx j) co' ∧ ∀ i, kFr i → co' i = co i)) := by
  refine gMi_of (cc := b_K_run) (maxL := 1) (ret := some .int) (by decide) rfl (Nat.le_of_ble_eq_true rfl) ?_
  intro pp ee s mm below meth cd ls hC hW hS hl
  obtain ⟨hx, hb, hr, hts0, hown, hlocks, hml, hK, hN⟩ := hC
  have hts : ∀ w ∈ wA, w.before _ s = true := fun w h => hts0 w (List.mem_cons_of_mem _ h)
  have hA : ∀ q, s.heap.size ≤ q → gA ad co dl s.heap.size q := fun q h => Or.inr h
  have hl : lv_has ls 1 [(0, .ref (ad 0))] := hl
  have hown : s.vm.findClass R_K = some mm.cls := hown
  obtain ⟨w7, w8, w9, w10, w11, w12, w13, w14, w15, w18, zz, w19, hzz⟩ := hkS
  obtain ⟨fc, bb, ff, fl, g20, g21, G, MF, SF, MC, SC, hbf, w16, w17, w20, w21, wg200, wg80, wg100, wg120, wg140⟩ := hkC
  obtain ⟨MV, SP, wg40, wg60, hmv, hsp⟩ := hkT
  obtain ⟨w22, w23, w24⟩ := hkL
  have hfr : ∀ i, kFr i → co i = co i := fun _ _ => rfl
  refine lv_aload_n hx hb d_K_run_0 rfl (lv_at hl 0 rfl) ?_
  refine g_get (C := R_K) (T := F_K) (N := 13) hx hb hts i_K hown hK hW (i := 0) (hdl (0) (by unfold kD; omega)) w0 rfl 1 (by decide) (hts _ q_181) (fun _ h9 => h9) rfl d_K_run_1 ?_
  refine g_get (C := R_T) (T := F_T) (N := 6) hx hb hts i_T hown hK hW (i := 1) (hdl (1) (by unfold kD; omega)) w1 rfl 5 (by decide) (hts _ q_46) (fun _ h9 => h9) rfl d_K_run_4 ?_
  refine n_if_ne (tgt := 12) hx hb (by omega) d_K_run_7 (by decide) (fun h1 => ?_) (fun h1 => ?_)
  · have hok := hok h1
    refine lv_aload_n hx hb d_K_run_12 rfl (lv_at hl 0 rfl) ?_
    refine g_get (C := R_K) (T := F_K) (N := 13) hx hb hts i_K hown hK hW (i := 0) (hdl (0) (by unfold kD; omega)) w0 rfl 5 (by decide) (hts _ q_185) (fun _ h9 => h9) rfl d_K_run_13 ?_
    refine lv_aload_n hx hb d_K_run_16 rfl (lv_at hl 0 rfl) ?_
    refine g_get (C := R_K) (T := F_K) (N := 13) hx hb hts i_K hown hK hW (i := 0) (hdl (0) (by unfold kD; omega)) w0 rfl 1 (by decide) (hts _ q_181) (fun _ h9 => h9) rfl d_K_run_17 ?_
    refine lv_aload_n hx hb d_K_run_20 rfl (lv_at hl 0 rfl) ?_
    refine g_get (C := R_K) (T := F_K) (N := 13) hx hb hts i_K hown hK hW (i := 0) (hdl (0) (by unfold kD; omega)) w0 rfl 2 (by decide) (hts _ q_182) (fun _ h9 => h9) rfl d_K_run_21 ?_
    refine lv_iconst (v := (-1)) hx hb d_K_run_24 (by decide) ?_
    refine g_cVv (As := [.ref (ad 1), .ref (ad 7), .int (-1)]) (rest := []) ⟨hx, hb, hml, hown, hts⟩ (c_F_find l hdl w16 w1 w3 w5 w6 w17 (-1) (Or.inl ⟨rfl, rfl, rfl, rfl, rfl⟩) w7 w8 w9 wg40 wg60 ha hok hcl hmv hsp hbf w18 wg200 w19 hzz) (gcwV 3 hts q_257 q_254 q_255 q_256 q_5 (by decide +kernel) ⟨(Nat.le_of_ble_eq_true rfl), (Nat.le_of_ble_eq_true rfl)⟩) gNl_ok hN hK hW hS hA (hdl (16) (by unfold kD; omega)) w16 rfl rfl hl.1 rfl (Nat.le_of_ble_eq_true rfl) d_K_run_25 ⟨Nat.zero_le _, Nat.zero_le _⟩ (fun co9 H locs hp9 hW hS => ?_)
    obtain ⟨G1, hco9, hG1⟩ := hp9
    rw [hco9] at hW
    obtain ⟨ck, hck, hW⟩ := gW_nm hW
    have k0 := (congrFun hck 0).trans ((va_up_ne _ _ (by omega)).trans ((va_up_ne _ _ (by omega)).trans ((gG_o (by omega)).trans w0)))
    have k1 := (congrFun hck 1).trans ((va_up_ne _ _ (by omega)).trans ((va_up_ne _ _ (by omega)).trans ((gG_o (by omega)).trans w1)))
    have k3 := (congrFun hck 3).trans ((va_up_ne _ _ (by omega)).trans ((va_up_ne _ _ (by omega)).trans ((gG_o (by omega)).trans w3)))
    have k5 := (congrFun hck 5).trans ((va_up_ne _ _ (by omega)).trans ((va_up_ne _ _ (by omega)).trans ((gG_o (by omega)).trans w5)))
    have k6 := (congrFun hck 6).trans ((va_up_ne _ _ (by omega)).trans ((va_up_ne _ _ (by omega)).trans ((gG_o (by omega)).trans w6)))
    have k7 := (congrFun hck 7).trans ((va_up_ne _ _ (by omega)).trans ((va_up_ne _ _ (by omega)).trans ((gG_o (by omega)).trans w7)))
    have k8 := (congrFun hck 8).trans ((va_up_ne _ _ (by omega)).trans ((va_up_ne _ _ (by omega)).trans ((gG_o (by omega)).trans w8)))
    have k9 := (congrFun hck 9).trans ((va_up_ne _ _ (by omega)).trans ((va_up_ne _ _ (by omega)).trans ((gG_o (by omega)).trans w9)))
    have k10 := (congrFun hck 10).trans ((va_up_ne _ _ (by omega)).trans ((va_up_ne _ _ (by omega)).trans ((gG_o (by omega)).trans w10)))
    have k11 := (congrFun hck 11).trans ((va_up_ne _ _ (by omega)).trans ((va_up_ne _ _ (by omega)).trans ((gG_o (by omega)).trans w11)))
    have k12 := (congrFun hck 12).trans ((va_up_ne _ _ (by omega)).trans ((va_up_ne _ _ (by omega)).trans ((gG_o (by omega)).trans w12)))
    have k13 := (congrFun hck 13).trans ((va_up_ne _ _ (by omega)).trans ((va_up_ne _ _ (by omega)).trans ((gG_o (by omega)).trans w13)))
    have k14 := (congrFun hck 14).trans ((va_up_ne _ _ (by omega)).trans ((va_up_ne _ _ (by omega)).trans ((gG_o (by omega)).trans w14)))
    have k15 := (congrFun hck 15).trans ((va_up_ne _ _ (by omega)).trans ((va_up_ne _ _ (by omega)).trans ((gG_o (by omega)).trans w15)))
    have k16 : ck 16 = oF ad (bcs a (alw tr shp (-1)) cl mv sp n) a bb ff := (congrFun hck 16).trans (va_up_self _ _ _)
    have k17 : ck 17 = .inl (cI, 200, .inl (fun j => if j < n then nI (bln a (alw tr shp (-1)) cl mv sp n j) else fl j)) := (congrFun hck 17).trans ((va_up_ne _ _ (by decide)).trans (va_up_self _ _ _))
    have k18 := (congrFun hck 18).trans ((va_up_ne _ _ (by omega)).trans ((va_up_ne _ _ (by omega)).trans ((gG_o (by omega)).trans w18)))
    have k19 := (congrFun hck 19).trans ((va_up_ne _ _ (by omega)).trans ((va_up_ne _ _ (by omega)).trans ((gG_o (by omega)).trans w19)))
    have k20 := (congrFun hck 20).trans ((va_up_ne _ _ (by omega)).trans ((va_up_ne _ _ (by omega)).trans ((gG_o (by omega)).trans w20)))
    have k21 := (congrFun hck 21).trans ((va_up_ne _ _ (by omega)).trans ((va_up_ne _ _ (by omega)).trans ((gG_o (by omega)).trans w21)))
    have k22 := (congrFun hck 22).trans ((va_up_ne _ _ (by omega)).trans ((va_up_ne _ _ (by omega)).trans ((gG_o (by omega)).trans w22)))
    have k23 := (congrFun hck 23).trans ((va_up_ne _ _ (by omega)).trans ((va_up_ne _ _ (by omega)).trans ((gG_o (by omega)).trans w23)))
    have k24 := (congrFun hck 24).trans ((va_up_ne _ _ (by omega)).trans ((va_up_ne _ _ (by omega)).trans ((gG_o (by omega)).trans w24)))
    have kg40 := fun (i : Nat) (hi : i < a) => (congrFun hck (40 + i)).trans ((va_up_ne _ _ (by omega)).trans ((va_up_ne _ _ (by omega)).trans ((gG_o (by omega)).trans (wg40 i hi))))
    have kg60 := fun (i : Nat) (hi : i < a) => (congrFun hck (60 + i)).trans ((va_up_ne _ _ (by omega)).trans ((va_up_ne _ _ (by omega)).trans ((gG_o (by omega)).trans (wg60 i hi))))
    have kg80 := fun (i : Nat) (hi : i < a) => (congrFun hck (80 + i)).trans ((va_up_ne _ _ (by omega)).trans ((va_up_ne _ _ (by omega)).trans ((gG_o (by omega)).trans (wg80 i hi))))
    have kg100 := fun (i : Nat) (hi : i < a) => (congrFun hck (100 + i)).trans ((va_up_ne _ _ (by omega)).trans ((va_up_ne _ _ (by omega)).trans ((gG_o (by omega)).trans (wg100 i hi))))
    have kg120 := fun (i : Nat) (hi : i < a) => (congrFun hck (120 + i)).trans ((va_up_ne _ _ (by omega)).trans ((va_up_ne _ _ (by omega)).trans ((gG_o (by omega)).trans (wg120 i hi))))
    have kg140 := fun (i : Nat) (hi : i < a) => (congrFun hck (140 + i)).trans ((va_up_ne _ _ (by omega)).trans ((va_up_ne _ _ (by omega)).trans ((gG_o (by omega)).trans (wg140 i hi))))
    have kg200 : ∀ i, i < 200 → ck (200 + i) = .inl (cI, a, .inl (G1 i)) := fun i hi => (congrFun hck (200 + i)).trans ((va_up_ne _ _ (by omega)).trans ((va_up_ne _ _ (by omega)).trans (gG_at hi)))
    have hfr : ∀ i, kFr i → ck i = co i := fun i hi => (congrFun hck i).trans ((va_up_ne _ _ (by unfold kFr at hi; omega)).trans ((va_up_ne _ _ (by unfold kFr at hi; omega)).trans ((gG_o (by unfold kFr at hi; omega)).trans (hfr i hi))))
    refine lv_aload_n hx hb d_K_run_28 rfl (lv_at hl 0 rfl) ?_
    refine g_get (C := R_K) (T := F_K) (N := 13) hx hb hts i_K hown hK hW (i := 0) (hdl (0) (by unfold kD; omega)) k0 rfl 6 (by decide) (hts _ q_186) (fun _ h9 => h9) rfl d_K_run_29 ?_
    refine lv_aload_n hx hb d_K_run_32 rfl (lv_at hl 0 rfl) ?_
    refine g_get (C := R_K) (T := F_K) (N := 13) hx hb hts i_K hown hK hW (i := 0) (hdl (0) (by unfold kD; omega)) k0 rfl 1 (by decide) (hts _ q_181) (fun _ h9 => h9) rfl d_K_run_33 ?_
    refine lv_aload_n hx hb d_K_run_36 rfl (lv_at hl 0 rfl) ?_
    refine g_get (C := R_K) (T := F_K) (N := 13) hx hb hts i_K hown hK hW (i := 0) (hdl (0) (by unfold kD; omega)) k0 rfl 2 (by decide) (hts _ q_182) (fun _ h9 => h9) rfl d_K_run_37 ?_
    refine lv_aload_n hx hb d_K_run_40 rfl (lv_at hl 0 rfl) ?_
    refine g_get (C := R_K) (T := F_K) (N := 13) hx hb hts i_K hown hK hW (i := 0) (hdl (0) (by unfold kD; omega)) k0 rfl 5 (by decide) (hts _ q_185) (fun _ h9 => h9) rfl d_K_run_41 ?_
    obtain ⟨fb, fa, kbb, kff⟩ : ∃ fb fa : Nat → Int32, ck bb = .inl (cI, a, .inl fb) ∧ ck ff = .inl (cI, a, .inl fa) := by
      rcases hbf with ⟨rfl, rfl⟩ | ⟨rfl, rfl⟩
      · exact ⟨_, _, k20, k21⟩
      · exact ⟨_, _, k21, k20⟩
    refine g_cVv (As := [.ref (ad 1), .ref (ad 7), .ref (ad 16)]) (rest := []) ⟨hx, hb, hml, hown, hts⟩ (c_N_takeOver l hdl k22 k16 k1 k3 k5 k6 k17 k23 k24 (Or.inl ⟨rfl, rfl, rfl, rfl, rfl⟩) k7 k8 k9 kg40 kg60 ha hok hcl hmv hsp hbf hsh k18 kg200 hG1 (fun k hk => if_pos hk) kbb kff) (gcwV 3 hts q_274 q_271 q_272 q_273 q_6 (by decide +kernel) ⟨(Nat.le_of_ble_eq_true rfl), (Nat.le_of_ble_eq_true rfl)⟩) gNl_ok hN hK hW hS hA (hdl (22) (by unfold kD; omega)) k22 rfl rfl hl.1 rfl (Nat.le_of_ble_eq_true rfl) d_K_run_44 ⟨Nat.zero_le _, Nat.zero_le _⟩ (fun co9 H locs hp8 hW hS => ?_)
    obtain ⟨x, y, g20b, g21b, hxy, hco8⟩ := hp8
    rw [hco8] at hW
    obtain ⟨cm, hcm, hW⟩ := gW_nm hW
    have m0 := (congrFun hcm 0).trans ((va_up_ne _ _ (by omega)).trans ((va_up_ne _ _ (by omega)).trans ((va_up_ne _ _ (by omega)).trans ((va_up_ne _ _ (by omega)).trans ((va_up_ne _ _ (by omega)).trans ((va_up_ne _ _ (by omega)).trans k0))))))
    have m1 := (congrFun hcm 1).trans ((va_up_ne _ _ (by omega)).trans ((va_up_ne _ _ (by omega)).trans ((va_up_ne _ _ (by omega)).trans ((va_up_ne _ _ (by omega)).trans ((va_up_ne _ _ (by omega)).trans ((va_up_ne _ _ (by omega)).trans k1))))))
    have m3 := (congrFun hcm 3).trans ((va_up_ne _ _ (by omega)).trans ((va_up_ne _ _ (by omega)).trans ((va_up_ne _ _ (by omega)).trans ((va_up_ne _ _ (by omega)).trans ((va_up_ne _ _ (by omega)).trans ((va_up_ne _ _ (by omega)).trans k3))))))
    have m5 := (congrFun hcm 5).trans ((va_up_ne _ _ (by omega)).trans ((va_up_ne _ _ (by omega)).trans ((va_up_ne _ _ (by omega)).trans ((va_up_ne _ _ (by omega)).trans ((va_up_ne _ _ (by omega)).trans ((va_up_ne _ _ (by omega)).trans k5))))))
    have m6 := (congrFun hcm 6).trans ((va_up_ne _ _ (by omega)).trans ((va_up_ne _ _ (by omega)).trans ((va_up_ne _ _ (by omega)).trans ((va_up_ne _ _ (by omega)).trans ((va_up_ne _ _ (by omega)).trans ((va_up_ne _ _ (by omega)).trans k6))))))
    have m7 := (congrFun hcm 7).trans ((va_up_ne _ _ (by omega)).trans ((va_up_ne _ _ (by omega)).trans ((va_up_ne _ _ (by omega)).trans ((va_up_ne _ _ (by omega)).trans ((va_up_ne _ _ (by omega)).trans ((va_up_ne _ _ (by omega)).trans k7))))))
    have m8 := (congrFun hcm 8).trans ((va_up_ne _ _ (by omega)).trans ((va_up_ne _ _ (by omega)).trans ((va_up_ne _ _ (by omega)).trans ((va_up_ne _ _ (by omega)).trans ((va_up_ne _ _ (by omega)).trans ((va_up_ne _ _ (by omega)).trans k8))))))
    have m9 := (congrFun hcm 9).trans ((va_up_ne _ _ (by omega)).trans ((va_up_ne _ _ (by omega)).trans ((va_up_ne _ _ (by omega)).trans ((va_up_ne _ _ (by omega)).trans ((va_up_ne _ _ (by omega)).trans ((va_up_ne _ _ (by omega)).trans k9))))))
    have m10 := (congrFun hcm 10).trans ((va_up_ne _ _ (by omega)).trans ((va_up_ne _ _ (by omega)).trans ((va_up_ne _ _ (by omega)).trans ((va_up_ne _ _ (by omega)).trans ((va_up_ne _ _ (by omega)).trans ((va_up_ne _ _ (by omega)).trans k10))))))
    have m11 := (congrFun hcm 11).trans ((va_up_ne _ _ (by omega)).trans ((va_up_ne _ _ (by omega)).trans ((va_up_ne _ _ (by omega)).trans ((va_up_ne _ _ (by omega)).trans ((va_up_ne _ _ (by omega)).trans ((va_up_ne _ _ (by omega)).trans k11))))))
    have m12 := (congrFun hcm 12).trans ((va_up_ne _ _ (by omega)).trans ((va_up_ne _ _ (by omega)).trans ((va_up_ne _ _ (by omega)).trans ((va_up_ne _ _ (by omega)).trans ((va_up_ne _ _ (by omega)).trans ((va_up_ne _ _ (by omega)).trans k12))))))
    have m13 := (congrFun hcm 13).trans ((va_up_ne _ _ (by omega)).trans ((va_up_ne _ _ (by omega)).trans ((va_up_ne _ _ (by omega)).trans ((va_up_ne _ _ (by omega)).trans ((va_up_ne _ _ (by omega)).trans ((va_up_ne _ _ (by omega)).trans k13))))))
    have m14 := (congrFun hcm 14).trans ((va_up_ne _ _ (by omega)).trans ((va_up_ne _ _ (by omega)).trans ((va_up_ne _ _ (by omega)).trans ((va_up_ne _ _ (by omega)).trans ((va_up_ne _ _ (by omega)).trans ((va_up_ne _ _ (by omega)).trans k14))))))
    have m15 := (congrFun hcm 15).trans ((va_up_ne _ _ (by omega)).trans ((va_up_ne _ _ (by omega)).trans ((va_up_ne _ _ (by omega)).trans ((va_up_ne _ _ (by omega)).trans ((va_up_ne _ _ (by omega)).trans ((va_up_ne _ _ (by omega)).trans k15))))))
    have m16 : cm 16 = oF ad (bcs a (alw tr shp (-1)) cl mv sp n) a x y := (congrFun hcm 16).trans (va_up_self _ _ _)
    have m17 := (congrFun hcm 17).trans ((va_up_ne _ _ (by omega)).trans ((va_up_ne _ _ (by omega)).trans ((va_up_ne _ _ (by omega)).trans ((va_up_ne _ _ (by omega)).trans ((va_up_ne _ _ (by omega)).trans ((va_up_ne _ _ (by omega)).trans k17))))))
    have m18 := (congrFun hcm 18).trans ((va_up_ne _ _ (by omega)).trans ((va_up_ne _ _ (by omega)).trans ((va_up_ne _ _ (by omega)).trans ((va_up_ne _ _ (by omega)).trans ((va_up_ne _ _ (by omega)).trans ((va_up_ne _ _ (by omega)).trans k18))))))
    have m19 := (congrFun hcm 19).trans ((va_up_ne _ _ (by omega)).trans ((va_up_ne _ _ (by omega)).trans ((va_up_ne _ _ (by omega)).trans ((va_up_ne _ _ (by omega)).trans ((va_up_ne _ _ (by omega)).trans ((va_up_ne _ _ (by omega)).trans k19))))))
    have m20 : cm 20 = .inl (cI, a, .inl g20b) := (congrFun hcm 20).trans ((va_up_ne _ _ (by decide)).trans ((va_up_ne _ _ (by decide)).trans ((va_up_ne _ _ (by decide)).trans (va_up_self _ _ _))))
    have m21 : cm 21 = .inl (cI, a, .inl g21b) := (congrFun hcm 21).trans ((va_up_ne _ _ (by decide)).trans ((va_up_ne _ _ (by decide)).trans (va_up_self _ _ _)))
    have m22 : cm 22 = oN ad n (bcs a (alw tr shp (-1)) cl mv sp n) := (congrFun hcm 22).trans ((va_up_ne _ _ (by decide)).trans ((va_up_ne _ _ (by decide)).trans ((va_up_ne _ _ (by decide)).trans ((va_up_ne _ _ (by decide)).trans ((va_up_ne _ _ (by decide)).trans (va_up_self _ _ _))))))
    have m23 : cm 23 = .inl (cI, 200, .inl (fun j => if j < n then (fun j => if j < n then nI (bln a (alw tr shp (-1)) cl mv sp n j) else fl j) j else ln j)) := (congrFun hcm 23).trans ((va_up_ne _ _ (by decide)).trans ((va_up_ne _ _ (by decide)).trans ((va_up_ne _ _ (by decide)).trans ((va_up_ne _ _ (by decide)).trans (va_up_self _ _ _)))))
    have m24 : cm 24 = .inl (cI, 200, .inl (fun j => if j < n then nxt a (alw tr shp (-1)) cl mv sp n tr j else nx j)) := (congrFun hcm 24).trans ((va_up_ne _ _ (by decide)).trans (va_up_self _ _ _))
    have mg40 := fun (i : Nat) (hi : i < a) => (congrFun hcm (40 + i)).trans ((va_up_ne _ _ (by omega)).trans ((va_up_ne _ _ (by omega)).trans ((va_up_ne _ _ (by omega)).trans ((va_up_ne _ _ (by omega)).trans ((va_up_ne _ _ (by omega)).trans ((va_up_ne _ _ (by omega)).trans (kg40 i hi)))))))
    have mg60 := fun (i : Nat) (hi : i < a) => (congrFun hcm (60 + i)).trans ((va_up_ne _ _ (by omega)).trans ((va_up_ne _ _ (by omega)).trans ((va_up_ne _ _ (by omega)).trans ((va_up_ne _ _ (by omega)).trans ((va_up_ne _ _ (by omega)).trans ((va_up_ne _ _ (by omega)).trans (kg60 i hi)))))))
    have mg80 := fun (i : Nat) (hi : i < a) => (congrFun hcm (80 + i)).trans ((va_up_ne _ _ (by omega)).trans ((va_up_ne _ _ (by omega)).trans ((va_up_ne _ _ (by omega)).trans ((va_up_ne _ _ (by omega)).trans ((va_up_ne _ _ (by omega)).trans ((va_up_ne _ _ (by omega)).trans (kg80 i hi)))))))
    have mg100 := fun (i : Nat) (hi : i < a) => (congrFun hcm (100 + i)).trans ((va_up_ne _ _ (by omega)).trans ((va_up_ne _ _ (by omega)).trans ((va_up_ne _ _ (by omega)).trans ((va_up_ne _ _ (by omega)).trans ((va_up_ne _ _ (by omega)).trans ((va_up_ne _ _ (by omega)).trans (kg100 i hi)))))))
    have mg120 := fun (i : Nat) (hi : i < a) => (congrFun hcm (120 + i)).trans ((va_up_ne _ _ (by omega)).trans ((va_up_ne _ _ (by omega)).trans ((va_up_ne _ _ (by omega)).trans ((va_up_ne _ _ (by omega)).trans ((va_up_ne _ _ (by omega)).trans ((va_up_ne _ _ (by omega)).trans (kg120 i hi)))))))
    have mg140 := fun (i : Nat) (hi : i < a) => (congrFun hcm (140 + i)).trans ((va_up_ne _ _ (by omega)).trans ((va_up_ne _ _ (by omega)).trans ((va_up_ne _ _ (by omega)).trans ((va_up_ne _ _ (by omega)).trans ((va_up_ne _ _ (by omega)).trans ((va_up_ne _ _ (by omega)).trans (kg140 i hi)))))))
    have mg200 := fun (i : Nat) (hi : i < 200) => (congrFun hcm (200 + i)).trans ((va_up_ne _ _ (by omega)).trans ((va_up_ne _ _ (by omega)).trans ((va_up_ne _ _ (by omega)).trans ((va_up_ne _ _ (by omega)).trans ((va_up_ne _ _ (by omega)).trans ((va_up_ne _ _ (by omega)).trans (kg200 i hi)))))))
    have hfr : ∀ i, kFr i → cm i = co i := fun i hi => (congrFun hcm i).trans ((va_up_ne _ _ (by unfold kFr at hi; omega)).trans ((va_up_ne _ _ (by unfold kFr at hi; omega)).trans ((va_up_ne _ _ (by unfold kFr at hi; omega)).trans ((va_up_ne _ _ (by unfold kFr at hi; omega)).trans ((va_up_ne _ _ (by unfold kFr at hi; omega)).trans ((va_up_ne _ _ (by unfold kFr at hi; omega)).trans (hfr i hi)))))))
    have hln : (fun j => if j < n then (fun j => if j < n then nI (bln a (alw tr shp (-1)) cl mv sp n j) else fl j) j else ln j) = (fun j => if j < n then nI (bln a (alw tr shp (-1)) cl mv sp n j) else ln j) := by
      funext j
      by_cases hj : j < n
      · rw [if_pos hj, if_pos hj]; exact if_pos hj
      · rw [if_neg hj, if_neg hj]
    rw [hln] at m23
    refine lv_aload_n hx hb d_K_run_47 rfl (lv_at hl 0 rfl) ?_
    refine g_get (C := R_K) (T := F_K) (N := 13) hx hb hts i_K hown hK hW (i := 0) (hdl (0) (by unfold kD; omega)) m0 rfl 6 (by decide) (hts _ q_186) (fun _ h9 => h9) rfl d_K_run_48 ?_
    refine g_get (C := R_N) (T := F_N) (N := 4) hx hb hts i_N hown hK hW (i := 22) (hdl (22) (by unfold kD; omega)) m22 rfl 3 (by decide) (hts _ q_127) (fun _ h9 => h9) rfl d_K_run_51 ?_
    exact g_iret hx hb hr hlocks hW hS (Or.inr ⟨h1, rfl, ⟨m7, m8, m9, m10, m11, m12, m13, m14, m15, m18, zz, m19, hzz⟩, ⟨_, x, y, _, _, _, _, _, _, _, _, hxy, m16, m17, m20, m21, mg200, mg80, mg100, mg120, mg140⟩, ⟨MV, SP, mg40, mg60, hmv, hsp⟩, ⟨m22, m23, m24⟩, hfr⟩) d_K_run_54
  · refine lv_iconst (v := (-1)) hx hb d_K_run_10 (by decide) ?_
    exact g_iret hx hb hr hlocks hW hS (Or.inl ⟨h1, rfl, rfl⟩) d_K_run_11
set_option maxHeartbeats 4000000 in
set_option maxRecDepth 100000 in
/-- leftOut -/
theorem c_K_leftOut (l : Launch) {D : va_G} {cI cJ cG : ClassId} {ad : Nat → Nat} {co : Nat → va_E} {dl : List Nat} {a sh mg n : Nat} {kr : Int32}  (hdl : ∀ i, kD a i → i ∈ dl) (w0 : co 0 = oK ad a kr sh mg) (w1 : co 1 = oT ad n) {cls : Nat → Int32} {shp : Nat → Int32} {tr : Nat → Int32} (w3 : co 3 = .inl (cI, 200, .inl cls)) (w5 : co 5 = .inl (cI, 200, .inl shp)) (w6 : co 6 = .inl (cI, 200, .inl tr)) {kn kc : Nat} {ln nx : Nat → Int32} {cl : Nat → Nat} {mv sp : Nat → Nat → Nat} (ha : a ≤ 12) (hn2 : n ≤ 200) (hcl : ∀ k, k < n → cls k = nI (cl k) ∧ cl k < 10) (hsh : ∀ k, k < n → shp k ≠ -1) (hkS : kSt cI cG ad a co) (hkC : kSc cI ad a co) (hkT : kTb cI a mv sp co) (hkL : kLt cI ad kn kc ln nx co) (w : Int32) (hok : 0 < n → okN a (alw tr shp w) cl mv sp n) : gMi l y_K_leftOut (Cond.code y_K_leftOut b_K_leftOut 3 (some .int) :: wA) ({ frames := 3, cells := 0, slots := 0, locals := 78 }) D gCl (gTy cI cJ cG) gNl [.ref (ad 0), .int w] ad co dl (fun r co' => (cntF (fun k => decide (shp k = w) && decide (¬ tr k = -1)) n = 0 ∧ r = -1 ∧ co' = co) ∨ (0 < cntF (fun k => decide (shp k = w) && decide (¬ tr k = -1)) n ∧ r = nI (1000 * cntF (fun k => decide (shp k = w) && decide (¬ tr k = -1) && decide (¬ tr k = nI (bln a (alw tr shp w) cl mv sp n k))) n / cntF (fun k => decide (shp k = w) && decide (¬ tr k = -1)) n) ∧ kSt cI cG ad a co' ∧ kSc cI ad a co' ∧ kTb cI a mv sp co' ∧ kLt cI ad kn kc ln nx co' ∧ ∀ i, kFr i → co' i = co i)) := by
  refine gMi_of (cc := b_K_leftOut) (maxL := 3) (ret := some .int) (by decide) rfl (Nat.le_of_ble_eq_true rfl) ?_
  intro pp ee s mm below meth cd ls hC hW hS hl
  obtain ⟨hx, hb, hr, hts0, hown, hlocks, hml, hK, hN⟩ := hC
  have hts : ∀ w ∈ wA, w.before _ s = true := fun w h => hts0 w (List.mem_cons_of_mem _ h)
  have hA : ∀ q, s.heap.size ≤ q → gA ad co dl s.heap.size q := fun q h => Or.inr h
  have hl : lv_has ls 3 [(0, .ref (ad 0)), (1, .int w)] := hl
  have hown : s.vm.findClass R_K = some mm.cls := hown
  obtain ⟨w7, w8, w9, w10, w11, w12, w13, w14, w15, w18, zz, w19, hzz⟩ := hkS
  obtain ⟨fc, bb, ff, fl, g20, g21, G, MF, SF, MC, SC, hbf, w16, w17, w20, w21, wg200, wg80, wg100, wg120, wg140⟩ := hkC
  obtain ⟨MV, SP, wg40, wg60, hmv, hsp⟩ := hkT
  obtain ⟨w22, w23, w24⟩ := hkL
  have hfr : ∀ i, kFr i → co i = co i := fun _ _ => rfl
  refine lv_aload_n hx hb d_K_leftOut_0 rfl (lv_at hl 0 rfl) ?_
  refine g_get (C := R_K) (T := F_K) (N := 13) hx hb hts i_K hown hK hW (i := 0) (hdl (0) (by unfold kD; omega)) w0 rfl 1 (by decide) (hts _ q_181) (fun _ h9 => h9) rfl d_K_leftOut_1 ?_
  refine lv_iload_n hx hb d_K_leftOut_4 rfl (lv_at hl 1 rfl) ?_
  refine g_cVi (As := [.int w]) (rest := []) ⟨hx, hb, hml, hown, hts⟩ (c_T_truthsOf l hdl w1 w5 w6 w hn2) (gcwV 1 hts q_357 q_354 q_355 q_356 q_3 (by decide +kernel) ⟨(Nat.le_of_ble_eq_true rfl), (Nat.le_of_ble_eq_true rfl)⟩) gNl_ok hN hK hW hS hA (hdl (1) (by unfold kD; omega)) w1 rfl rfl hl.1 rfl (Nat.le_of_ble_eq_true rfl) d_K_leftOut_5 ⟨Nat.zero_le _, Nat.zero_le _⟩ (fun r co9 H locs hp7 hW hS => ?_)
  obtain ⟨rfl, hco9⟩ := hp7
  rw [hco9] at hW
  obtain ⟨M9, hM9⟩ : ∃ v, v = cntF (fun k => decide (shp k = w) && decide (¬ tr k = -1)) n := ⟨_, rfl⟩
  have hMl := cntF_le (fun k => decide (shp k = w) && decide (¬ tr k = -1)) n
  rw [← hM9] at hMl ⊢
  refine lv_istore_n (lv' := [(2, .int (nI M9)), (0, .ref (ad 0)), (1, .int w)]) hx hb d_K_leftOut_8 rfl hl (by decide) rfl (fun ls hl => ?_)
  refine lv_iload_n hx hb d_K_leftOut_9 rfl (lv_at hl 0 rfl) ?_
  refine n_if_ne (tgt := 15) hx hb (by omega) d_K_leftOut_10 (by decide) (fun h2 => ?_) (fun h2 => ?_)
  · have hn0 : 0 < n := by omega
    have hok := hok hn0
    refine lv_aload_n hx hb d_K_leftOut_15 rfl (lv_at hl 1 rfl) ?_
    refine g_get (C := R_K) (T := F_K) (N := 13) hx hb hts i_K hown hK hW (i := 0) (hdl (0) (by unfold kD; omega)) w0 rfl 5 (by decide) (hts _ q_185) (fun _ h9 => h9) rfl d_K_leftOut_16 ?_
    refine lv_aload_n hx hb d_K_leftOut_19 rfl (lv_at hl 1 rfl) ?_
    refine g_get (C := R_K) (T := F_K) (N := 13) hx hb hts i_K hown hK hW (i := 0) (hdl (0) (by unfold kD; omega)) w0 rfl 1 (by decide) (hts _ q_181) (fun _ h9 => h9) rfl d_K_leftOut_20 ?_
    refine lv_aload_n hx hb d_K_leftOut_23 rfl (lv_at hl 1 rfl) ?_
    refine g_get (C := R_K) (T := F_K) (N := 13) hx hb hts i_K hown hK hW (i := 0) (hdl (0) (by unfold kD; omega)) w0 rfl 2 (by decide) (hts _ q_182) (fun _ h9 => h9) rfl d_K_leftOut_24 ?_
    refine lv_iload_n hx hb d_K_leftOut_27 rfl (lv_at hl 2 rfl) ?_
    refine g_cVv (As := [.ref (ad 1), .ref (ad 7), .int w]) (rest := []) ⟨hx, hb, hml, hown, hts⟩ (c_F_find l hdl w16 w1 w3 w5 w6 w17 w (Or.inl ⟨rfl, rfl, rfl, rfl, rfl⟩) w7 w8 w9 wg40 wg60 ha hok hcl hmv hsp hbf w18 wg200 w19 hzz) (gcwV 3 hts q_257 q_254 q_255 q_256 q_5 (by decide +kernel) ⟨(Nat.le_of_ble_eq_true rfl), (Nat.le_of_ble_eq_true rfl)⟩) gNl_ok hN hK hW hS hA (hdl (16) (by unfold kD; omega)) w16 rfl rfl hl.1 rfl (Nat.le_of_ble_eq_true rfl) d_K_leftOut_28 ⟨Nat.zero_le _, Nat.zero_le _⟩ (fun co9 H locs hp9 hW hS => ?_)
    obtain ⟨G1, hco9, hG1⟩ := hp9
    rw [hco9] at hW
    obtain ⟨ck, hck, hW⟩ := gW_nm hW
    have k0 := (congrFun hck 0).trans ((va_up_ne _ _ (by omega)).trans ((va_up_ne _ _ (by omega)).trans ((gG_o (by omega)).trans w0)))
    have k1 := (congrFun hck 1).trans ((va_up_ne _ _ (by omega)).trans ((va_up_ne _ _ (by omega)).trans ((gG_o (by omega)).trans w1)))
    have k3 := (congrFun hck 3).trans ((va_up_ne _ _ (by omega)).trans ((va_up_ne _ _ (by omega)).trans ((gG_o (by omega)).trans w3)))
    have k5 := (congrFun hck 5).trans ((va_up_ne _ _ (by omega)).trans ((va_up_ne _ _ (by omega)).trans ((gG_o (by omega)).trans w5)))
    have k6 := (congrFun hck 6).trans ((va_up_ne _ _ (by omega)).trans ((va_up_ne _ _ (by omega)).trans ((gG_o (by omega)).trans w6)))
    have k7 := (congrFun hck 7).trans ((va_up_ne _ _ (by omega)).trans ((va_up_ne _ _ (by omega)).trans ((gG_o (by omega)).trans w7)))
    have k8 := (congrFun hck 8).trans ((va_up_ne _ _ (by omega)).trans ((va_up_ne _ _ (by omega)).trans ((gG_o (by omega)).trans w8)))
    have k9 := (congrFun hck 9).trans ((va_up_ne _ _ (by omega)).trans ((va_up_ne _ _ (by omega)).trans ((gG_o (by omega)).trans w9)))
    have k10 := (congrFun hck 10).trans ((va_up_ne _ _ (by omega)).trans ((va_up_ne _ _ (by omega)).trans ((gG_o (by omega)).trans w10)))
    have k11 := (congrFun hck 11).trans ((va_up_ne _ _ (by omega)).trans ((va_up_ne _ _ (by omega)).trans ((gG_o (by omega)).trans w11)))
    have k12 := (congrFun hck 12).trans ((va_up_ne _ _ (by omega)).trans ((va_up_ne _ _ (by omega)).trans ((gG_o (by omega)).trans w12)))
    have k13 := (congrFun hck 13).trans ((va_up_ne _ _ (by omega)).trans ((va_up_ne _ _ (by omega)).trans ((gG_o (by omega)).trans w13)))
    have k14 := (congrFun hck 14).trans ((va_up_ne _ _ (by omega)).trans ((va_up_ne _ _ (by omega)).trans ((gG_o (by omega)).trans w14)))
    have k15 := (congrFun hck 15).trans ((va_up_ne _ _ (by omega)).trans ((va_up_ne _ _ (by omega)).trans ((gG_o (by omega)).trans w15)))
    have k16 : ck 16 = oF ad (bcs a (alw tr shp w) cl mv sp n) a bb ff := (congrFun hck 16).trans (va_up_self _ _ _)
    have k17 : ck 17 = .inl (cI, 200, .inl (fun j => if j < n then nI (bln a (alw tr shp w) cl mv sp n j) else fl j)) := (congrFun hck 17).trans ((va_up_ne _ _ (by decide)).trans (va_up_self _ _ _))
    have k18 := (congrFun hck 18).trans ((va_up_ne _ _ (by omega)).trans ((va_up_ne _ _ (by omega)).trans ((gG_o (by omega)).trans w18)))
    have k19 := (congrFun hck 19).trans ((va_up_ne _ _ (by omega)).trans ((va_up_ne _ _ (by omega)).trans ((gG_o (by omega)).trans w19)))
    have k20 := (congrFun hck 20).trans ((va_up_ne _ _ (by omega)).trans ((va_up_ne _ _ (by omega)).trans ((gG_o (by omega)).trans w20)))
    have k21 := (congrFun hck 21).trans ((va_up_ne _ _ (by omega)).trans ((va_up_ne _ _ (by omega)).trans ((gG_o (by omega)).trans w21)))
    have k22 := (congrFun hck 22).trans ((va_up_ne _ _ (by omega)).trans ((va_up_ne _ _ (by omega)).trans ((gG_o (by omega)).trans w22)))
    have k23 := (congrFun hck 23).trans ((va_up_ne _ _ (by omega)).trans ((va_up_ne _ _ (by omega)).trans ((gG_o (by omega)).trans w23)))
    have k24 := (congrFun hck 24).trans ((va_up_ne _ _ (by omega)).trans ((va_up_ne _ _ (by omega)).trans ((gG_o (by omega)).trans w24)))
    have kg40 := fun (i : Nat) (hi : i < a) => (congrFun hck (40 + i)).trans ((va_up_ne _ _ (by omega)).trans ((va_up_ne _ _ (by omega)).trans ((gG_o (by omega)).trans (wg40 i hi))))
    have kg60 := fun (i : Nat) (hi : i < a) => (congrFun hck (60 + i)).trans ((va_up_ne _ _ (by omega)).trans ((va_up_ne _ _ (by omega)).trans ((gG_o (by omega)).trans (wg60 i hi))))
    have kg80 := fun (i : Nat) (hi : i < a) => (congrFun hck (80 + i)).trans ((va_up_ne _ _ (by omega)).trans ((va_up_ne _ _ (by omega)).trans ((gG_o (by omega)).trans (wg80 i hi))))
    have kg100 := fun (i : Nat) (hi : i < a) => (congrFun hck (100 + i)).trans ((va_up_ne _ _ (by omega)).trans ((va_up_ne _ _ (by omega)).trans ((gG_o (by omega)).trans (wg100 i hi))))
    have kg120 := fun (i : Nat) (hi : i < a) => (congrFun hck (120 + i)).trans ((va_up_ne _ _ (by omega)).trans ((va_up_ne _ _ (by omega)).trans ((gG_o (by omega)).trans (wg120 i hi))))
    have kg140 := fun (i : Nat) (hi : i < a) => (congrFun hck (140 + i)).trans ((va_up_ne _ _ (by omega)).trans ((va_up_ne _ _ (by omega)).trans ((gG_o (by omega)).trans (wg140 i hi))))
    have kg200 : ∀ i, i < 200 → ck (200 + i) = .inl (cI, a, .inl (G1 i)) := fun i hi => (congrFun hck (200 + i)).trans ((va_up_ne _ _ (by omega)).trans ((va_up_ne _ _ (by omega)).trans (gG_at hi)))
    have hfr : ∀ i, kFr i → ck i = co i := fun i hi => (congrFun hck i).trans ((va_up_ne _ _ (by unfold kFr at hi; omega)).trans ((va_up_ne _ _ (by unfold kFr at hi; omega)).trans ((gG_o (by unfold kFr at hi; omega)).trans (hfr i hi))))
    refine lv_sipush (v := nI 1000) hx hb d_K_leftOut_31 (by decide) ?_
    refine lv_aload_n hx hb d_K_leftOut_34 rfl (lv_at hl 1 rfl) ?_
    refine g_get (C := R_K) (T := F_K) (N := 13) hx hb hts i_K hown hK hW (i := 0) (hdl (0) (by unfold kD; omega)) k0 rfl 1 (by decide) (hts _ q_181) (fun _ h9 => h9) rfl d_K_leftOut_35 ?_
    refine lv_iload_n hx hb d_K_leftOut_38 rfl (lv_at hl 2 rfl) ?_
    refine lv_aload_n hx hb d_K_leftOut_39 rfl (lv_at hl 1 rfl) ?_
    refine g_get (C := R_K) (T := F_K) (N := 13) hx hb hts i_K hown hK hW (i := 0) (hdl (0) (by unfold kD; omega)) k0 rfl 5 (by decide) (hts _ q_185) (fun _ h9 => h9) rfl d_K_leftOut_40 ?_
    refine g_get (C := R_F) (T := F_F) (N := 7) hx hb hts i_F hown hK hW (i := 16) (hdl (16) (by unfold kD; omega)) k16 rfl 0 (by decide) (hts _ q_90) (fun _ h9 => h9) rfl d_K_leftOut_43 ?_
    refine g_cVi (As := [.int w, .ref (ad 17)]) (rest := [.int (nI 1000)]) ⟨hx, hb, hml, hown, hts⟩ (c_T_truthsMissed l hdl k1 k5 k6 k17 w hn2) (gcwV 2 hts q_365 q_362 q_363 q_364 q_3 (by decide +kernel) ⟨(Nat.le_of_ble_eq_true rfl), (Nat.le_of_ble_eq_true rfl)⟩) gNl_ok hN hK hW hS hA (hdl (1) (by unfold kD; omega)) k1 rfl rfl hl.1 rfl (Nat.le_of_ble_eq_true rfl) d_K_leftOut_46 ⟨Nat.zero_le _, Nat.zero_le _⟩ (fun r co9 H locs hp6 hW hS => ?_)
    obtain ⟨rfl, hco9⟩ := hp6
    rw [hco9] at hW
    rw [show cntF (fun k => decide (shp k = w) && decide (¬ tr k = -1) && decide (¬ tr k = (fun j => if j < n then nI (bln a (alw tr shp w) cl mv sp n j) else fl j) k)) n = cntF (fun k => decide (shp k = w) && decide (¬ tr k = -1) && decide (¬ tr k = nI (bln a (alw tr shp w) cl mv sp n k))) n from cntF_congr (fun k hk => by show (decide (shp k = w) && decide (¬ tr k = -1) && decide (¬ tr k = if k < n then _ else _)) = _; rw [if_pos hk])]
    have hwl := cntF_le (fun k => decide (shp k = w) && decide (¬ tr k = -1) && decide (¬ tr k = nI (bln a (alw tr shp w) cl mv sp n k))) n
    refine n_mul hx hb d_K_leftOut_49 ?_
    refine lv_iload_n hx hb d_K_leftOut_50 rfl (lv_at hl 0 rfl) ?_
    refine n_div hx hb (by omega) (by omega) (by omega) d_K_leftOut_51 ?_
    exact g_iret hx hb hr hlocks hW hS (Or.inr ⟨by omega, by rw [hM9], ⟨k7, k8, k9, k10, k11, k12, k13, k14, k15, k18, zz, k19, hzz⟩, ⟨_, bb, ff, _, _, _, _, _, _, _, _, hbf, k16, k17, k20, k21, kg200, kg80, kg100, kg120, kg140⟩, ⟨MV, SP, kg40, kg60, hmv, hsp⟩, ⟨k22, k23, k24⟩, hfr⟩) d_K_leftOut_52
  · refine lv_iconst (v := (-1)) hx hb d_K_leftOut_13 (by decide) ?_
    exact g_iret hx hb hr hlocks hW hS (Or.inl ⟨by omega, rfl, rfl⟩) d_K_leftOut_14
set_option maxHeartbeats 4000000 in
set_option maxRecDepth 100000 in
/-- isRoundKept -/
theorem c_K_isRoundKept (l : Launch) {D : va_G} {cI cJ cG : ClassId} {ad : Nat → Nat} {co : Nat → va_E} {dl : List Nat} {a sh mg n : Nat} {kr : Int32}  (hdl : ∀ i, kD a i → i ∈ dl) (w0 : co 0 = oK ad a kr sh mg) (w1 : co 1 = oT ad n) {cls : Nat → Int32} {shp : Nat → Int32} {tr : Nat → Int32} (w3 : co 3 = .inl (cI, 200, .inl cls)) (w5 : co 5 = .inl (cI, 200, .inl shp)) (w6 : co 6 = .inl (cI, 200, .inl tr)) {kn kc : Nat} {ln nx : Nat → Int32} {cl : Nat → Nat} {mv sp : Nat → Nat → Nat} (ha : a ≤ 12) (hn2 : n ≤ 200) (hcl : ∀ k, k < n → cls k = nI (cl k) ∧ cl k < 10) (hsh : ∀ k, k < n → shp k ≠ -1) (hkS : kSt cI cG ad a co) (hkC : kSc cI ad a co) (hkT : kTb cI a mv sp co) (hkL : kLt cI ad kn kc ln nx co) (hok : okN a (alw tr shp (-1)) cl mv sp n) (hok1 : okN a (alw tr shp (-1)) cl (ftm (bln a (alw tr shp (-1)) cl mv sp n) n mv) (fts (bln a (alw tr shp (-1)) cl mv sp n) cl n sp) n) (hkn : ∀ k, k < n → ln k = nI (bln a (alw tr shp (-1)) cl mv sp n k)) (hkc : kc ≤ 4000000) : gMi l y_K_isRoundKept (Cond.code y_K_isRoundKept b_K_isRoundKept 1 (some .boolean) :: wA) ({ frames := 4, cells := 0, slots := 0, locals := 135 }) D gCl (gTy cI cJ cG) gNl [.ref (ad 0)] ad co dl (fun r co' => r = bI (decide (bcs a (alw tr shp (-1)) cl (ftm (bln a (alw tr shp (-1)) cl mv sp n) n mv) (fts (bln a (alw tr shp (-1)) cl mv sp n) cl n sp) n < kc)) ∧ (bcs a (alw tr shp (-1)) cl (ftm (bln a (alw tr shp (-1)) cl mv sp n) n mv) (fts (bln a (alw tr shp (-1)) cl mv sp n) cl n sp) n < kc → kSt cI cG ad a co' ∧ kSc cI ad a co' ∧ kTb cI a (ftm (bln a (alw tr shp (-1)) cl mv sp n) n mv) (fts (bln a (alw tr shp (-1)) cl mv sp n) cl n sp) co' ∧ kLt cI ad n (bcs a (alw tr shp (-1)) cl (ftm (bln a (alw tr shp (-1)) cl mv sp n) n mv) (fts (bln a (alw tr shp (-1)) cl mv sp n) cl n sp) n) (fun j => if j < n then nI (bln a (alw tr shp (-1)) cl (ftm (bln a (alw tr shp (-1)) cl mv sp n) n mv) (fts (bln a (alw tr shp (-1)) cl mv sp n) cl n sp) n j) else ln j) (fun j => if j < n then nxt a (alw tr shp (-1)) cl (ftm (bln a (alw tr shp (-1)) cl mv sp n) n mv) (fts (bln a (alw tr shp (-1)) cl mv sp n) cl n sp) n tr j else nx j) co' ∧ ∀ i, kFr i → co' i = co i) ∧ (¬ bcs a (alw tr shp (-1)) cl (ftm (bln a (alw tr shp (-1)) cl mv sp n) n mv) (fts (bln a (alw tr shp (-1)) cl mv sp n) cl n sp) n < kc → kSt cI cG ad a co' ∧ kSc cI ad a co' ∧ kTb cI a mv sp co' ∧ kLt cI ad kn kc ln nx co' ∧ ∀ i, kFr i → co' i = co i)) := by
  refine gMi_of (cc := b_K_isRoundKept) (maxL := 1) (ret := some .boolean) (by decide) rfl (Nat.le_of_ble_eq_true rfl) ?_
  intro pp ee s mm below meth cd ls hC hW hS hl
  obtain ⟨hx, hb, hr, hts0, hown, hlocks, hml, hK, hN⟩ := hC
  have hts : ∀ w ∈ wA, w.before _ s = true := fun w h => hts0 w (List.mem_cons_of_mem _ h)
  have hA : ∀ q, s.heap.size ≤ q → gA ad co dl s.heap.size q := fun q h => Or.inr h
  have hl : lv_has ls 1 [(0, .ref (ad 0))] := hl
  have hown : s.vm.findClass R_K = some mm.cls := hown
  obtain ⟨w7, w8, w9, w10, w11, w12, w13, w14, w15, w18, zz, w19, hzz⟩ := hkS
  obtain ⟨fc, bb, ff, fl, g20, g21, G, MF, SF, MC, SC, hbf, w16, w17, w20, w21, wg200, wg80, wg100, wg120, wg140⟩ := hkC
  obtain ⟨MV, SP, wg40, wg60, hmv, hsp⟩ := hkT
  obtain ⟨w22, w23, w24⟩ := hkL
  have hfr : ∀ i, kFr i → co i = co i := fun _ _ => rfl
  have hn0 := hok.1
  have hbl := bln_ok hok
  have hb1 := bcs_le hok1
  refine lv_aload_n hx hb d_K_isRoundKept_0 rfl (lv_at hl 0 rfl) ?_
  refine g_get (C := R_K) (T := F_K) (N := 13) hx hb hts i_K hown hK hW (i := 0) (hdl (0) (by unfold kD; omega)) w0 rfl 4 (by decide) (hts _ q_184) (fun _ h9 => h9) rfl d_K_isRoundKept_1 ?_
  refine lv_aload_n hx hb d_K_isRoundKept_4 rfl (lv_at hl 0 rfl) ?_
  refine g_get (C := R_K) (T := F_K) (N := 13) hx hb hts i_K hown hK hW (i := 0) (hdl (0) (by unfold kD; omega)) w0 rfl 1 (by decide) (hts _ q_181) (fun _ h9 => h9) rfl d_K_isRoundKept_5 ?_
  refine lv_aload_n hx hb d_K_isRoundKept_8 rfl (lv_at hl 0 rfl) ?_
  refine g_get (C := R_K) (T := F_K) (N := 13) hx hb hts i_K hown hK hW (i := 0) (hdl (0) (by unfold kD; omega)) w0 rfl 6 (by decide) (hts _ q_186) (fun _ h9 => h9) rfl d_K_isRoundKept_9 ?_
  refine g_get (C := R_N) (T := F_N) (N := 4) hx hb hts i_N hown hK hW (i := 22) (hdl (22) (by unfold kD; omega)) w22 rfl 0 (by decide) (hts _ q_121) (fun _ h9 => h9) rfl d_K_isRoundKept_12 ?_
  refine g_cVv (As := [.ref (ad 1), .ref (ad 23)]) (rest := []) ⟨hx, hb, hml, hown, hts⟩ (c_B_countLine l hdl w1 w3 w23 (Or.inr (Or.inr ⟨rfl, rfl, rfl, rfl, rfl⟩)) w13 w14 w15 wg120 wg140 ha (X := bln a (alw tr shp (-1)) cl mv sp n) hn0 hn2 (fun k hk => ⟨hkn k hk, (hbl k hk).1⟩) hcl) (gcwV 2 hts q_327 q_324 q_325 q_326 q_4 (by decide +kernel) ⟨(Nat.le_of_ble_eq_true rfl), (Nat.le_of_ble_eq_true rfl)⟩) gNl_ok hN hK hW hS hA (hdl (13) (by unfold kD; omega)) w13 rfl rfl hl.1 rfl (Nat.le_of_ble_eq_true rfl) d_K_isRoundKept_15 ⟨Nat.zero_le _, Nat.zero_le _⟩ (fun co9 H locs hp9 hW hS => ?_)
  obtain ⟨M1, S1, hco9, hMS1⟩ := hp9
  rw [hco9] at hW
  obtain ⟨ck, hck, hW⟩ := gW_nm hW
  have k0 := (congrFun hck 0).trans ((gG_o (by omega)).trans ((gG_o (by omega)).trans w0))
  have k1 := (congrFun hck 1).trans ((gG_o (by omega)).trans ((gG_o (by omega)).trans w1))
  have k3 := (congrFun hck 3).trans ((gG_o (by omega)).trans ((gG_o (by omega)).trans w3))
  have k5 := (congrFun hck 5).trans ((gG_o (by omega)).trans ((gG_o (by omega)).trans w5))
  have k6 := (congrFun hck 6).trans ((gG_o (by omega)).trans ((gG_o (by omega)).trans w6))
  have k7 := (congrFun hck 7).trans ((gG_o (by omega)).trans ((gG_o (by omega)).trans w7))
  have k8 := (congrFun hck 8).trans ((gG_o (by omega)).trans ((gG_o (by omega)).trans w8))
  have k9 := (congrFun hck 9).trans ((gG_o (by omega)).trans ((gG_o (by omega)).trans w9))
  have k10 := (congrFun hck 10).trans ((gG_o (by omega)).trans ((gG_o (by omega)).trans w10))
  have k11 := (congrFun hck 11).trans ((gG_o (by omega)).trans ((gG_o (by omega)).trans w11))
  have k12 := (congrFun hck 12).trans ((gG_o (by omega)).trans ((gG_o (by omega)).trans w12))
  have k13 := (congrFun hck 13).trans ((gG_o (by omega)).trans ((gG_o (by omega)).trans w13))
  have k14 := (congrFun hck 14).trans ((gG_o (by omega)).trans ((gG_o (by omega)).trans w14))
  have k15 := (congrFun hck 15).trans ((gG_o (by omega)).trans ((gG_o (by omega)).trans w15))
  have k16 := (congrFun hck 16).trans ((gG_o (by omega)).trans ((gG_o (by omega)).trans w16))
  have k17 := (congrFun hck 17).trans ((gG_o (by omega)).trans ((gG_o (by omega)).trans w17))
  have k18 := (congrFun hck 18).trans ((gG_o (by omega)).trans ((gG_o (by omega)).trans w18))
  have k19 := (congrFun hck 19).trans ((gG_o (by omega)).trans ((gG_o (by omega)).trans w19))
  have k20 := (congrFun hck 20).trans ((gG_o (by omega)).trans ((gG_o (by omega)).trans w20))
  have k21 := (congrFun hck 21).trans ((gG_o (by omega)).trans ((gG_o (by omega)).trans w21))
  have k22 := (congrFun hck 22).trans ((gG_o (by omega)).trans ((gG_o (by omega)).trans w22))
  have k23 := (congrFun hck 23).trans ((gG_o (by omega)).trans ((gG_o (by omega)).trans w23))
  have k24 := (congrFun hck 24).trans ((gG_o (by omega)).trans ((gG_o (by omega)).trans w24))
  have kg40 := fun (i : Nat) (hi : i < a) => (congrFun hck (40 + i)).trans ((gG_o (by omega)).trans ((gG_o (by omega)).trans (wg40 i hi)))
  have kg60 := fun (i : Nat) (hi : i < a) => (congrFun hck (60 + i)).trans ((gG_o (by omega)).trans ((gG_o (by omega)).trans (wg60 i hi)))
  have kg80 := fun (i : Nat) (hi : i < a) => (congrFun hck (80 + i)).trans ((gG_o (by omega)).trans ((gG_o (by omega)).trans (wg80 i hi)))
  have kg100 := fun (i : Nat) (hi : i < a) => (congrFun hck (100 + i)).trans ((gG_o (by omega)).trans ((gG_o (by omega)).trans (wg100 i hi)))
  have kg120 : ∀ i, i < a → ck (120 + i) = .inl (cI, a, .inl (M1 i)) := fun i hi => (congrFun hck (120 + i)).trans ((gG_o (by omega)).trans (gG_at hi))
  have kg140 : ∀ i, i < a → ck (140 + i) = .inl (cI, 10, .inl (S1 i)) := fun i hi => (congrFun hck (140 + i)).trans (gG_at hi)
  have kg200 := fun (i : Nat) (hi : i < 200) => (congrFun hck (200 + i)).trans ((gG_o (by omega)).trans ((gG_o (by omega)).trans (wg200 i hi)))
  have hfr : ∀ i, kFr i → ck i = co i := fun i hi => (congrFun hck i).trans ((gG_o (by unfold kFr at hi; omega)).trans ((gG_o (by unfold kFr at hi; omega)).trans (hfr i hi)))
  refine lv_aload_n hx hb d_K_isRoundKept_18 rfl (lv_at hl 0 rfl) ?_
  refine g_get (C := R_K) (T := F_K) (N := 13) hx hb hts i_K hown hK hW (i := 0) (hdl (0) (by unfold kD; omega)) k0 rfl 3 (by decide) (hts _ q_183) (fun _ h9 => h9) rfl d_K_isRoundKept_19 ?_
  refine lv_aload_n hx hb d_K_isRoundKept_22 rfl (lv_at hl 0 rfl) ?_
  refine g_get (C := R_K) (T := F_K) (N := 13) hx hb hts i_K hown hK hW (i := 0) (hdl (0) (by unfold kD; omega)) k0 rfl 2 (by decide) (hts _ q_182) (fun _ h9 => h9) rfl d_K_isRoundKept_23 ?_
  refine g_cVv (As := [.ref (ad 7)]) (rest := []) ⟨hx, hb, hml, hown, hts⟩ (c_B_copyFrom l hdl (Or.inr (Or.inl ⟨rfl, rfl, rfl, rfl, rfl⟩)) k10 k11 k12 kg80 kg100 (Or.inr (Or.inl ⟨rfl, rfl, rfl, rfl, rfl, rfl⟩)) k7 k8 k9 kg40 kg60 ha) (gcwV 1 hts q_336 q_333 q_334 q_335 q_4 (by decide +kernel) ⟨(Nat.le_of_ble_eq_true rfl), (Nat.le_of_ble_eq_true rfl)⟩) gNl_ok hN hK hW hS hA (hdl (10) (by unfold kD; omega)) k10 rfl rfl hl.1 rfl (Nat.le_of_ble_eq_true rfl) d_K_isRoundKept_26 ⟨Nat.zero_le _, Nat.zero_le _⟩ (fun co9 H locs hp9 hW hS => ?_)
  obtain ⟨M2, S2, hco9, hMS2⟩ := hp9
  rw [hco9] at hW
  obtain ⟨cm, hcm, hW⟩ := gW_nm hW
  have m0 := (congrFun hcm 0).trans ((gG_o (by omega)).trans ((gG_o (by omega)).trans k0))
  have m1 := (congrFun hcm 1).trans ((gG_o (by omega)).trans ((gG_o (by omega)).trans k1))
  have m3 := (congrFun hcm 3).trans ((gG_o (by omega)).trans ((gG_o (by omega)).trans k3))
  have m5 := (congrFun hcm 5).trans ((gG_o (by omega)).trans ((gG_o (by omega)).trans k5))
  have m6 := (congrFun hcm 6).trans ((gG_o (by omega)).trans ((gG_o (by omega)).trans k6))
  have m7 := (congrFun hcm 7).trans ((gG_o (by omega)).trans ((gG_o (by omega)).trans k7))
  have m8 := (congrFun hcm 8).trans ((gG_o (by omega)).trans ((gG_o (by omega)).trans k8))
  have m9 := (congrFun hcm 9).trans ((gG_o (by omega)).trans ((gG_o (by omega)).trans k9))
  have m10 := (congrFun hcm 10).trans ((gG_o (by omega)).trans ((gG_o (by omega)).trans k10))
  have m11 := (congrFun hcm 11).trans ((gG_o (by omega)).trans ((gG_o (by omega)).trans k11))
  have m12 := (congrFun hcm 12).trans ((gG_o (by omega)).trans ((gG_o (by omega)).trans k12))
  have m13 := (congrFun hcm 13).trans ((gG_o (by omega)).trans ((gG_o (by omega)).trans k13))
  have m14 := (congrFun hcm 14).trans ((gG_o (by omega)).trans ((gG_o (by omega)).trans k14))
  have m15 := (congrFun hcm 15).trans ((gG_o (by omega)).trans ((gG_o (by omega)).trans k15))
  have m16 := (congrFun hcm 16).trans ((gG_o (by omega)).trans ((gG_o (by omega)).trans k16))
  have m17 := (congrFun hcm 17).trans ((gG_o (by omega)).trans ((gG_o (by omega)).trans k17))
  have m18 := (congrFun hcm 18).trans ((gG_o (by omega)).trans ((gG_o (by omega)).trans k18))
  have m19 := (congrFun hcm 19).trans ((gG_o (by omega)).trans ((gG_o (by omega)).trans k19))
  have m20 := (congrFun hcm 20).trans ((gG_o (by omega)).trans ((gG_o (by omega)).trans k20))
  have m21 := (congrFun hcm 21).trans ((gG_o (by omega)).trans ((gG_o (by omega)).trans k21))
  have m22 := (congrFun hcm 22).trans ((gG_o (by omega)).trans ((gG_o (by omega)).trans k22))
  have m23 := (congrFun hcm 23).trans ((gG_o (by omega)).trans ((gG_o (by omega)).trans k23))
  have m24 := (congrFun hcm 24).trans ((gG_o (by omega)).trans ((gG_o (by omega)).trans k24))
  have mg40 := fun (i : Nat) (hi : i < a) => (congrFun hcm (40 + i)).trans ((gG_o (by omega)).trans ((gG_o (by omega)).trans (kg40 i hi)))
  have mg60 := fun (i : Nat) (hi : i < a) => (congrFun hcm (60 + i)).trans ((gG_o (by omega)).trans ((gG_o (by omega)).trans (kg60 i hi)))
  have mg80 : ∀ i, i < a → cm (80 + i) = .inl (cI, a, .inl (M2 i)) := fun i hi => (congrFun hcm (80 + i)).trans ((gG_o (by omega)).trans (gG_at hi))
  have mg100 : ∀ i, i < a → cm (100 + i) = .inl (cI, 10, .inl (S2 i)) := fun i hi => (congrFun hcm (100 + i)).trans (gG_at hi)
  have mg120 := fun (i : Nat) (hi : i < a) => (congrFun hcm (120 + i)).trans ((gG_o (by omega)).trans ((gG_o (by omega)).trans (kg120 i hi)))
  have mg140 := fun (i : Nat) (hi : i < a) => (congrFun hcm (140 + i)).trans ((gG_o (by omega)).trans ((gG_o (by omega)).trans (kg140 i hi)))
  have mg200 := fun (i : Nat) (hi : i < 200) => (congrFun hcm (200 + i)).trans ((gG_o (by omega)).trans ((gG_o (by omega)).trans (kg200 i hi)))
  have hfr : ∀ i, kFr i → cm i = co i := fun i hi => (congrFun hcm i).trans ((gG_o (by unfold kFr at hi; omega)).trans ((gG_o (by unfold kFr at hi; omega)).trans (hfr i hi)))
  refine lv_aload_n hx hb d_K_isRoundKept_29 rfl (lv_at hl 0 rfl) ?_
  refine g_get (C := R_K) (T := F_K) (N := 13) hx hb hts i_K hown hK hW (i := 0) (hdl (0) (by unfold kD; omega)) m0 rfl 3 (by decide) (hts _ q_183) (fun _ h9 => h9) rfl d_K_isRoundKept_30 ?_
  refine lv_aload_n hx hb d_K_isRoundKept_33 rfl (lv_at hl 0 rfl) ?_
  refine g_get (C := R_K) (T := F_K) (N := 13) hx hb hts i_K hown hK hW (i := 0) (hdl (0) (by unfold kD; omega)) m0 rfl 4 (by decide) (hts _ q_184) (fun _ h9 => h9) rfl d_K_isRoundKept_34 ?_
  refine g_cVv (As := [.ref (ad 13)]) (rest := []) ⟨hx, hb, hml, hown, hts⟩ (c_B_fitTo l hdl (Or.inr (Or.inl ⟨rfl, rfl, rfl, rfl, rfl⟩)) m10 m11 m12 mg80 mg100 (Or.inr (Or.inr ⟨rfl, rfl, rfl, rfl, rfl, rfl⟩)) m13 m14 m15 mg120 mg140 ha (U := fun i j => nCb (bln a (alw tr shp (-1)) cl mv sp n) i j n) (V := fun i c => nRc (bln a (alw tr shp (-1)) cl mv sp n) cl i c n) (fun i j hi hj => ⟨(hMS1 i hi).1 j hj, by have := nCb_le (bln a (alw tr shp (-1)) cl mv sp n) i j n; have := nCh_le (bln a (alw tr shp (-1)) cl mv sp n) i n; show nCb (bln a (alw tr shp (-1)) cl mv sp n) i j n ≤ 200; omega⟩) (fun i c hi hc => ⟨(hMS1 i hi).2 c hc, by have := nRc_le (bln a (alw tr shp (-1)) cl mv sp n) cl i c n; have := nRw_le (bln a (alw tr shp (-1)) cl mv sp n) i n; show nRc (bln a (alw tr shp (-1)) cl mv sp n) cl i c n ≤ 200; omega⟩)) (gcwV 1 hts q_341 q_338 q_339 q_340 q_4 (by decide +kernel) ⟨(Nat.le_of_ble_eq_true rfl), (Nat.le_of_ble_eq_true rfl)⟩) gNl_ok hN hK hW hS hA (hdl (10) (by unfold kD; omega)) m10 rfl rfl hl.1 rfl (Nat.le_of_ble_eq_true rfl) d_K_isRoundKept_37 ⟨Nat.zero_le _, Nat.zero_le _⟩ (fun co9 H locs hp9 hW hS => ?_)
  obtain ⟨M3, S3, hco9, hMS3⟩ := hp9
  rw [hco9] at hW
  obtain ⟨cn, hcn, hW⟩ := gW_nm hW
  have n0 := (congrFun hcn 0).trans ((gG_o (by omega)).trans ((gG_o (by omega)).trans m0))
  have n1 := (congrFun hcn 1).trans ((gG_o (by omega)).trans ((gG_o (by omega)).trans m1))
  have n3 := (congrFun hcn 3).trans ((gG_o (by omega)).trans ((gG_o (by omega)).trans m3))
  have n5 := (congrFun hcn 5).trans ((gG_o (by omega)).trans ((gG_o (by omega)).trans m5))
  have n6 := (congrFun hcn 6).trans ((gG_o (by omega)).trans ((gG_o (by omega)).trans m6))
  have n7 := (congrFun hcn 7).trans ((gG_o (by omega)).trans ((gG_o (by omega)).trans m7))
  have n8 := (congrFun hcn 8).trans ((gG_o (by omega)).trans ((gG_o (by omega)).trans m8))
  have n9 := (congrFun hcn 9).trans ((gG_o (by omega)).trans ((gG_o (by omega)).trans m9))
  have n10 := (congrFun hcn 10).trans ((gG_o (by omega)).trans ((gG_o (by omega)).trans m10))
  have n11 := (congrFun hcn 11).trans ((gG_o (by omega)).trans ((gG_o (by omega)).trans m11))
  have n12 := (congrFun hcn 12).trans ((gG_o (by omega)).trans ((gG_o (by omega)).trans m12))
  have n13 := (congrFun hcn 13).trans ((gG_o (by omega)).trans ((gG_o (by omega)).trans m13))
  have n14 := (congrFun hcn 14).trans ((gG_o (by omega)).trans ((gG_o (by omega)).trans m14))
  have n15 := (congrFun hcn 15).trans ((gG_o (by omega)).trans ((gG_o (by omega)).trans m15))
  have n16 := (congrFun hcn 16).trans ((gG_o (by omega)).trans ((gG_o (by omega)).trans m16))
  have n17 := (congrFun hcn 17).trans ((gG_o (by omega)).trans ((gG_o (by omega)).trans m17))
  have n18 := (congrFun hcn 18).trans ((gG_o (by omega)).trans ((gG_o (by omega)).trans m18))
  have n19 := (congrFun hcn 19).trans ((gG_o (by omega)).trans ((gG_o (by omega)).trans m19))
  have n20 := (congrFun hcn 20).trans ((gG_o (by omega)).trans ((gG_o (by omega)).trans m20))
  have n21 := (congrFun hcn 21).trans ((gG_o (by omega)).trans ((gG_o (by omega)).trans m21))
  have n22 := (congrFun hcn 22).trans ((gG_o (by omega)).trans ((gG_o (by omega)).trans m22))
  have n23 := (congrFun hcn 23).trans ((gG_o (by omega)).trans ((gG_o (by omega)).trans m23))
  have n24 := (congrFun hcn 24).trans ((gG_o (by omega)).trans ((gG_o (by omega)).trans m24))
  have ng40 := fun (i : Nat) (hi : i < a) => (congrFun hcn (40 + i)).trans ((gG_o (by omega)).trans ((gG_o (by omega)).trans (mg40 i hi)))
  have ng60 := fun (i : Nat) (hi : i < a) => (congrFun hcn (60 + i)).trans ((gG_o (by omega)).trans ((gG_o (by omega)).trans (mg60 i hi)))
  have ng80 : ∀ i, i < a → cn (80 + i) = .inl (cI, a, .inl (M3 i)) := fun i hi => (congrFun hcn (80 + i)).trans ((gG_o (by omega)).trans (gG_at hi))
  have ng100 : ∀ i, i < a → cn (100 + i) = .inl (cI, 10, .inl (S3 i)) := fun i hi => (congrFun hcn (100 + i)).trans (gG_at hi)
  have ng120 := fun (i : Nat) (hi : i < a) => (congrFun hcn (120 + i)).trans ((gG_o (by omega)).trans ((gG_o (by omega)).trans (mg120 i hi)))
  have ng140 := fun (i : Nat) (hi : i < a) => (congrFun hcn (140 + i)).trans ((gG_o (by omega)).trans ((gG_o (by omega)).trans (mg140 i hi)))
  have ng200 := fun (i : Nat) (hi : i < 200) => (congrFun hcn (200 + i)).trans ((gG_o (by omega)).trans ((gG_o (by omega)).trans (mg200 i hi)))
  have hfr : ∀ i, kFr i → cn i = co i := fun i hi => (congrFun hcn i).trans ((gG_o (by unfold kFr at hi; omega)).trans ((gG_o (by unfold kFr at hi; omega)).trans (hfr i hi)))
  have hm3 : ∀ i j, i < a → j < a → M3 i j = nI ((ftm (bln a (alw tr shp (-1)) cl mv sp n) n mv) i j) := fun i j hi hj => by
    rw [(hMS3 i hi).1 j hj, (hMS2 i hi).1 j hj, hmv i j hi hj]
    exact ftm_eq (fun k hk => (hbl k hk).1)
  have hs3 : ∀ i c, i < a → c < 10 → S3 i c = nI ((fts (bln a (alw tr shp (-1)) cl mv sp n) cl n sp) i c) := fun i c hi hc => by
    rw [(hMS3 i hi).2 c hc, (hMS2 i hi).2 c hc, hsp i c hi hc]
    exact fts_eq (fun k hk => (hcl k hk).2)
  refine lv_aload_n hx hb d_K_isRoundKept_40 rfl (lv_at hl 0 rfl) ?_
  refine g_get (C := R_K) (T := F_K) (N := 13) hx hb hts i_K hown hK hW (i := 0) (hdl (0) (by unfold kD; omega)) n0 rfl 5 (by decide) (hts _ q_185) (fun _ h9 => h9) rfl d_K_isRoundKept_41 ?_
  refine lv_aload_n hx hb d_K_isRoundKept_44 rfl (lv_at hl 0 rfl) ?_
  refine g_get (C := R_K) (T := F_K) (N := 13) hx hb hts i_K hown hK hW (i := 0) (hdl (0) (by unfold kD; omega)) n0 rfl 1 (by decide) (hts _ q_181) (fun _ h9 => h9) rfl d_K_isRoundKept_45 ?_
  refine lv_aload_n hx hb d_K_isRoundKept_48 rfl (lv_at hl 0 rfl) ?_
  refine g_get (C := R_K) (T := F_K) (N := 13) hx hb hts i_K hown hK hW (i := 0) (hdl (0) (by unfold kD; omega)) n0 rfl 3 (by decide) (hts _ q_183) (fun _ h9 => h9) rfl d_K_isRoundKept_49 ?_
  refine lv_iconst (v := (-1)) hx hb d_K_isRoundKept_52 (by decide) ?_
  refine g_cVv (As := [.ref (ad 1), .ref (ad 10), .int (-1)]) (rest := []) ⟨hx, hb, hml, hown, hts⟩ (c_F_find l hdl n16 n1 n3 n5 n6 n17 (-1) (Or.inr (Or.inl ⟨rfl, rfl, rfl, rfl, rfl⟩)) n10 n11 n12 ng80 ng100 ha hok1 hcl hm3 hs3 hbf n18 ng200 n19 hzz) (gcwV 3 hts q_257 q_254 q_255 q_256 q_5 (by decide +kernel) ⟨(Nat.le_of_ble_eq_true rfl), (Nat.le_of_ble_eq_true rfl)⟩) gNl_ok hN hK hW hS hA (hdl (16) (by unfold kD; omega)) n16 rfl rfl hl.1 rfl (Nat.le_of_ble_eq_true rfl) d_K_isRoundKept_53 ⟨Nat.zero_le _, Nat.zero_le _⟩ (fun co9 H locs hp9 hW hS => ?_)
  obtain ⟨G1, hco9, hG1⟩ := hp9
  rw [hco9] at hW
  obtain ⟨cv, hcv, hW⟩ := gW_nm hW
  have v0 := (congrFun hcv 0).trans ((va_up_ne _ _ (by omega)).trans ((va_up_ne _ _ (by omega)).trans ((gG_o (by omega)).trans n0)))
  have v1 := (congrFun hcv 1).trans ((va_up_ne _ _ (by omega)).trans ((va_up_ne _ _ (by omega)).trans ((gG_o (by omega)).trans n1)))
  have v3 := (congrFun hcv 3).trans ((va_up_ne _ _ (by omega)).trans ((va_up_ne _ _ (by omega)).trans ((gG_o (by omega)).trans n3)))
  have v5 := (congrFun hcv 5).trans ((va_up_ne _ _ (by omega)).trans ((va_up_ne _ _ (by omega)).trans ((gG_o (by omega)).trans n5)))
  have v6 := (congrFun hcv 6).trans ((va_up_ne _ _ (by omega)).trans ((va_up_ne _ _ (by omega)).trans ((gG_o (by omega)).trans n6)))
  have v7 := (congrFun hcv 7).trans ((va_up_ne _ _ (by omega)).trans ((va_up_ne _ _ (by omega)).trans ((gG_o (by omega)).trans n7)))
  have v8 := (congrFun hcv 8).trans ((va_up_ne _ _ (by omega)).trans ((va_up_ne _ _ (by omega)).trans ((gG_o (by omega)).trans n8)))
  have v9 := (congrFun hcv 9).trans ((va_up_ne _ _ (by omega)).trans ((va_up_ne _ _ (by omega)).trans ((gG_o (by omega)).trans n9)))
  have v10 := (congrFun hcv 10).trans ((va_up_ne _ _ (by omega)).trans ((va_up_ne _ _ (by omega)).trans ((gG_o (by omega)).trans n10)))
  have v11 := (congrFun hcv 11).trans ((va_up_ne _ _ (by omega)).trans ((va_up_ne _ _ (by omega)).trans ((gG_o (by omega)).trans n11)))
  have v12 := (congrFun hcv 12).trans ((va_up_ne _ _ (by omega)).trans ((va_up_ne _ _ (by omega)).trans ((gG_o (by omega)).trans n12)))
  have v13 := (congrFun hcv 13).trans ((va_up_ne _ _ (by omega)).trans ((va_up_ne _ _ (by omega)).trans ((gG_o (by omega)).trans n13)))
  have v14 := (congrFun hcv 14).trans ((va_up_ne _ _ (by omega)).trans ((va_up_ne _ _ (by omega)).trans ((gG_o (by omega)).trans n14)))
  have v15 := (congrFun hcv 15).trans ((va_up_ne _ _ (by omega)).trans ((va_up_ne _ _ (by omega)).trans ((gG_o (by omega)).trans n15)))
  have v16 : cv 16 = oF ad (bcs a (alw tr shp (-1)) cl (ftm (bln a (alw tr shp (-1)) cl mv sp n) n mv) (fts (bln a (alw tr shp (-1)) cl mv sp n) cl n sp) n) a bb ff := (congrFun hcv 16).trans (va_up_self _ _ _)
  have v17 : cv 17 = .inl (cI, 200, .inl (fun j => if j < n then nI (bln a (alw tr shp (-1)) cl (ftm (bln a (alw tr shp (-1)) cl mv sp n) n mv) (fts (bln a (alw tr shp (-1)) cl mv sp n) cl n sp) n j) else fl j)) := (congrFun hcv 17).trans ((va_up_ne _ _ (by decide)).trans (va_up_self _ _ _))
  have v18 := (congrFun hcv 18).trans ((va_up_ne _ _ (by omega)).trans ((va_up_ne _ _ (by omega)).trans ((gG_o (by omega)).trans n18)))
  have v19 := (congrFun hcv 19).trans ((va_up_ne _ _ (by omega)).trans ((va_up_ne _ _ (by omega)).trans ((gG_o (by omega)).trans n19)))
  have v20 := (congrFun hcv 20).trans ((va_up_ne _ _ (by omega)).trans ((va_up_ne _ _ (by omega)).trans ((gG_o (by omega)).trans n20)))
  have v21 := (congrFun hcv 21).trans ((va_up_ne _ _ (by omega)).trans ((va_up_ne _ _ (by omega)).trans ((gG_o (by omega)).trans n21)))
  have v22 := (congrFun hcv 22).trans ((va_up_ne _ _ (by omega)).trans ((va_up_ne _ _ (by omega)).trans ((gG_o (by omega)).trans n22)))
  have v23 := (congrFun hcv 23).trans ((va_up_ne _ _ (by omega)).trans ((va_up_ne _ _ (by omega)).trans ((gG_o (by omega)).trans n23)))
  have v24 := (congrFun hcv 24).trans ((va_up_ne _ _ (by omega)).trans ((va_up_ne _ _ (by omega)).trans ((gG_o (by omega)).trans n24)))
  have vg40 := fun (i : Nat) (hi : i < a) => (congrFun hcv (40 + i)).trans ((va_up_ne _ _ (by omega)).trans ((va_up_ne _ _ (by omega)).trans ((gG_o (by omega)).trans (ng40 i hi))))
  have vg60 := fun (i : Nat) (hi : i < a) => (congrFun hcv (60 + i)).trans ((va_up_ne _ _ (by omega)).trans ((va_up_ne _ _ (by omega)).trans ((gG_o (by omega)).trans (ng60 i hi))))
  have vg80 := fun (i : Nat) (hi : i < a) => (congrFun hcv (80 + i)).trans ((va_up_ne _ _ (by omega)).trans ((va_up_ne _ _ (by omega)).trans ((gG_o (by omega)).trans (ng80 i hi))))
  have vg100 := fun (i : Nat) (hi : i < a) => (congrFun hcv (100 + i)).trans ((va_up_ne _ _ (by omega)).trans ((va_up_ne _ _ (by omega)).trans ((gG_o (by omega)).trans (ng100 i hi))))
  have vg120 := fun (i : Nat) (hi : i < a) => (congrFun hcv (120 + i)).trans ((va_up_ne _ _ (by omega)).trans ((va_up_ne _ _ (by omega)).trans ((gG_o (by omega)).trans (ng120 i hi))))
  have vg140 := fun (i : Nat) (hi : i < a) => (congrFun hcv (140 + i)).trans ((va_up_ne _ _ (by omega)).trans ((va_up_ne _ _ (by omega)).trans ((gG_o (by omega)).trans (ng140 i hi))))
  have vg200 : ∀ i, i < 200 → cv (200 + i) = .inl (cI, a, .inl (G1 i)) := fun i hi => (congrFun hcv (200 + i)).trans ((va_up_ne _ _ (by omega)).trans ((va_up_ne _ _ (by omega)).trans (gG_at hi)))
  have hfr : ∀ i, kFr i → cv i = co i := fun i hi => (congrFun hcv i).trans ((va_up_ne _ _ (by unfold kFr at hi; omega)).trans ((va_up_ne _ _ (by unfold kFr at hi; omega)).trans ((gG_o (by unfold kFr at hi; omega)).trans (hfr i hi))))
  refine lv_aload_n hx hb d_K_isRoundKept_56 rfl (lv_at hl 0 rfl) ?_
  refine g_get (C := R_K) (T := F_K) (N := 13) hx hb hts i_K hown hK hW (i := 0) (hdl (0) (by unfold kD; omega)) v0 rfl 5 (by decide) (hts _ q_185) (fun _ h9 => h9) rfl d_K_isRoundKept_57 ?_
  refine g_get (C := R_F) (T := F_F) (N := 7) hx hb hts i_F hown hK hW (i := 16) (hdl (16) (by unfold kD; omega)) v16 rfl 1 (by decide) (hts _ q_93) (fun _ h9 => h9) rfl d_K_isRoundKept_60 ?_
  refine lv_aload_n hx hb d_K_isRoundKept_63 rfl (lv_at hl 0 rfl) ?_
  refine g_get (C := R_K) (T := F_K) (N := 13) hx hb hts i_K hown hK hW (i := 0) (hdl (0) (by unfold kD; omega)) v0 rfl 6 (by decide) (hts _ q_186) (fun _ h9 => h9) rfl d_K_isRoundKept_64 ?_
  refine g_get (C := R_N) (T := F_N) (N := 4) hx hb hts i_N hown hK hW (i := 22) (hdl (22) (by unfold kD; omega)) v22 rfl 3 (by decide) (hts _ q_127) (fun _ h9 => h9) rfl d_K_isRoundKept_67 ?_
  refine n_icmp_lt (tgt := 75) hx hb (by omega) (by omega) d_K_isRoundKept_70 (by decide) (fun h1 => ?_) (fun h1 => ?_)
  · refine lv_aload_n hx hb d_K_isRoundKept_75 rfl (lv_at hl 0 rfl) ?_
    refine g_get (C := R_K) (T := F_K) (N := 13) hx hb hts i_K hown hK hW (i := 0) (hdl (0) (by unfold kD; omega)) v0 rfl 2 (by decide) (hts _ q_182) (fun _ h9 => h9) rfl d_K_isRoundKept_76 ?_
    refine lv_aload_n hx hb d_K_isRoundKept_79 rfl (lv_at hl 0 rfl) ?_
    refine g_get (C := R_K) (T := F_K) (N := 13) hx hb hts i_K hown hK hW (i := 0) (hdl (0) (by unfold kD; omega)) v0 rfl 3 (by decide) (hts _ q_183) (fun _ h9 => h9) rfl d_K_isRoundKept_80 ?_
    refine g_cVv (As := [.ref (ad 10)]) (rest := []) ⟨hx, hb, hml, hown, hts⟩ (c_B_copyFrom l hdl (Or.inl ⟨rfl, rfl, rfl, rfl, rfl⟩) v7 v8 v9 vg40 vg60 (Or.inl ⟨rfl, rfl, rfl, rfl, rfl, rfl⟩) v10 v11 v12 vg80 vg100 ha) (gcwV 1 hts q_336 q_333 q_334 q_335 q_4 (by decide +kernel) ⟨(Nat.le_of_ble_eq_true rfl), (Nat.le_of_ble_eq_true rfl)⟩) gNl_ok hN hK hW hS hA (hdl (7) (by unfold kD; omega)) v7 rfl rfl hl.1 rfl (Nat.le_of_ble_eq_true rfl) d_K_isRoundKept_83 ⟨Nat.zero_le _, Nat.zero_le _⟩ (fun co9 H locs hp9 hW hS => ?_)
    obtain ⟨M5, S5, hco9, hMS5⟩ := hp9
    rw [hco9] at hW
    obtain ⟨cr, hcr, hW⟩ := gW_nm hW
    have r0 := (congrFun hcr 0).trans ((gG_o (by omega)).trans ((gG_o (by omega)).trans v0))
    have r1 := (congrFun hcr 1).trans ((gG_o (by omega)).trans ((gG_o (by omega)).trans v1))
    have r3 := (congrFun hcr 3).trans ((gG_o (by omega)).trans ((gG_o (by omega)).trans v3))
    have r5 := (congrFun hcr 5).trans ((gG_o (by omega)).trans ((gG_o (by omega)).trans v5))
    have r6 := (congrFun hcr 6).trans ((gG_o (by omega)).trans ((gG_o (by omega)).trans v6))
    have r7 := (congrFun hcr 7).trans ((gG_o (by omega)).trans ((gG_o (by omega)).trans v7))
    have r8 := (congrFun hcr 8).trans ((gG_o (by omega)).trans ((gG_o (by omega)).trans v8))
    have r9 := (congrFun hcr 9).trans ((gG_o (by omega)).trans ((gG_o (by omega)).trans v9))
    have r10 := (congrFun hcr 10).trans ((gG_o (by omega)).trans ((gG_o (by omega)).trans v10))
    have r11 := (congrFun hcr 11).trans ((gG_o (by omega)).trans ((gG_o (by omega)).trans v11))
    have r12 := (congrFun hcr 12).trans ((gG_o (by omega)).trans ((gG_o (by omega)).trans v12))
    have r13 := (congrFun hcr 13).trans ((gG_o (by omega)).trans ((gG_o (by omega)).trans v13))
    have r14 := (congrFun hcr 14).trans ((gG_o (by omega)).trans ((gG_o (by omega)).trans v14))
    have r15 := (congrFun hcr 15).trans ((gG_o (by omega)).trans ((gG_o (by omega)).trans v15))
    have r16 := (congrFun hcr 16).trans ((gG_o (by omega)).trans ((gG_o (by omega)).trans v16))
    have r17 := (congrFun hcr 17).trans ((gG_o (by omega)).trans ((gG_o (by omega)).trans v17))
    have r18 := (congrFun hcr 18).trans ((gG_o (by omega)).trans ((gG_o (by omega)).trans v18))
    have r19 := (congrFun hcr 19).trans ((gG_o (by omega)).trans ((gG_o (by omega)).trans v19))
    have r20 := (congrFun hcr 20).trans ((gG_o (by omega)).trans ((gG_o (by omega)).trans v20))
    have r21 := (congrFun hcr 21).trans ((gG_o (by omega)).trans ((gG_o (by omega)).trans v21))
    have r22 := (congrFun hcr 22).trans ((gG_o (by omega)).trans ((gG_o (by omega)).trans v22))
    have r23 := (congrFun hcr 23).trans ((gG_o (by omega)).trans ((gG_o (by omega)).trans v23))
    have r24 := (congrFun hcr 24).trans ((gG_o (by omega)).trans ((gG_o (by omega)).trans v24))
    have rg40 : ∀ i, i < a → cr (40 + i) = .inl (cI, a, .inl (M5 i)) := fun i hi => (congrFun hcr (40 + i)).trans ((gG_o (by omega)).trans (gG_at hi))
    have rg60 : ∀ i, i < a → cr (60 + i) = .inl (cI, 10, .inl (S5 i)) := fun i hi => (congrFun hcr (60 + i)).trans (gG_at hi)
    have rg80 := fun (i : Nat) (hi : i < a) => (congrFun hcr (80 + i)).trans ((gG_o (by omega)).trans ((gG_o (by omega)).trans (vg80 i hi)))
    have rg100 := fun (i : Nat) (hi : i < a) => (congrFun hcr (100 + i)).trans ((gG_o (by omega)).trans ((gG_o (by omega)).trans (vg100 i hi)))
    have rg120 := fun (i : Nat) (hi : i < a) => (congrFun hcr (120 + i)).trans ((gG_o (by omega)).trans ((gG_o (by omega)).trans (vg120 i hi)))
    have rg140 := fun (i : Nat) (hi : i < a) => (congrFun hcr (140 + i)).trans ((gG_o (by omega)).trans ((gG_o (by omega)).trans (vg140 i hi)))
    have rg200 := fun (i : Nat) (hi : i < 200) => (congrFun hcr (200 + i)).trans ((gG_o (by omega)).trans ((gG_o (by omega)).trans (vg200 i hi)))
    have hfr : ∀ i, kFr i → cr i = co i := fun i hi => (congrFun hcr i).trans ((gG_o (by unfold kFr at hi; omega)).trans ((gG_o (by unfold kFr at hi; omega)).trans (hfr i hi)))
    have hm5 : ∀ i j, i < a → j < a → M5 i j = nI ((ftm (bln a (alw tr shp (-1)) cl mv sp n) n mv) i j) := fun i j hi hj => by rw [(hMS5 i hi).1 j hj]; exact hm3 i j hi hj
    have hs5 : ∀ i c, i < a → c < 10 → S5 i c = nI ((fts (bln a (alw tr shp (-1)) cl mv sp n) cl n sp) i c) := fun i c hi hc => by rw [(hMS5 i hi).2 c hc]; exact hs3 i c hi hc
    refine lv_aload_n hx hb d_K_isRoundKept_86 rfl (lv_at hl 0 rfl) ?_
    refine g_get (C := R_K) (T := F_K) (N := 13) hx hb hts i_K hown hK hW (i := 0) (hdl (0) (by unfold kD; omega)) r0 rfl 6 (by decide) (hts _ q_186) (fun _ h9 => h9) rfl d_K_isRoundKept_87 ?_
    refine lv_aload_n hx hb d_K_isRoundKept_90 rfl (lv_at hl 0 rfl) ?_
    refine g_get (C := R_K) (T := F_K) (N := 13) hx hb hts i_K hown hK hW (i := 0) (hdl (0) (by unfold kD; omega)) r0 rfl 1 (by decide) (hts _ q_181) (fun _ h9 => h9) rfl d_K_isRoundKept_91 ?_
    refine lv_aload_n hx hb d_K_isRoundKept_94 rfl (lv_at hl 0 rfl) ?_
    refine g_get (C := R_K) (T := F_K) (N := 13) hx hb hts i_K hown hK hW (i := 0) (hdl (0) (by unfold kD; omega)) r0 rfl 2 (by decide) (hts _ q_182) (fun _ h9 => h9) rfl d_K_isRoundKept_95 ?_
    refine lv_aload_n hx hb d_K_isRoundKept_98 rfl (lv_at hl 0 rfl) ?_
    refine g_get (C := R_K) (T := F_K) (N := 13) hx hb hts i_K hown hK hW (i := 0) (hdl (0) (by unfold kD; omega)) r0 rfl 5 (by decide) (hts _ q_185) (fun _ h9 => h9) rfl d_K_isRoundKept_99 ?_
    obtain ⟨fb, fa, kbb, kff⟩ : ∃ fb fa : Nat → Int32, cr bb = .inl (cI, a, .inl fb) ∧ cr ff = .inl (cI, a, .inl fa) := by
      rcases hbf with ⟨rfl, rfl⟩ | ⟨rfl, rfl⟩
      · exact ⟨_, _, r20, r21⟩
      · exact ⟨_, _, r21, r20⟩
    refine g_cVv (As := [.ref (ad 1), .ref (ad 7), .ref (ad 16)]) (rest := []) ⟨hx, hb, hml, hown, hts⟩ (c_N_takeOver l hdl r22 r16 r1 r3 r5 r6 r17 r23 r24 (Or.inl ⟨rfl, rfl, rfl, rfl, rfl⟩) r7 r8 r9 rg40 rg60 ha hok1 hcl hm5 hs5 hbf hsh r18 rg200 hG1 (fun k hk => if_pos hk) kbb kff) (gcwV 3 hts q_274 q_271 q_272 q_273 q_6 (by decide +kernel) ⟨(Nat.le_of_ble_eq_true rfl), (Nat.le_of_ble_eq_true rfl)⟩) gNl_ok hN hK hW hS hA (hdl (22) (by unfold kD; omega)) r22 rfl rfl hl.1 rfl (Nat.le_of_ble_eq_true rfl) d_K_isRoundKept_102 ⟨Nat.zero_le _, Nat.zero_le _⟩ (fun co9 H locs hp8 hW hS => ?_)
    obtain ⟨x, y, g20b, g21b, hxy, hco8⟩ := hp8
    rw [hco8] at hW
    obtain ⟨ct, hct, hW⟩ := gW_nm hW
    have t0 := (congrFun hct 0).trans ((va_up_ne _ _ (by omega)).trans ((va_up_ne _ _ (by omega)).trans ((va_up_ne _ _ (by omega)).trans ((va_up_ne _ _ (by omega)).trans ((va_up_ne _ _ (by omega)).trans ((va_up_ne _ _ (by omega)).trans r0))))))
    have t1 := (congrFun hct 1).trans ((va_up_ne _ _ (by omega)).trans ((va_up_ne _ _ (by omega)).trans ((va_up_ne _ _ (by omega)).trans ((va_up_ne _ _ (by omega)).trans ((va_up_ne _ _ (by omega)).trans ((va_up_ne _ _ (by omega)).trans r1))))))
    have t3 := (congrFun hct 3).trans ((va_up_ne _ _ (by omega)).trans ((va_up_ne _ _ (by omega)).trans ((va_up_ne _ _ (by omega)).trans ((va_up_ne _ _ (by omega)).trans ((va_up_ne _ _ (by omega)).trans ((va_up_ne _ _ (by omega)).trans r3))))))
    have t5 := (congrFun hct 5).trans ((va_up_ne _ _ (by omega)).trans ((va_up_ne _ _ (by omega)).trans ((va_up_ne _ _ (by omega)).trans ((va_up_ne _ _ (by omega)).trans ((va_up_ne _ _ (by omega)).trans ((va_up_ne _ _ (by omega)).trans r5))))))
    have t6 := (congrFun hct 6).trans ((va_up_ne _ _ (by omega)).trans ((va_up_ne _ _ (by omega)).trans ((va_up_ne _ _ (by omega)).trans ((va_up_ne _ _ (by omega)).trans ((va_up_ne _ _ (by omega)).trans ((va_up_ne _ _ (by omega)).trans r6))))))
    have t7 := (congrFun hct 7).trans ((va_up_ne _ _ (by omega)).trans ((va_up_ne _ _ (by omega)).trans ((va_up_ne _ _ (by omega)).trans ((va_up_ne _ _ (by omega)).trans ((va_up_ne _ _ (by omega)).trans ((va_up_ne _ _ (by omega)).trans r7))))))
    have t8 := (congrFun hct 8).trans ((va_up_ne _ _ (by omega)).trans ((va_up_ne _ _ (by omega)).trans ((va_up_ne _ _ (by omega)).trans ((va_up_ne _ _ (by omega)).trans ((va_up_ne _ _ (by omega)).trans ((va_up_ne _ _ (by omega)).trans r8))))))
    have t9 := (congrFun hct 9).trans ((va_up_ne _ _ (by omega)).trans ((va_up_ne _ _ (by omega)).trans ((va_up_ne _ _ (by omega)).trans ((va_up_ne _ _ (by omega)).trans ((va_up_ne _ _ (by omega)).trans ((va_up_ne _ _ (by omega)).trans r9))))))
    have t10 := (congrFun hct 10).trans ((va_up_ne _ _ (by omega)).trans ((va_up_ne _ _ (by omega)).trans ((va_up_ne _ _ (by omega)).trans ((va_up_ne _ _ (by omega)).trans ((va_up_ne _ _ (by omega)).trans ((va_up_ne _ _ (by omega)).trans r10))))))
    have t11 := (congrFun hct 11).trans ((va_up_ne _ _ (by omega)).trans ((va_up_ne _ _ (by omega)).trans ((va_up_ne _ _ (by omega)).trans ((va_up_ne _ _ (by omega)).trans ((va_up_ne _ _ (by omega)).trans ((va_up_ne _ _ (by omega)).trans r11))))))
    have t12 := (congrFun hct 12).trans ((va_up_ne _ _ (by omega)).trans ((va_up_ne _ _ (by omega)).trans ((va_up_ne _ _ (by omega)).trans ((va_up_ne _ _ (by omega)).trans ((va_up_ne _ _ (by omega)).trans ((va_up_ne _ _ (by omega)).trans r12))))))
    have t13 := (congrFun hct 13).trans ((va_up_ne _ _ (by omega)).trans ((va_up_ne _ _ (by omega)).trans ((va_up_ne _ _ (by omega)).trans ((va_up_ne _ _ (by omega)).trans ((va_up_ne _ _ (by omega)).trans ((va_up_ne _ _ (by omega)).trans r13))))))
    have t14 := (congrFun hct 14).trans ((va_up_ne _ _ (by omega)).trans ((va_up_ne _ _ (by omega)).trans ((va_up_ne _ _ (by omega)).trans ((va_up_ne _ _ (by omega)).trans ((va_up_ne _ _ (by omega)).trans ((va_up_ne _ _ (by omega)).trans r14))))))
    have t15 := (congrFun hct 15).trans ((va_up_ne _ _ (by omega)).trans ((va_up_ne _ _ (by omega)).trans ((va_up_ne _ _ (by omega)).trans ((va_up_ne _ _ (by omega)).trans ((va_up_ne _ _ (by omega)).trans ((va_up_ne _ _ (by omega)).trans r15))))))
    have t16 : ct 16 = oF ad (bcs a (alw tr shp (-1)) cl (ftm (bln a (alw tr shp (-1)) cl mv sp n) n mv) (fts (bln a (alw tr shp (-1)) cl mv sp n) cl n sp) n) a x y := (congrFun hct 16).trans (va_up_self _ _ _)
    have t17 := (congrFun hct 17).trans ((va_up_ne _ _ (by omega)).trans ((va_up_ne _ _ (by omega)).trans ((va_up_ne _ _ (by omega)).trans ((va_up_ne _ _ (by omega)).trans ((va_up_ne _ _ (by omega)).trans ((va_up_ne _ _ (by omega)).trans r17))))))
    have t18 := (congrFun hct 18).trans ((va_up_ne _ _ (by omega)).trans ((va_up_ne _ _ (by omega)).trans ((va_up_ne _ _ (by omega)).trans ((va_up_ne _ _ (by omega)).trans ((va_up_ne _ _ (by omega)).trans ((va_up_ne _ _ (by omega)).trans r18))))))
    have t19 := (congrFun hct 19).trans ((va_up_ne _ _ (by omega)).trans ((va_up_ne _ _ (by omega)).trans ((va_up_ne _ _ (by omega)).trans ((va_up_ne _ _ (by omega)).trans ((va_up_ne _ _ (by omega)).trans ((va_up_ne _ _ (by omega)).trans r19))))))
    have t20 : ct 20 = .inl (cI, a, .inl g20b) := (congrFun hct 20).trans ((va_up_ne _ _ (by decide)).trans ((va_up_ne _ _ (by decide)).trans ((va_up_ne _ _ (by decide)).trans (va_up_self _ _ _))))
    have t21 : ct 21 = .inl (cI, a, .inl g21b) := (congrFun hct 21).trans ((va_up_ne _ _ (by decide)).trans ((va_up_ne _ _ (by decide)).trans (va_up_self _ _ _)))
    have t22 : ct 22 = oN ad n (bcs a (alw tr shp (-1)) cl (ftm (bln a (alw tr shp (-1)) cl mv sp n) n mv) (fts (bln a (alw tr shp (-1)) cl mv sp n) cl n sp) n) := (congrFun hct 22).trans ((va_up_ne _ _ (by decide)).trans ((va_up_ne _ _ (by decide)).trans ((va_up_ne _ _ (by decide)).trans ((va_up_ne _ _ (by decide)).trans ((va_up_ne _ _ (by decide)).trans (va_up_self _ _ _))))))
    have t23 : ct 23 = .inl (cI, 200, .inl (fun j => if j < n then (fun j => if j < n then nI (bln a (alw tr shp (-1)) cl (ftm (bln a (alw tr shp (-1)) cl mv sp n) n mv) (fts (bln a (alw tr shp (-1)) cl mv sp n) cl n sp) n j) else fl j) j else ln j)) := (congrFun hct 23).trans ((va_up_ne _ _ (by decide)).trans ((va_up_ne _ _ (by decide)).trans ((va_up_ne _ _ (by decide)).trans ((va_up_ne _ _ (by decide)).trans (va_up_self _ _ _)))))
    have t24 : ct 24 = .inl (cI, 200, .inl (fun j => if j < n then nxt a (alw tr shp (-1)) cl (ftm (bln a (alw tr shp (-1)) cl mv sp n) n mv) (fts (bln a (alw tr shp (-1)) cl mv sp n) cl n sp) n tr j else nx j)) := (congrFun hct 24).trans ((va_up_ne _ _ (by decide)).trans (va_up_self _ _ _))
    have tg40 := fun (i : Nat) (hi : i < a) => (congrFun hct (40 + i)).trans ((va_up_ne _ _ (by omega)).trans ((va_up_ne _ _ (by omega)).trans ((va_up_ne _ _ (by omega)).trans ((va_up_ne _ _ (by omega)).trans ((va_up_ne _ _ (by omega)).trans ((va_up_ne _ _ (by omega)).trans (rg40 i hi)))))))
    have tg60 := fun (i : Nat) (hi : i < a) => (congrFun hct (60 + i)).trans ((va_up_ne _ _ (by omega)).trans ((va_up_ne _ _ (by omega)).trans ((va_up_ne _ _ (by omega)).trans ((va_up_ne _ _ (by omega)).trans ((va_up_ne _ _ (by omega)).trans ((va_up_ne _ _ (by omega)).trans (rg60 i hi)))))))
    have tg80 := fun (i : Nat) (hi : i < a) => (congrFun hct (80 + i)).trans ((va_up_ne _ _ (by omega)).trans ((va_up_ne _ _ (by omega)).trans ((va_up_ne _ _ (by omega)).trans ((va_up_ne _ _ (by omega)).trans ((va_up_ne _ _ (by omega)).trans ((va_up_ne _ _ (by omega)).trans (rg80 i hi)))))))
    have tg100 := fun (i : Nat) (hi : i < a) => (congrFun hct (100 + i)).trans ((va_up_ne _ _ (by omega)).trans ((va_up_ne _ _ (by omega)).trans ((va_up_ne _ _ (by omega)).trans ((va_up_ne _ _ (by omega)).trans ((va_up_ne _ _ (by omega)).trans ((va_up_ne _ _ (by omega)).trans (rg100 i hi)))))))
    have tg120 := fun (i : Nat) (hi : i < a) => (congrFun hct (120 + i)).trans ((va_up_ne _ _ (by omega)).trans ((va_up_ne _ _ (by omega)).trans ((va_up_ne _ _ (by omega)).trans ((va_up_ne _ _ (by omega)).trans ((va_up_ne _ _ (by omega)).trans ((va_up_ne _ _ (by omega)).trans (rg120 i hi)))))))
    have tg140 := fun (i : Nat) (hi : i < a) => (congrFun hct (140 + i)).trans ((va_up_ne _ _ (by omega)).trans ((va_up_ne _ _ (by omega)).trans ((va_up_ne _ _ (by omega)).trans ((va_up_ne _ _ (by omega)).trans ((va_up_ne _ _ (by omega)).trans ((va_up_ne _ _ (by omega)).trans (rg140 i hi)))))))
    have tg200 := fun (i : Nat) (hi : i < 200) => (congrFun hct (200 + i)).trans ((va_up_ne _ _ (by omega)).trans ((va_up_ne _ _ (by omega)).trans ((va_up_ne _ _ (by omega)).trans ((va_up_ne _ _ (by omega)).trans ((va_up_ne _ _ (by omega)).trans ((va_up_ne _ _ (by omega)).trans (rg200 i hi)))))))
    have hfr : ∀ i, kFr i → ct i = co i := fun i hi => (congrFun hct i).trans ((va_up_ne _ _ (by unfold kFr at hi; omega)).trans ((va_up_ne _ _ (by unfold kFr at hi; omega)).trans ((va_up_ne _ _ (by unfold kFr at hi; omega)).trans ((va_up_ne _ _ (by unfold kFr at hi; omega)).trans ((va_up_ne _ _ (by unfold kFr at hi; omega)).trans ((va_up_ne _ _ (by unfold kFr at hi; omega)).trans (hfr i hi)))))))
    have hln : (fun j => if j < n then (fun j => if j < n then nI (bln a (alw tr shp (-1)) cl (ftm (bln a (alw tr shp (-1)) cl mv sp n) n mv) (fts (bln a (alw tr shp (-1)) cl mv sp n) cl n sp) n j) else fl j) j else ln j) = (fun j => if j < n then nI (bln a (alw tr shp (-1)) cl (ftm (bln a (alw tr shp (-1)) cl mv sp n) n mv) (fts (bln a (alw tr shp (-1)) cl mv sp n) cl n sp) n j) else ln j) := by
      funext j
      by_cases hj : j < n
      · rw [if_pos hj, if_pos hj]; exact if_pos hj
      · rw [if_neg hj, if_neg hj]
    rw [hln] at t23
    refine lv_iconst (v := nI 1) hx hb d_K_isRoundKept_105 (by decide) ?_
    exact g_zret hx hb hr (by rfl) hlocks hW hS (⟨bI_1 (decide_eq_true h1), fun _ => ⟨⟨t7, t8, t9, t10, t11, t12, t13, t14, t15, t18, zz, t19, hzz⟩, ⟨_, x, y, _, _, _, _, _, _, _, _, hxy, t16, t17, t20, t21, tg200, tg80, tg100, tg120, tg140⟩, ⟨M5, S5, tg40, tg60, hm5, hs5⟩, ⟨t22, t23, t24⟩, hfr⟩, fun q => absurd h1 q⟩) d_K_isRoundKept_106
  · refine lv_iconst (v := nI 0) hx hb d_K_isRoundKept_73 (by decide) ?_
    exact g_zret hx hb hr (by rfl) hlocks hW hS (⟨bI_0 (decide_eq_false (by omega)), fun q => absurd q (by omega), fun _ => ⟨⟨v7, v8, v9, v10, v11, v12, v13, v14, v15, v18, zz, v19, hzz⟩, ⟨_, bb, ff, _, _, _, _, _, _, _, _, hbf, v16, v17, v20, v21, vg200, vg80, vg100, vg120, vg140⟩, ⟨MV, SP, vg40, vg60, hmv, hsp⟩, ⟨v22, v23, v24⟩, hfr⟩⟩) d_K_isRoundKept_74
