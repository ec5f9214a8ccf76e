theorem kSt_tr {cI cG : ClassId} {ad : Nat → Nat} {a : Nat} {c c' : Nat → va_E} (h : ∀ i, ¬ kFr i → c' i = c i) (k : kSt cI cG ad a c) : kSt cI cG ad a c' := by
  have g : ∀ i, ((7 ≤ i ∧ i < 25) ∨ (35 ≤ i ∧ i < 400)) → c' i = c i := fun i hi => h i (by unfold kFr; omega)
  obtain ⟨k1, k2, k3, k4, k5, k6, k7, k8, k9, k10, zz, k11, k12⟩ := k
  exact ⟨(g _ (by decide)).trans k1, (g _ (by decide)).trans k2, (g _ (by decide)).trans k3, (g _ (by decide)).trans k4, (g _ (by decide)).trans k5, (g _ (by decide)).trans k6, (g _ (by decide)).trans k7, (g _ (by decide)).trans k8, (g _ (by decide)).trans k9, (g _ (by decide)).trans k10, zz, (g _ (by decide)).trans k11, k12⟩
theorem kSc_tr {cI : ClassId} {ad : Nat → Nat} {a : Nat} {c c' : Nat → va_E} (ha : a ≤ 12) (h : ∀ i, ¬ kFr i → c' i = c i) (k : kSc cI ad a c) : kSc cI ad a c' := by
  have g : ∀ i, ((7 ≤ i ∧ i < 25) ∨ (35 ≤ i ∧ i < 400)) → c' i = c i := fun i hi => h i (by unfold kFr; omega)
  obtain ⟨fc, x, y, fl, g20, g21, G, MF, SF, MC, SC, k0, k1, k2, k3, k4, k5, k6, k7, k8, k9⟩ := k
  exact ⟨fc, x, y, fl, g20, g21, G, MF, SF, MC, SC, k0, (g _ (by decide)).trans k1, (g _ (by decide)).trans k2, (g _ (by decide)).trans k3, (g _ (by decide)).trans k4, fun r hr => (g _ (by omega)).trans (k5 r hr), fun r hr => (g _ (by omega)).trans (k6 r hr), fun r hr => (g _ (by omega)).trans (k7 r hr), fun r hr => (g _ (by omega)).trans (k8 r hr), fun r hr => (g _ (by omega)).trans (k9 r hr)⟩
theorem kTb_tr {cI : ClassId} {a : Nat} {mv sp : Nat → Nat → Nat} {c c' : Nat → va_E} (ha : a ≤ 12) (h : ∀ i, ¬ kFr i → c' i = c i) (k : kTb cI a mv sp c) : kTb cI a mv sp c' := by
  have g : ∀ i, ((7 ≤ i ∧ i < 25) ∨ (35 ≤ i ∧ i < 400)) → c' i = c i := fun i hi => h i (by unfold kFr; omega)
  obtain ⟨MV, SP, k1, k2, k3, k4⟩ := k
  exact ⟨MV, SP, fun r hr => (g _ (by omega)).trans (k1 r hr), fun r hr => (g _ (by omega)).trans (k2 r hr), k3, k4⟩
theorem kLt_tr {cI : ClassId} {ad : Nat → Nat} {kn kc : Nat} {ln nx : Nat → Int32} {c c' : Nat → va_E} (h : ∀ i, ¬ kFr i → c' i = c i) (k : kLt cI ad kn kc ln nx c) : kLt cI ad kn kc ln nx c' := by
  have g : ∀ i, ((7 ≤ i ∧ i < 25) ∨ (35 ≤ i ∧ i < 400)) → c' i = c i := fun i hi => h i (by unfold kFr; omega)
  exact ⟨(g _ (by decide)).trans k.1, (g _ (by decide)).trans k.2.1, (g _ (by decide)).trans k.2.2⟩
theorem kup2 {c : Nat → va_E} {p q : Nat} {E F : va_E} (hp : kFr p) (hq : kFr q) : ∀ i, ¬ kFr i → va_up (va_up c p E) q F i = c i := fun i hi => (va_up_ne _ _ (fun e => hi (by rw [e]; exact hq))).trans (va_up_ne _ _ (fun e => hi (by rw [e]; exact hp)))
set_option maxHeartbeats 4000000 in
set_option maxRecDepth 100000 in
/-- fit -/
theorem c_K_fit (l : Launch) {D : va_G} {cI cJ cG : ClassId} {ad : Nat → Nat} {co : Nat → va_E} {dl : List Nat} {a sh mg n : Nat} {kr : Int32}  (hdl : ∀ i, kD a i → i ∈ dl) (w0 : co 0 = oK ad a kr sh mg) (w1 : co 1 = oT ad n) {cls : Nat → Int32} {shp : Nat → Int32} {tr : Nat → Int32} {su : Nat → Int64} (w3 : co 3 = .inl (cI, 200, .inl cls)) (w5 : co 5 = .inl (cI, 200, .inl shp)) (w6 : co 6 = .inl (cI, 200, .inl tr)) (w34 : co 34 = .inl (cJ, 21, .inr (.inl su))) {kn kc : Nat} {ln nx : Nat → Int32} {cl : Nat → Nat} {mv sp : Nat → Nat → Nat} (x : Int32) (ha : a ≤ 12) (hn2 : n ≤ 200) (hcl : ∀ k, k < n → cls k = nI (cl k) ∧ cl k < 10) (hsh : ∀ k, k < n → shp k ≠ -1) (hkS : kSt cI cG ad a co) (hkC : kSc cI ad a co) (hkT : kTb cI a mv sp co) (hkL : kLt cI ad kn kc ln nx co) (hok : 0 < n → okN a (alw tr shp (-1)) cl mv sp n) : gMi l y_K_fit (Cond.code y_K_fit b_K_fit 3 (some .int) :: wA) ({ frames := 5, cells := 0, slots := 0, locals := 155 }) D gCl (gTy cI cJ cG) gNl [.ref (ad 0), .int x] ad co dl (fun r co' => (refF x n ∧ r = -1 ∧ co' = co) ∨ (¬ refF x n ∧ ∃ J, J = fitN (fkp a (alw tr shp (-1)) cl n mv sp) x.toNatClampNeg 0 ∧ r = nI J ∧ co' 0 = oK ad a (nI J) sh mg ∧ co' 34 = .inl (cJ, 21, .inr (.inl (fun i => if i ≤ J then (nI (fcs a (alw tr shp (-1)) cl n mv sp i)).toInt64 else su i))) ∧ (kSt cI cG ad a co' ∧ kSc cI ad a co' ∧ kTb cI a (fitQ a (alw tr shp (-1)) cl n mv sp J).1 (fitQ a (alw tr shp (-1)) cl n mv sp J).2 co' ∧ kLt cI ad n (fcs a (alw tr shp (-1)) cl n mv sp J) (fun i => if i < n then nI (bln a (alw tr shp (-1)) cl (fitQ a (alw tr shp (-1)) cl n mv sp J).1 (fitQ a (alw tr shp (-1)) cl n mv sp J).2 n i) else ln i) (fun i => if i < n then nxt a (alw tr shp (-1)) cl (fitQ a (alw tr shp (-1)) cl n mv sp J).1 (fitQ a (alw tr shp (-1)) cl n mv sp J).2 n tr i else nx i) co') ∧ ∀ i, kFr i → i ≠ 0 → i ≠ 34 → co' i = co i)) := by
  refine gMi_of (cc := b_K_fit) (maxL := 3) (ret := some .int) (by decide) rfl (Nat.le_of_ble_eq_true rfl) ?_
  intro pp ee s mm below meth cd ls hC hW hS hl
  obtain ⟨hx, hb, hr, hts0, hown, hlocks, hml, hK, hN⟩ := hC
  have hts : ∀ w ∈ wA, w.before _ s = true := fun w h => hts0 w (List.mem_cons_of_mem _ h)
  have hA : ∀ q, s.heap.size ≤ q → gA ad co dl s.heap.size q := fun q h => Or.inr h
  have hl : lv_has ls 3 [(0, .ref (ad 0)), (1, .int x)] := hl
  have hown : s.vm.findClass R_K = some mm.cls := hown
  refine lv_iload_n hx hb d_K_fit_0 rfl (lv_at hl 1 rfl) ?_
  refine lv_iconst (v := nI 1) hx hb d_K_fit_1 (by decide) ?_
  refine lv_icmp_lt (tgt := 21) hx hb d_K_fit_2 (by decide) (fun h1 => ?_) (fun h1 => ?_)
  · refine lv_iconst (v := (-1)) hx hb d_K_fit_21 (by decide) ?_
    exact g_iret hx hb hr hlocks hW hS (Or.inl ⟨Or.inl h1, rfl, rfl⟩) d_K_fit_22
  · obtain ⟨R, hR1, hR2, rfl⟩ := fit_ge1 h1
    refine lv_iload_n hx hb d_K_fit_5 rfl (lv_at hl 1 rfl) ?_
    refine lv_bipush (v := nI 20) hx hb d_K_fit_6 (by decide) ?_
    refine n_icmp_gt (tgt := 21) hx hb (by omega) (by omega) d_K_fit_8 (by decide) (fun h2 => ?_) (fun h2 => ?_)
    · refine lv_iconst (v := (-1)) hx hb d_K_fit_21 (by decide) ?_
      exact g_iret hx hb hr hlocks hW hS (Or.inl ⟨Or.inr (Or.inl (nI_lt h2 hR2)), rfl, rfl⟩) d_K_fit_22
    · refine lv_aload_n hx hb d_K_fit_11 rfl (lv_at hl 0 rfl) ?_
      refine g_get (C := R_K) (T := F_K) (N := 13) hx hb hts i_K hown hK hW (i := 0) (hdl (0) (by unfold kD; omega)) w0 rfl 1 (by decide) (hts _ q_181) (fun _ h9 => h9) rfl d_K_fit_12 ?_
      refine g_get (C := R_T) (T := F_T) (N := 6) hx hb hts i_T hown hK hW (i := 1) (hdl (1) (by unfold kD; omega)) w1 rfl 5 (by decide) (hts _ q_46) (fun _ h9 => h9) rfl d_K_fit_15 ?_
      refine n_if_ne (tgt := 23) hx hb (by omega) d_K_fit_18 (by decide) (fun h3 => ?_) (fun h3 => ?_)
      · have hnr : ¬ refF (nI R) n := by
          rintro (q | q | q)
          · exact h1 q
          · exact absurd ((nI_ltI (by omega) hR2).mp q) (by omega)
          · omega
        have hok := hok h3
        have hq := fitQ_ok hok
        have hbc : ∀ j, fcs a (alw tr shp (-1)) cl n mv sp j ≤ 4000000 := fun j => bcs_le (hq j)
        refine lv_aload_n hx hb d_K_fit_23 rfl (lv_at hl 0 rfl) ?_
        refine g_get (C := R_K) (T := F_K) (N := 13) hx hb hts i_K hown hK hW (i := 0) (hdl (0) (by unfold kD; omega)) w0 rfl 9 (by decide) (hts _ q_189) (fun _ h9 => h9) rfl d_K_fit_24 ?_
        refine lv_iconst (v := nI 0) hx hb d_K_fit_27 (by decide) ?_
        refine lv_aload_n hx hb d_K_fit_28 rfl (lv_at hl 0 rfl) ?_
        refine g_cVi (As := []) (rest := [.int (nI 0), .ref (ad 34)]) ⟨hx, hb, hml, hown, hts⟩ (c_K_run l hdl w0 w1 w3 w5 w6 ha hn2 hcl hsh hkS hkC hkT hkL (fun _ => hok)) (gcwV 0 hts q_253 q_319 q_251 q_252 q_1 (by decide +kernel) ⟨(Nat.le_of_ble_eq_true rfl), (Nat.le_of_ble_eq_true rfl)⟩) gNl_ok hN hK hW hS hA (hdl (0) (by unfold kD; omega)) w0 rfl rfl hl.1 rfl (Nat.le_of_ble_eq_true rfl) d_K_fit_29 ⟨Nat.zero_le _, Nat.zero_le _⟩ (fun r co9 H locs hp9 hW hS => ?_)
        rcases hp9 with ⟨q, _, _⟩ | ⟨_, rfl, zS, zC, zT, zL, hf⟩
        · omega
        have x0 := (hf 0 (by unfold kFr; omega)).trans w0
        have x34 := (hf 34 (by unfold kFr; omega)).trans w34
        rw [show bcs a (alw tr shp (-1)) cl mv sp n = fcs a (alw tr shp (-1)) cl n mv sp 0 from rfl]
        refine lv_i2l (v := (nI (fcs a (alw tr shp (-1)) cl n mv sp 0)).toInt64) hx hb d_K_fit_32 rfl ?_
        refine n_last (x := (nI (fcs a (alw tr shp (-1)) cl n mv sp 0)).toInt64) hx hb hK hW hS 1 (q := 34) (hdl (34) (by unfold kD; omega)) x34 rfl (j := 0) (by omega) (by omega) d_K_fit_33 (fun H locs hW hS => ?_)
        refine lv_aload_n hx hb d_K_fit_34 rfl (lv_at hl 0 rfl) ?_
        refine lv_iconst (v := nI 0) hx hb d_K_fit_35 (by decide) ?_
        refine g_put (ty := .int) (v := .int (nI 0)) (C := R_K) (T := F_K) (N := 13) hx hb hts i_K fy_K fy_K_ok fn_K hown hK hW hS (i := 0) (hdl (0) (by unfold kD; omega)) ((va_up_ne _ _ (by decide)).trans x0) rfl 10 (by decide) (hts _ q_190) (fun _ h9 => h9) rfl (by decide +kernel) rfl rfl (Nat.le_of_ble_eq_true rfl) d_K_fit_36 (fun H locs hW hS => ?_)
        refine lv_iconst (v := nI 1) hx hb d_K_fit_39 (by decide) ?_
        refine lv_istore_n (lv' := [(2, .int (nI 1)), (0, .ref (ad 0)), (1, .int (nI R))]) hx hb d_K_fit_40 rfl hl (by decide) rfl (fun ls hl => ?_)
        have hsu0 : vp_updL su 0 (nI (fcs a (alw tr shp (-1)) cl n mv sp 0)).toInt64 = (fun i => if i ≤ 0 then (nI (fcs a (alw tr shp (-1)) cl n mv sp i)).toInt64 else su i) := by
          funext i
          by_cases hi : i = 0
          · subst hi; rw [pk_uLs, if_pos (Nat.le_refl 0)]
          · rw [pk_uLn hi, if_neg (by omega)]
        rw [hsu0] at hW
        have hk2 : kFr 34 ∧ kFr 0 := ⟨by unfold kFr; omega, by unfold kFr; omega⟩
        suffices hloop : ∀ (d j : Nat) (cw : Nat → va_E) (H : Heap) (locs : List Loc) (ls : Array Slot), (j ≤ R) → (R + 1 ≤ j + d) → (fitN (fkp a (alw tr shp (-1)) cl n mv sp) R 0 = fitN (fkp a (alw tr shp (-1)) cl n mv sp) (R - j) j) → (cw 0 = oK ad a (nI j) sh mg) → (cw 34 = .inl (cJ, 21, .inr (.inl (fun i => if i ≤ j then (nI (fcs a (alw tr shp (-1)) cl n mv sp i)).toInt64 else su i)))) → (kSt cI cG ad a cw ∧ kSc cI ad a cw ∧ kTb cI a (fitQ a (alw tr shp (-1)) cl n mv sp j).1 (fitQ a (alw tr shp (-1)) cl n mv sp j).2 cw ∧ kLt cI ad n (fcs a (alw tr shp (-1)) cl n mv sp j) (fun i => if i < n then nI (bln a (alw tr shp (-1)) cl (fitQ a (alw tr shp (-1)) cl n mv sp j).1 (fitQ a (alw tr shp (-1)) cl n mv sp j).2 n i) else ln i) (fun i => if i < n then nxt a (alw tr shp (-1)) cl (fitQ a (alw tr shp (-1)) cl n mv sp j).1 (fitQ a (alw tr shp (-1)) cl n mv sp j).2 n tr i else nx i) cw) → (∀ i, kFr i → i ≠ 0 → i ≠ 34 → cw i = co i) → gW D gCl (gA ad co dl s.heap.size) ad (cw) dl H → va_S (gA ad co dl s.heap.size) s.heap H locs → lv_has ls 3 [(0, .ref (ad 0)), (1, .int (nI R)), (2, .int (nI (j + 1)))] → W pp l ee _ s mm _ below meth cd H locs 0 0 _ (F0 mm 41 ls []) by
          exact hloop (R + 1) 0 _ _ _ ls (by omega) (by omega) rfl (va_up_self _ _ _) ((va_up_ne _ _ (by decide)).trans (va_up_self _ _ _)) ⟨kSt_tr (kup2 hk2.1 hk2.2) zS, kSc_tr ha (kup2 hk2.1 hk2.2) zC, kTb_tr ha (kup2 hk2.1 hk2.2) zT, kLt_tr (kup2 hk2.1 hk2.2) zL⟩ (fun i hi h0 h34 => (va_up_ne _ _ h0).trans ((va_up_ne _ _ h34).trans (hf i hi))) hW hS (lv_sub hl [1, 2, 0] rfl)
        clear hW hS hl
        intro d
        induction d with
        | zero => intro j cw H locs ls hj hd hjj z0 z34 zA zf; omega
        | succ d ih1 =>
          intro j cw H locs ls hj hd hjj z0 z34 zA zf hW hS hl
          obtain ⟨zS, zC, zT, zL⟩ := zA
          have z22 := zL.1
          have z1 := (zf 1 (by unfold kFr; omega) (by decide) (by decide)).trans w1
          have z3 := (zf 3 (by unfold kFr; omega) (by decide) (by decide)).trans w3
          have z5 := (zf 5 (by unfold kFr; omega) (by decide) (by decide)).trans w5
          have z6 := (zf 6 (by unfold kFr; omega) (by decide) (by decide)).trans w6
          refine lv_iload_n hx hb d_K_fit_41 rfl (lv_at hl 2 rfl) ?_
          refine lv_iload_n hx hb d_K_fit_42 rfl (lv_at hl 1 rfl) ?_
          refine n_icmp_gt (tgt := 78) hx hb (by omega) (by omega) d_K_fit_43 (by decide) (fun h4 => ?_) (fun h4 => ?_)
          · refine lv_aload_n hx hb d_K_fit_78 rfl (lv_at hl 0 rfl) ?_
            refine g_get (C := R_K) (T := F_K) (N := 13) hx hb hts i_K hown hK hW (i := 0) (hdl (0) (by unfold kD; omega)) z0 rfl 10 (by decide) (hts _ q_190) (fun _ h9 => h9) rfl d_K_fit_79 ?_
            have hJ : fitN (fkp a (alw tr shp (-1)) cl n mv sp) R 0 = j := by rw [hjj, show R - j = 0 by omega]; rfl
            refine g_iret hx hb hr hlocks hW hS (Or.inr ⟨hnr, j, ?_, rfl, z0, z34, ⟨zS, zC, zT, zL⟩, zf⟩) d_K_fit_82
            rw [nI_clamp hR2, hJ]
          · rw [show R - j = (R - (j + 1)) + 1 by omega] at hjj
            refine lv_aload_n hx hb d_K_fit_46 rfl (lv_at hl 0 rfl) ?_
            refine g_cVi (As := []) (rest := []) ⟨hx, hb, hml, hown, hts⟩ (c_K_isRoundKept l hdl z0 z1 z3 z5 z6 ha hn2 hcl hsh zS zC zT zL (hq j) (hq (j + 1)) (fun k hk => if_pos hk) (hbc j)) (gcwV 0 hts q_323 q_320 q_322 qs_5 q_1 (by decide +kernel) ⟨(Nat.le_of_ble_eq_true rfl), (Nat.le_of_ble_eq_true rfl)⟩) gNl_ok hN hK hW hS hA (hdl (0) (by unfold kD; omega)) z0 rfl rfl hl.1 rfl (Nat.le_of_ble_eq_true rfl) d_K_fit_47 ⟨Nat.zero_le _, Nat.zero_le _⟩ (fun r co9 H locs hp9 hW hS => ?_)
            obtain ⟨rfl, hy9, hn9⟩ := hp9
            refine n_ifz_eq (tgt := 78) hx hb d_K_fit_50 (by decide) (fun h5 => ?_) (fun h5 => ?_)
            · have h5 : fkp a (alw tr shp (-1)) cl n mv sp j = false := h5
              have h6 : ¬ fcs a (alw tr shp (-1)) cl n mv sp (j + 1) < fcs a (alw tr shp (-1)) cl n mv sp j := of_decide_eq_false h5
              obtain ⟨xS, xC, xT, xL, hf9⟩ := hn9 h6
              have x0 := (hf9 0 hk2.2).trans z0
              have x34 := (hf9 34 hk2.1).trans z34
              refine lv_aload_n hx hb d_K_fit_78 rfl (lv_at hl 0 rfl) ?_
              refine g_get (C := R_K) (T := F_K) (N := 13) hx hb hts i_K hown hK hW (i := 0) (hdl (0) (by unfold kD; omega)) x0 rfl 10 (by decide) (hts _ q_190) (fun _ h9 => h9) rfl d_K_fit_79 ?_
              have hJ : fitN (fkp a (alw tr shp (-1)) cl n mv sp) R 0 = j := by rw [hjj, fitN, if_neg (by rw [h5]; decide)]
              refine g_iret hx hb hr hlocks hW hS (Or.inr ⟨hnr, j, ?_, rfl, x0, x34, ⟨xS, xC, xT, xL⟩, fun i hi p1 p2 => (hf9 i hi).trans (zf i hi p1 p2)⟩) d_K_fit_82
              rw [nI_clamp hR2, hJ]
            · have h5 : fkp a (alw tr shp (-1)) cl n mv sp j = true := h5
              have h6 : fcs a (alw tr shp (-1)) cl n mv sp (j + 1) < fcs a (alw tr shp (-1)) cl n mv sp j := of_decide_eq_true h5
              obtain ⟨xS, xC, xT, xL, hf9⟩ := hy9 h6
              have x0 := (hf9 0 hk2.2).trans z0
              have x34 := (hf9 34 hk2.1).trans z34
              have hln : (fun i => if i < n then nI (bln a (alw tr shp (-1)) cl (fitQ a (alw tr shp (-1)) cl n mv sp (j + 1)).1 (fitQ a (alw tr shp (-1)) cl n mv sp (j + 1)).2 n i) else (fun i => if i < n then nI (bln a (alw tr shp (-1)) cl (fitQ a (alw tr shp (-1)) cl n mv sp j).1 (fitQ a (alw tr shp (-1)) cl n mv sp j).2 n i) else ln i) i) = (fun i => if i < n then nI (bln a (alw tr shp (-1)) cl (fitQ a (alw tr shp (-1)) cl n mv sp (j + 1)).1 (fitQ a (alw tr shp (-1)) cl n mv sp (j + 1)).2 n i) else ln i) := by
                funext i
                by_cases hi : i < n
                · rw [if_pos hi, if_pos hi]
                · rw [if_neg hi, if_neg hi]; exact if_neg hi
              have hnx : (fun i => if i < n then nxt a (alw tr shp (-1)) cl (fitQ a (alw tr shp (-1)) cl n mv sp (j + 1)).1 (fitQ a (alw tr shp (-1)) cl n mv sp (j + 1)).2 n tr i else (fun i => if i < n then nxt a (alw tr shp (-1)) cl (fitQ a (alw tr shp (-1)) cl n mv sp j).1 (fitQ a (alw tr shp (-1)) cl n mv sp j).2 n tr i else nx i) i) = (fun i => if i < n then nxt a (alw tr shp (-1)) cl (fitQ a (alw tr shp (-1)) cl n mv sp (j + 1)).1 (fitQ a (alw tr shp (-1)) cl n mv sp (j + 1)).2 n tr i else nx i) := by
                funext i
                by_cases hi : i < n
                · rw [if_pos hi, if_pos hi]
                · rw [if_neg hi, if_neg hi]; exact if_neg hi
              have xL : kLt cI ad n (fcs a (alw tr shp (-1)) cl n mv sp (j + 1)) (fun i => if i < n then nI (bln a (alw tr shp (-1)) cl (fitQ a (alw tr shp (-1)) cl n mv sp (j + 1)).1 (fitQ a (alw tr shp (-1)) cl n mv sp (j + 1)).2 n i) else ln i) (fun i => if i < n then nxt a (alw tr shp (-1)) cl (fitQ a (alw tr shp (-1)) cl n mv sp (j + 1)).1 (fitQ a (alw tr shp (-1)) cl n mv sp (j + 1)).2 n tr i else nx i) co9 := by rw [← hln, ← hnx]; exact xL
              have x22 := xL.1
              refine lv_aload_n hx hb d_K_fit_53 rfl (lv_at hl 0 rfl) ?_
              refine g_get (C := R_K) (T := F_K) (N := 13) hx hb hts i_K hown hK hW (i := 0) (hdl (0) (by unfold kD; omega)) x0 rfl 9 (by decide) (hts _ q_189) (fun _ h9 => h9) rfl d_K_fit_54 ?_
              refine lv_iload_n hx hb d_K_fit_57 rfl (lv_at hl 2 rfl) ?_
              refine lv_aload_n hx hb d_K_fit_58 rfl (lv_at hl 0 rfl) ?_
              refine g_get (C := R_K) (T := F_K) (N := 13) hx hb hts i_K hown hK hW (i := 0) (hdl (0) (by unfold kD; omega)) x0 rfl 6 (by decide) (hts _ q_186) (fun _ h9 => h9) rfl d_K_fit_59 ?_
              refine g_get (C := R_N) (T := F_N) (N := 4) hx hb hts i_N hown hK hW (i := 22) (hdl (22) (by unfold kD; omega)) x22 rfl 3 (by decide) (hts _ q_127) (fun _ h9 => h9) rfl d_K_fit_62 ?_
              refine lv_i2l (v := (nI (fcs a (alw tr shp (-1)) cl n mv sp (j + 1))).toInt64) hx hb d_K_fit_65 rfl ?_
              refine n_last (x := (nI (fcs a (alw tr shp (-1)) cl n mv sp (j + 1))).toInt64) hx hb hK hW hS 1 (q := 34) (hdl (34) (by unfold kD; omega)) x34 rfl (j := j + 1) (by omega) (by omega) d_K_fit_66 (fun H locs hW hS => ?_)
              refine lv_aload_n hx hb d_K_fit_67 rfl (lv_at hl 0 rfl) ?_
              refine lv_iload_n hx hb d_K_fit_68 rfl (lv_at hl 2 rfl) ?_
              refine g_put (ty := .int) (v := .int (nI (j + 1))) (C := R_K) (T := F_K) (N := 13) hx hb hts i_K fy_K fy_K_ok fn_K hown hK hW hS (i := 0) (hdl (0) (by unfold kD; omega)) ((va_up_ne _ _ (by decide)).trans x0) rfl 10 (by decide) (hts _ q_190) (fun _ h9 => h9) rfl (by decide +kernel) rfl rfl (Nat.le_of_ble_eq_true rfl) d_K_fit_69 (fun H locs hW hS => ?_)
              refine n_iinc (lv' := [(2, .int (nI (j + 1 + 1))), (0, .ref (ad 0)), (1, .int (nI R))]) hx hb d_K_fit_72 hl (k := 2) rfl (by decide) rfl (fun ls hl => ?_)
              refine lv_goto (tgt := 41) hx hb d_K_fit_75 (by decide) ?_
              have hsu : vp_updL (fun i => if i ≤ j then (nI (fcs a (alw tr shp (-1)) cl n mv sp i)).toInt64 else su i) (j + 1) (nI (fcs a (alw tr shp (-1)) cl n mv sp (j + 1))).toInt64 = (fun i => if i ≤ (j + 1) then (nI (fcs a (alw tr shp (-1)) cl n mv sp i)).toInt64 else su i) := by
                funext i
                by_cases hi : i = j + 1
                · subst hi; rw [pk_uLs, if_pos (Nat.le_refl _)]
                · rw [pk_uLn hi]
                  by_cases hi2 : i ≤ j
                  · rw [if_pos hi2, if_pos (by omega)]
                  · rw [if_neg hi2, if_neg (by omega)]
              rw [hsu] at hW
              exact ih1 (j + 1) _ _ _ ls (by omega) (by omega) (by rw [hjj, fitN, if_pos h5]) (va_up_self _ _ _) ((va_up_ne _ _ (by decide)).trans (va_up_self _ _ _)) ⟨kSt_tr (kup2 hk2.1 hk2.2) xS, kSc_tr ha (kup2 hk2.1 hk2.2) xC, kTb_tr ha (kup2 hk2.1 hk2.2) xT, kLt_tr (kup2 hk2.1 hk2.2) xL⟩ (fun i hi h0 h34 => (va_up_ne _ _ h0).trans ((va_up_ne _ _ h34).trans ((hf9 i hi).trans (zf i hi h0 h34)))) hW hS (lv_sub hl [1, 2, 0] rfl)
      · refine lv_iconst (v := (-1)) hx hb d_K_fit_21 (by decide) ?_
        exact g_iret hx hb hr hlocks hW hS (Or.inl ⟨Or.inr (Or.inr h3), rfl, rfl⟩) d_K_fit_22
