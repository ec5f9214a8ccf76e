set_option maxHeartbeats 4000000 in
set_option maxRecDepth 100000 in
/-- endOf -/
theorem c_N_endOf (l : Launch) {D : va_G} {cI cJ cG : ClassId} {ad : Nat → Nat} {co : Nat → va_E} {dl : List Nat} {a kn kc : Nat}  (hdl : ∀ i, kD a i → i ∈ dl) (w22 : co 22 = oN ad kn kc) {sec : Nat → Int64} (w2 : co 2 = .inl (cJ, 200, .inr (.inl sec))) (j : Nat) (hj : j < kn) (hn : kn ≤ 200) : gMl l y_N_endOf (Cond.code y_N_endOf b_N_endOf 3 (some .long) :: wA) ({ frames := 1, cells := 0, slots := 0, locals := 60 }) D gCl (gTy cI cJ cG) gNl [.ref (ad 22), .int (nI j), .ref (ad 2)] ad co dl (fun r co' => r = sEnd kn sec j ∧ co' = co) := by
  refine gMl_of (cc := b_N_endOf) (maxL := 3) (ret := some .long) (by decide) rfl (Nat.le_of_ble_eq_true rfl) ?_
  intro pp ee s mm below meth cd ls hC hW hS hl
  obtain ⟨hx, hb, hr, hts0, hown, hlocks, hml, hK, hN⟩ := hC
  have hts : ∀ w ∈ wA, w.before _ s = true := fun w h => hts0 w (List.mem_cons_of_mem _ h)
  have hA : ∀ q, s.heap.size ≤ q → gA ad co dl s.heap.size q := fun q h => Or.inr h
  have hl : lv_has ls 3 [(0, .ref (ad 22)), (1, .int (nI j)), (2, .ref (ad 2))] := hl
  have hown : s.vm.findClass R_N = some mm.cls := hown
  refine lv_aload_n hx hb d_N_endOf_0 rfl (lv_at hl 2 rfl) ?_
  refine lv_iload_n hx hb d_N_endOf_1 rfl (lv_at hl 1 rfl) ?_
  refine lv_iconst (v := nI 1) hx hb d_N_endOf_2 (by decide) ?_
  refine n_add hx hb d_N_endOf_3 ?_
  refine lv_aload_n hx hb d_N_endOf_4 rfl (lv_at hl 0 rfl) ?_
  refine g_get (C := R_N) (T := F_N) (N := 4) hx hb hts i_N hown hK hW (i := 22) (hdl (22) (by unfold kD; omega)) w22 rfl 2 (by decide) (hts _ q_124) (fun _ h9 => h9) rfl d_N_endOf_5 ?_
  refine lv_iconst (v := nI 1) hx hb d_N_endOf_8 (by decide) ?_
  refine n_sub hx hb (by omega) d_N_endOf_9 ?_
  refine va_mmin hx hb (hml.trans hl.1.symm) hown (hts _ q_378) (hts _ q_21) (hts _ q_2) (hts _ qm_min) (Nat.le_of_ble_eq_true rfl) (Nat.le_of_ble_eq_true rfl) (Nat.zero_le _) (Nat.zero_le _) d_N_endOf_10 ?_
  refine n_topi (show _ = nI (min (j + 1) (kn - 1)) from nI_min (by omega) (by omega)) ?_
  refine n_lald hx hb hK hW 1 (q := 2) (hdl (2) (by unfold kD; omega)) w2 rfl (j := min (j + 1) (kn - 1)) (by omega) (by omega) d_N_endOf_13 ?_
  exact g_lret hx hb hr hlocks hW hS (⟨by rw [sEnd]; congr 1; split <;> omega, rfl⟩) d_N_endOf_14
set_option maxHeartbeats 4000000 in
set_option maxRecDepth 100000 in
/-- secondsOf -/
theorem c_N_secondsOf (l : Launch) {D : va_G} {cI cJ cG : ClassId} {ad : Nat → Nat} {co : Nat → va_E} {dl : List Nat} {a kn kc : Nat}  (hdl : ∀ i, kD a i → i ∈ dl) (w22 : co 22 = oN ad kn kc) {sec : Nat → Int64} {ln : Nat → Int32} (w2 : co 2 = .inl (cJ, 200, .inr (.inl sec))) (w23 : co 23 = .inl (cI, 200, .inl ln)) (x : Int32) (hn : kn ≤ 200) : gMl l y_N_secondsOf (Cond.code y_N_secondsOf b_N_secondsOf 6 (some .long) :: wA) ({ frames := 2, cells := 0, slots := 0, locals := 82 }) D gCl (gTy cI cJ cG) gNl [.ref (ad 22), .int x, .ref (ad 2)] ad co dl (fun r co' => r = sHours kn ln sec x kn ∧ co' = co) := by
  refine gMl_of (cc := b_N_secondsOf) (maxL := 6) (ret := some .long) (by decide) rfl (Nat.le_of_ble_eq_true rfl) ?_
  intro pp ee s mm below meth cd ls hC hW hS hl
  obtain ⟨hx, hb, hr, hts0, hown, hlocks, hml, hK, hN⟩ := hC
  have hts : ∀ w ∈ wA, w.before _ s = true := fun w h => hts0 w (List.mem_cons_of_mem _ h)
  have hA : ∀ q, s.heap.size ≤ q → gA ad co dl s.heap.size q := fun q h => Or.inr h
  have hl : lv_has ls 6 [(0, .ref (ad 22)), (1, .int x), (2, .ref (ad 2))] := hl
  have hown : s.vm.findClass R_N = some mm.cls := hown
  refine lv_lconst (v := 0) hx hb d_N_secondsOf_0 (by decide) ?_
  refine lv_lstore_n (lv' := [(3, .long 0), (0, .ref (ad 22)), (1, .int x), (2, .ref (ad 2))]) hx hb d_N_secondsOf_1 rfl hl (by decide) rfl (fun ls hl => ?_)
  refine lv_iconst (v := nI 0) hx hb d_N_secondsOf_2 (by decide) ?_
  refine lv_istore (lv' := [(5, .int (nI 0)), (3, .long 0), (0, .ref (ad 22)), (1, .int x), (2, .ref (ad 2))]) hx hb d_N_secondsOf_3 hl (by decide) rfl (fun ls hl => ?_)
  suffices hloop : ∀ (d k : Nat) (H : Heap) (locs : List Loc) (ls : Array Slot), (k ≤ kn) → (kn + 1 ≤ k + d) → gW D gCl (gA ad co dl s.heap.size) ad (co) dl H → va_S (gA ad co dl s.heap.size) s.heap H locs → lv_has ls 6 [(0, .ref (ad 22)), (1, .int x), (2, .ref (ad 2)), (3, .long (sHours kn ln sec x k)), (5, .int (nI k))] → W pp l ee _ s mm _ below meth cd H locs 0 0 _ (F0 mm 5 ls []) by
    exact hloop (kn + 1) 0 _ _ ls (by omega) (by omega) hW hS (lv_sub hl [2, 3, 4, 1, 0] rfl)
  clear hW hS hl
  intro d
  induction d with
  | zero => intro k H locs ls hk hd; omega
  | succ d ih =>
    intro k H locs ls hk hd hW hS hl
    refine lv_iload hx hb d_N_secondsOf_5 (lv_at hl 4 rfl) ?_
    refine lv_aload_n hx hb d_N_secondsOf_7 rfl (lv_at hl 0 rfl) ?_
    refine g_get (C := R_N) (T := F_N) (N := 4) hx hb hts i_N hown hK hW (i := 22) (hdl (22) (by unfold kD; omega)) w22 rfl 2 (by decide) (hts _ q_124) (fun _ h9 => h9) rfl d_N_secondsOf_8 ?_
    refine n_icmp_ge (tgt := 46) hx hb (by omega) (by omega) d_N_secondsOf_11 (by decide) (fun h1 => ?_) (fun h1 => ?_)
    · have hkk : k = kn := by omega
      subst hkk
      refine lv_lload_n hx hb d_N_secondsOf_46 rfl (lv_at hl 3 rfl) ?_
      exact g_lret hx hb hr hlocks hW hS (⟨rfl, rfl⟩) d_N_secondsOf_47
    · refine lv_aload_n hx hb d_N_secondsOf_14 rfl (lv_at hl 0 rfl) ?_
      refine g_get (C := R_N) (T := F_N) (N := 4) hx hb hts i_N hown hK hW (i := 22) (hdl (22) (by unfold kD; omega)) w22 rfl 0 (by decide) (hts _ q_120) (fun _ h9 => h9) rfl d_N_secondsOf_15 ?_
      refine lv_iload hx hb d_N_secondsOf_18 (lv_at hl 4 rfl) ?_
      refine n_iald hx hb hK hW 0 (q := 23) (hdl (23) (by unfold kD; omega)) w23 rfl (j := k) (by omega) (by omega) d_N_secondsOf_20 ?_
      refine lv_iload_n hx hb d_N_secondsOf_21 rfl (lv_at hl 1 rfl) ?_
      refine lv_icmp_ne (tgt := 40) hx hb d_N_secondsOf_22 (by decide) (fun h2 => ?_) (fun h2 => ?_)
      · rw [show sHours kn ln sec x k = sHours kn ln sec x (k + 1) by rw [sHours, if_neg h2, Int64.add_zero]] at hl
        refine n_iinc (lv' := [(5, .int (nI (k + 1))), (0, .ref (ad 22)), (1, .int x), (2, .ref (ad 2)), (3, .long (sHours kn ln sec x (k + 1)))]) hx hb d_N_secondsOf_40 hl (k := 4) rfl (by decide) rfl (fun ls hl => ?_)
        refine lv_goto (tgt := 5) hx hb d_N_secondsOf_43 (by decide) ?_
        exact ih (k + 1) _ _ ls (by omega) (by omega) hW hS (lv_sub hl [1, 2, 3, 4, 0] rfl)
      · refine lv_lload_n hx hb d_N_secondsOf_25 rfl (lv_at hl 3 rfl) ?_
        refine lv_aload_n hx hb d_N_secondsOf_26 rfl (lv_at hl 0 rfl) ?_
        refine lv_iload hx hb d_N_secondsOf_27 (lv_at hl 4 rfl) ?_
        refine lv_aload_n hx hb d_N_secondsOf_29 rfl (lv_at hl 2 rfl) ?_
        refine g_cVl (As := [.int (nI k), .ref (ad 2)]) (rest := [.long (sHours kn ln sec x k)]) ⟨hx, hb, hml, hown, hts⟩ (c_N_endOf l hdl w22 w2 k h1 hn) (gcwV 2 hts q_377 q_374 q_375 q_376 q_6 (by decide +kernel) ⟨(Nat.le_of_ble_eq_true rfl), (Nat.le_of_ble_eq_true rfl)⟩) gNl_ok hN hK hW hS hA (hdl (22) (by unfold kD; omega)) w22 rfl rfl hl.1 rfl (Nat.le_of_ble_eq_true rfl) d_N_secondsOf_30 ⟨Nat.zero_le _, Nat.zero_le _⟩ (fun r co9 H locs hp9 hW hS => ?_)
        obtain ⟨rfl, hco9⟩ := hp9
        rw [hco9] at hW
        refine lv_aload_n hx hb d_N_secondsOf_33 rfl (lv_at hl 2 rfl) ?_
        refine lv_iload hx hb d_N_secondsOf_34 (lv_at hl 4 rfl) ?_
        refine n_lald hx hb hK hW 1 (q := 2) (hdl (2) (by unfold kD; omega)) w2 rfl (j := k) (by omega) (by omega) d_N_secondsOf_36 ?_
        refine lv_lsub hx hb d_N_secondsOf_37 ?_
        refine lv_ladd hx hb d_N_secondsOf_38 ?_
        refine n_topl (show _ = sHours kn ln sec x (k + 1) by rw [sHours, if_pos h2]) ?_
        refine lv_lstore_n (lv' := [(3, .long (sHours kn ln sec x (k + 1))), (0, .ref (ad 22)), (1, .int x), (2, .ref (ad 2)), (5, .int (nI k))]) hx hb d_N_secondsOf_39 rfl hl (by decide) rfl (fun ls hl => ?_)
        refine n_iinc (lv' := [(5, .int (nI (k + 1))), (3, .long (sHours kn ln sec x (k + 1))), (0, .ref (ad 22)), (1, .int x), (2, .ref (ad 2))]) hx hb d_N_secondsOf_40 hl (k := 4) rfl (by decide) rfl (fun ls hl => ?_)
        refine lv_goto (tgt := 5) hx hb d_N_secondsOf_43 (by decide) ?_
        exact ih (k + 1) _ _ ls (by omega) (by omega) hW hS (lv_sub hl [2, 3, 4, 1, 0] rfl)
set_option maxHeartbeats 4000000 in
set_option maxRecDepth 100000 in
/-- haulStart -/
theorem c_N_haulStart (l : Launch) {D : va_G} {cI cJ cG : ClassId} {ad : Nat → Nat} {co : Nat → va_E} {dl : List Nat} {a kn kc : Nat}  (hdl : ∀ i, kD a i → i ∈ dl) (w22 : co 22 = oN ad kn kc) {ln : Nat → Int32} (w23 : co 23 = .inl (cI, 200, .inl ln)) (x : Int32) (hn : kn ≤ 200) : gMi l y_N_haulStart (Cond.code y_N_haulStart b_N_haulStart 4 (some .int) :: wA) ({ frames := 3, cells := 0, slots := 0, locals := 63 }) D gCl (gTy cI cJ cG) gNl [.ref (ad 22), .int x] ad co dl (fun r co' => r = sFirst kn ln x ∧ co' = co) := by
  refine gMi_of (cc := b_N_haulStart) (maxL := 4) (ret := some .int) (by decide) rfl (Nat.le_of_ble_eq_true rfl) ?_
  intro pp ee s mm below meth cd ls hC hW hS hl
  obtain ⟨hx, hb, hr, hts0, hown, hlocks, hml, hK, hN⟩ := hC
  have hts : ∀ w ∈ wA, w.before _ s = true := fun w h => hts0 w (List.mem_cons_of_mem _ h)
  have hA : ∀ q, s.heap.size ≤ q → gA ad co dl s.heap.size q := fun q h => Or.inr h
  have hl : lv_has ls 4 [(0, .ref (ad 22)), (1, .int x)] := hl
  have hown : s.vm.findClass R_N = some mm.cls := hown
  refine lv_iconst (v := nI 0) hx hb d_N_haulStart_0 (by decide) ?_
  refine lv_istore_n (lv' := [(2, .int (nI 0)), (0, .ref (ad 22)), (1, .int x)]) hx hb d_N_haulStart_1 rfl hl (by decide) rfl (fun ls hl => ?_)
  refine lv_iconst (v := nI 0) hx hb d_N_haulStart_2 (by decide) ?_
  refine lv_istore_n (lv' := [(3, .int (nI 0)), (2, .int (nI 0)), (0, .ref (ad 22)), (1, .int x)]) hx hb d_N_haulStart_3 rfl hl (by decide) rfl (fun ls hl => ?_)
  suffices hloop : ∀ (d k q : Nat) (H : Heap) (locs : List Loc) (ls : Array Slot), (k ≤ kn) → (kn + 1 ≤ k + d) → (q ≤ k) → (sFirst kn ln x = if x < 0 then -1 else (if q ≤ x.toNatClampNeg then nthF (sStart ln) (kn - k) k (x.toNatClampNeg - q) else -1)) → (¬ x < 0 → q ≤ x.toNatClampNeg) → gW D gCl (gA ad co dl s.heap.size) ad (co) dl H → va_S (gA ad co dl s.heap.size) s.heap H locs → lv_has ls 4 [(0, .ref (ad 22)), (1, .int x), (2, .int (nI q)), (3, .int (nI k))] → W pp l ee _ s mm _ below meth cd H locs 0 0 _ (F0 mm 4 ls []) by
    exact hloop (kn + 1) 0 0 _ _ ls (by omega) (by omega) (by omega) (by rw [sFirst, if_pos (Nat.zero_le _)]; rfl) (fun _ => Nat.zero_le _) hW hS (lv_sub hl [2, 3, 1, 0] rfl)
  clear hW hS hl
  intro d
  induction d with
  | zero => intro k q H locs ls hk hd hq hv hqx; omega
  | succ d ih =>
    intro k q H locs ls hk hd hq hv hqx hW hS hl
    refine lv_iload_n hx hb d_N_haulStart_4 rfl (lv_at hl 3 rfl) ?_
    refine lv_aload_n hx hb d_N_haulStart_5 rfl (lv_at hl 0 rfl) ?_
    refine g_get (C := R_N) (T := F_N) (N := 4) hx hb hts i_N hown hK hW (i := 22) (hdl (22) (by unfold kD; omega)) w22 rfl 2 (by decide) (hts _ q_124) (fun _ h9 => h9) rfl d_N_haulStart_6 ?_
    refine n_icmp_ge (tgt := 46) hx hb (by omega) (by omega) d_N_haulStart_9 (by decide) (fun h1 => ?_) (fun h1 => ?_)
    · have hkk : k = kn := by omega
      subst hkk
      refine lv_iconst (v := (-1)) hx hb d_N_haulStart_46 (by decide) ?_
      exact g_iret hx hb hr hlocks hW hS (⟨by rw [hv, Nat.sub_self]; split; rfl; split <;> rfl, rfl⟩) d_N_haulStart_47
    · have hs : kn - k = (kn - (k + 1)) + 1 := by omega
      have hik : inB (nI k) kn = true := inB_lt h1 (by omega)
      refine lv_aload_n hx hb d_N_haulStart_12 rfl (lv_at hl 0 rfl) ?_
      refine lv_iload_n hx hb d_N_haulStart_13 rfl (lv_at hl 3 rfl) ?_
      refine g_cVi (As := [.int (nI k)]) (rest := []) ⟨hx, hb, hml, hown, hts⟩ (c_N_isHauling l hdl w22 w23 (nI k) hn) (gcwV 1 hts q_390 q_387 q_388 q_389 q_6 (by decide +kernel) ⟨(Nat.le_of_ble_eq_true rfl), (Nat.le_of_ble_eq_true rfl)⟩) gNl_ok hN hK hW hS hA (hdl (22) (by unfold kD; omega)) w22 rfl rfl hl.1 rfl (Nat.le_of_ble_eq_true rfl) d_N_haulStart_14 ⟨Nat.zero_le _, Nat.zero_le _⟩ (fun r co9 H locs hp9 hW hS => ?_)
      obtain ⟨rfl, hco9⟩ := hp9
      rw [hco9] at hW
      refine n_ifz_eq (tgt := 40) hx hb d_N_haulStart_17 (by decide) (fun h2 => ?_) (fun h2 => ?_)
      · rw [hik, nI_clamp (show k < 2 ^ 31 by omega)] at h2
        refine n_iinc (lv' := [(3, .int (nI (k + 1))), (0, .ref (ad 22)), (1, .int x), (2, .int (nI q))]) hx hb d_N_haulStart_40 hl (k := 3) rfl (by decide) rfl (fun ls hl => ?_)
        refine lv_goto (tgt := 4) hx hb d_N_haulStart_43 (by decide) ?_
        exact ih (k + 1) q _ _ ls (by omega) (by omega) (by omega) (by
          rw [hv]
          by_cases hx0 : x < 0
          · rw [if_pos hx0, if_pos hx0]
          · rw [if_neg hx0, if_neg hx0, if_pos (hqx hx0), if_pos (hqx hx0), hs, nthF, if_neg (by simp [sStart]; intro z; simp [z] at h2)]) hqx hW hS (lv_sub hl [1, 2, 3, 0] rfl)
      · rw [hik, nI_clamp (show k < 2 ^ 31 by omega)] at h2
        have h3 : ln k = nI 3 := by simpa using h2
        have hst : sStart ln k = (!(inB (nI k - nI 1) kn && decide (ln (nI k - nI 1).toNatClampNeg = nI 3))) := by
          rcases Nat.eq_zero_or_pos k with h0 | h0
          · subst h0
            have : inB (nI 0 - nI 1) kn = false := inB_neg (by decide)
            simp [sStart, h3, this]
          · obtain ⟨z, rfl⟩ : ∃ z, k = z + 1 := ⟨k - 1, by omega⟩
            rw [show nI (z + 1) - nI 1 = nI z from nI_pred z, nI_clamp (show z < 2 ^ 31 by omega), inB_lt (show z < kn by omega) (by omega)]
            simp [sStart, h3]
        refine lv_aload_n hx hb d_N_haulStart_20 rfl (lv_at hl 0 rfl) ?_
        refine lv_iload_n hx hb d_N_haulStart_21 rfl (lv_at hl 3 rfl) ?_
        refine lv_iconst (v := nI 1) hx hb d_N_haulStart_22 (by decide) ?_
        refine lv_isub hx hb d_N_haulStart_23 ?_
        refine g_cVi (As := [.int ((nI k) - (nI 1))]) (rest := []) ⟨hx, hb, hml, hown, hts⟩ (c_N_isHauling l hdl w22 w23 (nI k - nI 1) hn) (gcwV 1 hts q_390 q_387 q_388 q_389 q_6 (by decide +kernel) ⟨(Nat.le_of_ble_eq_true rfl), (Nat.le_of_ble_eq_true rfl)⟩) gNl_ok hN hK hW hS hA (hdl (22) (by unfold kD; omega)) w22 rfl rfl hl.1 rfl (Nat.le_of_ble_eq_true rfl) d_N_haulStart_24 ⟨Nat.zero_le _, Nat.zero_le _⟩ (fun r co9 H locs hp8 hW hS => ?_)
        obtain ⟨rfl, hco9⟩ := hp8
        rw [hco9] at hW
        refine n_ifz_ne (tgt := 40) hx hb d_N_haulStart_27 (by decide) (fun h4 => ?_) (fun h4 => ?_)
        · rw [h4] at hst
          have hst : sStart ln k = false := hst
          refine n_iinc (lv' := [(3, .int (nI (k + 1))), (0, .ref (ad 22)), (1, .int x), (2, .int (nI q))]) hx hb d_N_haulStart_40 hl (k := 3) rfl (by decide) rfl (fun ls hl => ?_)
          refine lv_goto (tgt := 4) hx hb d_N_haulStart_43 (by decide) ?_
          exact ih (k + 1) q _ _ ls (by omega) (by omega) (by omega) (by
            rw [hv]
            by_cases hx0 : x < 0
            · rw [if_pos hx0, if_pos hx0]
            · rw [if_neg hx0, if_neg hx0, if_pos (hqx hx0), if_pos (hqx hx0), hs, nthF, if_neg (by rw [hst]; decide)]) hqx hW hS (lv_sub hl [1, 2, 3, 0] rfl)
        · rw [h4] at hst
          have hst : sStart ln k = true := hst
          refine lv_iload_n hx hb d_N_haulStart_30 rfl (lv_at hl 2 rfl) ?_
          refine lv_iload_n hx hb d_N_haulStart_31 rfl (lv_at hl 1 rfl) ?_
          refine lv_icmp_ne (tgt := 37) hx hb d_N_haulStart_32 (by decide) (fun h5 => ?_) (fun h5 => ?_)
          · refine n_iinc (lv' := [(2, .int (nI (q + 1))), (0, .ref (ad 22)), (1, .int x), (3, .int (nI k))]) hx hb d_N_haulStart_37 hl (k := 2) rfl (by decide) rfl (fun ls hl => ?_)
            refine n_iinc (lv' := [(3, .int (nI (k + 1))), (2, .int (nI (q + 1))), (0, .ref (ad 22)), (1, .int x)]) hx hb d_N_haulStart_40 hl (k := 3) rfl (by decide) rfl (fun ls hl => ?_)
            refine lv_goto (tgt := 4) hx hb d_N_haulStart_43 (by decide) ?_
            exact ih (k + 1) (q + 1) _ _ ls (by omega) (by omega) (by omega) (by
              rw [hv]
              by_cases hx0 : x < 0
              · rw [if_pos hx0, if_pos hx0]
              · obtain ⟨j, hj, rfl⟩ := nI_of hx0
                have hne : ¬ q = j := fun z => h5 (by rw [z])
                have hle := hqx hx0
                rw [nI_clamp hj] at hle ⊢
                rw [if_neg hx0, if_neg hx0, if_pos hle, if_pos (by omega), hs, nthF, if_pos hst, if_neg (by omega)]; congr 1) (fun hx0 => by
              obtain ⟨j, hj, rfl⟩ := nI_of hx0
              have hne : ¬ q = j := fun z => h5 (by rw [z])
              have hle := hqx hx0
              rw [nI_clamp hj] at hle ⊢
              omega) hW hS (lv_sub hl [2, 3, 1, 0] rfl)
          · refine lv_iload_n hx hb d_N_haulStart_35 rfl (lv_at hl 3 rfl) ?_
            exact g_iret hx hb hr hlocks hW hS (⟨by
              have hx0 : ¬ x < 0 := by rw [← h5]; exact nI_pos (by omega)
              rw [hv, if_neg hx0, if_pos (hqx hx0), hs, nthF, if_pos hst, if_pos (by rw [← h5, nI_clamp (show q < 2 ^ 31 by omega)]; omega)], rfl⟩) d_N_haulStart_36
set_option maxHeartbeats 4000000 in
set_option maxRecDepth 100000 in
/-- haulLast -/
theorem c_N_haulLast (l : Launch) {D : va_G} {cI cJ cG : ClassId} {ad : Nat → Nat} {co : Nat → va_E} {dl : List Nat} {a kn kc : Nat}  (hdl : ∀ i, kD a i → i ∈ dl) (w22 : co 22 = oN ad kn kc) {ln : Nat → Int32} (w23 : co 23 = .inl (cI, 200, .inl ln)) (j : Nat) (hj : j < kn) (hn : kn ≤ 200) : gMi l y_N_haulLast (Cond.code y_N_haulLast b_N_haulLast 4 (some .int) :: wA) ({ frames := 3, cells := 0, slots := 0, locals := 63 }) D gCl (gTy cI cJ cG) gNl [.ref (ad 22), .int (nI j)] ad co dl (fun r co' => r = nI (sLast kn ln j) ∧ co' = co) := by
  refine gMi_of (cc := b_N_haulLast) (maxL := 4) (ret := some .int) (by decide) rfl (Nat.le_of_ble_eq_true rfl) ?_
  intro pp ee s mm below meth cd ls hC hW hS hl
  obtain ⟨hx, hb, hr, hts0, hown, hlocks, hml, hK, hN⟩ := hC
  have hts : ∀ w ∈ wA, w.before _ s = true := fun w h => hts0 w (List.mem_cons_of_mem _ h)
  have hA : ∀ q, s.heap.size ≤ q → gA ad co dl s.heap.size q := fun q h => Or.inr h
  have hl : lv_has ls 4 [(0, .ref (ad 22)), (1, .int (nI j))] := hl
  have hown : s.vm.findClass R_N = some mm.cls := hown
  refine lv_iload_n hx hb d_N_haulLast_0 rfl (lv_at hl 1 rfl) ?_
  refine lv_istore_n (lv' := [(2, .int (nI j)), (0, .ref (ad 22)), (1, .int (nI j))]) hx hb d_N_haulLast_1 rfl hl (by decide) rfl (fun ls hl => ?_)
  refine lv_iload_n hx hb d_N_haulLast_2 rfl (lv_at hl 2 rfl) ?_
  refine lv_iconst (v := nI 1) hx hb d_N_haulLast_3 (by decide) ?_
  refine n_add hx hb d_N_haulLast_4 ?_
  refine lv_istore_n (lv' := [(3, .int (nI (j + 1))), (2, .int (nI j)), (0, .ref (ad 22)), (1, .int (nI j))]) hx hb d_N_haulLast_5 rfl hl (by decide) rfl (fun ls hl => ?_)
  suffices hloop : ∀ (d k : Nat) (H : Heap) (locs : List Loc) (ls : Array Slot), (k < kn) → (kn ≤ k + d) → (sLast kn ln j = lastF kn ln d k) → gW D gCl (gA ad co dl s.heap.size) ad (co) dl H → va_S (gA ad co dl s.heap.size) s.heap H locs → lv_has ls 4 [(0, .ref (ad 22)), (1, .int (nI j)), (2, .int (nI k)), (3, .int (nI (k + 1)))] → W pp l ee _ s mm _ below meth cd H locs 0 0 _ (F0 mm 6 ls []) by
    exact hloop kn j _ _ ls hj (by omega) rfl hW hS (lv_sub hl [2, 3, 1, 0] rfl)
  clear hW hS hl
  intro d
  induction d with
  | zero => intro k H locs ls hk hd hv; omega
  | succ d ih =>
    intro k H locs ls hk hd hv hW hS hl
    refine lv_iload_n hx hb d_N_haulLast_6 rfl (lv_at hl 3 rfl) ?_
    refine lv_aload_n hx hb d_N_haulLast_7 rfl (lv_at hl 0 rfl) ?_
    refine g_get (C := R_N) (T := F_N) (N := 4) hx hb hts i_N hown hK hW (i := 22) (hdl (22) (by unfold kD; omega)) w22 rfl 2 (by decide) (hts _ q_124) (fun _ h9 => h9) rfl d_N_haulLast_8 ?_
    refine n_icmp_ge (tgt := 30) hx hb (by omega) (by omega) d_N_haulLast_11 (by decide) (fun h1 => ?_) (fun h1 => ?_)
    · refine lv_iload_n hx hb d_N_haulLast_30 rfl (lv_at hl 2 rfl) ?_
      exact g_iret hx hb hr hlocks hW hS (⟨by rw [hv, lastF, if_neg (by omega)], rfl⟩) d_N_haulLast_31
    · refine lv_aload_n hx hb d_N_haulLast_14 rfl (lv_at hl 0 rfl) ?_
      refine lv_iload_n hx hb d_N_haulLast_15 rfl (lv_at hl 3 rfl) ?_
      refine g_cVi (As := [.int (nI (k + 1))]) (rest := []) ⟨hx, hb, hml, hown, hts⟩ (c_N_isHauling l hdl w22 w23 (nI (k + 1)) hn) (gcwV 1 hts q_390 q_387 q_388 q_389 q_6 (by decide +kernel) ⟨(Nat.le_of_ble_eq_true rfl), (Nat.le_of_ble_eq_true rfl)⟩) gNl_ok hN hK hW hS hA (hdl (22) (by unfold kD; omega)) w22 rfl rfl hl.1 rfl (Nat.le_of_ble_eq_true rfl) d_N_haulLast_16 ⟨Nat.zero_le _, Nat.zero_le _⟩ (fun r co9 H locs hp9 hW hS => ?_)
      obtain ⟨rfl, hco9⟩ := hp9
      rw [hco9] at hW
      refine n_ifz_eq (tgt := 30) hx hb d_N_haulLast_19 (by decide) (fun h2 => ?_) (fun h2 => ?_)
      · rw [inB_lt h1 (by omega), nI_clamp (show k + 1 < 2 ^ 31 by omega)] at h2
        refine lv_iload_n hx hb d_N_haulLast_30 rfl (lv_at hl 2 rfl) ?_
        exact g_iret hx hb hr hlocks hW hS (⟨by rw [hv, lastF, if_neg (fun q => by simp [q.2] at h2)], rfl⟩) d_N_haulLast_31
      · rw [inB_lt h1 (by omega), nI_clamp (show k + 1 < 2 ^ 31 by omega)] at h2
        refine lv_iload_n hx hb d_N_haulLast_22 rfl (lv_at hl 3 rfl) ?_
        refine lv_istore_n (lv' := [(2, .int (nI (k + 1))), (0, .ref (ad 22)), (1, .int (nI j)), (3, .int (nI (k + 1)))]) hx hb d_N_haulLast_23 rfl hl (by decide) rfl (fun ls hl => ?_)
        refine n_iinc (lv' := [(3, .int (nI (k + 1 + 1))), (2, .int (nI (k + 1))), (0, .ref (ad 22)), (1, .int (nI j))]) hx hb d_N_haulLast_24 hl (k := 3) rfl (by decide) rfl (fun ls hl => ?_)
        refine lv_goto (tgt := 6) hx hb d_N_haulLast_27 (by decide) ?_
        exact ih (k + 1) _ _ ls h1 (by omega) (by rw [hv, lastF, if_pos ⟨h1, by simpa using h2⟩]) hW hS (lv_sub hl [2, 3, 1, 0] rfl)
set_option maxHeartbeats 4000000 in
set_option maxRecDepth 100000 in
/-- actAt -/
theorem c_P_actAt (l : Launch) {D : va_G} {cI cJ cG : ClassId} {ad : Nat → Nat} {co : Nat → va_E} {dl : List Nat} {a pg : Nat}  (hdl : ∀ i, kD a i → i ∈ dl) (w25 : co 25 = oP ad pg) {pf : Nat → Int64} {pt : Nat → Int64} {pa : Nat → Int32} (w26 : co 26 = .inl (cJ, 50, .inr (.inl pf))) (w27 : co 27 = .inl (cJ, 50, .inr (.inl pt))) (w28 : co 28 = .inl (cI, 50, .inl pa)) (x : Int64) (hp : pg ≤ 50) : gMi l y_P_actAt (Cond.code y_P_actAt b_P_actAt 4 (some .int) :: wA) ({ frames := 0, cells := 0, slots := 0, locals := 0 }) D gCl (gTy cI cJ cG) gNl [.ref (ad 25), .long x] ad co dl (fun r co' => r = toldF pf pt pa x pg ∧ co' = co) := by
  refine gMi_of (cc := b_P_actAt) (maxL := 4) (ret := some .int) (by decide) rfl (Nat.le_of_ble_eq_true rfl) ?_
  intro pp ee s mm below meth cd ls hC hW hS hl
  obtain ⟨hx, hb, hr, hts0, hown, hlocks, hml, hK, hN⟩ := hC
  have hts : ∀ w ∈ wA, w.before _ s = true := fun w h => hts0 w (List.mem_cons_of_mem _ h)
  have hA : ∀ q, s.heap.size ≤ q → gA ad co dl s.heap.size q := fun q h => Or.inr h
  have hl : lv_has ls 4 [(0, .ref (ad 25)), (1, .long x)] := hl
  have hown : s.vm.findClass R_P = some mm.cls := hown
  refine lv_aload_n hx hb d_P_actAt_0 rfl (lv_at hl 0 rfl) ?_
  refine g_get (C := R_P) (T := F_P) (N := 4) hx hb hts i_P hown hK hW (i := 25) (hdl (25) (by unfold kD; omega)) w25 rfl 3 (by decide) (hts _ q_146) (fun _ h9 => h9) rfl d_P_actAt_1 ?_
  refine lv_iconst (v := nI 1) hx hb d_P_actAt_4 (by decide) ?_
  refine lv_isub hx hb d_P_actAt_5 ?_
  refine lv_istore_n (lv' := [(3, .int ((nI pg) - (nI 1))), (0, .ref (ad 25)), (1, .long x)]) hx hb d_P_actAt_6 rfl hl (by decide) rfl (fun ls hl => ?_)
  suffices hloop : ∀ (d q : Nat) (H : Heap) (locs : List Loc) (ls : Array Slot), (q ≤ pg) → (q + 1 ≤ d) → (toldF pf pt pa x pg = toldF pf pt pa x q) → gW D gCl (gA ad co dl s.heap.size) ad (co) dl H → va_S (gA ad co dl s.heap.size) s.heap H locs → lv_has ls 4 [(0, .ref (ad 25)), (1, .long x), (3, .int (nI q - nI 1))] → W pp l ee _ s mm _ below meth cd H locs 0 0 _ (F0 mm 7 ls []) by
    exact hloop (pg + 1) pg _ _ ls (Nat.le_refl _) (Nat.le_refl _) rfl hW hS (lv_sub hl [1, 2, 0] rfl)
  clear hW hS hl
  intro d
  induction d with
  | zero => intro q H locs ls hq hd hv; omega
  | succ d ih =>
    intro q H locs ls hq hd hv hW hS hl
    rcases Nat.eq_zero_or_pos q with h0 | h0
    · subst h0
      refine lv_iload_n hx hb d_P_actAt_7 rfl (lv_at hl 2 rfl) ?_
      refine lv_if_lt (tgt := 46) hx hb d_P_actAt_8 (by decide) (fun h1 => ?_) (fun h1 => ?_)
      · refine lv_iconst (v := (-1)) hx hb d_P_actAt_46 (by decide) ?_
        exact g_iret hx hb hr hlocks hW hS (⟨by rw [hv]; rfl, rfl⟩) d_P_actAt_47
      · exact absurd (by decide) h1
    · obtain ⟨q, rfl⟩ : ∃ z, q = z + 1 := ⟨q - 1, by omega⟩
      rw [show nI (q + 1) - nI 1 = nI q from nI_pred q] at hl
      refine lv_iload_n hx hb d_P_actAt_7 rfl (lv_at hl 2 rfl) ?_
      refine n_if_lt (tgt := 46) hx hb (by omega) d_P_actAt_8 (by decide) ?_
      refine lv_aload_n hx hb d_P_actAt_11 rfl (lv_at hl 0 rfl) ?_
      refine g_get (C := R_P) (T := F_P) (N := 4) hx hb hts i_P hown hK hW (i := 25) (hdl (25) (by unfold kD; omega)) w25 rfl 0 (by decide) (hts _ q_143) (fun _ h9 => h9) rfl d_P_actAt_12 ?_
      refine lv_iload_n hx hb d_P_actAt_15 rfl (lv_at hl 2 rfl) ?_
      refine n_lald hx hb hK hW 1 (q := 26) (hdl (26) (by unfold kD; omega)) w26 rfl (j := q) (by omega) (by omega) d_P_actAt_16 ?_
      refine lv_lload_n hx hb d_P_actAt_17 rfl (lv_at hl 1 rfl) ?_
      refine W.lcmp hx hb d_P_actAt_18 ?_
      refine lv_if_gt (tgt := 40) hx hb d_P_actAt_19 (by decide) (fun h2 => ?_) (fun h2 => ?_)
      · refine lv_iinc (v := (nI q) + (-1)) (lv' := [(3, .int ((nI q) + (-1))), (0, .ref (ad 25)), (1, .long x)]) hx hb d_P_actAt_40 hl (k := 2) rfl rfl (by decide) rfl (fun ls hl => ?_)
        rw [show nI q + (-1) = nI q - nI 1 by rw [Int32.sub_eq_add_neg]; rfl] at hl
        refine lv_goto (tgt := 7) hx hb d_P_actAt_43 (by decide) ?_
        exact ih q _ _ ls (by omega) (by omega) (by rw [hv, toldF, if_neg (fun z => L_nle z.1 (lc_gt h2))]) hW hS (lv_sub hl [1, 2, 0] rfl)
      · refine lv_lload_n hx hb d_P_actAt_22 rfl (lv_at hl 1 rfl) ?_
        refine lv_aload_n hx hb d_P_actAt_23 rfl (lv_at hl 0 rfl) ?_
        refine g_get (C := R_P) (T := F_P) (N := 4) hx hb hts i_P hown hK hW (i := 25) (hdl (25) (by unfold kD; omega)) w25 rfl 1 (by decide) (hts _ q_144) (fun _ h9 => h9) rfl d_P_actAt_24 ?_
        refine lv_iload_n hx hb d_P_actAt_27 rfl (lv_at hl 2 rfl) ?_
        refine n_lald hx hb hK hW 1 (q := 27) (hdl (27) (by unfold kD; omega)) w27 rfl (j := q) (by omega) (by omega) d_P_actAt_28 ?_
        refine W.lcmp hx hb d_P_actAt_29 ?_
        refine lv_if_ge (tgt := 40) hx hb d_P_actAt_30 (by decide) (fun h3 => ?_) (fun h3 => ?_)
        · refine lv_iinc (v := (nI q) + (-1)) (lv' := [(3, .int ((nI q) + (-1))), (0, .ref (ad 25)), (1, .long x)]) hx hb d_P_actAt_40 hl (k := 2) rfl rfl (by decide) rfl (fun ls hl => ?_)
          rw [show nI q + (-1) = nI q - nI 1 by rw [Int32.sub_eq_add_neg]; rfl] at hl
          refine lv_goto (tgt := 7) hx hb d_P_actAt_43 (by decide) ?_
          exact ih q _ _ ls (by omega) (by omega) (by rw [hv, toldF, if_neg (fun z => L_nlt z.2 (lc_ge h3))]) hW hS (lv_sub hl [1, 2, 0] rfl)
        · refine lv_aload_n hx hb d_P_actAt_33 rfl (lv_at hl 0 rfl) ?_
          refine g_get (C := R_P) (T := F_P) (N := 4) hx hb hts i_P hown hK hW (i := 25) (hdl (25) (by unfold kD; omega)) w25 rfl 2 (by decide) (hts _ q_145) (fun _ h9 => h9) rfl d_P_actAt_34 ?_
          refine lv_iload_n hx hb d_P_actAt_37 rfl (lv_at hl 2 rfl) ?_
          refine n_iald hx hb hK hW 0 (q := 28) (hdl (28) (by unfold kD; omega)) w28 rfl (j := q) (by omega) (by omega) d_P_actAt_38 ?_
          exact g_iret hx hb hr hlocks hW hS (⟨by rw [hv, toldF, if_pos ⟨lc_ngt h2, lc_nge h3⟩], rfl⟩) d_P_actAt_39
set_option maxHeartbeats 4000000 in
set_option maxRecDepth 100000 in
/-- turningRows -/
theorem c_T_turningRows (l : Launch) {D : va_G} {cI cJ cG : ClassId} {ad : Nat → Nat} {co : Nat → va_E} {dl : List Nat} {a n : Nat}  (hdl : ∀ i, kD a i → i ∈ dl) (w1 : co 1 = oT ad n) {trn : Nat → Int32} (w4 : co 4 = .inl (cI, 200, .inl trn)) (f g : Nat) (hfg : f ≤ g) (hg : g < 200) : gMi l y_T_turningRows (Cond.code y_T_turningRows b_T_turningRows 5 (some .int) :: wA) ({ frames := 0, cells := 0, slots := 0, locals := 0 }) D gCl (gTy cI cJ cG) gNl [.ref (ad 1), .int (nI f), .int (nI g)] ad co dl (fun r co' => r = nI (turnsF trn f (g - f + 1)) ∧ co' = co) := by
  refine gMi_of (cc := b_T_turningRows) (maxL := 5) (ret := some .int) (by decide) rfl (Nat.le_of_ble_eq_true rfl) ?_
  intro pp ee s mm below meth cd ls hC hW hS hl
  obtain ⟨hx, hb, hr, hts0, hown, hlocks, hml, hK, hN⟩ := hC
  have hts : ∀ w ∈ wA, w.before _ s = true := fun w h => hts0 w (List.mem_cons_of_mem _ h)
  have hA : ∀ q, s.heap.size ≤ q → gA ad co dl s.heap.size q := fun q h => Or.inr h
  have hl : lv_has ls 5 [(0, .ref (ad 1)), (1, .int (nI f)), (2, .int (nI g))] := hl
  have hown : s.vm.findClass R_T = some mm.cls := hown
  refine lv_iconst (v := nI 0) hx hb d_T_turningRows_0 (by decide) ?_
  refine lv_istore_n (lv' := [(3, .int (nI 0)), (0, .ref (ad 1)), (1, .int (nI f)), (2, .int (nI g))]) hx hb d_T_turningRows_1 rfl hl (by decide) rfl (fun ls hl => ?_)
  refine lv_iload_n hx hb d_T_turningRows_2 rfl (lv_at hl 2 rfl) ?_
  refine lv_istore (lv' := [(4, .int (nI f)), (3, .int (nI 0)), (0, .ref (ad 1)), (1, .int (nI f)), (2, .int (nI g))]) hx hb d_T_turningRows_3 hl (by decide) rfl (fun ls hl => ?_)
  suffices hloop : ∀ (d z : Nat) (H : Heap) (locs : List Loc) (ls : Array Slot), (f + z ≤ g + 1) → (g + 2 ≤ f + z + d) → gW D gCl (gA ad co dl s.heap.size) ad (co) dl H → va_S (gA ad co dl s.heap.size) s.heap H locs → lv_has ls 5 [(0, .ref (ad 1)), (1, .int (nI f)), (2, .int (nI g)), (3, .int (nI (turnsF trn f z))), (4, .int (nI (f + z)))] → W pp l ee _ s mm _ below meth cd H locs 0 0 _ (F0 mm 5 ls []) by
    exact hloop (g + 2 - f) 0 _ _ ls (by omega) (by omega) hW hS (lv_sub hl [2, 3, 4, 1, 0] rfl)
  clear hW hS hl
  intro d
  induction d with
  | zero => intro z H locs ls hz hd; omega
  | succ d ih =>
    intro z H locs ls hz hd hW hS hl
    refine lv_iload hx hb d_T_turningRows_5 (lv_at hl 4 rfl) ?_
    refine lv_iload_n hx hb d_T_turningRows_7 rfl (lv_at hl 2 rfl) ?_
    refine n_icmp_gt (tgt := 31) hx hb (by omega) (by omega) d_T_turningRows_8 (by decide) (fun h1 => ?_) (fun h1 => ?_)
    · have hzz : z = g - f + 1 := by omega
      refine lv_iload_n hx hb d_T_turningRows_31 rfl (lv_at hl 3 rfl) ?_
      exact g_iret hx hb hr hlocks hW hS (⟨by rw [hzz], rfl⟩) d_T_turningRows_32
    · refine lv_aload_n hx hb d_T_turningRows_11 rfl (lv_at hl 0 rfl) ?_
      refine g_get (C := R_T) (T := F_T) (N := 6) hx hb hts i_T hown hK hW (i := 1) (hdl (1) (by unfold kD; omega)) w1 rfl 2 (by decide) (hts _ q_37) (fun _ h9 => h9) rfl d_T_turningRows_12 ?_
      refine lv_iload hx hb d_T_turningRows_15 (lv_at hl 4 rfl) ?_
      refine n_iald hx hb hK hW 0 (q := 4) (hdl (4) (by unfold kD; omega)) w4 rfl (j := f + z) (by omega) (by omega) d_T_turningRows_17 ?_
      refine lv_iconst (v := nI 2) hx hb d_T_turningRows_18 (by decide) ?_
      refine lv_icmp_lt (tgt := 25) hx hb d_T_turningRows_19 (by decide) (fun h2 => ?_) (fun h2 => ?_)
      · refine n_iinc (lv' := [(4, .int (nI (f + z + 1))), (0, .ref (ad 1)), (1, .int (nI f)), (2, .int (nI g)), (3, .int (nI (turnsF trn f z)))]) hx hb d_T_turningRows_25 hl (k := 4) rfl (by decide) rfl (fun ls hl => ?_)
        rw [show turnsF trn f z = turnsF trn f (z + 1) by rw [turnsF, if_neg (Int32.not_le.mpr h2)]; rfl] at hl
        refine lv_goto (tgt := 5) hx hb d_T_turningRows_28 (by decide) ?_
        exact ih (z + 1) _ _ ls (by omega) (by omega) hW hS (lv_sub hl [1, 2, 3, 4, 0] rfl)
      · refine n_iinc (lv' := [(3, .int (nI (turnsF trn f z + 1))), (0, .ref (ad 1)), (1, .int (nI f)), (2, .int (nI g)), (4, .int (nI (f + z)))]) hx hb d_T_turningRows_22 hl (k := 3) rfl (by decide) rfl (fun ls hl => ?_)
        refine n_iinc (lv' := [(4, .int (nI (f + z + 1))), (3, .int (nI (turnsF trn f z + 1))), (0, .ref (ad 1)), (1, .int (nI f)), (2, .int (nI g))]) hx hb d_T_turningRows_25 hl (k := 4) rfl (by decide) rfl (fun ls hl => ?_)
        rw [show turnsF trn f z + 1 = turnsF trn f (z + 1) by rw [turnsF, if_pos (Int32.not_lt.mp h2)]] at hl
        refine lv_goto (tgt := 5) hx hb d_T_turningRows_28 (by decide) ?_
        exact ih (z + 1) _ _ ls (by omega) (by omega) hW hS (lv_sub hl [2, 3, 4, 1, 0] rfl)
