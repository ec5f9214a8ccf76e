set_option maxHeartbeats 4000000 in
set_option maxRecDepth 100000 in
/-- differingRow -/
theorem c_K_differingRow (l : Launch) {D : va_G} {cI cJ cG : ClassId} {ad : Nat → Nat} {co : Nat → va_E} {dl : List Nat} {a sh mg kn kc n pg : Nat} {kr : Int32}  (hdl : ∀ i, kD a i → i ∈ dl) (w0 : co 0 = oK ad a kr sh mg) (w22 : co 22 = oN ad kn kc) (w1 : co 1 = oT ad n) (w25 : co 25 = oP ad pg) {sec : Nat → Int64} {ln : Nat → Int32} {pf : Nat → Int64} {pt : Nat → Int64} {pa : Nat → Int32} (w2 : co 2 = .inl (cJ, 200, .inr (.inl sec))) (w23 : co 23 = .inl (cI, 200, .inl ln)) (w26 : co 26 = .inl (cJ, 50, .inr (.inl pf))) (w27 : co 27 = .inl (cJ, 50, .inr (.inl pt))) (w28 : co 28 = .inl (cI, 50, .inl pa)) (x : Int32) (hn : kn ≤ 200) (hp : pg ≤ 50) : gMi l y_K_differingRow (Cond.code y_K_differingRow b_K_differingRow 5 (some .int) :: wA) ({ frames := 1, cells := 0, slots := 0, locals := 23 }) D gCl (gTy cI cJ cG) gNl [.ref (ad 0), .int x] ad co dl (fun r co' => r = (if x < 0 then -1 else nthF (sDif pg pf pt pa ln sec) kn 0 x.toNatClampNeg) ∧ co' = co) := by
  refine gMi_of (cc := b_K_differingRow) (maxL := 5) (ret := some .int) (by decide) rfl (Nat.le_of_ble_eq_true rfl) ?_
  intro pp ee s mm below meth cd ls hC hW hS hl
  obtain ⟨hx, hb, hr, hts0, hown, hlocks, hml, hK, hN⟩ := hC
  have hts : ∀ w ∈ wA, w.before _ s = true := fun w h => hts0 w (List.mem_cons_of_mem _ h)
  have hA : ∀ q, s.heap.size ≤ q → gA ad co dl s.heap.size q := fun q h => Or.inr h
  have hl : lv_has ls 5 [(0, .ref (ad 0)), (1, .int x)] := hl
  have hown : s.vm.findClass R_K = some mm.cls := hown
  refine lv_iconst (v := nI 0) hx hb d_K_differingRow_0 (by decide) ?_
  refine lv_istore_n (lv' := [(2, .int (nI 0)), (0, .ref (ad 0)), (1, .int x)]) hx hb d_K_differingRow_1 rfl hl (by decide) rfl (fun ls hl => ?_)
  refine lv_iconst (v := nI 0) hx hb d_K_differingRow_2 (by decide) ?_
  refine lv_istore_n (lv' := [(3, .int (nI 0)), (2, .int (nI 0)), (0, .ref (ad 0)), (1, .int x)]) hx hb d_K_differingRow_3 rfl hl (by decide) rfl (fun ls hl => ?_)
  suffices hloop : ∀ (d k q : Nat) (H : Heap) (locs : List Loc) (ls : Array Slot), (k ≤ kn) → (kn + 1 ≤ k + d) → (q ≤ k) → ((if x < 0 then -1 else nthF (sDif pg pf pt pa ln sec) kn 0 x.toNatClampNeg) = if x < 0 then -1 else (if q ≤ x.toNatClampNeg then nthF (sDif pg pf pt pa ln sec) (kn - k) k (x.toNatClampNeg - q) else -1)) → (¬ x < 0 → q ≤ x.toNatClampNeg) → gW D gCl (gA ad co dl s.heap.size) ad (co) dl H → va_S (gA ad co dl s.heap.size) s.heap H locs → lv_has ls 5 [(0, .ref (ad 0)), (1, .int x), (2, .int (nI q)), (3, .int (nI k))] → W pp l ee _ s mm _ below meth cd H locs 0 0 _ (F0 mm 4 ls []) by
    exact hloop (kn + 1) 0 0 _ _ ls (by omega) (by omega) (by omega) (by rw [if_pos (Nat.zero_le _)]; rfl) (fun _ => Nat.zero_le _) hW hS (lv_sub hl [2, 3, 1, 0] rfl)
  clear hW hS hl
  intro d
  induction d with
  | zero => intro k q H locs ls hk hd hq hv hqx; omega
  | succ d ih =>
    intro k q H locs ls hk hd hq hv hqx hW hS hl
    refine lv_iload_n hx hb d_K_differingRow_4 rfl (lv_at hl 3 rfl) ?_
    refine lv_aload_n hx hb d_K_differingRow_5 rfl (lv_at hl 0 rfl) ?_
    refine g_get (C := R_K) (T := F_K) (N := 13) hx hb hts i_K hown hK hW (i := 0) (hdl (0) (by unfold kD; omega)) w0 rfl 6 (by decide) (hts _ q_186) (fun _ h9 => h9) rfl d_K_differingRow_6 ?_
    refine g_get (C := R_N) (T := F_N) (N := 4) hx hb hts i_N hown hK hW (i := 22) (hdl (22) (by unfold kD; omega)) w22 rfl 2 (by decide) (hts _ q_125) (fun _ h9 => h9) rfl d_K_differingRow_9 ?_
    refine n_icmp_ge (tgt := 69) hx hb (by omega) (by omega) d_K_differingRow_12 (by decide) (fun h1 => ?_) (fun h1 => ?_)
    · have hkk : k = kn := by omega
      subst hkk
      refine lv_iconst (v := (-1)) hx hb d_K_differingRow_69 (by decide) ?_
      exact g_iret hx hb hr hlocks hW hS (⟨by rw [hv, Nat.sub_self]; split; rfl; split <;> rfl, rfl⟩) d_K_differingRow_70
    · have hs : kn - k = (kn - (k + 1)) + 1 := by omega
      refine lv_aload_n hx hb d_K_differingRow_15 rfl (lv_at hl 0 rfl) ?_
      refine g_get (C := R_K) (T := F_K) (N := 13) hx hb hts i_K hown hK hW (i := 0) (hdl (0) (by unfold kD; omega)) w0 rfl 7 (by decide) (hts _ q_187) (fun _ h9 => h9) rfl d_K_differingRow_16 ?_
      refine lv_aload_n hx hb d_K_differingRow_19 rfl (lv_at hl 0 rfl) ?_
      refine g_get (C := R_K) (T := F_K) (N := 13) hx hb hts i_K hown hK hW (i := 0) (hdl (0) (by unfold kD; omega)) w0 rfl 1 (by decide) (hts _ q_181) (fun _ h9 => h9) rfl d_K_differingRow_20 ?_
      refine g_get (C := R_T) (T := F_T) (N := 6) hx hb hts i_T hown hK hW (i := 1) (hdl (1) (by unfold kD; omega)) w1 rfl 0 (by decide) (hts _ q_33) (fun _ h9 => h9) rfl d_K_differingRow_23 ?_
      refine lv_iload_n hx hb d_K_differingRow_26 rfl (lv_at hl 3 rfl) ?_
      refine n_lald hx hb hK hW 1 (q := 2) (hdl (2) (by unfold kD; omega)) w2 rfl (j := k) (by omega) (by omega) d_K_differingRow_27 ?_
      refine g_cVi (As := [.long (sec k)]) (rest := []) ⟨hx, hb, hml, hown, hts⟩ (c_P_actAt l hdl w25 w26 w27 w28 (sec k) hp) (gcwV 1 hts q_409 q_406 q_407 q_408 q_7 (by decide +kernel) ⟨(Nat.le_of_ble_eq_true rfl), (Nat.le_of_ble_eq_true rfl)⟩) gNl_ok hN hK hW hS hA (hdl (25) (by unfold kD; omega)) w25 rfl rfl hl.1 rfl (Nat.le_of_ble_eq_true rfl) d_K_differingRow_28 ⟨Nat.zero_le _, Nat.zero_le _⟩ (fun r co9 H locs hp9 hW hS => ?_)
      obtain ⟨rfl, hco9⟩ := hp9
      rw [hco9] at hW
      refine lv_istore (lv' := [(4, .int (toldF pf pt pa (sec k) pg)), (0, .ref (ad 0)), (1, .int x), (2, .int (nI q)), (3, .int (nI k))]) hx hb d_K_differingRow_31 hl (by decide) rfl (fun ls hl => ?_)
      refine lv_iload hx hb d_K_differingRow_33 (lv_at hl 0 rfl) ?_
      refine lv_iconst (v := (-1)) hx hb d_K_differingRow_35 (by decide) ?_
      refine lv_icmp_eq (tgt := 63) hx hb d_K_differingRow_36 (by decide) (fun h2 => ?_) (fun h2 => ?_)
      · refine n_iinc (lv' := [(3, .int (nI (k + 1))), (4, .int (toldF pf pt pa (sec k) pg)), (0, .ref (ad 0)), (1, .int x), (2, .int (nI q))]) hx hb d_K_differingRow_63 hl (k := 4) rfl (by decide) rfl (fun ls hl => ?_)
        refine lv_goto (tgt := 4) hx hb d_K_differingRow_66 (by decide) ?_
        exact ih (k + 1) q _ _ ls (by omega) (by omega) (by omega) (by
          rw [hv]
          by_cases hx0 : x < 0
          · rw [if_pos hx0, if_pos hx0]
          · rw [if_neg hx0, if_neg hx0, if_pos (hqx hx0), if_pos (hqx hx0), hs, nthF, if_neg (by simp [sDif, h2])]) hqx hW hS (lv_sub hl [2, 3, 4, 0] rfl)
      · refine lv_iload hx hb d_K_differingRow_39 (lv_at hl 0 rfl) ?_
        refine lv_aload_n hx hb d_K_differingRow_41 rfl (lv_at hl 1 rfl) ?_
        refine g_get (C := R_K) (T := F_K) (N := 13) hx hb hts i_K hown hK hW (i := 0) (hdl (0) (by unfold kD; omega)) w0 rfl 6 (by decide) (hts _ q_186) (fun _ h9 => h9) rfl d_K_differingRow_42 ?_
        refine g_get (C := R_N) (T := F_N) (N := 4) hx hb hts i_N hown hK hW (i := 22) (hdl (22) (by unfold kD; omega)) w22 rfl 0 (by decide) (hts _ q_121) (fun _ h9 => h9) rfl d_K_differingRow_45 ?_
        refine lv_iload_n hx hb d_K_differingRow_48 rfl (lv_at hl 4 rfl) ?_
        refine n_iald hx hb hK hW 0 (q := 23) (hdl (23) (by unfold kD; omega)) w23 rfl (j := k) (by omega) (by omega) d_K_differingRow_49 ?_
        refine lv_icmp_eq (tgt := 63) hx hb d_K_differingRow_50 (by decide) (fun h3 => ?_) (fun h3 => ?_)
        · refine n_iinc (lv' := [(3, .int (nI (k + 1))), (4, .int (toldF pf pt pa (sec k) pg)), (0, .ref (ad 0)), (1, .int x), (2, .int (nI q))]) hx hb d_K_differingRow_63 hl (k := 4) rfl (by decide) rfl (fun ls hl => ?_)
          refine lv_goto (tgt := 4) hx hb d_K_differingRow_66 (by decide) ?_
          exact ih (k + 1) q _ _ ls (by omega) (by omega) (by omega) (by
            rw [hv]
            by_cases hx0 : x < 0
            · rw [if_pos hx0, if_pos hx0]
            · rw [if_neg hx0, if_neg hx0, if_pos (hqx hx0), if_pos (hqx hx0), hs, nthF, if_neg (by simp [sDif, h3])]) hqx hW hS (lv_sub hl [2, 3, 4, 0] rfl)
        · have hst : (sDif pg pf pt pa ln sec) k = true := by simp [sDif, h2, h3]
          refine lv_iload_n hx hb d_K_differingRow_53 rfl (lv_at hl 3 rfl) ?_
          refine lv_iload_n hx hb d_K_differingRow_54 rfl (lv_at hl 2 rfl) ?_
          refine lv_icmp_ne (tgt := 60) hx hb d_K_differingRow_55 (by decide) (fun h5 => ?_) (fun h5 => ?_)
          · refine n_iinc (lv' := [(2, .int (nI (q + 1))), (4, .int (toldF pf pt pa (sec k) pg)), (0, .ref (ad 0)), (1, .int x), (3, .int (nI k))]) hx hb d_K_differingRow_60 hl (k := 3) rfl (by decide) rfl (fun ls hl => ?_)
            refine n_iinc (lv' := [(3, .int (nI (k + 1))), (2, .int (nI (q + 1))), (4, .int (toldF pf pt pa (sec k) pg)), (0, .ref (ad 0)), (1, .int x)]) hx hb d_K_differingRow_63 hl (k := 4) rfl (by decide) rfl (fun ls hl => ?_)
            refine lv_goto (tgt := 4) hx hb d_K_differingRow_66 (by decide) ?_
            exact ih (k + 1) (q + 1) _ _ ls (by omega) (by omega) (by omega) (by
              rw [hv]
              by_cases hx0 : x < 0
              · rw [if_pos hx0, if_pos hx0]
              · obtain ⟨j, hj, rfl⟩ := nI_of hx0
                have hne : ¬ q = j := fun z => h5 (by rw [z])
                have hle := hqx hx0
                rw [nI_clamp hj] at hle ⊢
                rw [if_neg hx0, if_neg hx0, if_pos hle, if_pos (by omega), hs, nthF, if_pos hst, if_neg (by omega)]; congr 1) (fun hx0 => by
              obtain ⟨j, hj, rfl⟩ := nI_of hx0
              have hne : ¬ q = j := fun z => h5 (by rw [z])
              have hle := hqx hx0
              rw [nI_clamp hj] at hle ⊢
              omega) hW hS (lv_sub hl [3, 4, 1, 0] rfl)
          · refine lv_iload_n hx hb d_K_differingRow_58 rfl (lv_at hl 4 rfl) ?_
            exact g_iret hx hb hr hlocks hW hS (⟨by
              have hx0 : ¬ x < 0 := by rw [← h5]; exact nI_pos (by omega)
              rw [hv, if_neg hx0, if_pos (hqx hx0), hs, nthF, if_pos hst, if_pos (by rw [← h5, nI_clamp (show q < 2 ^ 31 by omega)]; omega)], rfl⟩) d_K_differingRow_59
set_option maxHeartbeats 4000000 in
set_option maxRecDepth 100000 in
/-- differs -/
theorem c_K_differs (l : Launch) {D : va_G} {cI cJ cG : ClassId} {ad : Nat → Nat} {co : Nat → va_E} {dl : List Nat} {a sh mg kn kc n pg : Nat} {kr : Int32}  (hdl : ∀ i, kD a i → i ∈ dl) (w0 : co 0 = oK ad a kr sh mg) (w22 : co 22 = oN ad kn kc) (w1 : co 1 = oT ad n) (w25 : co 25 = oP ad pg) {sec : Nat → Int64} {ln : Nat → Int32} {pf : Nat → Int64} {pt : Nat → Int64} {pa : Nat → Int32} (w2 : co 2 = .inl (cJ, 200, .inr (.inl sec))) (w23 : co 23 = .inl (cI, 200, .inl ln)) (w26 : co 26 = .inl (cJ, 50, .inr (.inl pf))) (w27 : co 27 = .inl (cJ, 50, .inr (.inl pt))) (w28 : co 28 = .inl (cI, 50, .inl pa)) (x e9 : Int32) (hn : kn ≤ 200) (hp : pg ≤ 50) : gMi l y_K_differs (Cond.code y_K_differs b_K_differs 4 (some .int) :: wA) ({ frames := 2, cells := 0, slots := 0, locals := 47 }) D gCl (gTy cI cJ cG) gNl [.ref (ad 0), .int x, .int e9] ad co dl (fun r co' => r = sDiffers kn pg pf pt pa ln sec x e9 ∧ co' = co) := by
  refine gMi_of (cc := b_K_differs) (maxL := 4) (ret := some .int) (by decide) rfl (Nat.le_of_ble_eq_true rfl) ?_
  intro pp ee s mm below meth cd ls hC hW hS hl
  obtain ⟨hx, hb, hr, hts0, hown, hlocks, hml, hK, hN⟩ := hC
  have hts : ∀ w ∈ wA, w.before _ s = true := fun w h => hts0 w (List.mem_cons_of_mem _ h)
  have hA : ∀ q, s.heap.size ≤ q → gA ad co dl s.heap.size q := fun q h => Or.inr h
  have hl : lv_has ls 4 [(0, .ref (ad 0)), (1, .int x), (2, .int e9)] := hl
  have hown : s.vm.findClass R_K = some mm.cls := hown
  refine lv_aload_n hx hb d_K_differs_0 rfl (lv_at hl 0 rfl) ?_
  refine lv_iload_n hx hb d_K_differs_1 rfl (lv_at hl 1 rfl) ?_
  refine g_cVi (As := [.int x]) (rest := []) ⟨hx, hb, hml, hown, hts⟩ (c_K_differingRow l hdl w0 w22 w1 w25 w2 w23 w26 w27 w28 x hn hp) (gcwV 1 hts q_405 q_402 q_404 qs_7 q_1 (by decide +kernel) ⟨(Nat.le_of_ble_eq_true rfl), (Nat.le_of_ble_eq_true rfl)⟩) gNl_ok hN hK hW hS hA (hdl (0) (by unfold kD; omega)) w0 rfl rfl hl.1 rfl (Nat.le_of_ble_eq_true rfl) d_K_differs_2 ⟨Nat.zero_le _, Nat.zero_le _⟩ (fun r co9 H locs hp9 hW hS => ?_)
  obtain ⟨rfl, hco9⟩ := hp9
  rw [hco9] at hW
  obtain ⟨z, hz⟩ : ∃ z, z = (if x < 0 then -1 else nthF (sDif pg pf pt pa ln sec) kn 0 x.toNatClampNeg) := ⟨_, rfl⟩
  rw [← hz]
  refine lv_istore_n (lv' := [(3, .int z), (0, .ref (ad 0)), (1, .int x), (2, .int e9)]) hx hb d_K_differs_5 rfl hl (by decide) rfl (fun ls hl => ?_)
  refine lv_iload_n hx hb d_K_differs_6 rfl (lv_at hl 0 rfl) ?_
  refine lv_iconst (v := (-1)) hx hb d_K_differs_7 (by decide) ?_
  refine lv_icmp_eq (tgt := 19) hx hb d_K_differs_8 (by decide) (fun h1 => ?_) (fun h1 => ?_)
  · rw [h1] at hz
    refine lv_iconst (v := (-1)) hx hb d_K_differs_19 (by decide) ?_
    exact g_iret hx hb hr hlocks hW hS (⟨by
      rw [sDiffers]
      by_cases hx0 : x < 0
      · rw [if_pos hx0]
      · rw [if_neg hx0] at hz
        rw [if_neg hx0]
        split
        · rw [if_pos hz.symm]
        · rfl, rfl⟩) d_K_differs_20
  · have hx0 : ¬ x < 0 := fun q => h1 (by rw [hz, if_pos q])
    rw [if_neg hx0] at hz
    obtain ⟨f, hf, hf0, hf1⟩ := nthF_lt (by omega) (show ¬ nthF (sDif pg pf pt pa ln sec) kn 0 x.toNatClampNeg = -1 by rw [← hz]; exact h1)
    rw [hf] at hz
    subst hz
    have hsp : sDiffers kn pg pf pt pa ln sec x e9 = if inB e9 2 then (if e9 = 0 then nI f else toldF pf pt pa (sec f) pg) else -1 := by rw [sDiffers, if_neg hx0, hf, if_neg h1, nI_clamp (show f < 2 ^ 31 by omega)]
    refine lv_iload_n hx hb d_K_differs_11 rfl (lv_at hl 3 rfl) ?_
    refine lv_iconst (v := nI 2) hx hb d_K_differs_12 (by decide) ?_
    refine g_cSi (As := [.int e9, .int (nI 2)]) (rest := []) ⟨hx, hb, hml, hown, hts⟩ (c_K_isBelow l e9 2 (by decide)) (gcwS 2 hts q_230 q_228 q_229 q_1 (by decide +kernel) ⟨(Nat.le_of_ble_eq_true rfl), (Nat.le_of_ble_eq_true rfl)⟩) gNl_ok hN hK hW hS hA rfl hl.1 rfl (Nat.le_of_ble_eq_true rfl) d_K_differs_13 ⟨Nat.zero_le _, Nat.zero_le _⟩ (fun r co9 H locs hp9 hW hS => ?_)
    obtain ⟨rfl, hco9⟩ := hp9
    rw [hco9] at hW
    refine n_ifz_ne (tgt := 21) hx hb d_K_differs_16 (by decide) (fun g2 => ?_) (fun g2 => ?_)
    · have hin := g2
      obtain ⟨j, hj, rfl⟩ := inB_of (by decide) g2
      refine lv_iload_n hx hb d_K_differs_21 rfl (lv_at hl 3 rfl) ?_
      refine n_if_ne (tgt := 29) hx hb (by omega) d_K_differs_22 (by decide) (fun h4 => ?_) (fun h4 => ?_)
      · refine lv_aload_n hx hb d_K_differs_29 rfl (lv_at hl 1 rfl) ?_
        refine g_get (C := R_K) (T := F_K) (N := 13) hx hb hts i_K hown hK hW (i := 0) (hdl (0) (by unfold kD; omega)) w0 rfl 7 (by decide) (hts _ q_187) (fun _ h9 => h9) rfl d_K_differs_30 ?_
        refine lv_aload_n hx hb d_K_differs_33 rfl (lv_at hl 1 rfl) ?_
        refine g_get (C := R_K) (T := F_K) (N := 13) hx hb hts i_K hown hK hW (i := 0) (hdl (0) (by unfold kD; omega)) w0 rfl 1 (by decide) (hts _ q_181) (fun _ h9 => h9) rfl d_K_differs_34 ?_
        refine g_get (C := R_T) (T := F_T) (N := 6) hx hb hts i_T hown hK hW (i := 1) (hdl (1) (by unfold kD; omega)) w1 rfl 0 (by decide) (hts _ q_33) (fun _ h9 => h9) rfl d_K_differs_37 ?_
        refine lv_iload_n hx hb d_K_differs_40 rfl (lv_at hl 0 rfl) ?_
        refine n_lald hx hb hK hW 1 (q := 2) (hdl (2) (by unfold kD; omega)) w2 rfl (j := f) (by omega) (by omega) d_K_differs_41 ?_
        refine g_cVi (As := [.long (sec f)]) (rest := []) ⟨hx, hb, hml, hown, hts⟩ (c_P_actAt l hdl w25 w26 w27 w28 (sec f) hp) (gcwV 1 hts q_409 q_406 q_407 q_408 q_7 (by decide +kernel) ⟨(Nat.le_of_ble_eq_true rfl), (Nat.le_of_ble_eq_true rfl)⟩) gNl_ok hN hK hW hS hA (hdl (25) (by unfold kD; omega)) w25 rfl rfl hl.1 rfl (Nat.le_of_ble_eq_true rfl) d_K_differs_42 ⟨Nat.zero_le _, Nat.zero_le _⟩ (fun r co9 H locs hp9 hW hS => ?_)
        obtain ⟨rfl, hco9⟩ := hp9
        rw [hco9] at hW
        exact g_iret hx hb hr hlocks hW hS (⟨by rw [hsp, if_pos hin, if_neg (nI_ne0 h4 (by omega))], rfl⟩) d_K_differs_45
      · refine lv_iload_n hx hb d_K_differs_25 rfl (lv_at hl 0 rfl) ?_
        refine lv_goto (tgt := 45) hx hb d_K_differs_26 (by decide) ?_
        exact g_iret hx hb hr hlocks hW hS (⟨by rw [hsp, if_pos hin, if_pos (show nI j = 0 by rw [h4]; exact nI_0)], rfl⟩) d_K_differs_45
    · refine lv_iconst (v := (-1)) hx hb d_K_differs_19 (by decide) ?_
      exact g_iret hx hb hr hlocks hW hS (⟨by rw [hsp, if_neg (by rw [g2]; decide)], rfl⟩) d_K_differs_20
set_option maxHeartbeats 4000000 in
set_option maxRecDepth 100000 in
/-- page -/
theorem c_K_page (l : Launch) {D : va_G} {cI cJ cG : ClassId} {ad : Nat → Nat} {co : Nat → va_E} {dl : List Nat} {a sh mg pg : Nat} {kr : Int32}  (hdl : ∀ i, kD a i → i ∈ dl) (w0 : co 0 = oK ad a kr sh mg) (w25 : co 25 = oP ad pg) {pf : Nat → Int64} {pt : Nat → Int64} {pa : Nat → Int32} (w26 : co 26 = .inl (cJ, 50, .inr (.inl pf))) (w27 : co 27 = .inl (cJ, 50, .inr (.inl pt))) (w28 : co 28 = .inl (cI, 50, .inl pa)) (x y : Int64) (z : Int32) (ha : a ≤ 12) (hp : pg ≤ 50) : gMi l y_K_page (Cond.code y_K_page b_K_page 6 (some .boolean) :: wA) ({ frames := 2, cells := 0, slots := 0, locals := 42 }) D gCl (gTy cI cJ cG) gNl [.ref (ad 0), .long x, .long y, .int z] ad co dl (fun r co' => r = bI (okPage a pg x y z) ∧ co' = if okPage a pg x y z then va_up (va_up (va_up (va_up co 26 (.inl (cJ, 50, .inr (.inl (vp_updL pf pg x))))) 27 (.inl (cJ, 50, .inr (.inl (vp_updL pt pg y))))) 28 (.inl (cI, 50, .inl (upd pa pg z)))) 25 (oP ad (pg + 1)) else co) := by
  refine gMi_of (cc := b_K_page) (maxL := 6) (ret := some .boolean) (by decide) rfl (Nat.le_of_ble_eq_true rfl) ?_
  intro pp ee s mm below meth cd ls hC hW hS hl
  obtain ⟨hx, hb, hr, hts0, hown, hlocks, hml, hK, hN⟩ := hC
  have hts : ∀ w ∈ wA, w.before _ s = true := fun w h => hts0 w (List.mem_cons_of_mem _ h)
  have hA : ∀ q, s.heap.size ≤ q → gA ad co dl s.heap.size q := fun q h => Or.inr h
  have hl : lv_has ls 6 [(0, .ref (ad 0)), (1, .long x), (3, .long y), (5, .int z)] := hl
  have hown : s.vm.findClass R_K = some mm.cls := hown
  refine lv_aload_n hx hb d_K_page_0 rfl (lv_at hl 0 rfl) ?_
  refine lv_iload hx hb d_K_page_1 (lv_at hl 3 rfl) ?_
  refine g_cVi (As := [.int z]) (rest := []) ⟨hx, hb, hml, hown, hts⟩ (c_K_isAct l hdl w0 z ha) (gcwV 1 hts q_227 q_224 q_226 qs_0 q_1 (by decide +kernel) ⟨(Nat.le_of_ble_eq_true rfl), (Nat.le_of_ble_eq_true rfl)⟩) gNl_ok hN hK hW hS hA (hdl (0) (by unfold kD; omega)) w0 rfl rfl hl.1 rfl (Nat.le_of_ble_eq_true rfl) d_K_page_3 ⟨Nat.zero_le _, Nat.zero_le _⟩ (fun r co9 H locs hp9 hW hS => ?_)
  obtain ⟨rfl, hco9⟩ := hp9
  rw [hco9] at hW
  refine n_ifz_eq (tgt := 33) hx hb d_K_page_6 (by decide) (fun g1 => ?_) (fun g1 => ?_)
  · refine lv_iconst (v := nI 0) hx hb d_K_page_33 (by decide) ?_
    exact g_zret hx hb hr (by rfl) hlocks hW hS (⟨bI_0 (by simp [okPage, g1]), (if_neg (by simp [okPage, g1])).symm⟩) d_K_page_34
  · refine lv_lload_n hx hb d_K_page_9 rfl (lv_at hl 1 rfl) ?_
    refine lv_lconst (v := 0) hx hb d_K_page_10 (by decide) ?_
    refine W.lcmp hx hb d_K_page_11 ?_
    refine lv_if_lt (tgt := 33) hx hb d_K_page_12 (by decide) (fun h2 => ?_) (fun h2 => ?_)
    · refine lv_iconst (v := nI 0) hx hb d_K_page_33 (by decide) ?_
      exact g_zret hx hb hr (by rfl) hlocks hW hS (⟨bI_0 (by simp [okPage, L_nlt (lc_lt h2)]), (if_neg (by simp [okPage, L_nlt (lc_lt h2)])).symm⟩) d_K_page_34
    · refine lv_lload_n hx hb d_K_page_15 rfl (lv_at hl 1 rfl) ?_
      refine lv_lload_n hx hb d_K_page_16 rfl (lv_at hl 2 rfl) ?_
      refine W.lcmp hx hb d_K_page_17 ?_
      refine lv_if_ge (tgt := 33) hx hb d_K_page_18 (by decide) (fun h3 => ?_) (fun h3 => ?_)
      · refine lv_iconst (v := nI 0) hx hb d_K_page_33 (by decide) ?_
        exact g_zret hx hb hr (by rfl) hlocks hW hS (⟨bI_0 (by simp [okPage, L_nle (lc_ge h3)]), (if_neg (by simp [okPage, L_nle (lc_ge h3)])).symm⟩) d_K_page_34
      · refine lv_aload_n hx hb d_K_page_21 rfl (lv_at hl 0 rfl) ?_
        refine g_get (C := R_K) (T := F_K) (N := 13) hx hb hts i_K hown hK hW (i := 0) (hdl (0) (by unfold kD; omega)) w0 rfl 7 (by decide) (hts _ q_187) (fun _ h9 => h9) rfl d_K_page_22 ?_
        refine g_get (C := R_P) (T := F_P) (N := 4) hx hb hts i_P hown hK hW (i := 25) (hdl (25) (by unfold kD; omega)) w25 rfl 3 (by decide) (hts _ q_147) (fun _ h9 => h9) rfl d_K_page_25 ?_
        refine lv_bipush (v := nI 50) hx hb d_K_page_28 (by decide) ?_
        refine n_icmp_lt (tgt := 35) hx hb (by omega) (by omega) d_K_page_30 (by decide) (fun h4 => ?_) (fun h4 => ?_)
        · have g9 : okPage a pg x y z = true := by simp [okPage, g1, lc_nlt h2, lc_nge h3, h4]
          refine lv_aload_n hx hb d_K_page_35 rfl (lv_at hl 0 rfl) ?_
          refine g_get (C := R_K) (T := F_K) (N := 13) hx hb hts i_K hown hK hW (i := 0) (hdl (0) (by unfold kD; omega)) w0 rfl 7 (by decide) (hts _ q_187) (fun _ h9 => h9) rfl d_K_page_36 ?_
          refine lv_lload_n hx hb d_K_page_39 rfl (lv_at hl 1 rfl) ?_
          refine lv_lload_n hx hb d_K_page_40 rfl (lv_at hl 2 rfl) ?_
          refine lv_iload hx hb d_K_page_41 (lv_at hl 3 rfl) ?_
          refine g_cVv (As := [.long x, .long y, .int z]) (rest := []) ⟨hx, hb, hml, hown, hts⟩ (c_P_add l hdl w25 w26 w27 w28 x y z h4) (gcwV 3 hts q_417 q_414 q_415 q_416 q_7 (by decide +kernel) ⟨(Nat.le_of_ble_eq_true rfl), (Nat.le_of_ble_eq_true rfl)⟩) gNl_ok hN hK hW hS hA (hdl (25) (by unfold kD; omega)) w25 rfl rfl hl.1 rfl (Nat.le_of_ble_eq_true rfl) d_K_page_43 ⟨Nat.zero_le _, Nat.zero_le _⟩ (fun co9 H locs hp9 hW hS => ?_)
          rw [hp9] at hW
          refine lv_iconst (v := nI 1) hx hb d_K_page_46 (by decide) ?_
          exact g_zret hx hb hr (by rfl) hlocks hW hS (⟨bI_1 g9, by rw [if_pos g9]⟩) d_K_page_47
        · refine lv_iconst (v := nI 0) hx hb d_K_page_33 (by decide) ?_
          exact g_zret hx hb hr (by rfl) hlocks hW hS (⟨bI_0 (by simp [okPage, show ¬ pg < 50 by omega]), (if_neg (by simp [okPage, show ¬ pg < 50 by omega])).symm⟩) d_K_page_34
set_option maxHeartbeats 4000000 in
set_option maxRecDepth 100000 in
/-- unsure -/
theorem c_K_unsure (l : Launch) {D : va_G} {cI cJ cG : ClassId} {ad : Nat → Nat} {co : Nat → va_E} {dl : List Nat} {a sh mg kn kc : Nat} {kr : Int32}  (hdl : ∀ i, kD a i → i ∈ dl) (w0 : co 0 = oK ad a kr sh mg) (w22 : co 22 = oN ad kn kc) {nx : Nat → Int32} (w24 : co 24 = .inl (cI, 200, .inl nx)) (x : Int32) (hn : kn ≤ 200) : gMi l y_K_unsure (Cond.code y_K_unsure b_K_unsure 2 (some .boolean) :: wA) ({ frames := 3, cells := 0, slots := 0, locals := 63 }) D gCl (gTy cI cJ cG) gNl [.ref (ad 0), .int x] ad co dl (fun r co' => r = bI (sUnsure kn mg kc nx x) ∧ co' = co) := by
  refine gMi_of (cc := b_K_unsure) (maxL := 2) (ret := some .boolean) (by decide) rfl (Nat.le_of_ble_eq_true rfl) ?_
  intro pp ee s mm below meth cd ls hC hW hS hl
  obtain ⟨hx, hb, hr, hts0, hown, hlocks, hml, hK, hN⟩ := hC
  have hts : ∀ w ∈ wA, w.before _ s = true := fun w h => hts0 w (List.mem_cons_of_mem _ h)
  have hA : ∀ q, s.heap.size ≤ q → gA ad co dl s.heap.size q := fun q h => Or.inr h
  have hl : lv_has ls 2 [(0, .ref (ad 0)), (1, .int x)] := hl
  have hown : s.vm.findClass R_K = some mm.cls := hown
  refine lv_aload_n hx hb d_K_unsure_0 rfl (lv_at hl 0 rfl) ?_
  refine g_get (C := R_K) (T := F_K) (N := 13) hx hb hts i_K hown hK hW (i := 0) (hdl (0) (by unfold kD; omega)) w0 rfl 6 (by decide) (hts _ q_186) (fun _ h9 => h9) rfl d_K_unsure_1 ?_
  refine lv_iload_n hx hb d_K_unsure_4 rfl (lv_at hl 1 rfl) ?_
  refine g_cVi (As := [.int x]) (rest := []) ⟨hx, hb, hml, hown, hts⟩ (c_N_hasNextCost l hdl w22 w24 x hn) (gcwV 1 hts q_425 q_422 q_423 q_424 q_6 (by decide +kernel) ⟨(Nat.le_of_ble_eq_true rfl), (Nat.le_of_ble_eq_true rfl)⟩) gNl_ok hN hK hW hS hA (hdl (22) (by unfold kD; omega)) w22 rfl rfl hl.1 rfl (Nat.le_of_ble_eq_true rfl) d_K_unsure_5 ⟨Nat.zero_le _, Nat.zero_le _⟩ (fun r co9 H locs hp9 hW hS => ?_)
  obtain ⟨rfl, hco9⟩ := hp9
  rw [hco9] at hW
  refine n_ifz_eq (tgt := 39) hx hb d_K_unsure_8 (by decide) (fun g1 => ?_) (fun g1 => ?_)
  · refine lv_iconst (v := nI 0) hx hb d_K_unsure_39 (by decide) ?_
    exact g_zret hx hb hr (by rfl) hlocks hW hS (⟨bI_0 (by rw [sUnsure, g1]; rfl), rfl⟩) d_K_unsure_40
  · have g2 : inB x kn = true := by simp only [Bool.and_eq_true] at g1; exact g1.1
    have g1 := g1
    obtain ⟨j, hj, rfl⟩ := inB_of (by omega) g2
    refine lv_aload_n hx hb d_K_unsure_11 rfl (lv_at hl 0 rfl) ?_
    refine g_get (C := R_K) (T := F_K) (N := 13) hx hb hts i_K hown hK hW (i := 0) (hdl (0) (by unfold kD; omega)) w0 rfl 6 (by decide) (hts _ q_186) (fun _ h9 => h9) rfl d_K_unsure_12 ?_
    refine g_get (C := R_N) (T := F_N) (N := 4) hx hb hts i_N hown hK hW (i := 22) (hdl (22) (by unfold kD; omega)) w22 rfl 1 (by decide) (hts _ q_123) (fun _ h9 => h9) rfl d_K_unsure_15 ?_
    refine lv_iload_n hx hb d_K_unsure_18 rfl (lv_at hl 1 rfl) ?_
    refine n_iald hx hb hK hW 0 (q := 24) (hdl (24) (by unfold kD; omega)) w24 rfl (j := j) (by omega) (by omega) d_K_unsure_19 ?_
    refine lv_aload_n hx hb d_K_unsure_20 rfl (lv_at hl 0 rfl) ?_
    refine g_get (C := R_K) (T := F_K) (N := 13) hx hb hts i_K hown hK hW (i := 0) (hdl (0) (by unfold kD; omega)) w0 rfl 6 (by decide) (hts _ q_186) (fun _ h9 => h9) rfl d_K_unsure_21 ?_
    refine g_get (C := R_N) (T := F_N) (N := 4) hx hb hts i_N hown hK hW (i := 22) (hdl (22) (by unfold kD; omega)) w22 rfl 3 (by decide) (hts _ q_127) (fun _ h9 => h9) rfl d_K_unsure_24 ?_
    refine lv_isub hx hb d_K_unsure_27 ?_
    refine lv_aload_n hx hb d_K_unsure_28 rfl (lv_at hl 0 rfl) ?_
    refine g_get (C := R_K) (T := F_K) (N := 13) hx hb hts i_K hown hK hW (i := 0) (hdl (0) (by unfold kD; omega)) w0 rfl 12 (by decide) (hts _ q_192) (fun _ h9 => h9) rfl d_K_unsure_29 ?_
    refine lv_icmp_gt (tgt := 39) hx hb d_K_unsure_32 (by decide) (fun h2 => ?_) (fun h2 => ?_)
    · refine lv_iconst (v := nI 0) hx hb d_K_unsure_39 (by decide) ?_
      exact g_zret hx hb hr (by rfl) hlocks hW hS (⟨bI_0 (by rw [sUnsure, g1, nI_clamp (show j < 2 ^ 31 by omega)]; simp [Int32.not_le.mpr h2]), rfl⟩) d_K_unsure_40
    · refine lv_iconst (v := nI 1) hx hb d_K_unsure_35 (by decide) ?_
      refine lv_goto (tgt := 40) hx hb d_K_unsure_36 (by decide) ?_
      exact g_zret hx hb hr (by rfl) hlocks hW hS (⟨bI_1 (by rw [sUnsure, g1, nI_clamp (show j < 2 ^ 31 by omega)]; simp [Int32.not_lt.mp h2]), rfl⟩) d_K_unsure_40
set_option maxHeartbeats 4000000 in
set_option maxRecDepth 100000 in
/-- tied -/
theorem c_K_tied (l : Launch) {D : va_G} {cI cJ cG : ClassId} {ad : Nat → Nat} {co : Nat → va_E} {dl : List Nat} {a sh mg kn kc : Nat} {kr : Int32}  (hdl : ∀ i, kD a i → i ∈ dl) (w0 : co 0 = oK ad a kr sh mg) (w22 : co 22 = oN ad kn kc) {nx : Nat → Int32} (w24 : co 24 = .inl (cI, 200, .inl nx)) (x : Int32) (hn : kn ≤ 200) (hkc : kc < 2 ^ 31) : gMi l y_K_tied (Cond.code y_K_tied b_K_tied 2 (some .boolean) :: wA) ({ frames := 3, cells := 0, slots := 0, locals := 63 }) D gCl (gTy cI cJ cG) gNl [.ref (ad 0), .int x] ad co dl (fun r co' => r = bI (sTied kn kc nx x) ∧ co' = co) := by
  refine gMi_of (cc := b_K_tied) (maxL := 2) (ret := some .boolean) (by decide) rfl (Nat.le_of_ble_eq_true rfl) ?_
  intro pp ee s mm below meth cd ls hC hW hS hl
  obtain ⟨hx, hb, hr, hts0, hown, hlocks, hml, hK, hN⟩ := hC
  have hts : ∀ w ∈ wA, w.before _ s = true := fun w h => hts0 w (List.mem_cons_of_mem _ h)
  have hA : ∀ q, s.heap.size ≤ q → gA ad co dl s.heap.size q := fun q h => Or.inr h
  have hl : lv_has ls 2 [(0, .ref (ad 0)), (1, .int x)] := hl
  have hown : s.vm.findClass R_K = some mm.cls := hown
  refine lv_aload_n hx hb d_K_tied_0 rfl (lv_at hl 0 rfl) ?_
  refine g_get (C := R_K) (T := F_K) (N := 13) hx hb hts i_K hown hK hW (i := 0) (hdl (0) (by unfold kD; omega)) w0 rfl 6 (by decide) (hts _ q_186) (fun _ h9 => h9) rfl d_K_tied_1 ?_
  refine lv_iload_n hx hb d_K_tied_4 rfl (lv_at hl 1 rfl) ?_
  refine g_cVi (As := [.int x]) (rest := []) ⟨hx, hb, hml, hown, hts⟩ (c_N_hasNextCost l hdl w22 w24 x hn) (gcwV 1 hts q_425 q_422 q_423 q_424 q_6 (by decide +kernel) ⟨(Nat.le_of_ble_eq_true rfl), (Nat.le_of_ble_eq_true rfl)⟩) gNl_ok hN hK hW hS hA (hdl (22) (by unfold kD; omega)) w22 rfl rfl hl.1 rfl (Nat.le_of_ble_eq_true rfl) d_K_tied_5 ⟨Nat.zero_le _, Nat.zero_le _⟩ (fun r co9 H locs hp9 hW hS => ?_)
  obtain ⟨rfl, hco9⟩ := hp9
  rw [hco9] at hW
  refine n_ifz_eq (tgt := 34) hx hb d_K_tied_8 (by decide) (fun g1 => ?_) (fun g1 => ?_)
  · refine lv_iconst (v := nI 0) hx hb d_K_tied_34 (by decide) ?_
    exact g_zret hx hb hr (by rfl) hlocks hW hS (⟨bI_0 (by
      rw [sTied]
      cases h9 : inB x kn with
      | false => rfl
      | true =>
        rw [h9] at g1
        have h8 : nx x.toNatClampNeg = -1 := by simpa using g1
        rw [h8]
        simp only [Bool.true_and, decide_eq_false_iff_not]
        exact fun q => nI_ne_m1 hkc q.symm), rfl⟩) d_K_tied_35
  · have g2 : inB x kn = true := by simp only [Bool.and_eq_true] at g1; exact g1.1
    have g3 := g2
    obtain ⟨j, hj, rfl⟩ := inB_of (by omega) g2
    refine lv_aload_n hx hb d_K_tied_11 rfl (lv_at hl 0 rfl) ?_
    refine g_get (C := R_K) (T := F_K) (N := 13) hx hb hts i_K hown hK hW (i := 0) (hdl (0) (by unfold kD; omega)) w0 rfl 6 (by decide) (hts _ q_186) (fun _ h9 => h9) rfl d_K_tied_12 ?_
    refine g_get (C := R_N) (T := F_N) (N := 4) hx hb hts i_N hown hK hW (i := 22) (hdl (22) (by unfold kD; omega)) w22 rfl 1 (by decide) (hts _ q_123) (fun _ h9 => h9) rfl d_K_tied_15 ?_
    refine lv_iload_n hx hb d_K_tied_18 rfl (lv_at hl 1 rfl) ?_
    refine n_iald hx hb hK hW 0 (q := 24) (hdl (24) (by unfold kD; omega)) w24 rfl (j := j) (by omega) (by omega) d_K_tied_19 ?_
    refine lv_aload_n hx hb d_K_tied_20 rfl (lv_at hl 0 rfl) ?_
    refine g_get (C := R_K) (T := F_K) (N := 13) hx hb hts i_K hown hK hW (i := 0) (hdl (0) (by unfold kD; omega)) w0 rfl 6 (by decide) (hts _ q_186) (fun _ h9 => h9) rfl d_K_tied_21 ?_
    refine g_get (C := R_N) (T := F_N) (N := 4) hx hb hts i_N hown hK hW (i := 22) (hdl (22) (by unfold kD; omega)) w22 rfl 3 (by decide) (hts _ q_127) (fun _ h9 => h9) rfl d_K_tied_24 ?_
    refine lv_icmp_ne (tgt := 34) hx hb d_K_tied_27 (by decide) (fun h2 => ?_) (fun h2 => ?_)
    · refine lv_iconst (v := nI 0) hx hb d_K_tied_34 (by decide) ?_
      exact g_zret hx hb hr (by rfl) hlocks hW hS (⟨bI_0 (by rw [sTied, nI_clamp (show j < 2 ^ 31 by omega)]; simp [h2]), rfl⟩) d_K_tied_35
    · refine lv_iconst (v := nI 1) hx hb d_K_tied_30 (by decide) ?_
      refine lv_goto (tgt := 35) hx hb d_K_tied_31 (by decide) ?_
      exact g_zret hx hb hr (by rfl) hlocks hW hS (⟨bI_1 (by rw [sTied, nI_clamp (show j < 2 ^ 31 by omega)]; simp [h2, g3]), rfl⟩) d_K_tied_35
set_option maxHeartbeats 4000000 in
set_option maxRecDepth 100000 in
/-- margin -/
theorem c_K_margin (l : Launch) {D : va_G} {cI cJ cG : ClassId} {ad : Nat → Nat} {co : Nat → va_E} {dl : List Nat} {a sh mg : Nat} {kr : Int32}  (hdl : ∀ i, kD a i → i ∈ dl) (w0 : co 0 = oK ad a kr sh mg)   (x : Int32) : gMi l y_K_margin (Cond.code y_K_margin b_K_margin 2 (some .boolean) :: wA) ({ frames := 0, cells := 0, slots := 0, locals := 0 }) D gCl (gTy cI cJ cG) gNl [.ref (ad 0), .int x] ad co dl (fun r co' => r = bI (inB x 100001) ∧ co' = if inB x 100001 then va_up co 0 (oK ad a kr sh (x.toNatClampNeg)) else co) := by
  refine gMi_of (cc := b_K_margin) (maxL := 2) (ret := some .boolean) (by decide) rfl (Nat.le_of_ble_eq_true rfl) ?_
  intro pp ee s mm below meth cd ls hC hW hS hl
  obtain ⟨hx, hb, hr, hts0, hown, hlocks, hml, hK, hN⟩ := hC
  have hts : ∀ w ∈ wA, w.before _ s = true := fun w h => hts0 w (List.mem_cons_of_mem _ h)
  have hA : ∀ q, s.heap.size ≤ q → gA ad co dl s.heap.size q := fun q h => Or.inr h
  have hl : lv_has ls 2 [(0, .ref (ad 0)), (1, .int x)] := hl
  have hown : s.vm.findClass R_K = some mm.cls := hown
  refine lv_iload_n hx hb d_K_margin_0 rfl (lv_at hl 1 rfl) ?_
  refine lv_if_lt (tgt := 10) hx hb d_K_margin_1 (by decide) (fun g1 => ?_) (fun g1 => ?_)
  · refine lv_iconst (v := nI 0) hx hb d_K_margin_10 (by decide) ?_
    exact g_zret hx hb hr (by rfl) hlocks hW hS (⟨bI_0 (inB_neg g1), (if_neg (by simp [inB_neg g1])).symm⟩) d_K_margin_11
  · obtain ⟨j, hjp, rfl⟩ := nI_of g1
    refine lv_iload_n hx hb d_K_margin_4 rfl (lv_at hl 1 rfl) ?_
    refine lv_ldc hx hb hown (hts _ q_430) d_K_margin_5 ?_
    refine n_topi (show (100000 : Int32) = nI 100000 by decide) ?_
    refine n_icmp_le (tgt := 12) hx hb (by omega) (by omega) d_K_margin_7 (by decide) (fun hj => ?_) (fun hj => ?_)
    · have g9 : inB (nI j) 100001 = true := inB_lt (by omega) (by decide)
      refine lv_aload_n hx hb d_K_margin_12 rfl (lv_at hl 0 rfl) ?_
      refine lv_iload_n hx hb d_K_margin_13 rfl (lv_at hl 1 rfl) ?_
      refine g_put (ty := .int) (v := .int (nI j)) (C := R_K) (T := F_K) (N := 13) hx hb hts i_K fy_K fy_K_ok fn_K hown hK hW hS (i := 0) (hdl (0) (by unfold kD; omega)) w0 rfl 12 (by decide) (hts _ q_192) (fun _ h9 => h9) rfl (by decide +kernel) rfl rfl (Nat.le_of_ble_eq_true rfl) d_K_margin_14 (fun H locs hW hS => ?_)
      refine lv_iconst (v := nI 1) hx hb d_K_margin_17 (by decide) ?_
      exact g_zret hx hb hr (by rfl) hlocks hW hS (⟨bI_1 g9, by rw [if_pos g9, nI_clamp hjp]; rfl⟩) d_K_margin_18
    · refine lv_iconst (v := nI 0) hx hb d_K_margin_10 (by decide) ?_
      exact g_zret hx hb hr (by rfl) hlocks hW hS (⟨bI_0 (inB_ge hjp (show 100001 ≤ j by omega)), (if_neg (by simp [inB_ge hjp (show 100001 ≤ j by omega)])).symm⟩) d_K_margin_11
set_option maxHeartbeats 4000000 in
set_option maxRecDepth 100000 in
/-- ship -/
theorem c_K_ship (l : Launch) {D : va_G} {cI cJ cG : ClassId} {ad : Nat → Nat} {co : Nat → va_E} {dl : List Nat} {a sh mg : Nat} {kr : Int32}  (hdl : ∀ i, kD a i → i ∈ dl) (w0 : co 0 = oK ad a kr sh mg)   (x : Int32) : gMi l y_K_ship (Cond.code y_K_ship b_K_ship 2 (some .boolean) :: wA) ({ frames := 1, cells := 0, slots := 0, locals := 21 }) D gCl (gTy cI cJ cG) gNl [.ref (ad 0), .int x] ad co dl (fun r co' => r = bI (inB x 10) ∧ co' = if inB x 10 then va_up co 0 (oK ad a kr (x.toNatClampNeg) mg) else co) := by
  refine gMi_of (cc := b_K_ship) (maxL := 2) (ret := some .boolean) (by decide) rfl (Nat.le_of_ble_eq_true rfl) ?_
  intro pp ee s mm below meth cd ls hC hW hS hl
  obtain ⟨hx, hb, hr, hts0, hown, hlocks, hml, hK, hN⟩ := hC
  have hts : ∀ w ∈ wA, w.before _ s = true := fun w h => hts0 w (List.mem_cons_of_mem _ h)
  have hA : ∀ q, s.heap.size ≤ q → gA ad co dl s.heap.size q := fun q h => Or.inr h
  have hl : lv_has ls 2 [(0, .ref (ad 0)), (1, .int x)] := hl
  have hown : s.vm.findClass R_K = some mm.cls := hown
  refine lv_iload_n hx hb d_K_ship_0 rfl (lv_at hl 1 rfl) ?_
  refine lv_bipush (v := nI 10) hx hb d_K_ship_1 (by decide) ?_
  refine g_cSi (As := [.int x, .int (nI 10)]) (rest := []) ⟨hx, hb, hml, hown, hts⟩ (c_K_isBelow l x 10 (by decide)) (gcwS 2 hts q_230 q_228 q_229 q_1 (by decide +kernel) ⟨(Nat.le_of_ble_eq_true rfl), (Nat.le_of_ble_eq_true rfl)⟩) gNl_ok hN hK hW hS hA rfl hl.1 rfl (Nat.le_of_ble_eq_true rfl) d_K_ship_3 ⟨Nat.zero_le _, Nat.zero_le _⟩ (fun r co9 H locs hp9 hW hS => ?_)
  obtain ⟨rfl, hco9⟩ := hp9
  rw [hco9] at hW
  refine n_ifz_ne (tgt := 11) hx hb d_K_ship_6 (by decide) (fun g1 => ?_) (fun g1 => ?_)
  · have g9 := g1
    obtain ⟨j, hj, rfl⟩ := inB_of (by decide) g1
    refine lv_aload_n hx hb d_K_ship_11 rfl (lv_at hl 0 rfl) ?_
    refine lv_iload_n hx hb d_K_ship_12 rfl (lv_at hl 1 rfl) ?_
    refine g_put (ty := .int) (v := .int (nI j)) (C := R_K) (T := F_K) (N := 13) hx hb hts i_K fy_K fy_K_ok fn_K hown hK hW hS (i := 0) (hdl (0) (by unfold kD; omega)) w0 rfl 11 (by decide) (hts _ q_191) (fun _ h9 => h9) rfl (by decide +kernel) rfl rfl (Nat.le_of_ble_eq_true rfl) d_K_ship_13 (fun H locs hW hS => ?_)
    refine lv_iconst (v := nI 1) hx hb d_K_ship_16 (by decide) ?_
    exact g_zret hx hb hr (by rfl) hlocks hW hS (⟨bI_1 g9, by rw [if_pos g9, nI_clamp (show j < 2 ^ 31 by omega)]; rfl⟩) d_K_ship_17
  · refine lv_iconst (v := nI 0) hx hb d_K_ship_9 (by decide) ?_
    exact g_zret hx hb hr (by rfl) hlocks hW hS (⟨bI_0 (g1), (if_neg (by simp [g1])).symm⟩) d_K_ship_10
set_option maxHeartbeats 4000000 in
set_option maxRecDepth 100000 in
/-- map -/
theorem c_K_map (l : Launch) {D : va_G} {cI cJ cG : ClassId} {ad : Nat → Nat} {co : Nat → va_E} {dl : List Nat} {a sh mg ce kn kc : Nat} {kr : Int32}  (hdl : ∀ i, kD a i → i ∈ dl) (w0 : co 0 = oK ad a kr sh mg) (w29 : co 29 = oC ad ce) (w22 : co 22 = oN ad kn kc) {cr : Nat → Int32} {cx : Nat → Int32} {cy : Nat → Int32} {ct : Nat → Int64} {ln : Nat → Int32} (w30 : co 30 = .inl (cI, 300, .inl cr)) (w31 : co 31 = .inl (cI, 300, .inl cx)) (w32 : co 32 = .inl (cI, 300, .inl cy)) (w33 : co 33 = .inl (cJ, 300, .inr (.inl ct))) (w23 : co 23 = .inl (cI, 200, .inl ln)) (x y : Int32) (hn : kn ≤ 200) (hc : ce ≤ 300) (hcr : ∀ i, i < ce → ∃ r, cr i = nI r ∧ r < 200) : gMl l y_K_map (Cond.code y_K_map b_K_map 3 (some .long) :: wA) ({ frames := 4, cells := 0, slots := 0, locals := 89 }) D gCl (gTy cI cJ cG) gNl [.ref (ad 0), .int x, .int y] ad co dl (fun r co' => r = (if 0 < kn ∧ inB x 20 = true ∧ inB y 20 = true then sMap kn ln cr cx cy ct x y ce else -1) ∧ co' = co) := by
  refine gMl_of (cc := b_K_map) (maxL := 3) (ret := some .long) (by decide) rfl (Nat.le_of_ble_eq_true rfl) ?_
  intro pp ee s mm below meth cd ls hC hW hS hl
  obtain ⟨hx, hb, hr, hts0, hown, hlocks, hml, hK, hN⟩ := hC
  have hts : ∀ w ∈ wA, w.before _ s = true := fun w h => hts0 w (List.mem_cons_of_mem _ h)
  have hA : ∀ q, s.heap.size ≤ q → gA ad co dl s.heap.size q := fun q h => Or.inr h
  have hl : lv_has ls 3 [(0, .ref (ad 0)), (1, .int x), (2, .int y)] := hl
  have hown : s.vm.findClass R_K = some mm.cls := hown
  refine lv_iload_n hx hb d_K_map_0 rfl (lv_at hl 1 rfl) ?_
  refine lv_iload_n hx hb d_K_map_1 rfl (lv_at hl 2 rfl) ?_
  refine g_cSi (As := [.int x, .int y]) (rest := []) ⟨hx, hb, hml, hown, hts⟩ (c_K_isOnMap l x y) (gcwS 2 hts q_437 q_435 q_436 q_1 (by decide +kernel) ⟨(Nat.le_of_ble_eq_true rfl), (Nat.le_of_ble_eq_true rfl)⟩) gNl_ok hN hK hW hS hA rfl hl.1 rfl (Nat.le_of_ble_eq_true rfl) d_K_map_2 ⟨Nat.zero_le _, Nat.zero_le _⟩ (fun r co9 H locs hp9 hW hS => ?_)
  obtain ⟨rfl, hco9⟩ := hp9
  rw [hco9] at hW
  refine n_ifz_eq (tgt := 18) hx hb d_K_map_5 (by decide) (fun g1 => ?_) (fun g1 => ?_)
  · refine lv_ldc2 hx hb hown (hts _ q_349) d_K_map_18 ?_
    exact g_lret hx hb hr hlocks hW hS (⟨by rw [if_neg (fun q => by simp [q.2.1, q.2.2] at g1)], rfl⟩) d_K_map_21
  · refine lv_aload_n hx hb d_K_map_8 rfl (lv_at hl 0 rfl) ?_
    refine g_get (C := R_K) (T := F_K) (N := 13) hx hb hts i_K hown hK hW (i := 0) (hdl (0) (by unfold kD; omega)) w0 rfl 6 (by decide) (hts _ q_186) (fun _ h9 => h9) rfl d_K_map_9 ?_
    refine g_cVi (As := []) (rest := []) ⟨hx, hb, hml, hown, hts⟩ (c_N_exists l hdl w22 hn) (gcwV 0 hts q_310 q_307 q_308 q_309 q_6 (by decide +kernel) ⟨(Nat.le_of_ble_eq_true rfl), (Nat.le_of_ble_eq_true rfl)⟩) gNl_ok hN hK hW hS hA (hdl (22) (by unfold kD; omega)) w22 rfl rfl hl.1 rfl (Nat.le_of_ble_eq_true rfl) d_K_map_12 ⟨Nat.zero_le _, Nat.zero_le _⟩ (fun r co9 H locs hp9 hW hS => ?_)
    obtain ⟨rfl, hco9⟩ := hp9
    rw [hco9] at hW
    refine n_ifz_ne (tgt := 22) hx hb d_K_map_15 (by decide) (fun g2 => ?_) (fun g2 => ?_)
    · refine lv_aload_n hx hb d_K_map_22 rfl (lv_at hl 0 rfl) ?_
      refine g_get (C := R_K) (T := F_K) (N := 13) hx hb hts i_K hown hK hW (i := 0) (hdl (0) (by unfold kD; omega)) w0 rfl 8 (by decide) (hts _ q_188) (fun _ h9 => h9) rfl d_K_map_23 ?_
      refine lv_iload_n hx hb d_K_map_26 rfl (lv_at hl 1 rfl) ?_
      refine lv_iload_n hx hb d_K_map_27 rfl (lv_at hl 2 rfl) ?_
      refine lv_aload_n hx hb d_K_map_28 rfl (lv_at hl 0 rfl) ?_
      refine g_get (C := R_K) (T := F_K) (N := 13) hx hb hts i_K hown hK hW (i := 0) (hdl (0) (by unfold kD; omega)) w0 rfl 6 (by decide) (hts _ q_186) (fun _ h9 => h9) rfl d_K_map_29 ?_
      refine g_cVl (As := [.int x, .int y, .ref (ad 22)]) (rest := []) ⟨hx, hb, hml, hown, hts⟩ (c_C_haulingSeconds l hdl w29 w22 w30 w31 w32 w33 w23 x y hn hc hcr) (gcwV 3 hts q_441 q_438 q_439 q_440 q_8 (by decide +kernel) ⟨(Nat.le_of_ble_eq_true rfl), (Nat.le_of_ble_eq_true rfl)⟩) gNl_ok hN hK hW hS hA (hdl (29) (by unfold kD; omega)) w29 rfl rfl hl.1 rfl (Nat.le_of_ble_eq_true rfl) d_K_map_32 ⟨Nat.zero_le _, Nat.zero_le _⟩ (fun r co9 H locs hp9 hW hS => ?_)
      obtain ⟨rfl, hco9⟩ := hp9
      rw [hco9] at hW
      exact g_lret hx hb hr hlocks hW hS (⟨by simp only [Bool.and_eq_true] at g1; rw [if_pos ⟨of_decide_eq_true g2, g1⟩], rfl⟩) d_K_map_35
    · refine lv_ldc2 hx hb hown (hts _ q_349) d_K_map_18 ?_
      exact g_lret hx hb hr hlocks hW hS (⟨by rw [if_neg (fun q => by simp [q.1] at g2)], rfl⟩) d_K_map_21
set_option maxHeartbeats 4000000 in
set_option maxRecDepth 100000 in
/-- cell -/
theorem c_K_cell (l : Launch) {D : va_G} {cI cJ cG : ClassId} {ad : Nat → Nat} {co : Nat → va_E} {dl : List Nat} {a sh mg n ce : Nat} {kr : Int32}  (hdl : ∀ i, kD a i → i ∈ dl) (w0 : co 0 = oK ad a kr sh mg) (w1 : co 1 = oT ad n) (w29 : co 29 = oC ad ce) {cr : Nat → Int32} {cx : Nat → Int32} {cy : Nat → Int32} {ct : Nat → Int64} (w30 : co 30 = .inl (cI, 300, .inl cr)) (w31 : co 31 = .inl (cI, 300, .inl cx)) (w32 : co 32 = .inl (cI, 300, .inl cy)) (w33 : co 33 = .inl (cJ, 300, .inr (.inl ct))) (k x y : Int32) (z : Int64) (hn : n ≤ 200) (hc : ce ≤ 300) : gMi l y_K_cell (Cond.code y_K_cell b_K_cell 6 (some .boolean) :: wA) ({ frames := 2, cells := 0, slots := 0, locals := 42 }) D gCl (gTy cI cJ cG) gNl [.ref (ad 0), .int k, .int x, .int y, .long z] ad co dl (fun r co' => r = bI (okCell n ce k x y z) ∧ co' = if okCell n ce k x y z then va_up (va_up (va_up (va_up (va_up co 30 (.inl (cI, 300, .inl (upd cr ce k)))) 31 (.inl (cI, 300, .inl (upd cx ce x)))) 32 (.inl (cI, 300, .inl (upd cy ce y)))) 33 (.inl (cJ, 300, .inr (.inl (vp_updL ct ce z))))) 29 (oC ad (ce + 1)) else co) := by
  refine gMi_of (cc := b_K_cell) (maxL := 6) (ret := some .boolean) (by decide) rfl (Nat.le_of_ble_eq_true rfl) ?_
  intro pp ee s mm below meth cd ls hC hW hS hl
  obtain ⟨hx, hb, hr, hts0, hown, hlocks, hml, hK, hN⟩ := hC
  have hts : ∀ w ∈ wA, w.before _ s = true := fun w h => hts0 w (List.mem_cons_of_mem _ h)
  have hA : ∀ q, s.heap.size ≤ q → gA ad co dl s.heap.size q := fun q h => Or.inr h
  have hl : lv_has ls 6 [(0, .ref (ad 0)), (1, .int k), (2, .int x), (3, .int y), (4, .long z)] := hl
  have hown : s.vm.findClass R_K = some mm.cls := hown
  refine lv_iload_n hx hb d_K_cell_0 rfl (lv_at hl 1 rfl) ?_
  refine lv_aload_n hx hb d_K_cell_1 rfl (lv_at hl 0 rfl) ?_
  refine g_get (C := R_K) (T := F_K) (N := 13) hx hb hts i_K hown hK hW (i := 0) (hdl (0) (by unfold kD; omega)) w0 rfl 1 (by decide) (hts _ q_181) (fun _ h9 => h9) rfl d_K_cell_2 ?_
  refine g_get (C := R_T) (T := F_T) (N := 6) hx hb hts i_T hown hK hW (i := 1) (hdl (1) (by unfold kD; omega)) w1 rfl 5 (by decide) (hts _ q_46) (fun _ h9 => h9) rfl d_K_cell_5 ?_
  refine g_cSi (As := [.int k, .int (nI n)]) (rest := []) ⟨hx, hb, hml, hown, hts⟩ (c_K_isBelow l k n (by omega)) (gcwS 2 hts q_230 q_228 q_229 q_1 (by decide +kernel) ⟨(Nat.le_of_ble_eq_true rfl), (Nat.le_of_ble_eq_true rfl)⟩) gNl_ok hN hK hW hS hA rfl hl.1 rfl (Nat.le_of_ble_eq_true rfl) d_K_cell_8 ⟨Nat.zero_le _, Nat.zero_le _⟩ (fun r co9 H locs hp9 hW hS => ?_)
  obtain ⟨rfl, hco9⟩ := hp9
  rw [hco9] at hW
  refine n_ifz_eq (tgt := 22) hx hb d_K_cell_11 (by decide) (fun g1 => ?_) (fun g1 => ?_)
  · refine lv_iconst (v := nI 0) hx hb d_K_cell_22 (by decide) ?_
    exact g_zret hx hb hr (by rfl) hlocks hW hS (⟨bI_0 (by simp [okCell, g1]), (if_neg (by rw [show okCell n ce k x y z = false by simp [okCell, g1]]; decide)).symm⟩) d_K_cell_23
  · refine lv_iload_n hx hb d_K_cell_14 rfl (lv_at hl 2 rfl) ?_
    refine lv_iload_n hx hb d_K_cell_15 rfl (lv_at hl 3 rfl) ?_
    refine g_cSi (As := [.int x, .int y]) (rest := []) ⟨hx, hb, hml, hown, hts⟩ (c_K_isOnMap l x y) (gcwS 2 hts q_437 q_435 q_436 q_1 (by decide +kernel) ⟨(Nat.le_of_ble_eq_true rfl), (Nat.le_of_ble_eq_true rfl)⟩) gNl_ok hN hK hW hS hA rfl hl.1 rfl (Nat.le_of_ble_eq_true rfl) d_K_cell_16 ⟨Nat.zero_le _, Nat.zero_le _⟩ (fun r co9 H locs hp9 hW hS => ?_)
    obtain ⟨rfl, hco9⟩ := hp9
    rw [hco9] at hW
    refine n_ifz_ne (tgt := 24) hx hb d_K_cell_19 (by decide) (fun g2 => ?_) (fun g2 => ?_)
    · refine lv_lload hx hb d_K_cell_24 (lv_at hl 4 rfl) ?_
      refine lv_lconst (v := 1) hx hb d_K_cell_26 (by decide) ?_
      refine W.lcmp hx hb d_K_cell_27 ?_
      refine lv_if_lt (tgt := 53) hx hb d_K_cell_28 (by decide) (fun h3 => ?_) (fun h3 => ?_)
      · refine lv_iconst (v := nI 0) hx hb d_K_cell_53 (by decide) ?_
        exact g_zret hx hb hr (by rfl) hlocks hW hS (⟨bI_0 (by simp [okCell, L_nlt (lc_lt h3)]), (if_neg (by rw [show okCell n ce k x y z = false by simp [okCell, L_nlt (lc_lt h3)]]; decide)).symm⟩) d_K_cell_54
      · refine lv_lload hx hb d_K_cell_31 (lv_at hl 4 rfl) ?_
        refine lv_ldc2 hx hb hown (hts _ q_447) d_K_cell_33 ?_
        refine W.lcmp hx hb d_K_cell_36 ?_
        refine lv_if_gt (tgt := 53) hx hb d_K_cell_37 (by decide) (fun h4 => ?_) (fun h4 => ?_)
        · refine lv_iconst (v := nI 0) hx hb d_K_cell_53 (by decide) ?_
          exact g_zret hx hb hr (by rfl) hlocks hW hS (⟨bI_0 (by simp [okCell, L_nlt (lc_gt h4)]), (if_neg (by rw [show okCell n ce k x y z = false by simp [okCell, L_nlt (lc_gt h4)]]; decide)).symm⟩) d_K_cell_54
        · refine lv_aload_n hx hb d_K_cell_40 rfl (lv_at hl 0 rfl) ?_
          refine g_get (C := R_K) (T := F_K) (N := 13) hx hb hts i_K hown hK hW (i := 0) (hdl (0) (by unfold kD; omega)) w0 rfl 8 (by decide) (hts _ q_188) (fun _ h9 => h9) rfl d_K_cell_41 ?_
          refine g_get (C := R_C) (T := F_C) (N := 5) hx hb hts i_C hown hK hW (i := 29) (hdl (29) (by unfold kD; omega)) w29 rfl 4 (by decide) (hts _ q_168) (fun _ h9 => h9) rfl d_K_cell_44 ?_
          refine lv_sipush (v := nI 300) hx hb d_K_cell_47 (by decide) ?_
          refine n_icmp_lt (tgt := 55) hx hb (by omega) (by omega) d_K_cell_50 (by decide) (fun h5 => ?_) (fun h5 => ?_)
          · have g9 : okCell n ce k x y z = true := by simp only [Bool.and_eq_true] at g2; simp [okCell, g1, g2.1, g2.2, lc_nlt h3, lc_ngt h4, h5]
            refine lv_aload_n hx hb d_K_cell_55 rfl (lv_at hl 0 rfl) ?_
            refine g_get (C := R_K) (T := F_K) (N := 13) hx hb hts i_K hown hK hW (i := 0) (hdl (0) (by unfold kD; omega)) w0 rfl 8 (by decide) (hts _ q_188) (fun _ h9 => h9) rfl d_K_cell_56 ?_
            refine lv_iload_n hx hb d_K_cell_59 rfl (lv_at hl 1 rfl) ?_
            refine lv_iload_n hx hb d_K_cell_60 rfl (lv_at hl 2 rfl) ?_
            refine lv_iload_n hx hb d_K_cell_61 rfl (lv_at hl 3 rfl) ?_
            refine lv_lload hx hb d_K_cell_62 (lv_at hl 4 rfl) ?_
            refine g_cVv (As := [.int k, .int x, .int y, .long z]) (rest := []) ⟨hx, hb, hml, hown, hts⟩ (c_C_add l hdl w29 w30 w31 w32 w33 k x y z h5) (gcwV 4 hts q_451 q_448 q_449 q_450 q_8 (by decide +kernel) ⟨(Nat.le_of_ble_eq_true rfl), (Nat.le_of_ble_eq_true rfl)⟩) gNl_ok hN hK hW hS hA (hdl (29) (by unfold kD; omega)) w29 rfl rfl hl.1 rfl (Nat.le_of_ble_eq_true rfl) d_K_cell_64 ⟨Nat.zero_le _, Nat.zero_le _⟩ (fun co9 H locs hp9 hW hS => ?_)
            rw [hp9] at hW
            refine lv_iconst (v := nI 1) hx hb d_K_cell_67 (by decide) ?_
            exact g_zret hx hb hr (by rfl) hlocks hW hS (⟨bI_1 g9, by rw [if_pos g9]⟩) d_K_cell_68
          · refine lv_iconst (v := nI 0) hx hb d_K_cell_53 (by decide) ?_
            exact g_zret hx hb hr (by rfl) hlocks hW hS (⟨bI_0 (by simp [okCell, show ¬ ce < 300 by omega]), (if_neg (by rw [show okCell n ce k x y z = false by simp [okCell, show ¬ ce < 300 by omega]]; decide)).symm⟩) d_K_cell_54
    · refine lv_iconst (v := nI 0) hx hb d_K_cell_22 (by decide) ?_
      exact g_zret hx hb hr (by rfl) hlocks hW hS (⟨bI_0 (by rw [okCell, Bool.and_assoc (inB k n), g2, Bool.and_false]; rfl), (if_neg (by rw [show okCell n ce k x y z = false by rw [okCell, Bool.and_assoc (inB k n), g2, Bool.and_false]; rfl]; decide)).symm⟩) d_K_cell_23
set_option maxHeartbeats 4000000 in
set_option maxRecDepth 100000 in
/-- total -/
theorem c_K_total (l : Launch) {D : va_G} {cI cJ cG : ClassId} {ad : Nat → Nat} {co : Nat → va_E} {dl : List Nat} {a sh mg kn kc n : Nat} {kr : Int32}  (hdl : ∀ i, kD a i → i ∈ dl) (w0 : co 0 = oK ad a kr sh mg) (w22 : co 22 = oN ad kn kc) (w1 : co 1 = oT ad n) {sec : Nat → Int64} (w2 : co 2 = .inl (cJ, 200, .inr (.inl sec))) (hn : kn ≤ 200) : gMl l y_K_total (Cond.code y_K_total b_K_total 1 (some .long) :: wA) ({ frames := 1, cells := 0, slots := 0, locals := 20 }) D gCl (gTy cI cJ cG) gNl [.ref (ad 0)] ad co dl (fun r co' => r = sTotal kn sec ∧ co' = co) := by
  refine gMl_of (cc := b_K_total) (maxL := 1) (ret := some .long) (by decide) rfl (Nat.le_of_ble_eq_true rfl) ?_
  intro pp ee s mm below meth cd ls hC hW hS hl
  obtain ⟨hx, hb, hr, hts0, hown, hlocks, hml, hK, hN⟩ := hC
  have hts : ∀ w ∈ wA, w.before _ s = true := fun w h => hts0 w (List.mem_cons_of_mem _ h)
  have hA : ∀ q, s.heap.size ≤ q → gA ad co dl s.heap.size q := fun q h => Or.inr h
  have hl : lv_has ls 1 [(0, .ref (ad 0))] := hl
  have hown : s.vm.findClass R_K = some mm.cls := hown
  refine lv_aload_n hx hb d_K_total_0 rfl (lv_at hl 0 rfl) ?_
  refine g_get (C := R_K) (T := F_K) (N := 13) hx hb hts i_K hown hK hW (i := 0) (hdl (0) (by unfold kD; omega)) w0 rfl 6 (by decide) (hts _ q_186) (fun _ h9 => h9) rfl d_K_total_1 ?_
  refine g_cVi (As := []) (rest := []) ⟨hx, hb, hml, hown, hts⟩ (c_N_exists l hdl w22 hn) (gcwV 0 hts q_310 q_307 q_308 q_309 q_6 (by decide +kernel) ⟨(Nat.le_of_ble_eq_true rfl), (Nat.le_of_ble_eq_true rfl)⟩) gNl_ok hN hK hW hS hA (hdl (22) (by unfold kD; omega)) w22 rfl rfl hl.1 rfl (Nat.le_of_ble_eq_true rfl) d_K_total_4 ⟨Nat.zero_le _, Nat.zero_le _⟩ (fun r co9 H locs hp9 hW hS => ?_)
  obtain ⟨rfl, hco9⟩ := hp9
  rw [hco9] at hW
  refine n_ifz_eq (tgt := 40) hx hb d_K_total_7 (by decide) (fun g1 => ?_) (fun g1 => ?_)
  · refine lv_ldc2 hx hb hown (hts _ q_349) d_K_total_40 ?_
    exact g_lret hx hb hr hlocks hW hS (⟨by simp only [decide_eq_false_iff_not] at g1; rw [sTotal, if_pos (by omega)], rfl⟩) d_K_total_43
  · have hk0 := of_decide_eq_true g1
    refine lv_aload_n hx hb d_K_total_10 rfl (lv_at hl 0 rfl) ?_
    refine g_get (C := R_K) (T := F_K) (N := 13) hx hb hts i_K hown hK hW (i := 0) (hdl (0) (by unfold kD; omega)) w0 rfl 1 (by decide) (hts _ q_181) (fun _ h9 => h9) rfl d_K_total_11 ?_
    refine g_get (C := R_T) (T := F_T) (N := 6) hx hb hts i_T hown hK hW (i := 1) (hdl (1) (by unfold kD; omega)) w1 rfl 0 (by decide) (hts _ q_33) (fun _ h9 => h9) rfl d_K_total_14 ?_
    refine lv_aload_n hx hb d_K_total_17 rfl (lv_at hl 0 rfl) ?_
    refine g_get (C := R_K) (T := F_K) (N := 13) hx hb hts i_K hown hK hW (i := 0) (hdl (0) (by unfold kD; omega)) w0 rfl 6 (by decide) (hts _ q_186) (fun _ h9 => h9) rfl d_K_total_18 ?_
    refine g_get (C := R_N) (T := F_N) (N := 4) hx hb hts i_N hown hK hW (i := 22) (hdl (22) (by unfold kD; omega)) w22 rfl 2 (by decide) (hts _ q_125) (fun _ h9 => h9) rfl d_K_total_21 ?_
    refine lv_iconst (v := nI 1) hx hb d_K_total_24 (by decide) ?_
    refine n_sub hx hb (by omega) d_K_total_25 ?_
    refine n_lald hx hb hK hW 1 (q := 2) (hdl (2) (by unfold kD; omega)) w2 rfl (j := kn - 1) (by omega) (by omega) d_K_total_26 ?_
    refine lv_aload_n hx hb d_K_total_27 rfl (lv_at hl 0 rfl) ?_
    refine g_get (C := R_K) (T := F_K) (N := 13) hx hb hts i_K hown hK hW (i := 0) (hdl (0) (by unfold kD; omega)) w0 rfl 1 (by decide) (hts _ q_181) (fun _ h9 => h9) rfl d_K_total_28 ?_
    refine g_get (C := R_T) (T := F_T) (N := 6) hx hb hts i_T hown hK hW (i := 1) (hdl (1) (by unfold kD; omega)) w1 rfl 0 (by decide) (hts _ q_33) (fun _ h9 => h9) rfl d_K_total_31 ?_
    refine lv_iconst (v := nI 0) hx hb d_K_total_34 (by decide) ?_
    refine n_lald hx hb hK hW 1 (q := 2) (hdl (2) (by unfold kD; omega)) w2 rfl (j := 0) (by omega) (by omega) d_K_total_35 ?_
    refine lv_lsub hx hb d_K_total_36 ?_
    refine lv_goto (tgt := 43) hx hb d_K_total_37 (by decide) ?_
    exact g_lret hx hb hr hlocks hW hS (⟨by rw [sTotal, if_neg (by omega)], rfl⟩) d_K_total_43
set_option maxHeartbeats 4000000 in
set_option maxRecDepth 100000 in
/-- night -/
theorem c_K_night (l : Launch) {D : va_G} {cI cJ cG : ClassId} {ad : Nat → Nat} {co : Nat → va_E} {dl : List Nat} {a sh mg n : Nat} {kr : Int32}  (hdl : ∀ i, kD a i → i ∈ dl) (w0 : co 0 = oK ad a kr sh mg) (w1 : co 1 = oT ad n) {sec : Nat → Int64} (w2 : co 2 = .inl (cJ, 200, .inr (.inl sec))) (x : Int32) (hn : n ≤ 200) : gMi l y_K_night (Cond.code y_K_night b_K_night 4 (some .int) :: wA) ({ frames := 1, cells := 0, slots := 0, locals := 21 }) D gCl (gTy cI cJ cG) gNl [.ref (ad 0), .int x] ad co dl (fun r co' => r = (if inB x n then sNight (sec x.toNatClampNeg) else -1) ∧ co' = co) := by
  refine gMi_of (cc := b_K_night) (maxL := 4) (ret := some .int) (by decide) rfl (Nat.le_of_ble_eq_true rfl) ?_
  intro pp ee s mm below meth cd ls hC hW hS hl
  obtain ⟨hx, hb, hr, hts0, hown, hlocks, hml, hK, hN⟩ := hC
  have hts : ∀ w ∈ wA, w.before _ s = true := fun w h => hts0 w (List.mem_cons_of_mem _ h)
  have hA : ∀ q, s.heap.size ≤ q → gA ad co dl s.heap.size q := fun q h => Or.inr h
  have hl : lv_has ls 4 [(0, .ref (ad 0)), (1, .int x)] := hl
  have hown : s.vm.findClass R_K = some mm.cls := hown
  refine lv_iload_n hx hb d_K_night_0 rfl (lv_at hl 1 rfl) ?_
  refine lv_aload_n hx hb d_K_night_1 rfl (lv_at hl 0 rfl) ?_
  refine g_get (C := R_K) (T := F_K) (N := 13) hx hb hts i_K hown hK hW (i := 0) (hdl (0) (by unfold kD; omega)) w0 rfl 1 (by decide) (hts _ q_181) (fun _ h9 => h9) rfl d_K_night_2 ?_
  refine g_get (C := R_T) (T := F_T) (N := 6) hx hb hts i_T hown hK hW (i := 1) (hdl (1) (by unfold kD; omega)) w1 rfl 5 (by decide) (hts _ q_46) (fun _ h9 => h9) rfl d_K_night_5 ?_
  refine g_cSi (As := [.int x, .int (nI n)]) (rest := []) ⟨hx, hb, hml, hown, hts⟩ (c_K_isBelow l x n (by omega)) (gcwS 2 hts q_230 q_228 q_229 q_1 (by decide +kernel) ⟨(Nat.le_of_ble_eq_true rfl), (Nat.le_of_ble_eq_true rfl)⟩) gNl_ok hN hK hW hS hA rfl hl.1 rfl (Nat.le_of_ble_eq_true rfl) d_K_night_8 ⟨Nat.zero_le _, Nat.zero_le _⟩ (fun r co9 H locs hp9 hW hS => ?_)
  obtain ⟨rfl, hco9⟩ := hp9
  rw [hco9] at hW
  refine n_ifz_ne (tgt := 16) hx hb d_K_night_11 (by decide) (fun g1 => ?_) (fun g1 => ?_)
  · obtain ⟨j, hj, rfl⟩ := inB_of (by omega) g1
    rw [if_pos g1, nI_clamp (show j < 2 ^ 31 by omega)]
    refine lv_aload_n hx hb d_K_night_16 rfl (lv_at hl 0 rfl) ?_
    refine g_get (C := R_K) (T := F_K) (N := 13) hx hb hts i_K hown hK hW (i := 0) (hdl (0) (by unfold kD; omega)) w0 rfl 1 (by decide) (hts _ q_181) (fun _ h9 => h9) rfl d_K_night_17 ?_
    refine g_get (C := R_T) (T := F_T) (N := 6) hx hb hts i_T hown hK hW (i := 1) (hdl (1) (by unfold kD; omega)) w1 rfl 0 (by decide) (hts _ q_33) (fun _ h9 => h9) rfl d_K_night_20 ?_
    refine lv_iload_n hx hb d_K_night_23 rfl (lv_at hl 1 rfl) ?_
    refine n_lald hx hb hK hW 1 (q := 2) (hdl (2) (by unfold kD; omega)) w2 rfl (j := j) (by omega) (by omega) d_K_night_24 ?_
    refine lv_ldc2 hx hb hown (hts _ q_476) d_K_night_25 ?_
    refine lv_lrem hx hb d_K_night_28 (by decide) ?_
    refine lv_lstore_n (lv' := [(2, .long (sec j - sec j / 86400 * 86400)), (0, .ref (ad 0)), (1, .int (nI j))]) hx hb d_K_night_29 rfl hl (by decide) rfl (fun ls hl => ?_)
    refine lv_lload_n hx hb d_K_night_30 rfl (lv_at hl 0 rfl) ?_
    refine lv_ldc2 hx hb hown (hts _ q_477) d_K_night_31 ?_
    refine W.lcmp hx hb d_K_night_34 ?_
    refine lv_if_lt (tgt := 46) hx hb d_K_night_35 (by decide) (fun h1 => ?_) (fun h1 => ?_)
    · refine lv_iconst (v := nI 1) hx hb d_K_night_46 (by decide) ?_
      refine lv_goto (tgt := 51) hx hb d_K_night_47 (by decide) ?_
      exact g_iret hx hb hr hlocks hW hS (⟨bI_1 (by simp [lc_lt h1]), rfl⟩) d_K_night_51
    · refine lv_lload_n hx hb d_K_night_38 rfl (lv_at hl 0 rfl) ?_
      refine lv_ldc2 hx hb hown (hts _ q_478) d_K_night_39 ?_
      refine W.lcmp hx hb d_K_night_42 ?_
      refine lv_if_lt (tgt := 50) hx hb d_K_night_43 (by decide) (fun h2 => ?_) (fun h2 => ?_)
      · refine lv_iconst (v := nI 0) hx hb d_K_night_50 (by decide) ?_
        exact g_iret hx hb hr hlocks hW hS (⟨bI_0 (by simp [L_nle (lc_nlt h1), L_nlt (lc_lt h2)]), rfl⟩) d_K_night_51
      · refine lv_iconst (v := nI 1) hx hb d_K_night_46 (by decide) ?_
        refine lv_goto (tgt := 51) hx hb d_K_night_47 (by decide) ?_
        exact g_iret hx hb hr hlocks hW hS (⟨bI_1 (by simp [lc_nlt h2]), rfl⟩) d_K_night_51
  · refine lv_iconst (v := (-1)) hx hb d_K_night_14 (by decide) ?_
    exact g_iret hx hb hr hlocks hW hS (⟨by simp [g1], rfl⟩) d_K_night_15
