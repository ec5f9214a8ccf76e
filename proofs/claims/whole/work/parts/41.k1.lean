set_option maxRecDepth 20000 in
theorem qm_min : Cond.code Lib.Math.min.name Lib.Math.min.code 2 (some .int) ∈ wA := q_22
set_option maxRecDepth 20000 in
theorem qm_max : Cond.code Lib.Math.max.name Lib.Math.max.code 2 (some .int) ∈ wA := q_25
theorem nI_min {x y : Nat} (hx : x < 2 ^ 31) (hy : y < 2 ^ 31) : (if nI y < nI x then nI y else nI x) = nI (min x y) := by
  by_cases h : y < x
  · rw [if_pos ((nI_ltI hy hx).mpr h)]; congr 1; omega
  · rw [if_neg (fun q => h ((nI_ltI hy hx).mp q))]; congr 1; omega
theorem nI_max {x y : Nat} (hx : x < 2 ^ 31) (hy : y < 2 ^ 31) : (if nI x < nI y then nI y else nI x) = nI (max x y) := by
  by_cases h : x < y
  · rw [if_pos ((nI_ltI hx hy).mpr h)]; congr 1; omega
  · rw [if_neg (fun q => h ((nI_ltI hx hy).mp q))]; congr 1; omega
set_option maxHeartbeats 4000000 in
set_option maxRecDepth 100000 in
/-- Arrays.fill -/
theorem c_JA_fill (l : Launch) {D : va_G} {cI cJ cG : ClassId} {ad : Nat → Nat} {co : Nat → va_E} {dl : List Nat} {q n : Nat} {f : Nat → Int32} (hq : q ∈ dl) (hf : co q = .inl (cI, n, .inl f)) (hn : n < 2 ^ 31) (x : Int32) : gMv l y_JA_fill (Cond.code y_JA_fill b_JA_fill 4 none :: wA) ({ frames := 0, cells := 0, slots := 0, locals := 0 }) D gCl (gTy cI cJ cG) gNl [.ref (ad q), .int x] ad co dl (fun co' => co' = va_up co q (.inl (cI, n, .inl (fun j => if j < n then x else f j)))) := by
  refine gMv_of (cc := b_JA_fill) (maxL := 4) (ret := none) (by decide) rfl (Nat.le_of_ble_eq_true rfl) ?_
  intro pp ee s mm below meth cd ls hC hW hS hl
  obtain ⟨hx, hb, hr, hts0, hown, hlocks, hml, hK, hN⟩ := hC
  have hts : ∀ w ∈ wA, w.before _ s = true := fun w h => hts0 w (List.mem_cons_of_mem _ h)
  have hA : ∀ q, s.heap.size ≤ q → gA ad co dl s.heap.size q := fun q h => Or.inr h
  have hl : lv_has ls 4 [(0, .ref (ad q)), (1, .int x)] := hl
  have hown : s.vm.findClass R_JA = some mm.cls := hown
  have hW := gW_eq (show co = va_up co q (.inl (cI, n, .inl f)) from by funext i; by_cases h : i = q; (subst h; rw [va_up_self]; exact hf); rw [va_up_ne _ _ h]) hW
  refine lv_iconst (v := nI 0) hx hb d_JA_fill_0 (by decide) ?_
  refine lv_istore_n (lv' := [(2, .int (nI 0)), (0, .ref (ad q)), (1, .int x)]) hx hb d_JA_fill_1 rfl hl (by decide) rfl (fun ls hl => ?_)
  refine lv_aload_n hx hb d_JA_fill_2 rfl (lv_at hl 1 rfl) ?_
  refine g_alen hx hb hK hW 0 (q := q) hq (va_up_self _ _ _) rfl (v := nI n) rfl d_JA_fill_3 ?_
  refine lv_istore_n (lv' := [(3, .int (nI n)), (2, .int (nI 0)), (0, .ref (ad q)), (1, .int x)]) hx hb d_JA_fill_4 rfl hl (by decide) rfl (fun ls hl => ?_)
  suffices hloop : ∀ (d k : Nat) (g : Nat → Int32) (H : Heap) (locs : List Loc) (ls : Array Slot), (k ≤ n) → (n + 1 ≤ k + d) → (∀ j, g j = if j < k then x else f j) → gW D gCl (gA ad co dl s.heap.size) ad (va_up co q (.inl (cI, n, .inl g))) dl H → va_S (gA ad co dl s.heap.size) s.heap H locs → lv_has ls 4 [(0, .ref (ad q)), (1, .int x), (2, .int (nI k)), (3, .int (nI n))] → W pp l ee _ s mm _ below meth cd H locs 0 0 _ (F0 mm 5 ls []) by
    exact hloop (n + 1) 0 f _ _ ls (by omega) (by omega) (fun _ => rfl) hW hS (lv_sub hl [2, 3, 1, 0] rfl)
  clear hW hS hl
  intro d
  induction d with
  | zero => intro k g H locs ls hk hd hg; omega
  | succ d ih =>
    intro k g H locs ls hk hd hg hW hS hl
    refine lv_iload_n hx hb d_JA_fill_5 rfl (lv_at hl 2 rfl) ?_
    refine lv_iload_n hx hb d_JA_fill_6 rfl (lv_at hl 3 rfl) ?_
    refine n_icmp_ge (tgt := 20) hx hb (by omega) (by omega) d_JA_fill_7 (by decide) (fun h1 => ?_) (fun h1 => ?_)
    · have hkn : k = n := by omega
      rw [hkn] at hg
      exact g_vret hx hb hr hlocks hW hS (by rw [show g = (fun j => if j < n then x else f j) from funext hg]) d_JA_fill_20
    · refine lv_aload_n hx hb d_JA_fill_10 rfl (lv_at hl 0 rfl) ?_
      refine lv_iload_n hx hb d_JA_fill_11 rfl (lv_at hl 2 rfl) ?_
      refine lv_iload_n hx hb d_JA_fill_12 rfl (lv_at hl 1 rfl) ?_
      refine n_iast (x := x) hx hb hK hW hS 0 (q := q) hq (va_up_self _ _ _) rfl (j := k) (by omega) (by omega) d_JA_fill_13 (fun H locs hW hS => ?_)
      rw [show va_up (va_up co q (.inl (cI, n, .inl g))) q (.inl (cI, n, .inl (upd g k x))) = va_up co q (.inl (cI, n, .inl (upd g k x))) from bx_uu _ _ _ _] at hW
      refine n_iinc (lv' := [(2, .int (nI (k + 1))), (0, .ref (ad q)), (1, .int x), (3, .int (nI n))]) hx hb d_JA_fill_14 hl (k := 2) rfl (by decide) rfl (fun ls hl => ?_)
      refine lv_goto (tgt := 5) hx hb d_JA_fill_17 (by decide) ?_
      refine ih (k + 1) (upd g k x) _ _ ls (by omega) (by omega) (fun j => ?_) hW hS (lv_sub hl [1, 2, 0, 3] rfl)
      by_cases hj : j = k
      · subst hj; rw [pk_us, if_pos (by omega)]
      · rw [pk_un hj, hg j]
        by_cases hj2 : j < k
        · rw [if_pos hj2, if_pos (by omega)]
        · rw [if_neg hj2, if_neg (by omega)]
set_option maxHeartbeats 4000000 in
set_option maxRecDepth 100000 in
/-- isBelow -/
theorem c_K_isBelow (l : Launch) {D : va_G} {cI cJ cG : ClassId} {ad : Nat → Nat} {co : Nat → va_E} {dl : List Nat} (x : Int32) (n : Nat) (hn : n < 2 ^ 31) : gMi l y_K_isBelow (Cond.code y_K_isBelow b_K_isBelow 2 (some .boolean) :: wA) ({ frames := 0, cells := 0, slots := 0, locals := 0 }) D gCl (gTy cI cJ cG) gNl [.int x, .int (nI n)] ad co dl (fun r co' => r = bI (inB x n) ∧ co' = co) := by
  refine gMi_of (cc := b_K_isBelow) (maxL := 2) (ret := some .boolean) (by decide) rfl (Nat.le_of_ble_eq_true rfl) ?_
  intro pp ee s mm below meth cd ls hC hW hS hl
  obtain ⟨hx, hb, hr, hts0, hown, hlocks, hml, hK, hN⟩ := hC
  have hts : ∀ w ∈ wA, w.before _ s = true := fun w h => hts0 w (List.mem_cons_of_mem _ h)
  have hA : ∀ q, s.heap.size ≤ q → gA ad co dl s.heap.size q := fun q h => Or.inr h
  have hl : lv_has ls 2 [(0, .int x), (1, .int (nI n))] := hl
  have hown : s.vm.findClass R_K = some mm.cls := hown
  refine lv_iload_n hx hb d_K_isBelow_0 rfl (lv_at hl 0 rfl) ?_
  refine lv_if_lt (tgt := 13) hx hb d_K_isBelow_1 (by decide) (fun h1 => ?_) (fun h1 => ?_)
  · refine lv_iconst (v := nI 0) hx hb d_K_isBelow_13 (by decide) ?_
    exact g_zret hx hb hr (by rfl) hlocks hW hS (⟨bI_0 (inB_neg h1), rfl⟩) d_K_isBelow_14
  · obtain ⟨j, hj, rfl⟩ := nI_of h1
    refine lv_iload_n hx hb d_K_isBelow_4 rfl (lv_at hl 0 rfl) ?_
    refine lv_iload_n hx hb d_K_isBelow_5 rfl (lv_at hl 1 rfl) ?_
    refine n_icmp_ge (tgt := 13) hx hb (by omega) (by omega) d_K_isBelow_6 (by decide) (fun h2 => ?_) (fun h2 => ?_)
    · refine lv_iconst (v := nI 0) hx hb d_K_isBelow_13 (by decide) ?_
      exact g_zret hx hb hr (by rfl) hlocks hW hS (⟨bI_0 (inB_ge hj h2), rfl⟩) d_K_isBelow_14
    · refine lv_iconst (v := nI 1) hx hb d_K_isBelow_9 (by decide) ?_
      refine lv_goto (tgt := 14) hx hb d_K_isBelow_10 (by decide) ?_
      exact g_zret hx hb hr (by rfl) hlocks hW hS (⟨bI_1 (inB_lt h2 hn), rfl⟩) d_K_isBelow_14
set_option maxHeartbeats 4000000 in
set_option maxRecDepth 100000 in
/-- isCost -/
theorem c_K_isCost (l : Launch) {D : va_G} {cI cJ cG : ClassId} {ad : Nat → Nat} {co : Nat → va_E} {dl : List Nat} (x : Int32) : gMi l y_K_isCost (Cond.code y_K_isCost b_K_isCost 1 (some .boolean) :: wA) ({ frames := 0, cells := 0, slots := 0, locals := 0 }) D gCl (gTy cI cJ cG) gNl [.int x] ad co dl (fun r co' => r = bI (inB x 10001) ∧ co' = co) := by
  refine gMi_of (cc := b_K_isCost) (maxL := 1) (ret := some .boolean) (by decide) rfl (Nat.le_of_ble_eq_true rfl) ?_
  intro pp ee s mm below meth cd ls hC hW hS hl
  obtain ⟨hx, hb, hr, hts0, hown, hlocks, hml, hK, hN⟩ := hC
  have hts : ∀ w ∈ wA, w.before _ s = true := fun w h => hts0 w (List.mem_cons_of_mem _ h)
  have hA : ∀ q, s.heap.size ≤ q → gA ad co dl s.heap.size q := fun q h => Or.inr h
  have hl : lv_has ls 1 [(0, .int x)] := hl
  have hown : s.vm.findClass R_K = some mm.cls := hown
  refine lv_iload_n hx hb d_K_isCost_0 rfl (lv_at hl 0 rfl) ?_
  refine lv_if_lt (tgt := 15) hx hb d_K_isCost_1 (by decide) (fun h1 => ?_) (fun h1 => ?_)
  · refine lv_iconst (v := nI 0) hx hb d_K_isCost_15 (by decide) ?_
    exact g_zret hx hb hr (by rfl) hlocks hW hS (⟨bI_0 (inB_neg h1), rfl⟩) d_K_isCost_16
  · obtain ⟨j, hj, rfl⟩ := nI_of h1
    refine lv_iload_n hx hb d_K_isCost_4 rfl (lv_at hl 0 rfl) ?_
    refine lv_sipush (v := nI 10000) hx hb d_K_isCost_5 (by decide) ?_
    refine n_icmp_gt (tgt := 15) hx hb (by omega) (by omega) d_K_isCost_8 (by decide) (fun h2 => ?_) (fun h2 => ?_)
    · refine lv_iconst (v := nI 0) hx hb d_K_isCost_15 (by decide) ?_
      exact g_zret hx hb hr (by rfl) hlocks hW hS (⟨bI_0 (inB_ge hj (show 10001 ≤ j by omega)), rfl⟩) d_K_isCost_16
    · refine lv_iconst (v := nI 1) hx hb d_K_isCost_11 (by decide) ?_
      refine lv_goto (tgt := 16) hx hb d_K_isCost_12 (by decide) ?_
      exact g_zret hx hb hr (by rfl) hlocks hW hS (⟨bI_1 (inB_lt (show j < 10001 by omega) (by decide)), rfl⟩) d_K_isCost_16
set_option maxHeartbeats 4000000 in
set_option maxRecDepth 100000 in
/-- isOnMap -/
theorem c_K_isOnMap (l : Launch) {D : va_G} {cI cJ cG : ClassId} {ad : Nat → Nat} {co : Nat → va_E} {dl : List Nat} (x y : Int32) : gMi l y_K_isOnMap (Cond.code y_K_isOnMap b_K_isOnMap 2 (some .boolean) :: wA) ({ frames := 1, cells := 0, slots := 0, locals := 21 }) D gCl (gTy cI cJ cG) gNl [.int x, .int y] ad co dl (fun r co' => r = bI (inB x 20 && inB y 20) ∧ co' = co) := by
  refine gMi_of (cc := b_K_isOnMap) (maxL := 2) (ret := some .boolean) (by decide) rfl (Nat.le_of_ble_eq_true rfl) ?_
  intro pp ee s mm below meth cd ls hC hW hS hl
  obtain ⟨hx, hb, hr, hts0, hown, hlocks, hml, hK, hN⟩ := hC
  have hts : ∀ w ∈ wA, w.before _ s = true := fun w h => hts0 w (List.mem_cons_of_mem _ h)
  have hA : ∀ q, s.heap.size ≤ q → gA ad co dl s.heap.size q := fun q h => Or.inr h
  have hl : lv_has ls 2 [(0, .int x), (1, .int y)] := hl
  have hown : s.vm.findClass R_K = some mm.cls := hown
  refine lv_iload_n hx hb d_K_isOnMap_0 rfl (lv_at hl 0 rfl) ?_
  refine lv_bipush (v := nI 20) hx hb d_K_isOnMap_1 (by decide) ?_
  refine g_cSi (As := [.int x, .int (nI 20)]) (rest := []) ⟨hx, hb, hml, hown, hts⟩ (c_K_isBelow l x 20 (by decide)) (gcwS 2 hts q_230 q_228 q_229 q_1 (by decide +kernel) ⟨(Nat.le_of_ble_eq_true rfl), (Nat.le_of_ble_eq_true rfl)⟩) gNl_ok hN hK hW hS hA rfl hl.1 rfl (Nat.le_of_ble_eq_true rfl) d_K_isOnMap_3 ⟨Nat.zero_le _, Nat.zero_le _⟩ (fun r co9 H locs hp9 hW hS => ?_)
  obtain ⟨rfl, hco9⟩ := hp9
  rw [hco9] at hW
  refine n_ifz_eq (tgt := 22) hx hb d_K_isOnMap_6 (by decide) (fun h1 => ?_) (fun h1 => ?_)
  · refine lv_iconst (v := nI 0) hx hb d_K_isOnMap_22 (by decide) ?_
    exact g_zret hx hb hr (by rfl) hlocks hW hS (⟨bI_0 (by simp [h1]), rfl⟩) d_K_isOnMap_23
  · refine lv_iload_n hx hb d_K_isOnMap_9 rfl (lv_at hl 1 rfl) ?_
    refine lv_bipush (v := nI 20) hx hb d_K_isOnMap_10 (by decide) ?_
    refine g_cSi (As := [.int y, .int (nI 20)]) (rest := []) ⟨hx, hb, hml, hown, hts⟩ (c_K_isBelow l y 20 (by decide)) (gcwS 2 hts q_230 q_228 q_229 q_1 (by decide +kernel) ⟨(Nat.le_of_ble_eq_true rfl), (Nat.le_of_ble_eq_true rfl)⟩) gNl_ok hN hK hW hS hA rfl hl.1 rfl (Nat.le_of_ble_eq_true rfl) d_K_isOnMap_12 ⟨Nat.zero_le _, Nat.zero_le _⟩ (fun r co9 H locs hp9 hW hS => ?_)
    obtain ⟨rfl, hco9⟩ := hp9
    rw [hco9] at hW
    refine n_ifz_eq (tgt := 22) hx hb d_K_isOnMap_15 (by decide) (fun h2 => ?_) (fun h2 => ?_)
    · refine lv_iconst (v := nI 0) hx hb d_K_isOnMap_22 (by decide) ?_
      exact g_zret hx hb hr (by rfl) hlocks hW hS (⟨bI_0 (by simp [h2]), rfl⟩) d_K_isOnMap_23
    · refine lv_iconst (v := nI 1) hx hb d_K_isOnMap_18 (by decide) ?_
      refine lv_goto (tgt := 23) hx hb d_K_isOnMap_19 (by decide) ?_
      exact g_zret hx hb hr (by rfl) hlocks hW hS (⟨bI_1 (by simp [h1, h2]), rfl⟩) d_K_isOnMap_23
set_option maxHeartbeats 4000000 in
set_option maxRecDepth 100000 in
/-- isAct -/
theorem c_K_isAct (l : Launch) {D : va_G} {cI cJ cG : ClassId} {ad : Nat → Nat} {co : Nat → va_E} {dl : List Nat} {a sh mg : Nat} {kr : Int32}  (hdl : ∀ i, kD a i → i ∈ dl) (w0 : co 0 = oK ad a kr sh mg)   (x : Int32) (ha : a ≤ 12) : gMi l y_K_isAct (Cond.code y_K_isAct b_K_isAct 2 (some .boolean) :: wA) ({ frames := 1, cells := 0, slots := 0, locals := 21 }) D gCl (gTy cI cJ cG) gNl [.ref (ad 0), .int x] ad co dl (fun r co' => r = bI (inB x a) ∧ co' = co) := by
  refine gMi_of (cc := b_K_isAct) (maxL := 2) (ret := some .boolean) (by decide) rfl (Nat.le_of_ble_eq_true rfl) ?_
  intro pp ee s mm below meth cd ls hC hW hS hl
  obtain ⟨hx, hb, hr, hts0, hown, hlocks, hml, hK, hN⟩ := hC
  have hts : ∀ w ∈ wA, w.before _ s = true := fun w h => hts0 w (List.mem_cons_of_mem _ h)
  have hA : ∀ q, s.heap.size ≤ q → gA ad co dl s.heap.size q := fun q h => Or.inr h
  have hl : lv_has ls 2 [(0, .ref (ad 0)), (1, .int x)] := hl
  have hown : s.vm.findClass R_K = some mm.cls := hown
  refine lv_iload_n hx hb d_K_isAct_0 rfl (lv_at hl 1 rfl) ?_
  refine lv_aload_n hx hb d_K_isAct_1 rfl (lv_at hl 0 rfl) ?_
  refine g_get (C := R_K) (T := F_K) (N := 13) hx hb hts i_K hown hK hW (i := 0) (hdl (0) (by unfold kD; omega)) w0 rfl 0 (by decide) (hts _ q_180) (fun _ h9 => h9) rfl d_K_isAct_2 ?_
  refine g_cSi (As := [.int x, .int (nI a)]) (rest := []) ⟨hx, hb, hml, hown, hts⟩ (c_K_isBelow l x a (by omega)) (gcwS 2 hts q_230 q_228 q_229 q_1 (by decide +kernel) ⟨(Nat.le_of_ble_eq_true rfl), (Nat.le_of_ble_eq_true rfl)⟩) gNl_ok hN hK hW hS hA rfl hl.1 rfl (Nat.le_of_ble_eq_true rfl) d_K_isAct_5 ⟨Nat.zero_le _, Nat.zero_le _⟩ (fun r co9 H locs hp9 hW hS => ?_)
  obtain ⟨rfl, hco9⟩ := hp9
  rw [hco9] at hW
  exact g_zret hx hb hr (bI_narrow _) hlocks hW hS (⟨rfl, rfl⟩) d_K_isAct_8
set_option maxHeartbeats 4000000 in
set_option maxRecDepth 100000 in
/-- has -/
theorem c_N_has (l : Launch) {D : va_G} {cI cJ cG : ClassId} {ad : Nat → Nat} {co : Nat → va_E} {dl : List Nat} {a kn kc : Nat}  (hdl : ∀ i, kD a i → i ∈ dl) (w22 : co 22 = oN ad kn kc)   (x : Int32) (hn : kn ≤ 200) : gMi l y_N_has (Cond.code y_N_has b_N_has 2 (some .boolean) :: wA) ({ frames := 1, cells := 0, slots := 0, locals := 21 }) D gCl (gTy cI cJ cG) gNl [.ref (ad 22), .int x] ad co dl (fun r co' => r = bI (inB x kn) ∧ co' = co) := by
  refine gMi_of (cc := b_N_has) (maxL := 2) (ret := some .boolean) (by decide) rfl (Nat.le_of_ble_eq_true rfl) ?_
  intro pp ee s mm below meth cd ls hC hW hS hl
  obtain ⟨hx, hb, hr, hts0, hown, hlocks, hml, hK, hN⟩ := hC
  have hts : ∀ w ∈ wA, w.before _ s = true := fun w h => hts0 w (List.mem_cons_of_mem _ h)
  have hA : ∀ q, s.heap.size ≤ q → gA ad co dl s.heap.size q := fun q h => Or.inr h
  have hl : lv_has ls 2 [(0, .ref (ad 22)), (1, .int x)] := hl
  have hown : s.vm.findClass R_N = some mm.cls := hown
  refine lv_iload_n hx hb d_N_has_0 rfl (lv_at hl 1 rfl) ?_
  refine lv_aload_n hx hb d_N_has_1 rfl (lv_at hl 0 rfl) ?_
  refine g_get (C := R_N) (T := F_N) (N := 4) hx hb hts i_N hown hK hW (i := 22) (hdl (22) (by unfold kD; omega)) w22 rfl 2 (by decide) (hts _ q_124) (fun _ h9 => h9) rfl d_N_has_2 ?_
  refine g_cSNi (As := [.int x, .int (nI kn)]) (rest := []) ⟨hx, hb, hml, hown, hts⟩ (c_K_isBelow l x kn (by omega)) (gcwSN 2 hts q_230 (hN _ qn_302) q_229 q_1 (by decide +kernel) ⟨(Nat.le_of_ble_eq_true rfl), (Nat.le_of_ble_eq_true rfl)⟩) gNl_ok hN hK hW hS hA rfl hl.1 rfl (Nat.le_of_ble_eq_true rfl) d_N_has_5 ⟨Nat.zero_le _, Nat.zero_le _⟩ (fun r co9 H locs hp9 hW hS => ?_)
  obtain ⟨rfl, hco9⟩ := hp9
  rw [hco9] at hW
  exact g_zret hx hb hr (bI_narrow _) hlocks hW hS (⟨rfl, rfl⟩) d_N_has_8
set_option maxHeartbeats 4000000 in
set_option maxRecDepth 100000 in
/-- exists -/
theorem c_N_exists (l : Launch) {D : va_G} {cI cJ cG : ClassId} {ad : Nat → Nat} {co : Nat → va_E} {dl : List Nat} {a kn kc : Nat}  (hdl : ∀ i, kD a i → i ∈ dl) (w22 : co 22 = oN ad kn kc)   (hn : kn ≤ 200) : gMi l y_N_exists (Cond.code y_N_exists b_N_exists 1 (some .boolean) :: wA) ({ frames := 0, cells := 0, slots := 0, locals := 0 }) D gCl (gTy cI cJ cG) gNl [.ref (ad 22)] ad co dl (fun r co' => r = bI (decide (0 < kn)) ∧ co' = co) := by
  refine gMi_of (cc := b_N_exists) (maxL := 1) (ret := some .boolean) (by decide) rfl (Nat.le_of_ble_eq_true rfl) ?_
  intro pp ee s mm below meth cd ls hC hW hS hl
  obtain ⟨hx, hb, hr, hts0, hown, hlocks, hml, hK, hN⟩ := hC
  have hts : ∀ w ∈ wA, w.before _ s = true := fun w h => hts0 w (List.mem_cons_of_mem _ h)
  have hA : ∀ q, s.heap.size ≤ q → gA ad co dl s.heap.size q := fun q h => Or.inr h
  have hl : lv_has ls 1 [(0, .ref (ad 22))] := hl
  have hown : s.vm.findClass R_N = some mm.cls := hown
  refine lv_aload_n hx hb d_N_exists_0 rfl (lv_at hl 0 rfl) ?_
  refine g_get (C := R_N) (T := F_N) (N := 4) hx hb hts i_N hown hK hW (i := 22) (hdl (22) (by unfold kD; omega)) w22 rfl 2 (by decide) (hts _ q_124) (fun _ h9 => h9) rfl d_N_exists_1 ?_
  refine n_if_le (tgt := 11) hx hb (by omega) d_N_exists_4 (by decide) (fun h1 => ?_) (fun h1 => ?_)
  · refine lv_iconst (v := nI 0) hx hb d_N_exists_11 (by decide) ?_
    exact g_zret hx hb hr (by rfl) hlocks hW hS (⟨bI_0 (decide_eq_false (by omega)), rfl⟩) d_N_exists_12
  · refine lv_iconst (v := nI 1) hx hb d_N_exists_7 (by decide) ?_
    refine lv_goto (tgt := 12) hx hb d_N_exists_8 (by decide) ?_
    exact g_zret hx hb hr (by rfl) hlocks hW hS (⟨bI_1 (decide_eq_true h1), rfl⟩) d_N_exists_12
set_option maxHeartbeats 4000000 in
set_option maxRecDepth 100000 in
/-- isHauling -/
theorem c_N_isHauling (l : Launch) {D : va_G} {cI cJ cG : ClassId} {ad : Nat → Nat} {co : Nat → va_E} {dl : List Nat} {a kn kc : Nat}  (hdl : ∀ i, kD a i → i ∈ dl) (w22 : co 22 = oN ad kn kc) {ln : Nat → Int32} (w23 : co 23 = .inl (cI, 200, .inl ln)) (x : Int32) (hn : kn ≤ 200) : gMi l y_N_isHauling (Cond.code y_N_isHauling b_N_isHauling 2 (some .boolean) :: wA) ({ frames := 2, cells := 0, slots := 0, locals := 42 }) D gCl (gTy cI cJ cG) gNl [.ref (ad 22), .int x] ad co dl (fun r co' => r = bI (inB x kn && decide (ln x.toNatClampNeg = nI 3)) ∧ co' = co) := by
  refine gMi_of (cc := b_N_isHauling) (maxL := 2) (ret := some .boolean) (by decide) rfl (Nat.le_of_ble_eq_true rfl) ?_
  intro pp ee s mm below meth cd ls hC hW hS hl
  obtain ⟨hx, hb, hr, hts0, hown, hlocks, hml, hK, hN⟩ := hC
  have hts : ∀ w ∈ wA, w.before _ s = true := fun w h => hts0 w (List.mem_cons_of_mem _ h)
  have hA : ∀ q, s.heap.size ≤ q → gA ad co dl s.heap.size q := fun q h => Or.inr h
  have hl : lv_has ls 2 [(0, .ref (ad 22)), (1, .int x)] := hl
  have hown : s.vm.findClass R_N = some mm.cls := hown
  refine lv_aload_n hx hb d_N_isHauling_0 rfl (lv_at hl 0 rfl) ?_
  refine lv_iload_n hx hb d_N_isHauling_1 rfl (lv_at hl 1 rfl) ?_
  refine g_cVi (As := [.int x]) (rest := []) ⟨hx, hb, hml, hown, hts⟩ (c_N_has l hdl w22 x hn) (gcwV 1 hts q_301 q_391 q_299 q_300 q_6 (by decide +kernel) ⟨(Nat.le_of_ble_eq_true rfl), (Nat.le_of_ble_eq_true rfl)⟩) gNl_ok hN hK hW hS hA (hdl (22) (by unfold kD; omega)) w22 rfl rfl hl.1 rfl (Nat.le_of_ble_eq_true rfl) d_N_isHauling_2 ⟨Nat.zero_le _, Nat.zero_le _⟩ (fun r co9 H locs hp9 hW hS => ?_)
  obtain ⟨rfl, hco9⟩ := hp9
  rw [hco9] at hW
  refine n_ifz_eq (tgt := 22) hx hb d_N_isHauling_5 (by decide) (fun g1 => ?_) (fun g1 => ?_)
  · refine lv_iconst (v := nI 0) hx hb d_N_isHauling_22 (by decide) ?_
    exact g_zret hx hb hr (by rfl) hlocks hW hS (⟨bI_0 (by simp [g1]), rfl⟩) d_N_isHauling_23
  · obtain ⟨j, hj, rfl⟩ := inB_of (by omega) g1
    refine lv_aload_n hx hb d_N_isHauling_8 rfl (lv_at hl 0 rfl) ?_
    refine g_get (C := R_N) (T := F_N) (N := 4) hx hb hts i_N hown hK hW (i := 22) (hdl (22) (by unfold kD; omega)) w22 rfl 0 (by decide) (hts _ q_120) (fun _ h9 => h9) rfl d_N_isHauling_9 ?_
    refine lv_iload_n hx hb d_N_isHauling_12 rfl (lv_at hl 1 rfl) ?_
    refine n_iald hx hb hK hW 0 (q := 23) (hdl (23) (by unfold kD; omega)) w23 rfl (j := j) (by omega) (by omega) d_N_isHauling_13 ?_
    refine lv_iconst (v := nI 3) hx hb d_N_isHauling_14 (by decide) ?_
    refine lv_icmp_ne (tgt := 22) hx hb d_N_isHauling_15 (by decide) (fun h2 => ?_) (fun h2 => ?_)
    · refine lv_iconst (v := nI 0) hx hb d_N_isHauling_22 (by decide) ?_
      exact g_zret hx hb hr (by rfl) hlocks hW hS (⟨bI_0 (by simp [nI_clamp (show j < 2 ^ 31 by omega), h2]), rfl⟩) d_N_isHauling_23
    · refine lv_iconst (v := nI 1) hx hb d_N_isHauling_18 (by decide) ?_
      refine lv_goto (tgt := 23) hx hb d_N_isHauling_19 (by decide) ?_
      exact g_zret hx hb hr (by rfl) hlocks hW hS (⟨bI_1 (by simp [g1, nI_clamp (show j < 2 ^ 31 by omega), h2]), rfl⟩) d_N_isHauling_23
set_option maxHeartbeats 4000000 in
set_option maxRecDepth 100000 in
/-- hasNextCost -/
theorem c_N_hasNextCost (l : Launch) {D : va_G} {cI cJ cG : ClassId} {ad : Nat → Nat} {co : Nat → va_E} {dl : List Nat} {a kn kc : Nat}  (hdl : ∀ i, kD a i → i ∈ dl) (w22 : co 22 = oN ad kn kc) {nx : Nat → Int32} (w24 : co 24 = .inl (cI, 200, .inl nx)) (x : Int32) (hn : kn ≤ 200) : gMi l y_N_hasNextCost (Cond.code y_N_hasNextCost b_N_hasNextCost 2 (some .boolean) :: wA) ({ frames := 2, cells := 0, slots := 0, locals := 42 }) D gCl (gTy cI cJ cG) gNl [.ref (ad 22), .int x] ad co dl (fun r co' => r = bI (inB x kn && decide (¬ nx x.toNatClampNeg = -1)) ∧ co' = co) := by
  refine gMi_of (cc := b_N_hasNextCost) (maxL := 2) (ret := some .boolean) (by decide) rfl (Nat.le_of_ble_eq_true rfl) ?_
  intro pp ee s mm below meth cd ls hC hW hS hl
  obtain ⟨hx, hb, hr, hts0, hown, hlocks, hml, hK, hN⟩ := hC
  have hts : ∀ w ∈ wA, w.before _ s = true := fun w h => hts0 w (List.mem_cons_of_mem _ h)
  have hA : ∀ q, s.heap.size ≤ q → gA ad co dl s.heap.size q := fun q h => Or.inr h
  have hl : lv_has ls 2 [(0, .ref (ad 22)), (1, .int x)] := hl
  have hown : s.vm.findClass R_N = some mm.cls := hown
  refine lv_aload_n hx hb d_N_hasNextCost_0 rfl (lv_at hl 0 rfl) ?_
  refine lv_iload_n hx hb d_N_hasNextCost_1 rfl (lv_at hl 1 rfl) ?_
  refine g_cVi (As := [.int x]) (rest := []) ⟨hx, hb, hml, hown, hts⟩ (c_N_has l hdl w22 x hn) (gcwV 1 hts q_301 q_391 q_299 q_300 q_6 (by decide +kernel) ⟨(Nat.le_of_ble_eq_true rfl), (Nat.le_of_ble_eq_true rfl)⟩) gNl_ok hN hK hW hS hA (hdl (22) (by unfold kD; omega)) w22 rfl rfl hl.1 rfl (Nat.le_of_ble_eq_true rfl) d_N_hasNextCost_2 ⟨Nat.zero_le _, Nat.zero_le _⟩ (fun r co9 H locs hp9 hW hS => ?_)
  obtain ⟨rfl, hco9⟩ := hp9
  rw [hco9] at hW
  refine n_ifz_eq (tgt := 22) hx hb d_N_hasNextCost_5 (by decide) (fun g1 => ?_) (fun g1 => ?_)
  · refine lv_iconst (v := nI 0) hx hb d_N_hasNextCost_22 (by decide) ?_
    exact g_zret hx hb hr (by rfl) hlocks hW hS (⟨bI_0 (by simp [g1]), rfl⟩) d_N_hasNextCost_23
  · obtain ⟨j, hj, rfl⟩ := inB_of (by omega) g1
    refine lv_aload_n hx hb d_N_hasNextCost_8 rfl (lv_at hl 0 rfl) ?_
    refine g_get (C := R_N) (T := F_N) (N := 4) hx hb hts i_N hown hK hW (i := 22) (hdl (22) (by unfold kD; omega)) w22 rfl 1 (by decide) (hts _ q_122) (fun _ h9 => h9) rfl d_N_hasNextCost_9 ?_
    refine lv_iload_n hx hb d_N_hasNextCost_12 rfl (lv_at hl 1 rfl) ?_
    refine n_iald hx hb hK hW 0 (q := 24) (hdl (24) (by unfold kD; omega)) w24 rfl (j := j) (by omega) (by omega) d_N_hasNextCost_13 ?_
    refine lv_iconst (v := (-1)) hx hb d_N_hasNextCost_14 (by decide) ?_
    refine lv_icmp_eq (tgt := 22) hx hb d_N_hasNextCost_15 (by decide) (fun h2 => ?_) (fun h2 => ?_)
    · refine lv_iconst (v := nI 0) hx hb d_N_hasNextCost_22 (by decide) ?_
      exact g_zret hx hb hr (by rfl) hlocks hW hS (⟨bI_0 (by simp [nI_clamp (show j < 2 ^ 31 by omega), h2]), rfl⟩) d_N_hasNextCost_23
    · refine lv_iconst (v := nI 1) hx hb d_N_hasNextCost_18 (by decide) ?_
      refine lv_goto (tgt := 23) hx hb d_N_hasNextCost_19 (by decide) ?_
      exact g_zret hx hb hr (by rfl) hlocks hW hS (⟨bI_1 (by simp [g1, nI_clamp (show j < 2 ^ 31 by omega), h2]), rfl⟩) d_N_hasNextCost_23
