set_option maxHeartbeats 4000000 in
set_option maxRecDepth 100000 in
/-- search -/
theorem c_M_search (l : Launch) {D : va_G} {cI cJ cG : ClassId} {ad : Nat → Nat} {co : Nat → va_E} {dl : List Nat} {a rw sh pg ce mg kn cs sm : Nat} (hdl : ∀ i, 400 ≤ i → i < 427 → i ∈ dl) (h400 : co 400 = mO ad a rw sh pg ce mg kn cs sm) {fm : Nat → Int32} {fs : Nat → Int32} {cls : Nat → Int32} {shp : Nat → Int32} {tr : Nat → Int32} {so : Nat → Int32} {lg : Nat → Int32} {sc : Nat → Int32} {lc : Nat → Int32} {fd : Nat → Int32} (h401 : co 401 = .inl (cI, 144, .inl fm)) (h402 : co 402 = .inl (cI, 120, .inl fs)) (h406 : co 406 = .inl (cI, 200, .inl cls)) (h408 : co 408 = .inl (cI, 200, .inl shp)) (h409 : co 409 = .inl (cI, 200, .inl tr)) (h420 : co 420 = .inl (cI, 2400, .inl so)) (h421 : co 421 = .inl (cI, 2400, .inl lg)) (h422 : co 422 = .inl (cI, 12, .inl sc)) (h423 : co 423 = .inl (cI, 12, .inl lc)) (h426 : co 426 = .inl (cI, 200, .inl fd)) {cl : Nat → Nat} {mv sp : Nat → Nat → Nat} (w : Int32) (ha : a ≤ 12) (hok : okN a (alw tr shp w) cl mv sp rw) (hcl : ∀ k, k < rw → cls k = nI (cl k) ∧ cl k < 10) (hmv : ∀ i j, i < a → j < a → fm (12 * i + j) = nI (mv i j)) (hsp : ∀ i c, i < a → c < 10 → fs (10 * i + c) = nI (sp i c)) (hsh : ∀ k, k < rw → shp k ≠ -1) : gMi l y_M_search (Cond.code y_M_search b_M_search 8 (some .int) :: wA) ({ frames := 1, cells := 0, slots := 0, locals := 24 }) D gCl (gTy cI cJ cG) gNl [.ref (ad 400), .int w] ad co dl (fun r co' => ∃ f420 f421 f422 f423 f426 : Nat → Int32, co' = wS cI cJ co f420 f421 f422 f423 f426 ∧ r = nI (bcs a (alw tr shp w) cl mv sp rw) ∧ ∀ k, k < rw → f426 k = nI (bln a (alw tr shp w) cl mv sp rw k)) := by
  refine gMi_of (cc := b_M_search) (maxL := 8) (ret := some .int) (by decide) rfl (Nat.le_of_ble_eq_true rfl) ?_
  intro pp ee s mm below meth cd ls hC hW hS hl
  obtain ⟨hx, hb, hr, hts0, hown, hlocks, hml, hK, hN⟩ := hC
  have hts : ∀ w ∈ wA, w.before _ s = true := fun w h => hts0 w (List.mem_cons_of_mem _ h)
  have hA : ∀ q, s.heap.size ≤ q → gA ad co dl s.heap.size q := fun q h => Or.inr h
  have hl : lv_has ls 8 [(0, .ref (ad 400)), (1, .int w)] := hl
  have hown : s.vm.findClass R_M = some mm.cls := hown
  have hn0 : 0 < rw := hok.1
  have hn2 : rw ≤ 200 := hok.2.1
  have ha0 : 0 < a := hok.2.2.1
  have hW := gW_eq (wS_self (cJ := cJ) h420 h421 h422 h423 h426) hW
  refine lv_iconst (v := nI 0) hx hb d_M_search_0 (by decide) ?_
  refine lv_istore_n (lv' := [(2, .int (nI 0)), (0, .ref (ad 400)), (1, .int w)]) hx hb d_M_search_1 rfl hl (by decide) rfl (fun ls hl => ?_)
  suffices hloop : ∀ (d z : Nat) (S C : Nat → Int32) (H : Heap) (locs : List Loc) (ls : Array Slot), (z ≤ a) → (a + 1 ≤ z + d) → (∀ b, b < z → (C b = nI (if (alw tr shp w) 0 b then sp b (cl 0) else BIG)) ∧ S (200 * b) = nI b) → gW D gCl (gA ad co dl s.heap.size) ad (wS cI cJ co S lg C lc fd) dl H → va_S (gA ad co dl s.heap.size) s.heap H locs → lv_has ls 8 [(0, .ref (ad 400)), (1, .int w), (2, .int (nI z))] → W pp l ee _ s mm _ below meth cd H locs 0 0 _ (F0 mm 2 ls []) by
    exact hloop (a + 1) 0 so sc _ _ ls (by omega) (by omega) (fun b h => absurd h (Nat.not_lt_zero b)) hW hS (lv_sub hl [1, 2, 0] rfl)
  clear hW hS hl
  intro d
  induction d with
  | zero => intro z S C H locs ls hz hd hi; omega
  | succ d ih =>
    intro z S C H locs ls hz hd hi hW hS hl
    refine lv_iload_n hx hb d_M_search_2 rfl (lv_at hl 2 rfl) ?_
    refine lv_aload_n hx hb d_M_search_3 rfl (lv_at hl 0 rfl) ?_
    refine g_get (C := R_M) (T := F_M) (N := 35) hx hb hts i_M hown hK hW (i := 400) (hdl 400 (by decide) (by decide)) ((wS_o (by decide)).trans h400) rfl 0 (by decide) (hts _ q_488) (fun _ h9 => h9) rfl d_M_search_4 ?_
    refine n_icmp_ge (tgt := 64) hx hb (by omega) (by omega) d_M_search_7 (by decide) (fun h1 => ?_) (fun h1 => ?_)
    · have hza : z = a := by omega
      rw [hza] at hi
      have hI : ∃ P, sInv a (alw tr shp w) cl mv sp 0 a P S C := by
        refine ⟨fun b _ => b, fun b hb => ⟨fun hal => ?_, fun hal => ?_⟩⟩
        · have := hi b hb
          rw [if_pos hal] at this
          exact ⟨opt_0 hb hal rfl, this.1, fun i hi9 => by rw [Nat.le_zero.mp hi9]; exact this.2⟩
        · have := hi b hb
          rw [if_neg (by rw [hal]; decide)] at this
          exact this.1
      clear hi hz hd h1 ih hza
      obtain ⟨P, hI⟩ := hI
      refine lv_iconst (v := nI 1) hx hb d_M_search_64 (by decide) ?_
      refine lv_istore_n (lv' := [(2, .int (nI 1)), (0, .ref (ad 400)), (1, .int w)]) hx hb d_M_search_65 rfl hl (by decide) rfl (fun ls hl => ?_)
      suffices hloop : ∀ (d k : Nat) (P : Nat → Nat → Nat) (S Lg C LC : Nat → Int32) (H : Heap) (locs : List Loc) (ls : Array Slot), (k < rw) → (rw ≤ k + d) → (sInv a (alw tr shp w) cl mv sp k a P S C) → gW D gCl (gA ad co dl s.heap.size) ad (wS cI cJ co S Lg C LC fd) dl H → va_S (gA ad co dl s.heap.size) s.heap H locs → lv_has ls 8 [(0, .ref (ad 400)), (1, .int w), (2, .int (nI (k + 1)))] → W pp l ee _ s mm _ below meth cd H locs 0 0 _ (F0 mm 66 ls []) by
        exact hloop rw 0 P S lg C lc _ _ ls hn0 (by omega) hI hW hS (lv_sub hl [1, 2, 0] rfl)
      clear hW hS hl
      intro d
      induction d with
      | zero => intro k P S Lg C LC H locs ls hk hd hI; omega
      | succ d ih2 =>
        intro k P S Lg C LC H locs ls hk hd hI hW hS hl
        refine lv_iload_n hx hb d_M_search_66 rfl (lv_at hl 2 rfl) ?_
        refine lv_aload_n hx hb d_M_search_67 rfl (lv_at hl 0 rfl) ?_
        refine g_get (C := R_M) (T := F_M) (N := 35) hx hb hts i_M hown hK hW (i := 400) (hdl 400 (by decide) (by decide)) ((wS_o (by decide)).trans h400) rfl 5 (by decide) (hts _ q_493) (fun _ h9 => h9) rfl d_M_search_68 ?_
        refine n_icmp_ge (tgt := 377) hx hb (by omega) (by omega) d_M_search_71 (by decide) (fun h1 => ?_) (fun h1 => ?_)
        · have hkr : k = rw - 1 := by omega
          rw [hkr] at hI
          clear ih2
          refine lv_iconst (v := nI 0) hx hb d_M_search_377 (by decide) ?_
          refine lv_istore_n (lv' := [(2, .int (nI 0)), (0, .ref (ad 400)), (1, .int w)]) hx hb d_M_search_378 rfl hl (by decide) rfl (fun ls hl => ?_)
          refine lv_iconst (v := nI 1) hx hb d_M_search_379 (by decide) ?_
          refine lv_istore_n (lv' := [(3, .int (nI 1)), (2, .int (nI 0)), (0, .ref (ad 400)), (1, .int w)]) hx hb d_M_search_380 rfl hl (by decide) rfl (fun ls hl => ?_)
          have hst8 : ((alw tr shp w) (rw - 1) 0 = true ∧ ∀ v, v < 1 → (alw tr shp w) (rw - 1) v = true → noE cl mv sp (rw - 1) P 0 v) ∨ ∀ v, v < 1 → (alw tr shp w) (rw - 1) v = false := (by
            cases h0 : (alw tr shp w) (rw - 1) 0 with
            | false => exact Or.inr (fun v hv => by rw [show v = 0 by omega]; exact h0)
            | true => exact Or.inl ⟨rfl, fun v hv _ => by rw [show v = 0 by omega]; exact noE_refl⟩)
          suffices hloop : ∀ (d8 y x : Nat) (H : Heap) (locs : List Loc) (ls : Array Slot), (1 ≤ y) → (y ≤ a) → (a + 1 ≤ y + d8) → (x < y) → (((alw tr shp w) (rw - 1) x = true ∧ ∀ v, v < y → (alw tr shp w) (rw - 1) v = true → noE cl mv sp (rw - 1) P x v) ∨ ∀ v, v < y → (alw tr shp w) (rw - 1) v = false) → gW D gCl (gA ad co dl s.heap.size) ad (wS cI cJ co S Lg C LC fd) dl H → va_S (gA ad co dl s.heap.size) s.heap H locs → lv_has ls 8 [(0, .ref (ad 400)), (1, .int w), (2, .int (nI x)), (3, .int (nI y))] → W pp l ee _ s mm _ below meth cd H locs 0 0 _ (F0 mm 381 ls []) by
            exact hloop (a + 1) 1 0 _ _ ls (Nat.le_refl 1) (by omega) (by omega) (by omega) hst8 hW hS (lv_sub hl [2, 3, 1, 0] rfl)
          clear hW hS hl
          intro d8
          induction d8 with
          | zero => intro y x H locs ls hy1 hya hd8 hxy h8; omega
          | succ d8 ih8 =>
            intro y x H locs ls hy1 hya hd8 hxy h8 hW hS hl
            refine lv_iload_n hx hb d_M_search_381 rfl (lv_at hl 3 rfl) ?_
            refine lv_aload_n hx hb d_M_search_382 rfl (lv_at hl 0 rfl) ?_
            refine g_get (C := R_M) (T := F_M) (N := 35) hx hb hts i_M hown hK hW (i := 400) (hdl 400 (by decide) (by decide)) ((wS_o (by decide)).trans h400) rfl 0 (by decide) (hts _ q_488) (fun _ h9 => h9) rfl d_M_search_383 ?_
            refine n_icmp_ge (tgt := 455) hx hb (by omega) (by omega) d_M_search_386 (by decide) (fun h2 => ?_) (fun h2 => ?_)
            · have hyA : y = a := by omega
              rw [hyA] at h8
              clear ih8
              have h9 : (alw tr shp w) (rw - 1) x = true ∧ ∀ v, v < a → (alw tr shp w) (rw - 1) v = true → noE cl mv sp (rw - 1) P x v := by
                rcases h8 with g | g
                · exact g
                · obtain ⟨b, hb1, hb2⟩ := hok.2.2.2.2.2 (rw - 1) (by omega)
                  rw [g b hb1] at hb2; cases hb2
              obtain ⟨hOx, hCx, hSx⟩ := (hI x (by omega)).1 h9.1
              have hbest := opt_end hn0 (fun z hz hza => ((hI z hz).1 hza).1) (show x < a by omega) h9.1 h9.2
              have huq := best_uniq hbest (bln_best hok)
              have hcost : pcs cl mv sp (P x) (rw - 1) = bcs a (alw tr shp w) cl mv sp rw := by rw [← bln_cost hok]; exact pcs_congr (fun i hi => huq i (by omega))
              refine lv_iconst (v := nI 0) hx hb d_M_search_455 (by decide) ?_
              refine lv_istore_n (lv' := [(3, .int (nI 0)), (0, .ref (ad 400)), (1, .int w), (2, .int (nI x))]) hx hb d_M_search_456 rfl hl (by decide) rfl (fun ls hl => ?_)
              suffices hloop : ∀ (d9 v : Nat) (D1 : Nat → Int32) (H : Heap) (locs : List Loc) (ls : Array Slot), (v ≤ rw) → (rw + 1 ≤ v + d9) → (∀ i, i < v → D1 i = nI (bln a (alw tr shp w) cl mv sp rw i)) → gW D gCl (gA ad co dl s.heap.size) ad (wS cI cJ co S Lg C LC D1) dl H → va_S (gA ad co dl s.heap.size) s.heap H locs → lv_has ls 8 [(0, .ref (ad 400)), (2, .int (nI x)), (3, .int (nI v))] → W pp l ee _ s mm _ below meth cd H locs 0 0 _ (F0 mm 457 ls []) by
                exact hloop (rw + 1) 0 fd _ _ ls (by omega) (by omega) (fun i h => absurd h (Nat.not_lt_zero i)) hW hS (lv_sub hl [1, 3, 0] rfl)
              clear hW hS hl
              intro d9
              induction d9 with
              | zero => intro v D1 H locs ls hv hd9 hD1; omega
              | succ d9 ih9 =>
                intro v D1 H locs ls hv hd9 hD1 hW hS hl
                refine lv_iload_n hx hb d_M_search_457 rfl (lv_at hl 2 rfl) ?_
                refine lv_aload_n hx hb d_M_search_458 rfl (lv_at hl 0 rfl) ?_
                refine g_get (C := R_M) (T := F_M) (N := 35) hx hb hts i_M hown hK hW (i := 400) (hdl 400 (by decide) (by decide)) ((wS_o (by decide)).trans h400) rfl 5 (by decide) (hts _ q_493) (fun _ h9 => h9) rfl d_M_search_459 ?_
                refine n_icmp_ge (tgt := 489) hx hb (by omega) (by omega) d_M_search_462 (by decide) (fun h3 => ?_) (fun h3 => ?_)
                · have hvr : v = rw := by omega
                  rw [hvr] at hD1
                  refine lv_aload_n hx hb d_M_search_489 rfl (lv_at hl 0 rfl) ?_
                  refine g_get (C := R_M) (T := F_M) (N := 35) hx hb hts i_M hown hK hW (i := 400) (hdl 400 (by decide) (by decide)) ((wS_o (by decide)).trans h400) rfl 30 (by decide) (hts _ q_518) (fun _ h9 => h9) rfl d_M_search_490 ?_
                  refine lv_iload_n hx hb d_M_search_493 rfl (lv_at hl 1 rfl) ?_
                  refine n_iald hx hb hK hW 0 (q := 422) (hdl 422 (by decide) (by decide)) wS_422 rfl (j := x) (by omega) (by omega) d_M_search_494 ?_
                  refine n_topi (show C x = nI (bcs a (alw tr shp w) cl mv sp rw) from by rw [hCx, hcost]) ?_
                  exact g_iret hx hb hr hlocks hW hS (⟨_, _, _, _, _, rfl, rfl, hD1⟩) d_M_search_495
                · refine lv_aload_n hx hb d_M_search_465 rfl (lv_at hl 0 rfl) ?_
                  refine g_get (C := R_M) (T := F_M) (N := 35) hx hb hts i_M hown hK hW (i := 400) (hdl 400 (by decide) (by decide)) ((wS_o (by decide)).trans h400) rfl 34 (by decide) (hts _ q_522) (fun _ h9 => h9) rfl d_M_search_466 ?_
                  refine lv_iload_n hx hb d_M_search_469 rfl (lv_at hl 2 rfl) ?_
                  refine lv_aload_n hx hb d_M_search_470 rfl (lv_at hl 0 rfl) ?_
                  refine g_get (C := R_M) (T := F_M) (N := 35) hx hb hts i_M hown hK hW (i := 400) (hdl 400 (by decide) (by decide)) ((wS_o (by decide)).trans h400) rfl 28 (by decide) (hts _ q_516) (fun _ h9 => h9) rfl d_M_search_471 ?_
                  refine lv_sipush (v := nI 200) hx hb d_M_search_474 (by decide) ?_
                  refine lv_iload_n hx hb d_M_search_477 rfl (lv_at hl 1 rfl) ?_
                  refine n_mul hx hb d_M_search_478 ?_
                  refine lv_iload_n hx hb d_M_search_479 rfl (lv_at hl 2 rfl) ?_
                  refine n_add hx hb d_M_search_480 ?_
                  refine n_iald hx hb hK hW 0 (q := 420) (hdl 420 (by decide) (by decide)) wS_420 rfl (j := (200 * x) + v) (by omega) (by omega) d_M_search_481 ?_
                  refine n_iast (x := S ((200 * x) + v)) hx hb hK hW hS 0 (q := 426) (hdl 426 (by decide) (by decide)) wS_426 rfl (j := v) (by omega) (by omega) d_M_search_482 (fun H locs hW hS => ?_)
                  rw [wS_u426] at hW
                  refine n_iinc (lv' := [(3, .int (nI (v + 1))), (0, .ref (ad 400)), (2, .int (nI x))]) hx hb d_M_search_483 hl (k := 2) rfl (by decide) rfl (fun ls hl => ?_)
                  refine lv_goto (tgt := 457) hx hb d_M_search_486 (by decide) ?_
                  exact ih9 (v + 1) _ _ _ ls (by omega) (by omega) (lt_s (fun i hi => by rw [pk_un (show i ≠ v by omega)]; exact hD1 i hi) (by rw [pk_us, hSx v (by omega), huq v h3])) hW hS (lv_sub hl [1, 2, 0] rfl)
            · have hIx := hI x (by omega)
              have hIy := hI y h2
              have hBIG : BIG = 1000000000 := rfl
              obtain ⟨cx, hcx, hcxt, hcxf⟩ : ∃ v, C x = nI v ∧ ((alw tr shp w) (rw - 1) x = true → v = pcs cl mv sp (P x) (rw - 1) ∧ v ≤ 4000000) ∧ ((alw tr shp w) (rw - 1) x = false → v = BIG) := by
                cases h9 : (alw tr shp w) (rw - 1) x with
                | true => exact ⟨_, (hIx.1 h9).2.1, fun _ => ⟨rfl, by have := pcs_le hok (rw - 1) (by omega) (hIx.1 h9).1.1; omega⟩, fun q => by cases q⟩
                | false => exact ⟨_, hIx.2 h9, fun q => (by cases q), fun _ => rfl⟩
              obtain ⟨cy, hcy, hcyt, hcyf⟩ : ∃ v, C y = nI v ∧ ((alw tr shp w) (rw - 1) y = true → v = pcs cl mv sp (P y) (rw - 1) ∧ v ≤ 4000000) ∧ ((alw tr shp w) (rw - 1) y = false → v = BIG) := by
                cases h9 : (alw tr shp w) (rw - 1) y with
                | true => exact ⟨_, (hIy.1 h9).2.1, fun _ => ⟨rfl, by have := pcs_le hok (rw - 1) (by omega) (hIy.1 h9).1.1; omega⟩, fun q => by cases q⟩
                | false => exact ⟨_, hIy.2 h9, fun q => (by cases q), fun _ => rfl⟩
              have hcx9 : cx ≤ BIG := by
                cases h9 : (alw tr shp w) (rw - 1) x with
                | true => have := (hcxt h9).2; omega
                | false => rw [hcxf h9]; exact Nat.le_refl _
              have hcy9 : cy ≤ BIG := by
                cases h9 : (alw tr shp w) (rw - 1) y with
                | true => have := (hcyt h9).2; omega
                | false => rw [hcyf h9]; exact Nat.le_refl _
              refine lv_aload_n hx hb d_M_search_389 rfl (lv_at hl 0 rfl) ?_
              refine g_get (C := R_M) (T := F_M) (N := 35) hx hb hts i_M hown hK hW (i := 400) (hdl 400 (by decide) (by decide)) ((wS_o (by decide)).trans h400) rfl 30 (by decide) (hts _ q_518) (fun _ h9 => h9) rfl d_M_search_390 ?_
              refine lv_iload_n hx hb d_M_search_393 rfl (lv_at hl 3 rfl) ?_
              refine n_iald hx hb hK hW 0 (q := 422) (hdl 422 (by decide) (by decide)) wS_422 rfl (j := y) (by omega) (by omega) d_M_search_394 ?_
              refine n_topi (show C y = nI cy from hcy) ?_
              refine lv_aload_n hx hb d_M_search_395 rfl (lv_at hl 0 rfl) ?_
              refine g_get (C := R_M) (T := F_M) (N := 35) hx hb hts i_M hown hK hW (i := 400) (hdl 400 (by decide) (by decide)) ((wS_o (by decide)).trans h400) rfl 30 (by decide) (hts _ q_518) (fun _ h9 => h9) rfl d_M_search_396 ?_
              refine lv_iload_n hx hb d_M_search_399 rfl (lv_at hl 2 rfl) ?_
              refine n_iald hx hb hK hW 0 (q := 422) (hdl 422 (by decide) (by decide)) wS_422 rfl (j := x) (by omega) (by omega) d_M_search_400 ?_
              refine n_topi (show C x = nI cx from hcx) ?_
              refine n_icmp_lt (tgt := 443) hx hb (by omega) (by omega) d_M_search_401 (by decide) (fun h3 => ?_) (fun h3 => ?_)
              · have hyt : (alw tr shp w) (rw - 1) y = true := by
                  cases h9 : (alw tr shp w) (rw - 1) y with
                  | true => rfl
                  | false => have := hcyf h9; omega
                refine lv_iload_n hx hb d_M_search_443 rfl (lv_at hl 3 rfl) ?_
                refine lv_goto (tgt := 448) hx hb d_M_search_444 (by decide) ?_
                refine lv_istore_n (lv' := [(2, .int (nI y)), (0, .ref (ad 400)), (1, .int w), (3, .int (nI y))]) hx hb d_M_search_448 rfl hl (by decide) rfl (fun ls hl => ?_)
                refine n_iinc (lv' := [(3, .int (nI (y + 1))), (2, .int (nI y)), (0, .ref (ad 400)), (1, .int w)]) hx hb d_M_search_449 hl (k := 3) rfl (by decide) rfl (fun ls hl => ?_)
                refine lv_goto (tgt := 381) hx hb d_M_search_452 (by decide) ?_
                exact ih8 (y + 1) y _ _ ls (by omega) (by omega) (by omega) (by omega) (by
                  refine Or.inl ⟨hyt, lt_s ?_ (fun _ => noE_refl)⟩
                  rcases h8 with ⟨g1, g2⟩ | g1
                  · exact fun v hv hva => noE_trans (Or.inl (by have := (hcxt g1).1; have := (hcyt hyt).1; omega)) (g2 v hv hva)
                  · intro v hv hva; rw [g1 v hv] at hva; cases hva) hW hS (lv_sub hl [2, 3, 1, 0] rfl)
              · refine lv_aload_n hx hb d_M_search_404 rfl (lv_at hl 0 rfl) ?_
                refine g_get (C := R_M) (T := F_M) (N := 35) hx hb hts i_M hown hK hW (i := 400) (hdl 400 (by decide) (by decide)) ((wS_o (by decide)).trans h400) rfl 30 (by decide) (hts _ q_518) (fun _ h9 => h9) rfl d_M_search_405 ?_
                refine lv_iload_n hx hb d_M_search_408 rfl (lv_at hl 3 rfl) ?_
                refine n_iald hx hb hK hW 0 (q := 422) (hdl 422 (by decide) (by decide)) wS_422 rfl (j := y) (by omega) (by omega) d_M_search_409 ?_
                refine n_topi (show C y = nI cy from hcy) ?_
                refine lv_aload_n hx hb d_M_search_410 rfl (lv_at hl 0 rfl) ?_
                refine g_get (C := R_M) (T := F_M) (N := 35) hx hb hts i_M hown hK hW (i := 400) (hdl 400 (by decide) (by decide)) ((wS_o (by decide)).trans h400) rfl 30 (by decide) (hts _ q_518) (fun _ h9 => h9) rfl d_M_search_411 ?_
                refine lv_iload_n hx hb d_M_search_414 rfl (lv_at hl 2 rfl) ?_
                refine n_iald hx hb hK hW 0 (q := 422) (hdl 422 (by decide) (by decide)) wS_422 rfl (j := x) (by omega) (by omega) d_M_search_415 ?_
                refine n_topi (show C x = nI cx from hcx) ?_
                refine n_icmp_ne (tgt := 447) hx hb (by omega) (by omega) d_M_search_416 (by decide) (fun h4 => ?_) (fun h4 => ?_)
                · refine lv_iload_n hx hb d_M_search_447 rfl (lv_at hl 2 rfl) ?_
                  refine lv_istore_n (lv' := [(2, .int (nI x)), (0, .ref (ad 400)), (1, .int w), (3, .int (nI y))]) hx hb d_M_search_448 rfl hl (by decide) rfl (fun ls hl => ?_)
                  refine n_iinc (lv' := [(3, .int (nI (y + 1))), (2, .int (nI x)), (0, .ref (ad 400)), (1, .int w)]) hx hb d_M_search_449 hl (k := 3) rfl (by decide) rfl (fun ls hl => ?_)
                  refine lv_goto (tgt := 381) hx hb d_M_search_452 (by decide) ?_
                  exact ih8 (y + 1) x _ _ ls (by omega) (by omega) (by omega) (by omega) (by
                    have hxt : (alw tr shp w) (rw - 1) x = true := by
                      cases h9 : (alw tr shp w) (rw - 1) x with
                      | true => rfl
                      | false => have := hcxf h9; omega
                    rcases h8 with ⟨g1, g2⟩ | g1
                    · exact Or.inl ⟨g1, lt_s g2 (fun q => Or.inl (by have := (hcxt g1).1; have := (hcyt q).1; omega))⟩
                    · rw [g1 x hxy] at hxt; cases hxt) hW hS (lv_sub hl [2, 3, 1, 0] rfl)
                · refine lv_aload_n hx hb d_M_search_419 rfl (lv_at hl 0 rfl) ?_
                  refine g_get (C := R_M) (T := F_M) (N := 35) hx hb hts i_M hown hK hW (i := 400) (hdl 400 (by decide) (by decide)) ((wS_o (by decide)).trans h400) rfl 30 (by decide) (hts _ q_518) (fun _ h9 => h9) rfl d_M_search_420 ?_
                  refine lv_iload_n hx hb d_M_search_423 rfl (lv_at hl 3 rfl) ?_
                  refine n_iald hx hb hK hW 0 (q := 422) (hdl 422 (by decide) (by decide)) wS_422 rfl (j := y) (by omega) (by omega) d_M_search_424 ?_
                  refine n_topi (show C y = nI cy from hcy) ?_
                  refine lv_ldc hx hb hown (hts _ q_659) d_M_search_425 ?_
                  refine n_topi (show (1000000000 : Int32) = nI 1000000000 by decide) ?_
                  refine n_icmp_ge (tgt := 447) hx hb (by omega) (by omega) d_M_search_427 (by decide) (fun h5 => ?_) (fun h5 => ?_)
                  · refine lv_iload_n hx hb d_M_search_447 rfl (lv_at hl 2 rfl) ?_
                    refine lv_istore_n (lv' := [(2, .int (nI x)), (0, .ref (ad 400)), (1, .int w), (3, .int (nI y))]) hx hb d_M_search_448 rfl hl (by decide) rfl (fun ls hl => ?_)
                    refine n_iinc (lv' := [(3, .int (nI (y + 1))), (2, .int (nI x)), (0, .ref (ad 400)), (1, .int w)]) hx hb d_M_search_449 hl (k := 3) rfl (by decide) rfl (fun ls hl => ?_)
                    refine lv_goto (tgt := 381) hx hb d_M_search_452 (by decide) ?_
                    exact ih8 (y + 1) x _ _ ls (by omega) (by omega) (by omega) (by omega) (by
                      have hyf : (alw tr shp w) (rw - 1) y = false := by
                        cases h9 : (alw tr shp w) (rw - 1) y with
                        | false => rfl
                        | true => have := (hcyt h9).2; omega
                      rcases h8 with ⟨g1, g2⟩ | g1
                      · exact Or.inl ⟨g1, lt_s g2 (fun q => by rw [hyf] at q; cases q)⟩
                      · exact Or.inr (lt_s g1 hyf)) hW hS (lv_sub hl [2, 3, 1, 0] rfl)
                  · have hyt : (alw tr shp w) (rw - 1) y = true := by
                      cases h9 : (alw tr shp w) (rw - 1) y with
                      | true => rfl
                      | false => have := hcyf h9; omega
                    have hxt : (alw tr shp w) (rw - 1) x = true := by
                      cases h9 : (alw tr shp w) (rw - 1) x with
                      | true => rfl
                      | false => have := hcxf h9; omega
                    obtain ⟨hOx, hCx, hSx⟩ := hIx.1 hxt
                    obtain ⟨hOy, hCy, hSy⟩ := hIy.1 hyt
                    refine lv_aload_n hx hb d_M_search_430 rfl (lv_at hl 0 rfl) ?_
                    refine lv_iload_n hx hb d_M_search_431 rfl (lv_at hl 3 rfl) ?_
                    refine lv_iload_n hx hb d_M_search_432 rfl (lv_at hl 2 rfl) ?_
                    refine lv_aload_n hx hb d_M_search_433 rfl (lv_at hl 0 rfl) ?_
                    refine g_get (C := R_M) (T := F_M) (N := 35) hx hb hts i_M hown hK hW (i := 400) (hdl 400 (by decide) (by decide)) ((wS_o (by decide)).trans h400) rfl 5 (by decide) (hts _ q_493) (fun _ h9 => h9) rfl d_M_search_434 ?_
                    refine g_cVi (As := [.int (nI y), .int (nI x), .int (nI rw)]) (rest := []) ⟨hx, hb, hml, hown, hts⟩ (c_M_isFirst l hdl ((wS_o (by decide)).trans h400) wS_420 y x rw (by omega) (by omega) (by omega)) (gcwV 3 hts q_663 q_660 q_662 qs_13 q_9 (by decide +kernel) ⟨(Nat.le_of_ble_eq_true rfl), (Nat.le_of_ble_eq_true rfl)⟩) gNl_ok hN hK hW hS hA (hdl 400 (by decide) (by decide)) ((wS_o (by decide)).trans h400) rfl rfl hl.1 rfl (Nat.le_of_ble_eq_true rfl) d_M_search_437 ⟨Nat.zero_le _, Nat.zero_le _⟩ (fun r co9 H locs hp9 hW hS => ?_)
                    obtain ⟨rfl, hco9⟩ := hp9
                    rw [hco9] at hW
                    have hlx := lexL_lxl (f := fun k => S (200 * y + k)) (g := fun k => S (200 * x + k)) (F := P y) (G := P x) (n := rw) (fun i hi => ⟨hSy i (by omega), by have := (hOy.1 i (by omega)).1; omega⟩) (fun i hi => ⟨hSx i (by omega), by have := (hOx.1 i (by omega)).1; omega⟩)
                    have hrw : rw - 1 + 1 = rw := by omega
                    have q1 := (hcxt hxt).1
                    have q2 := (hcyt hyt).1
                    refine n_ifz_eq (tgt := 447) hx hb d_M_search_440 (by decide) (fun h6 => ?_) (fun h6 => ?_)
                    · refine lv_iload_n hx hb d_M_search_447 rfl (lv_at hl 2 rfl) ?_
                      refine lv_istore_n (lv' := [(2, .int (nI x)), (0, .ref (ad 400)), (1, .int w), (3, .int (nI y))]) hx hb d_M_search_448 rfl hl (by decide) rfl (fun ls hl => ?_)
                      refine n_iinc (lv' := [(3, .int (nI (y + 1))), (2, .int (nI x)), (0, .ref (ad 400)), (1, .int w)]) hx hb d_M_search_449 hl (k := 3) rfl (by decide) rfl (fun ls hl => ?_)
                      refine lv_goto (tgt := 381) hx hb d_M_search_452 (by decide) ?_
                      exact ih8 (y + 1) x _ _ ls (by omega) (by omega) (by omega) (by omega) (by
                        rcases h8 with ⟨g1, g2⟩ | g1
                        · exact Or.inl ⟨g1, lt_s g2 (fun q => Or.inr ⟨by omega, fun z => by rw [hrw] at z; rw [hlx.mpr z] at h6; cases h6⟩)⟩
                        · rw [g1 x hxy] at hxt; cases hxt) hW hS (lv_sub hl [2, 3, 1, 0] rfl)
                    · refine lv_iload_n hx hb d_M_search_443 rfl (lv_at hl 3 rfl) ?_
                      refine lv_goto (tgt := 448) hx hb d_M_search_444 (by decide) ?_
                      refine lv_istore_n (lv' := [(2, .int (nI y)), (0, .ref (ad 400)), (1, .int w), (3, .int (nI y))]) hx hb d_M_search_448 rfl hl (by decide) rfl (fun ls hl => ?_)
                      refine n_iinc (lv' := [(3, .int (nI (y + 1))), (2, .int (nI y)), (0, .ref (ad 400)), (1, .int w)]) hx hb d_M_search_449 hl (k := 3) rfl (by decide) rfl (fun ls hl => ?_)
                      refine lv_goto (tgt := 381) hx hb d_M_search_452 (by decide) ?_
                      exact ih8 (y + 1) y _ _ ls (by omega) (by omega) (by omega) (by omega) (by
                        have hlt := hlx.mp h6
                        refine Or.inl ⟨hyt, lt_s ?_ (fun _ => noE_refl)⟩
                        rcases h8 with ⟨g1, g2⟩ | g1
                        · exact fun v hv hva => noE_trans (Or.inr ⟨by omega, fun z => by rw [hrw] at z; exact lxl_irr (lxl_trans hlt z)⟩) (g2 v hv hva)
                        · rw [g1 x hxy] at hxt; cases hxt) hW hS (lv_sub hl [2, 3, 1, 0] rfl)
        · refine lv_iconst (v := nI 0) hx hb d_M_search_74 (by decide) ?_
          refine lv_istore_n (lv' := [(3, .int (nI 0)), (0, .ref (ad 400)), (1, .int w), (2, .int (nI (k + 1)))]) hx hb d_M_search_75 rfl hl (by decide) rfl (fun ls hl => ?_)
          suffices hloop : ∀ (d3 z : Nat) (R : Nat → Nat → Nat) (G E : Nat → Int32) (H : Heap) (locs : List Loc) (ls : Array Slot), (z ≤ a) → (a + 1 ≤ z + d3) → (sInv a (alw tr shp w) cl mv sp (k + 1) z R G E) → gW D gCl (gA ad co dl s.heap.size) ad (wS cI cJ co S G C E fd) dl H → va_S (gA ad co dl s.heap.size) s.heap H locs → lv_has ls 8 [(0, .ref (ad 400)), (1, .int w), (2, .int (nI (k + 1))), (3, .int (nI z))] → W pp l ee _ s mm _ below meth cd H locs 0 0 _ (F0 mm 76 ls []) by
            exact hloop (a + 1) 0 P Lg LC _ _ ls (by omega) (by omega) (fun b h => absurd h (Nat.not_lt_zero b)) hW hS (lv_sub hl [1, 2, 3, 0] rfl)
          clear hW hS hl
          intro d3
          induction d3 with
          | zero => intro z R G E H locs ls hz hd3 hR; omega
          | succ d3 ih3 =>
            intro z R G E H locs ls hz hd3 hR hW hS hl
            refine lv_iload_n hx hb d_M_search_76 rfl (lv_at hl 3 rfl) ?_
            refine lv_aload_n hx hb d_M_search_77 rfl (lv_at hl 0 rfl) ?_
            refine g_get (C := R_M) (T := F_M) (N := 35) hx hb hts i_M hown hK hW (i := 400) (hdl 400 (by decide) (by decide)) ((wS_o (by decide)).trans h400) rfl 0 (by decide) (hts _ q_488) (fun _ h9 => h9) rfl d_M_search_78 ?_
            refine n_icmp_ge (tgt := 302) hx hb (by omega) (by omega) d_M_search_81 (by decide) (fun h2 => ?_) (fun h2 => ?_)
            · have hza : z = a := by omega
              rw [hza] at hR
              clear ih3
              refine lv_iconst (v := nI 0) hx hb d_M_search_302 (by decide) ?_
              refine lv_istore_n (lv' := [(3, .int (nI 0)), (0, .ref (ad 400)), (1, .int w), (2, .int (nI (k + 1)))]) hx hb d_M_search_303 rfl hl (by decide) rfl (fun ls hl => ?_)
              suffices hloop : ∀ (d6 y : Nat) (S1 C1 : Nat → Int32) (H : Heap) (locs : List Loc) (ls : Array Slot), (y ≤ a) → (a + 1 ≤ y + d6) → (∀ b, b < y → C1 b = E b ∧ ∀ i, i ≤ k + 1 → S1 (200 * b + i) = G (200 * b + i)) → gW D gCl (gA ad co dl s.heap.size) ad (wS cI cJ co S1 G C1 E fd) dl H → va_S (gA ad co dl s.heap.size) s.heap H locs → lv_has ls 8 [(0, .ref (ad 400)), (1, .int w), (2, .int (nI (k + 1))), (3, .int (nI y))] → W pp l ee _ s mm _ below meth cd H locs 0 0 _ (F0 mm 304 ls []) by
                exact hloop (a + 1) 0 S C _ _ ls (by omega) (by omega) (fun b h => absurd h (Nat.not_lt_zero b)) hW hS (lv_sub hl [1, 2, 3, 0] rfl)
              clear hW hS hl
              intro d6
              induction d6 with
              | zero => intro y S1 C1 H locs ls hy hd6 hc1; omega
              | succ d6 ih6 =>
                intro y S1 C1 H locs ls hy hd6 hc1 hW hS hl
                refine lv_iload_n hx hb d_M_search_304 rfl (lv_at hl 3 rfl) ?_
                refine lv_aload_n hx hb d_M_search_305 rfl (lv_at hl 0 rfl) ?_
                refine g_get (C := R_M) (T := F_M) (N := 35) hx hb hts i_M hown hK hW (i := 400) (hdl 400 (by decide) (by decide)) ((wS_o (by decide)).trans h400) rfl 0 (by decide) (hts _ q_488) (fun _ h9 => h9) rfl d_M_search_306 ?_
                refine n_icmp_ge (tgt := 371) hx hb (by omega) (by omega) d_M_search_309 (by decide) (fun h5 => ?_) (fun h5 => ?_)
                · have hya : y = a := by omega
                  rw [hya] at hc1
                  refine n_iinc (lv' := [(2, .int (nI (k + 1 + 1))), (0, .ref (ad 400)), (1, .int w), (3, .int (nI y))]) hx hb d_M_search_371 hl (k := 2) rfl (by decide) rfl (fun ls hl => ?_)
                  refine lv_goto (tgt := 66) hx hb d_M_search_374 (by decide) ?_
                  refine ih2 (k + 1) R S1 G C1 E _ _ ls h1 (by omega) (fun b hb => ?_) hW hS (lv_sub hl [1, 2, 0] rfl)
                  have h9 := hc1 b hb
                  have h8 := hR b hb
                  rw [h9.1]
                  exact ⟨fun q => ⟨(h8.1 q).1, (h8.1 q).2.1, fun i hi => by rw [h9.2 i hi]; exact (h8.1 q).2.2 i hi⟩, h8.2⟩
                · refine lv_aload_n hx hb d_M_search_312 rfl (lv_at hl 0 rfl) ?_
                  refine g_get (C := R_M) (T := F_M) (N := 35) hx hb hts i_M hown hK hW (i := 400) (hdl 400 (by decide) (by decide)) ((wS_o (by decide)).trans h400) rfl 30 (by decide) (hts _ q_518) (fun _ h9 => h9) rfl d_M_search_313 ?_
                  refine lv_iload_n hx hb d_M_search_316 rfl (lv_at hl 3 rfl) ?_
                  refine lv_aload_n hx hb d_M_search_317 rfl (lv_at hl 0 rfl) ?_
                  refine g_get (C := R_M) (T := F_M) (N := 35) hx hb hts i_M hown hK hW (i := 400) (hdl 400 (by decide) (by decide)) ((wS_o (by decide)).trans h400) rfl 31 (by decide) (hts _ q_519) (fun _ h9 => h9) rfl d_M_search_318 ?_
                  refine lv_iload_n hx hb d_M_search_321 rfl (lv_at hl 3 rfl) ?_
                  refine n_iald hx hb hK hW 0 (q := 423) (hdl 423 (by decide) (by decide)) wS_423 rfl (j := y) (by omega) (by omega) d_M_search_322 ?_
                  refine n_iast (x := E y) hx hb hK hW hS 0 (q := 422) (hdl 422 (by decide) (by decide)) wS_422 rfl (j := y) (by omega) (by omega) d_M_search_323 (fun H locs hW hS => ?_)
                  rw [wS_u422] at hW
                  obtain ⟨C2, hC2⟩ : ∃ g, g = upd C1 y (E y) := ⟨_, rfl⟩
                  rw [← hC2] at hW
                  refine lv_iconst (v := nI 0) hx hb d_M_search_324 (by decide) ?_
                  refine lv_istore (lv' := [(4, .int (nI 0)), (0, .ref (ad 400)), (1, .int w), (2, .int (nI (k + 1))), (3, .int (nI y))]) hx hb d_M_search_325 hl (by decide) rfl (fun ls hl => ?_)
                  suffices hloop : ∀ (d7 x : Nat) (S2 : Nat → Int32) (H : Heap) (locs : List Loc) (ls : Array Slot), (x ≤ k + 2) → (k + 3 ≤ x + d7) → (∀ i, i < x → S2 (200 * y + i) = G (200 * y + i)) → (∀ j, j < 200 * y → S2 j = S1 j) → gW D gCl (gA ad co dl s.heap.size) ad (wS cI cJ co S2 G C2 E fd) dl H → va_S (gA ad co dl s.heap.size) s.heap H locs → lv_has ls 8 [(0, .ref (ad 400)), (1, .int w), (2, .int (nI (k + 1))), (3, .int (nI y)), (4, .int (nI x))] → W pp l ee _ s mm _ below meth cd H locs 0 0 _ (F0 mm 327 ls []) by
                    exact hloop (k + 3) 0 S1 _ _ ls (by omega) (by omega) (fun i h => absurd h (Nat.not_lt_zero i)) (fun _ _ => rfl) hW hS (lv_sub hl [1, 2, 3, 4, 0] rfl)
                  clear hW hS hl
                  intro d7
                  induction d7 with
                  | zero => intro x S2 H locs ls hx7 hd7 hs1 hs2; omega
                  | succ d7 ih7 =>
                    intro x S2 H locs ls hx7 hd7 hs1 hs2 hW hS hl
                    refine lv_iload hx hb d_M_search_327 (lv_at hl 4 rfl) ?_
                    refine lv_iload_n hx hb d_M_search_329 rfl (lv_at hl 2 rfl) ?_
                    refine n_icmp_gt (tgt := 365) hx hb (by omega) (by omega) d_M_search_330 (by decide) (fun h6 => ?_) (fun h6 => ?_)
                    · refine n_iinc (lv' := [(3, .int (nI (y + 1))), (0, .ref (ad 400)), (1, .int w), (2, .int (nI (k + 1))), (4, .int (nI x))]) hx hb d_M_search_365 hl (k := 3) rfl (by decide) rfl (fun ls hl => ?_)
                      refine lv_goto (tgt := 304) hx hb d_M_search_368 (by decide) ?_
                      refine ih6 (y + 1) S2 C2 _ _ ls (by omega) (by omega) (lt_s (fun b hb => ?_) ?_) hW hS (lv_sub hl [1, 2, 3, 0] rfl)
                      · rw [hC2, pk_un (show b ≠ y by omega)]
                        exact ⟨(hc1 b hb).1, fun i hi => by rw [hs2 _ (by omega)]; exact (hc1 b hb).2 i hi⟩
                      · rw [hC2, pk_us]; exact ⟨rfl, fun i hi => hs1 i (by omega)⟩
                    · refine lv_aload_n hx hb d_M_search_333 rfl (lv_at hl 0 rfl) ?_
                      refine g_get (C := R_M) (T := F_M) (N := 35) hx hb hts i_M hown hK hW (i := 400) (hdl 400 (by decide) (by decide)) ((wS_o (by decide)).trans h400) rfl 28 (by decide) (hts _ q_516) (fun _ h9 => h9) rfl d_M_search_334 ?_
                      refine lv_sipush (v := nI 200) hx hb d_M_search_337 (by decide) ?_
                      refine lv_iload_n hx hb d_M_search_340 rfl (lv_at hl 3 rfl) ?_
                      refine n_mul hx hb d_M_search_341 ?_
                      refine lv_iload hx hb d_M_search_342 (lv_at hl 4 rfl) ?_
                      refine n_add hx hb d_M_search_344 ?_
                      refine lv_aload_n hx hb d_M_search_345 rfl (lv_at hl 0 rfl) ?_
                      refine g_get (C := R_M) (T := F_M) (N := 35) hx hb hts i_M hown hK hW (i := 400) (hdl 400 (by decide) (by decide)) ((wS_o (by decide)).trans h400) rfl 29 (by decide) (hts _ q_517) (fun _ h9 => h9) rfl d_M_search_346 ?_
                      refine lv_sipush (v := nI 200) hx hb d_M_search_349 (by decide) ?_
                      refine lv_iload_n hx hb d_M_search_352 rfl (lv_at hl 3 rfl) ?_
                      refine n_mul hx hb d_M_search_353 ?_
                      refine lv_iload hx hb d_M_search_354 (lv_at hl 4 rfl) ?_
                      refine n_add hx hb d_M_search_356 ?_
                      refine n_iald hx hb hK hW 0 (q := 421) (hdl 421 (by decide) (by decide)) wS_421 rfl (j := (200 * y) + x) (by omega) (by omega) d_M_search_357 ?_
                      refine n_iast (x := G ((200 * y) + x)) hx hb hK hW hS 0 (q := 420) (hdl 420 (by decide) (by decide)) wS_420 rfl (j := (200 * y) + x) (by omega) (by omega) d_M_search_358 (fun H locs hW hS => ?_)
                      rw [wS_u420] at hW
                      refine n_iinc (lv' := [(4, .int (nI (x + 1))), (0, .ref (ad 400)), (1, .int w), (2, .int (nI (k + 1))), (3, .int (nI y))]) hx hb d_M_search_359 hl (k := 4) rfl (by decide) rfl (fun ls hl => ?_)
                      refine lv_goto (tgt := 327) hx hb d_M_search_362 (by decide) ?_
                      refine ih7 (x + 1) (upd S2 (200 * y + x) (G (200 * y + x))) _ _ ls (by omega) (by omega) (lt_s (fun i hi => ?_) pk_us) (fun j hj => ?_) hW hS (lv_sub hl [1, 2, 3, 4, 0] rfl)
                      · rw [pk_un (show 200 * y + i ≠ 200 * y + x by omega)]; exact hs1 i hi
                      · rw [pk_un (show j ≠ 200 * y + x by omega)]; exact hs2 j hj
            · refine lv_iconst (v := (-1)) hx hb d_M_search_84 (by decide) ?_
              refine lv_istore (lv' := [(4, .int (-1)), (0, .ref (ad 400)), (1, .int w), (2, .int (nI (k + 1))), (3, .int (nI z))]) hx hb d_M_search_85 hl (by decide) rfl (fun ls hl => ?_)
              refine lv_ldc hx hb hown (hts _ q_659) d_M_search_87 ?_
              refine n_topi (show (1000000000 : Int32) = nI 1000000000 by decide) ?_
              refine lv_istore (lv' := [(5, .int (nI 1000000000)), (4, .int (-1)), (0, .ref (ad 400)), (1, .int w), (2, .int (nI (k + 1))), (3, .int (nI z))]) hx hb d_M_search_89 hl (by decide) rfl (fun ls hl => ?_)
              refine lv_iconst (v := nI 0) hx hb d_M_search_91 (by decide) ?_
              refine lv_istore (lv' := [(6, .int (nI 0)), (5, .int (nI 1000000000)), (4, .int (-1)), (0, .ref (ad 400)), (1, .int w), (2, .int (nI (k + 1))), (3, .int (nI z))]) hx hb d_M_search_92 hl (by decide) rfl (fun ls hl => ?_)
              suffices hloop : ∀ (d4 x : Nat) (bs : Int32) (lN : Nat) (H : Heap) (locs : List Loc) (ls : Array Slot), (x ≤ a) → (a + 1 ≤ x + d4) → (lN ≤ BIG) → (sBst (alw tr shp w) cl mv sp k z x P bs lN) → gW D gCl (gA ad co dl s.heap.size) ad (wS cI cJ co S G C E fd) dl H → va_S (gA ad co dl s.heap.size) s.heap H locs → lv_has ls 8 [(0, .ref (ad 400)), (1, .int w), (2, .int (nI (k + 1))), (3, .int (nI z)), (4, .int bs), (5, .int (nI lN)), (6, .int (nI x))] → W pp l ee _ s mm _ below meth cd H locs 0 0 _ (F0 mm 94 ls []) by
                exact hloop (a + 1) 0 (-1) BIG _ _ ls (by omega) (by omega) (Nat.le_refl _) (Or.inl ⟨rfl, rfl, fun y hy => absurd hy (Nat.not_lt_zero y)⟩) hW hS (lv_sub hl [3, 4, 5, 6, 2, 1, 0] rfl)
              clear hW hS hl
              intro d4
              induction d4 with
              | zero => intro x bs lN H locs ls hx4 hd4 hlN hB; omega
              | succ d4 ih4 =>
                intro x bs lN H locs ls hx4 hd4 hlN hB hW hS hl
                have hBIG : BIG = 1000000000 := rfl
                refine lv_iload hx hb d_M_search_94 (lv_at hl 6 rfl) ?_
                refine lv_aload_n hx hb d_M_search_96 rfl (lv_at hl 0 rfl) ?_
                refine g_get (C := R_M) (T := F_M) (N := 35) hx hb hts i_M hown hK hW (i := 400) (hdl 400 (by decide) (by decide)) ((wS_o (by decide)).trans h400) rfl 0 (by decide) (hts _ q_488) (fun _ h9 => h9) rfl d_M_search_97 ?_
                refine n_icmp_ge (tgt := 189) hx hb (by omega) (by omega) d_M_search_100 (by decide) (fun h3 => ?_) (fun h3 => ?_)
                · have hxa : x = a := by omega
                  rw [hxa] at hB
                  rcases hB with ⟨e1, e2, e3⟩ | ⟨v, e1, e2, e3, e4, e5⟩
                  · obtain ⟨b, hb1, hb2⟩ := hok.2.2.2.2.2 k (by omega)
                    rw [e3 b hb1] at hb2; cases hb2
                  subst e2
                  obtain ⟨hOv, hCv, hSv⟩ := (hI v e1).1 e3
                  have hpc := pcs_le hok k (by omega) hOv.1
                  have hmx := hok.2.2.2.1 v z e1 h2
                  have hck := hcl (k + 1) h1
                  have hspz := hok.2.2.2.2.1 z (k + 1) h2 h1
                  clear ih4
                  refine lv_aload_n hx hb d_M_search_189 rfl (lv_at hl 0 rfl) ?_
                  refine g_get (C := R_M) (T := F_M) (N := 35) hx hb hts i_M hown hK hW (i := 400) (hdl 400 (by decide) (by decide)) ((wS_o (by decide)).trans h400) rfl 31 (by decide) (hts _ q_519) (fun _ h9 => h9) rfl d_M_search_190 ?_
                  refine lv_iload_n hx hb d_M_search_193 rfl (lv_at hl 3 rfl) ?_
                  refine lv_iload hx hb d_M_search_194 (lv_at hl 4 rfl) ?_
                  refine lv_iconst (v := (-1)) hx hb d_M_search_196 (by decide) ?_
                  refine lv_icmp_eq (tgt := 210) hx hb d_M_search_197 (by decide) (fun h5 => ?_) (fun h5 => ?_)
                  · exact absurd h5 (nI_ne_m1 (by omega))
                  · refine lv_aload_n hx hb d_M_search_200 rfl (lv_at hl 0 rfl) ?_
                    refine lv_iload_n hx hb d_M_search_201 rfl (lv_at hl 2 rfl) ?_
                    refine lv_iload_n hx hb d_M_search_202 rfl (lv_at hl 3 rfl) ?_
                    refine lv_iload_n hx hb d_M_search_203 rfl (lv_at hl 1 rfl) ?_
                    refine g_cVi (As := [.int (nI (k + 1)), .int (nI z), .int w]) (rest := [.int (nI z), .ref (ad 423)]) ⟨hx, hb, hml, hown, hts⟩ (c_M_may l hdl ((wS_o (by decide)).trans h400) ((wS_o (by decide)).trans h408) ((wS_o (by decide)).trans h409) (k + 1) z w (by omega) (hsh (k + 1) h1)) (gcwV 3 hts q_658 q_655 q_657 qs_12 q_9 (by decide +kernel) ⟨(Nat.le_of_ble_eq_true rfl), (Nat.le_of_ble_eq_true rfl)⟩) gNl_ok hN hK hW hS hA (hdl 400 (by decide) (by decide)) ((wS_o (by decide)).trans h400) rfl rfl hl.1 rfl (Nat.le_of_ble_eq_true rfl) d_M_search_204 ⟨Nat.zero_le _, Nat.zero_le _⟩ (fun r co9 H locs hp9 hW hS => ?_)
                    obtain ⟨rfl, hco9⟩ := hp9
                    rw [hco9] at hW
                    refine n_ifz_ne (tgt := 215) hx hb d_M_search_207 (by decide) (fun h6 => ?_) (fun h6 => ?_)
                    · refine lv_iload hx hb d_M_search_215 (lv_at hl 5 rfl) ?_
                      refine lv_aload_n hx hb d_M_search_217 rfl (lv_at hl 0 rfl) ?_
                      refine g_get (C := R_M) (T := F_M) (N := 35) hx hb hts i_M hown hK hW (i := 400) (hdl 400 (by decide) (by decide)) ((wS_o (by decide)).trans h400) rfl 2 (by decide) (hts _ q_490) (fun _ h9 => h9) rfl d_M_search_218 ?_
                      refine lv_bipush (v := nI 10) hx hb d_M_search_221 (by decide) ?_
                      refine lv_iload_n hx hb d_M_search_223 rfl (lv_at hl 3 rfl) ?_
                      refine n_mul hx hb d_M_search_224 ?_
                      refine lv_aload_n hx hb d_M_search_225 rfl (lv_at hl 0 rfl) ?_
                      refine g_get (C := R_M) (T := F_M) (N := 35) hx hb hts i_M hown hK hW (i := 400) (hdl 400 (by decide) (by decide)) ((wS_o (by decide)).trans h400) rfl 7 (by decide) (hts _ q_495) (fun _ h9 => h9) rfl d_M_search_226 ?_
                      refine lv_iload_n hx hb d_M_search_229 rfl (lv_at hl 2 rfl) ?_
                      refine n_iald hx hb hK hW 0 (q := 406) (hdl 406 (by decide) (by decide)) ((wS_o (by decide)).trans h406) rfl (j := k + 1) (by omega) (by omega) d_M_search_230 ?_
                      refine n_topi (show cls (k + 1) = nI (cl (k + 1)) from hck.1) ?_
                      refine n_add hx hb d_M_search_231 ?_
                      refine n_iald hx hb hK hW 0 (q := 402) (hdl 402 (by decide) (by decide)) ((wS_o (by decide)).trans h402) rfl (j := (10 * z) + (cl (k + 1))) (by omega) (by omega) d_M_search_232 ?_
                      refine n_topi (show fs ((10 * z) + (cl (k + 1))) = nI (sp z (cl (k + 1))) from hsp z (cl (k + 1)) h2 hck.2) ?_
                      refine n_add hx hb d_M_search_233 ?_
                      refine n_iast (x := nI (lN + (sp z (cl (k + 1))))) hx hb hK hW hS 0 (q := 423) (hdl 423 (by decide) (by decide)) wS_423 rfl (j := z) (by omega) (by omega) d_M_search_234 (fun H locs hW hS => ?_)
                      rw [wS_u423] at hW
                      obtain ⟨E1, hE1⟩ : ∃ g, g = upd E z (nI (lN + sp z (cl (k + 1)))) := ⟨_, rfl⟩
                      rw [← hE1] at hW
                      refine lv_iconst (v := nI 0) hx hb d_M_search_235 (by decide) ?_
                      refine lv_istore (lv' := [(6, .int (nI 0)), (0, .ref (ad 400)), (1, .int w), (2, .int (nI (k + 1))), (3, .int (nI z)), (4, .int (nI v)), (5, .int (nI lN))]) hx hb d_M_search_236 hl (by decide) rfl (fun ls hl => ?_)
                      suffices hloop : ∀ (d5 y : Nat) (G1 : Nat → Int32) (H : Heap) (locs : List Loc) (ls : Array Slot), (y ≤ k + 1) → (k + 2 ≤ y + d5) → (∀ i, i < y → G1 (200 * z + i) = S (200 * v + i)) → (∀ j, j < 200 * z → G1 j = G j) → gW D gCl (gA ad co dl s.heap.size) ad (wS cI cJ co S G1 C E1 fd) dl H → va_S (gA ad co dl s.heap.size) s.heap H locs → lv_has ls 8 [(0, .ref (ad 400)), (1, .int w), (2, .int (nI (k + 1))), (3, .int (nI z)), (4, .int (nI v)), (6, .int (nI y))] → W pp l ee _ s mm _ below meth cd H locs 0 0 _ (F0 mm 238 ls []) by
                        exact hloop (k + 2) 0 G _ _ ls (by omega) (by omega) (fun i h => absurd h (Nat.not_lt_zero i)) (fun _ _ => rfl) hW hS (lv_sub hl [1, 2, 3, 4, 5, 0] rfl)
                      clear hW hS hl
                      intro d5
                      induction d5 with
                      | zero => intro y G1 H locs ls hy hd5 hg1 hg2; omega
                      | succ d5 ih5 =>
                        intro y G1 H locs ls hy hd5 hg1 hg2 hW hS hl
                        refine lv_iload hx hb d_M_search_238 (lv_at hl 5 rfl) ?_
                        refine lv_iload_n hx hb d_M_search_240 rfl (lv_at hl 2 rfl) ?_
                        refine n_icmp_ge (tgt := 283) hx hb (by omega) (by omega) d_M_search_241 (by decide) (fun h7 => ?_) (fun h7 => ?_)
                        · have hyk : y = k + 1 := by omega
                          rw [hyk] at hg1
                          refine lv_aload_n hx hb d_M_search_283 rfl (lv_at hl 0 rfl) ?_
                          refine g_get (C := R_M) (T := F_M) (N := 35) hx hb hts i_M hown hK hW (i := 400) (hdl 400 (by decide) (by decide)) ((wS_o (by decide)).trans h400) rfl 29 (by decide) (hts _ q_517) (fun _ h9 => h9) rfl d_M_search_284 ?_
                          refine lv_sipush (v := nI 200) hx hb d_M_search_287 (by decide) ?_
                          refine lv_iload_n hx hb d_M_search_290 rfl (lv_at hl 3 rfl) ?_
                          refine n_mul hx hb d_M_search_291 ?_
                          refine lv_iload_n hx hb d_M_search_292 rfl (lv_at hl 2 rfl) ?_
                          refine n_add hx hb d_M_search_293 ?_
                          refine lv_iload_n hx hb d_M_search_294 rfl (lv_at hl 3 rfl) ?_
                          refine n_iast (x := nI z) hx hb hK hW hS 0 (q := 421) (hdl 421 (by decide) (by decide)) wS_421 rfl (j := (200 * z) + (k + 1)) (by omega) (by omega) d_M_search_295 (fun H locs hW hS => ?_)
                          rw [wS_u421] at hW
                          refine n_iinc (lv' := [(3, .int (nI (z + 1))), (0, .ref (ad 400)), (1, .int w), (2, .int (nI (k + 1))), (4, .int (nI v)), (6, .int (nI y))]) hx hb d_M_search_296 hl (k := 3) rfl (by decide) rfl (fun ls hl => ?_)
                          refine lv_goto (tgt := 76) hx hb d_M_search_299 (by decide) ?_
                          refine ih3 (z + 1) (va_up R z (fun i => if i ≤ k then P v i else z)) (upd G1 (200 * z + (k + 1)) (nI z)) E1 _ _ ls (by omega) (by omega) (fun b hb => ?_) hW hS (lv_sub hl [1, 2, 3, 0] rfl)
                          by_cases hbz : b = z
                          · subst hbz
                            rw [va_up_self, hE1, pk_us]
                            refine ⟨fun _ => ?_, fun q => by rw [q] at h6; cases h6⟩
                            have hX : opt a (alw tr shp w) cl mv sp (k + 1) b (fun i => if i ≤ k then P v i else b) := opt_step (fun z hz hza => ((hI z hz).1 hza).1) e1 e3 e5 h2 h6 (fun i hi => if_pos hi) (if_neg (by omega))
                            refine ⟨hX, ?_, fun i hi => ?_⟩
                            · have e9 : pcs cl mv sp (fun i => if i ≤ k then P v i else b) k = pcs cl mv sp (P v) k := pcs_congr (fun i hi => if_pos hi)
                              show nI _ = nI (pcs cl mv sp (fun i => if i ≤ k then P v i else b) k + mv (if k ≤ k then P v k else b) (if k + 1 ≤ k then P v (k + 1) else b) + sp (if k + 1 ≤ k then P v (k + 1) else b) (cl (k + 1)))
                              rw [e9, if_pos (Nat.le_refl k), if_neg (by omega), hOv.2.1, e4]
                            · by_cases hik : i = k + 1
                              · subst hik
                                rw [pk_us, if_neg (by omega)]
                              · rw [pk_un (show 200 * b + i ≠ 200 * b + (k + 1) by omega), hg1 i (by omega), hSv i (by omega), if_pos (by omega)]
                          · have hR2 := hR b (by omega)
                            rw [va_up_ne _ _ hbz, hE1, pk_un hbz]
                            refine ⟨fun q => ⟨(hR2.1 q).1, (hR2.1 q).2.1, fun i hi => ?_⟩, hR2.2⟩
                            rw [pk_un (show 200 * b + i ≠ 200 * z + (k + 1) by omega), hg2 _ (by omega)]
                            exact (hR2.1 q).2.2 i hi
                        · refine lv_iload hx hb d_M_search_244 (lv_at hl 4 rfl) ?_
                          refine lv_iconst (v := (-1)) hx hb d_M_search_246 (by decide) ?_
                          refine lv_icmp_eq (tgt := 283) hx hb d_M_search_247 (by decide) (fun h8 => ?_) (fun h8 => ?_)
                          · exact absurd h8 (nI_ne_m1 (by omega))
                          · refine lv_aload_n hx hb d_M_search_250 rfl (lv_at hl 0 rfl) ?_
                            refine g_get (C := R_M) (T := F_M) (N := 35) hx hb hts i_M hown hK hW (i := 400) (hdl 400 (by decide) (by decide)) ((wS_o (by decide)).trans h400) rfl 29 (by decide) (hts _ q_517) (fun _ h9 => h9) rfl d_M_search_251 ?_
                            refine lv_sipush (v := nI 200) hx hb d_M_search_254 (by decide) ?_
                            refine lv_iload_n hx hb d_M_search_257 rfl (lv_at hl 3 rfl) ?_
                            refine n_mul hx hb d_M_search_258 ?_
                            refine lv_iload hx hb d_M_search_259 (lv_at hl 5 rfl) ?_
                            refine n_add hx hb d_M_search_261 ?_
                            refine lv_aload_n hx hb d_M_search_262 rfl (lv_at hl 0 rfl) ?_
                            refine g_get (C := R_M) (T := F_M) (N := 35) hx hb hts i_M hown hK hW (i := 400) (hdl 400 (by decide) (by decide)) ((wS_o (by decide)).trans h400) rfl 28 (by decide) (hts _ q_516) (fun _ h9 => h9) rfl d_M_search_263 ?_
                            refine lv_sipush (v := nI 200) hx hb d_M_search_266 (by decide) ?_
                            refine lv_iload hx hb d_M_search_269 (lv_at hl 4 rfl) ?_
                            refine n_mul hx hb d_M_search_271 ?_
                            refine lv_iload hx hb d_M_search_272 (lv_at hl 5 rfl) ?_
                            refine n_add hx hb d_M_search_274 ?_
                            refine n_iald hx hb hK hW 0 (q := 420) (hdl 420 (by decide) (by decide)) wS_420 rfl (j := (200 * v) + y) (by omega) (by omega) d_M_search_275 ?_
                            refine n_iast (x := S ((200 * v) + y)) hx hb hK hW hS 0 (q := 421) (hdl 421 (by decide) (by decide)) wS_421 rfl (j := (200 * z) + y) (by omega) (by omega) d_M_search_276 (fun H locs hW hS => ?_)
                            rw [wS_u421] at hW
                            refine n_iinc (lv' := [(6, .int (nI (y + 1))), (0, .ref (ad 400)), (1, .int w), (2, .int (nI (k + 1))), (3, .int (nI z)), (4, .int (nI v))]) hx hb d_M_search_277 hl (k := 5) rfl (by decide) rfl (fun ls hl => ?_)
                            refine lv_goto (tgt := 238) hx hb d_M_search_280 (by decide) ?_
                            refine ih5 (y + 1) (upd G1 (200 * z + y) (S (200 * v + y))) _ _ ls (by omega) (by omega) (lt_s (fun i hi => ?_) pk_us) (fun j hj => ?_) hW hS (lv_sub hl [1, 2, 3, 4, 5, 0] rfl)
                            · rw [pk_un (show 200 * z + i ≠ 200 * z + y by omega)]; exact hg1 i hi
                            · rw [pk_un (show j ≠ 200 * z + y by omega)]; exact hg2 j hj
                    · refine lv_ldc hx hb hown (hts _ q_659) d_M_search_210 ?_
                      refine n_topi (show (1000000000 : Int32) = nI 1000000000 by decide) ?_
                      refine lv_goto (tgt := 234) hx hb d_M_search_212 (by decide) ?_
                      refine n_iast (x := nI 1000000000) hx hb hK hW hS 0 (q := 423) (hdl 423 (by decide) (by decide)) wS_423 rfl (j := z) (by omega) (by omega) d_M_search_234 (fun H locs hW hS => ?_)
                      rw [wS_u423] at hW
                      obtain ⟨E1, hE1⟩ : ∃ g, g = upd E z (nI 1000000000) := ⟨_, rfl⟩
                      rw [← hE1] at hW
                      refine lv_iconst (v := nI 0) hx hb d_M_search_235 (by decide) ?_
                      refine lv_istore (lv' := [(6, .int (nI 0)), (0, .ref (ad 400)), (1, .int w), (2, .int (nI (k + 1))), (3, .int (nI z)), (4, .int (nI v)), (5, .int (nI lN))]) hx hb d_M_search_236 hl (by decide) rfl (fun ls hl => ?_)
                      suffices hloop : ∀ (d5 y : Nat) (G1 : Nat → Int32) (H : Heap) (locs : List Loc) (ls : Array Slot), (y ≤ k + 1) → (k + 2 ≤ y + d5) → (∀ i, i < y → G1 (200 * z + i) = S (200 * v + i)) → (∀ j, j < 200 * z → G1 j = G j) → gW D gCl (gA ad co dl s.heap.size) ad (wS cI cJ co S G1 C E1 fd) dl H → va_S (gA ad co dl s.heap.size) s.heap H locs → lv_has ls 8 [(0, .ref (ad 400)), (1, .int w), (2, .int (nI (k + 1))), (3, .int (nI z)), (4, .int (nI v)), (6, .int (nI y))] → W pp l ee _ s mm _ below meth cd H locs 0 0 _ (F0 mm 238 ls []) by
                        exact hloop (k + 2) 0 G _ _ ls (by omega) (by omega) (fun i h => absurd h (Nat.not_lt_zero i)) (fun _ _ => rfl) hW hS (lv_sub hl [1, 2, 3, 4, 5, 0] rfl)
                      clear hW hS hl
                      intro d5
                      induction d5 with
                      | zero => intro y G1 H locs ls hy hd5 hg1 hg2; omega
                      | succ d5 ih5 =>
                        intro y G1 H locs ls hy hd5 hg1 hg2 hW hS hl
                        refine lv_iload hx hb d_M_search_238 (lv_at hl 5 rfl) ?_
                        refine lv_iload_n hx hb d_M_search_240 rfl (lv_at hl 2 rfl) ?_
                        refine n_icmp_ge (tgt := 283) hx hb (by omega) (by omega) d_M_search_241 (by decide) (fun h7 => ?_) (fun h7 => ?_)
                        · have hyk : y = k + 1 := by omega
                          rw [hyk] at hg1
                          refine lv_aload_n hx hb d_M_search_283 rfl (lv_at hl 0 rfl) ?_
                          refine g_get (C := R_M) (T := F_M) (N := 35) hx hb hts i_M hown hK hW (i := 400) (hdl 400 (by decide) (by decide)) ((wS_o (by decide)).trans h400) rfl 29 (by decide) (hts _ q_517) (fun _ h9 => h9) rfl d_M_search_284 ?_
                          refine lv_sipush (v := nI 200) hx hb d_M_search_287 (by decide) ?_
                          refine lv_iload_n hx hb d_M_search_290 rfl (lv_at hl 3 rfl) ?_
                          refine n_mul hx hb d_M_search_291 ?_
                          refine lv_iload_n hx hb d_M_search_292 rfl (lv_at hl 2 rfl) ?_
                          refine n_add hx hb d_M_search_293 ?_
                          refine lv_iload_n hx hb d_M_search_294 rfl (lv_at hl 3 rfl) ?_
                          refine n_iast (x := nI z) hx hb hK hW hS 0 (q := 421) (hdl 421 (by decide) (by decide)) wS_421 rfl (j := (200 * z) + (k + 1)) (by omega) (by omega) d_M_search_295 (fun H locs hW hS => ?_)
                          rw [wS_u421] at hW
                          refine n_iinc (lv' := [(3, .int (nI (z + 1))), (0, .ref (ad 400)), (1, .int w), (2, .int (nI (k + 1))), (4, .int (nI v)), (6, .int (nI y))]) hx hb d_M_search_296 hl (k := 3) rfl (by decide) rfl (fun ls hl => ?_)
                          refine lv_goto (tgt := 76) hx hb d_M_search_299 (by decide) ?_
                          refine ih3 (z + 1) (va_up R z (fun i => if i ≤ k then P v i else z)) (upd G1 (200 * z + (k + 1)) (nI z)) E1 _ _ ls (by omega) (by omega) (fun b hb => ?_) hW hS (lv_sub hl [1, 2, 3, 0] rfl)
                          by_cases hbz : b = z
                          · subst hbz
                            rw [va_up_self, hE1, pk_us]
                            exact ⟨fun q => (by rw [q] at h6; cases h6), fun _ => rfl⟩
                          · have hR2 := hR b (by omega)
                            rw [va_up_ne _ _ hbz, hE1, pk_un hbz]
                            refine ⟨fun q => ⟨(hR2.1 q).1, (hR2.1 q).2.1, fun i hi => ?_⟩, hR2.2⟩
                            rw [pk_un (show 200 * b + i ≠ 200 * z + (k + 1) by omega), hg2 _ (by omega)]
                            exact (hR2.1 q).2.2 i hi
                        · refine lv_iload hx hb d_M_search_244 (lv_at hl 4 rfl) ?_
                          refine lv_iconst (v := (-1)) hx hb d_M_search_246 (by decide) ?_
                          refine lv_icmp_eq (tgt := 283) hx hb d_M_search_247 (by decide) (fun h8 => ?_) (fun h8 => ?_)
                          · exact absurd h8 (nI_ne_m1 (by omega))
                          · refine lv_aload_n hx hb d_M_search_250 rfl (lv_at hl 0 rfl) ?_
                            refine g_get (C := R_M) (T := F_M) (N := 35) hx hb hts i_M hown hK hW (i := 400) (hdl 400 (by decide) (by decide)) ((wS_o (by decide)).trans h400) rfl 29 (by decide) (hts _ q_517) (fun _ h9 => h9) rfl d_M_search_251 ?_
                            refine lv_sipush (v := nI 200) hx hb d_M_search_254 (by decide) ?_
                            refine lv_iload_n hx hb d_M_search_257 rfl (lv_at hl 3 rfl) ?_
                            refine n_mul hx hb d_M_search_258 ?_
                            refine lv_iload hx hb d_M_search_259 (lv_at hl 5 rfl) ?_
                            refine n_add hx hb d_M_search_261 ?_
                            refine lv_aload_n hx hb d_M_search_262 rfl (lv_at hl 0 rfl) ?_
                            refine g_get (C := R_M) (T := F_M) (N := 35) hx hb hts i_M hown hK hW (i := 400) (hdl 400 (by decide) (by decide)) ((wS_o (by decide)).trans h400) rfl 28 (by decide) (hts _ q_516) (fun _ h9 => h9) rfl d_M_search_263 ?_
                            refine lv_sipush (v := nI 200) hx hb d_M_search_266 (by decide) ?_
                            refine lv_iload hx hb d_M_search_269 (lv_at hl 4 rfl) ?_
                            refine n_mul hx hb d_M_search_271 ?_
                            refine lv_iload hx hb d_M_search_272 (lv_at hl 5 rfl) ?_
                            refine n_add hx hb d_M_search_274 ?_
                            refine n_iald hx hb hK hW 0 (q := 420) (hdl 420 (by decide) (by decide)) wS_420 rfl (j := (200 * v) + y) (by omega) (by omega) d_M_search_275 ?_
                            refine n_iast (x := S ((200 * v) + y)) hx hb hK hW hS 0 (q := 421) (hdl 421 (by decide) (by decide)) wS_421 rfl (j := (200 * z) + y) (by omega) (by omega) d_M_search_276 (fun H locs hW hS => ?_)
                            rw [wS_u421] at hW
                            refine n_iinc (lv' := [(6, .int (nI (y + 1))), (0, .ref (ad 400)), (1, .int w), (2, .int (nI (k + 1))), (3, .int (nI z)), (4, .int (nI v))]) hx hb d_M_search_277 hl (k := 5) rfl (by decide) rfl (fun ls hl => ?_)
                            refine lv_goto (tgt := 238) hx hb d_M_search_280 (by decide) ?_
                            refine ih5 (y + 1) (upd G1 (200 * z + y) (S (200 * v + y))) _ _ ls (by omega) (by omega) (lt_s (fun i hi => ?_) pk_us) (fun j hj => ?_) hW hS (lv_sub hl [1, 2, 3, 4, 5, 0] rfl)
                            · rw [pk_un (show 200 * z + i ≠ 200 * z + y by omega)]; exact hg1 i hi
                            · rw [pk_un (show j ≠ 200 * z + y by omega)]; exact hg2 j hj
                · have hIx := hI x h3
                  cases hal : (alw tr shp w) k x with
                  | false =>
                    have hC := hIx.2 hal
                    refine lv_aload_n hx hb d_M_search_103 rfl (lv_at hl 0 rfl) ?_
                    refine g_get (C := R_M) (T := F_M) (N := 35) hx hb hts i_M hown hK hW (i := 400) (hdl 400 (by decide) (by decide)) ((wS_o (by decide)).trans h400) rfl 30 (by decide) (hts _ q_518) (fun _ h9 => h9) rfl d_M_search_104 ?_
                    refine lv_iload hx hb d_M_search_107 (lv_at hl 6 rfl) ?_
                    refine n_iald hx hb hK hW 0 (q := 422) (hdl 422 (by decide) (by decide)) wS_422 rfl (j := x) (by omega) (by omega) d_M_search_109 ?_
                    refine n_topi (show C x = nI 1000000000 from hC) ?_
                    refine lv_ldc hx hb hown (hts _ q_659) d_M_search_110 ?_
                    refine n_topi (show (1000000000 : Int32) = nI 1000000000 by decide) ?_
                    refine n_icmp_lt (tgt := 120) hx hb (by omega) (by omega) d_M_search_112 (by decide) (fun h4 => ?_) (fun h4 => ?_)
                    · omega
                    · refine lv_ldc hx hb hown (hts _ q_659) d_M_search_115 ?_
                      refine n_topi (show (1000000000 : Int32) = nI 1000000000 by decide) ?_
                      refine lv_goto (tgt := 140) hx hb d_M_search_117 (by decide) ?_
                      refine lv_istore (lv' := [(7, .int (nI 1000000000)), (0, .ref (ad 400)), (1, .int w), (2, .int (nI (k + 1))), (3, .int (nI z)), (4, .int bs), (5, .int (nI lN)), (6, .int (nI x))]) hx hb d_M_search_140 hl (by decide) rfl (fun ls hl => ?_)
                      refine lv_iload hx hb d_M_search_142 (lv_at hl 0 rfl) ?_
                      refine lv_iload hx hb d_M_search_144 (lv_at hl 6 rfl) ?_
                      refine n_icmp_lt (tgt := 175) hx hb (by omega) (by omega) d_M_search_146 (by decide) (fun h5 => ?_) (fun h5 => ?_)
                      · omega
                      · refine lv_iload hx hb d_M_search_149 (lv_at hl 0 rfl) ?_
                        refine lv_iload hx hb d_M_search_151 (lv_at hl 6 rfl) ?_
                        refine n_icmp_ne (tgt := 183) hx hb (by omega) (by omega) d_M_search_153 (by decide) (fun h6 => ?_) (fun h6 => ?_)
                        · refine n_iinc (lv' := [(6, .int (nI (x + 1))), (7, .int (nI 1000000000)), (0, .ref (ad 400)), (1, .int w), (2, .int (nI (k + 1))), (3, .int (nI z)), (4, .int bs), (5, .int (nI lN))]) hx hb d_M_search_183 hl (k := 7) rfl (by decide) rfl (fun ls hl => ?_)
                          refine lv_goto (tgt := 94) hx hb d_M_search_186 (by decide) ?_
                          exact ih4 (x + 1) bs lN _ _ ls (by omega) (by omega) hlN (by
                            rcases hB with ⟨e1, e2, e3⟩ | ⟨v, e1, e2, e3, e4, e5⟩
                            · exact Or.inl ⟨e1, e2, lt_s e3 hal⟩
                            · exact Or.inr ⟨v, by omega, e2, e3, e4, lt_s e5 (fun q => by rw [hal] at q; cases q)⟩) hW hS (lv_sub hl [2, 3, 4, 5, 6, 7, 0] rfl)
                        · refine lv_iload hx hb d_M_search_156 (lv_at hl 0 rfl) ?_
                          refine lv_ldc hx hb hown (hts _ q_659) d_M_search_158 ?_
                          refine n_topi (show (1000000000 : Int32) = nI 1000000000 by decide) ?_
                          refine n_icmp_ge (tgt := 183) hx hb (by omega) (by omega) d_M_search_160 (by decide) (fun h7 => ?_) (fun h7 => ?_)
                          · refine n_iinc (lv' := [(6, .int (nI (x + 1))), (7, .int (nI 1000000000)), (0, .ref (ad 400)), (1, .int w), (2, .int (nI (k + 1))), (3, .int (nI z)), (4, .int bs), (5, .int (nI lN))]) hx hb d_M_search_183 hl (k := 7) rfl (by decide) rfl (fun ls hl => ?_)
                            refine lv_goto (tgt := 94) hx hb d_M_search_186 (by decide) ?_
                            exact ih4 (x + 1) bs lN _ _ ls (by omega) (by omega) hlN (by
                              rcases hB with ⟨e1, e2, e3⟩ | ⟨v, e1, e2, e3, e4, e5⟩
                              · exact Or.inl ⟨e1, e2, lt_s e3 hal⟩
                              · exact Or.inr ⟨v, by omega, e2, e3, e4, lt_s e5 (fun q => by rw [hal] at q; cases q)⟩) hW hS (lv_sub hl [2, 3, 4, 5, 6, 7, 0] rfl)
                          · omega
                  | true =>
                    obtain ⟨hO, hC, hSx⟩ := hIx.1 hal
                    have hpc := pcs_le hok k (by omega) hO.1
                    have hmx := hok.2.2.2.1 x z h3 h2
                    obtain ⟨pc, hpcE⟩ : ∃ v, v = pcs cl mv sp (P x) k := ⟨_, rfl⟩
                    rw [← hpcE] at hpc hC
                    refine lv_aload_n hx hb d_M_search_103 rfl (lv_at hl 0 rfl) ?_
                    refine g_get (C := R_M) (T := F_M) (N := 35) hx hb hts i_M hown hK hW (i := 400) (hdl 400 (by decide) (by decide)) ((wS_o (by decide)).trans h400) rfl 30 (by decide) (hts _ q_518) (fun _ h9 => h9) rfl d_M_search_104 ?_
                    refine lv_iload hx hb d_M_search_107 (lv_at hl 6 rfl) ?_
                    refine n_iald hx hb hK hW 0 (q := 422) (hdl 422 (by decide) (by decide)) wS_422 rfl (j := x) (by omega) (by omega) d_M_search_109 ?_
                    refine n_topi (show C x = nI pc from hC) ?_
                    refine lv_ldc hx hb hown (hts _ q_659) d_M_search_110 ?_
                    refine n_topi (show (1000000000 : Int32) = nI 1000000000 by decide) ?_
                    refine n_icmp_lt (tgt := 120) hx hb (by omega) (by omega) d_M_search_112 (by decide) (fun h4 => ?_) (fun h4 => ?_)
                    · refine lv_aload_n hx hb d_M_search_120 rfl (lv_at hl 0 rfl) ?_
                      refine g_get (C := R_M) (T := F_M) (N := 35) hx hb hts i_M hown hK hW (i := 400) (hdl 400 (by decide) (by decide)) ((wS_o (by decide)).trans h400) rfl 30 (by decide) (hts _ q_518) (fun _ h9 => h9) rfl d_M_search_121 ?_
                      refine lv_iload hx hb d_M_search_124 (lv_at hl 6 rfl) ?_
                      refine n_iald hx hb hK hW 0 (q := 422) (hdl 422 (by decide) (by decide)) wS_422 rfl (j := x) (by omega) (by omega) d_M_search_126 ?_
                      refine n_topi (show C x = nI pc from hC) ?_
                      refine lv_aload_n hx hb d_M_search_127 rfl (lv_at hl 0 rfl) ?_
                      refine g_get (C := R_M) (T := F_M) (N := 35) hx hb hts i_M hown hK hW (i := 400) (hdl 400 (by decide) (by decide)) ((wS_o (by decide)).trans h400) rfl 1 (by decide) (hts _ q_489) (fun _ h9 => h9) rfl d_M_search_128 ?_
                      refine lv_bipush (v := nI 12) hx hb d_M_search_131 (by decide) ?_
                      refine lv_iload hx hb d_M_search_133 (lv_at hl 6 rfl) ?_
                      refine n_mul hx hb d_M_search_135 ?_
                      refine lv_iload_n hx hb d_M_search_136 rfl (lv_at hl 3 rfl) ?_
                      refine n_add hx hb d_M_search_137 ?_
                      refine n_iald hx hb hK hW 0 (q := 401) (hdl 401 (by decide) (by decide)) ((wS_o (by decide)).trans h401) rfl (j := (12 * x) + z) (by omega) (by omega) d_M_search_138 ?_
                      refine n_topi (show fm ((12 * x) + z) = nI (mv x z) from hmv x z h3 h2) ?_
                      refine n_add hx hb d_M_search_139 ?_
                      refine lv_istore (lv' := [(7, .int (nI (pc + (mv x z)))), (0, .ref (ad 400)), (1, .int w), (2, .int (nI (k + 1))), (3, .int (nI z)), (4, .int bs), (5, .int (nI lN)), (6, .int (nI x))]) hx hb d_M_search_140 hl (by decide) rfl (fun ls hl => ?_)
                      refine lv_iload hx hb d_M_search_142 (lv_at hl 0 rfl) ?_
                      refine lv_iload hx hb d_M_search_144 (lv_at hl 6 rfl) ?_
                      refine n_icmp_lt (tgt := 175) hx hb (by omega) (by omega) d_M_search_146 (by decide) (fun h5 => ?_) (fun h5 => ?_)
                      · refine lv_iload hx hb d_M_search_175 (lv_at hl 0 rfl) ?_
                        refine lv_istore (lv' := [(5, .int (nI (pc + (mv x z)))), (7, .int (nI (pc + (mv x z)))), (0, .ref (ad 400)), (1, .int w), (2, .int (nI (k + 1))), (3, .int (nI z)), (4, .int bs), (6, .int (nI x))]) hx hb d_M_search_177 hl (by decide) rfl (fun ls hl => ?_)
                        refine lv_iload hx hb d_M_search_179 (lv_at hl 7 rfl) ?_
                        refine lv_istore (lv' := [(4, .int (nI x)), (5, .int (nI (pc + (mv x z)))), (7, .int (nI (pc + (mv x z)))), (0, .ref (ad 400)), (1, .int w), (2, .int (nI (k + 1))), (3, .int (nI z)), (6, .int (nI x))]) hx hb d_M_search_181 hl (by decide) rfl (fun ls hl => ?_)
                        refine n_iinc (lv' := [(6, .int (nI (x + 1))), (4, .int (nI x)), (5, .int (nI (pc + (mv x z)))), (7, .int (nI (pc + (mv x z)))), (0, .ref (ad 400)), (1, .int w), (2, .int (nI (k + 1))), (3, .int (nI z))]) hx hb d_M_search_183 hl (k := 7) rfl (by decide) rfl (fun ls hl => ?_)
                        refine lv_goto (tgt := 94) hx hb d_M_search_186 (by decide) ?_
                        exact ih4 (x + 1) (nI x) (pc + mv x z) _ _ ls (by omega) (by omega) (by omega) (by
                          refine Or.inr ⟨x, by omega, rfl, hal, by rw [hpcE], lt_s ?_ (fun _ => noW_refl)⟩
                          rcases hB with ⟨e1, e2, e3⟩ | ⟨v, e1, e2, e3, e4, e5⟩
                          · intro y hy hya; rw [e3 y hy] at hya; cases hya
                          · exact fun y hy hya => noW_trans (Or.inl (by omega)) (e5 y hy hya)) hW hS (lv_sub hl [4, 5, 6, 7, 1, 2, 0] rfl)
                      · rcases hB with ⟨e1, e2, e3⟩ | ⟨v, e1, e2, e3, e4, e5⟩
                        · omega
                        subst e2
                        refine lv_iload hx hb d_M_search_149 (lv_at hl 0 rfl) ?_
                        refine lv_iload hx hb d_M_search_151 (lv_at hl 6 rfl) ?_
                        refine n_icmp_ne (tgt := 183) hx hb (by omega) (by omega) d_M_search_153 (by decide) (fun h6 => ?_) (fun h6 => ?_)
                        · refine n_iinc (lv' := [(6, .int (nI (x + 1))), (7, .int (nI (pc + (mv x z)))), (0, .ref (ad 400)), (1, .int w), (2, .int (nI (k + 1))), (3, .int (nI z)), (4, .int (nI v)), (5, .int (nI lN))]) hx hb d_M_search_183 hl (k := 7) rfl (by decide) rfl (fun ls hl => ?_)
                          refine lv_goto (tgt := 94) hx hb d_M_search_186 (by decide) ?_
                          exact ih4 (x + 1) (nI v) lN _ _ ls (by omega) (by omega) hlN (Or.inr ⟨v, by omega, rfl, e3, e4, lt_s e5 (fun _ => Or.inl (by omega))⟩) hW hS (lv_sub hl [2, 3, 4, 5, 6, 7, 0] rfl)
                        · refine lv_iload hx hb d_M_search_156 (lv_at hl 0 rfl) ?_
                          refine lv_ldc hx hb hown (hts _ q_659) d_M_search_158 ?_
                          refine n_topi (show (1000000000 : Int32) = nI 1000000000 by decide) ?_
                          refine n_icmp_ge (tgt := 183) hx hb (by omega) (by omega) d_M_search_160 (by decide) (fun h7 => ?_) (fun h7 => ?_)
                          · omega
                          · refine lv_aload_n hx hb d_M_search_163 rfl (lv_at hl 1 rfl) ?_
                            refine lv_iload hx hb d_M_search_164 (lv_at hl 7 rfl) ?_
                            refine lv_iload hx hb d_M_search_166 (lv_at hl 5 rfl) ?_
                            refine lv_iload_n hx hb d_M_search_168 rfl (lv_at hl 3 rfl) ?_
                            refine g_cVi (As := [.int (nI x), .int (nI v), .int (nI (k + 1))]) (rest := []) ⟨hx, hb, hml, hown, hts⟩ (c_M_isFirst l hdl ((wS_o (by decide)).trans h400) wS_420 x v (k + 1) (by omega) (by omega) (by omega)) (gcwV 3 hts q_663 q_660 q_662 qs_13 q_9 (by decide +kernel) ⟨(Nat.le_of_ble_eq_true rfl), (Nat.le_of_ble_eq_true rfl)⟩) gNl_ok hN hK hW hS hA (hdl 400 (by decide) (by decide)) ((wS_o (by decide)).trans h400) rfl rfl hl.1 rfl (Nat.le_of_ble_eq_true rfl) d_M_search_169 ⟨Nat.zero_le _, Nat.zero_le _⟩ (fun r co9 H locs hp9 hW hS => ?_)
                            obtain ⟨rfl, hco9⟩ := hp9
                            rw [hco9] at hW
                            obtain ⟨hOv, hCv, hSv⟩ := (hI v (by omega)).1 e3
                            have hlx := lexL_lxl (f := fun k => S (200 * x + k)) (g := fun k => S (200 * v + k)) (F := P x) (G := P v) (n := k + 1) (fun i hi => ⟨hSx i (by omega), by have := (hO.1 i (by omega)).1; omega⟩) (fun i hi => ⟨hSv i (by omega), by have := (hOv.1 i (by omega)).1; omega⟩)
                            refine n_ifz_eq (tgt := 183) hx hb d_M_search_172 (by decide) (fun h8 => ?_) (fun h8 => ?_)
                            · refine n_iinc (lv' := [(6, .int (nI (x + 1))), (7, .int (nI (pc + (mv x z)))), (0, .ref (ad 400)), (1, .int w), (2, .int (nI (k + 1))), (3, .int (nI z)), (4, .int (nI v)), (5, .int (nI lN))]) hx hb d_M_search_183 hl (k := 7) rfl (by decide) rfl (fun ls hl => ?_)
                              refine lv_goto (tgt := 94) hx hb d_M_search_186 (by decide) ?_
                              exact ih4 (x + 1) (nI v) lN _ _ ls (by omega) (by omega) hlN (Or.inr ⟨v, by omega, rfl, e3, e4, lt_s e5 (fun _ => Or.inr ⟨by omega, fun q => by rw [hlx.mpr q] at h8; cases h8⟩)⟩) hW hS (lv_sub hl [2, 3, 4, 5, 6, 7, 0] rfl)
                            · refine lv_iload hx hb d_M_search_175 (lv_at hl 0 rfl) ?_
                              refine lv_istore (lv' := [(5, .int (nI (pc + (mv x z)))), (7, .int (nI (pc + (mv x z)))), (0, .ref (ad 400)), (1, .int w), (2, .int (nI (k + 1))), (3, .int (nI z)), (4, .int (nI v)), (6, .int (nI x))]) hx hb d_M_search_177 hl (by decide) rfl (fun ls hl => ?_)
                              refine lv_iload hx hb d_M_search_179 (lv_at hl 7 rfl) ?_
                              refine lv_istore (lv' := [(4, .int (nI x)), (5, .int (nI (pc + (mv x z)))), (7, .int (nI (pc + (mv x z)))), (0, .ref (ad 400)), (1, .int w), (2, .int (nI (k + 1))), (3, .int (nI z)), (6, .int (nI x))]) hx hb d_M_search_181 hl (by decide) rfl (fun ls hl => ?_)
                              refine n_iinc (lv' := [(6, .int (nI (x + 1))), (4, .int (nI x)), (5, .int (nI (pc + (mv x z)))), (7, .int (nI (pc + (mv x z)))), (0, .ref (ad 400)), (1, .int w), (2, .int (nI (k + 1))), (3, .int (nI z))]) hx hb d_M_search_183 hl (k := 7) rfl (by decide) rfl (fun ls hl => ?_)
                              refine lv_goto (tgt := 94) hx hb d_M_search_186 (by decide) ?_
                              exact ih4 (x + 1) (nI x) (pc + mv x z) _ _ ls (by omega) (by omega) (by omega) (by
                                have hlt := hlx.mp h8
                                refine Or.inr ⟨x, by omega, rfl, hal, by rw [hpcE], lt_s ?_ (fun _ => noW_refl)⟩
                                exact fun y hy hya => noW_trans (Or.inr ⟨by omega, fun q => lxl_irr (lxl_trans hlt q)⟩) (e5 y hy hya)) hW hS (lv_sub hl [4, 5, 6, 7, 1, 2, 0] rfl)
                    · omega
    · have hc0 := hcl 0 hn0
      refine lv_aload_n hx hb d_M_search_10 rfl (lv_at hl 0 rfl) ?_
      refine g_get (C := R_M) (T := F_M) (N := 35) hx hb hts i_M hown hK hW (i := 400) (hdl 400 (by decide) (by decide)) ((wS_o (by decide)).trans h400) rfl 30 (by decide) (hts _ q_518) (fun _ h9 => h9) rfl d_M_search_11 ?_
      refine lv_iload_n hx hb d_M_search_14 rfl (lv_at hl 2 rfl) ?_
      refine lv_aload_n hx hb d_M_search_15 rfl (lv_at hl 0 rfl) ?_
      refine lv_iconst (v := nI 0) hx hb d_M_search_16 (by decide) ?_
      refine lv_iload_n hx hb d_M_search_17 rfl (lv_at hl 2 rfl) ?_
      refine lv_iload_n hx hb d_M_search_18 rfl (lv_at hl 1 rfl) ?_
      refine g_cVi (As := [.int (nI 0), .int (nI z), .int w]) (rest := [.int (nI z), .ref (ad 422)]) ⟨hx, hb, hml, hown, hts⟩ (c_M_may l hdl ((wS_o (by decide)).trans h400) ((wS_o (by decide)).trans h408) ((wS_o (by decide)).trans h409) 0 z w (by omega) (hsh 0 hn0)) (gcwV 3 hts q_658 q_655 q_657 qs_12 q_9 (by decide +kernel) ⟨(Nat.le_of_ble_eq_true rfl), (Nat.le_of_ble_eq_true rfl)⟩) gNl_ok hN hK hW hS hA (hdl 400 (by decide) (by decide)) ((wS_o (by decide)).trans h400) rfl rfl hl.1 rfl (Nat.le_of_ble_eq_true rfl) d_M_search_19 ⟨Nat.zero_le _, Nat.zero_le _⟩ (fun r co9 H locs hp9 hW hS => ?_)
      obtain ⟨rfl, hco9⟩ := hp9
      rw [hco9] at hW
      refine n_ifz_eq (tgt := 44) hx hb d_M_search_22 (by decide) (fun h2 => ?_) (fun h2 => ?_)
      · refine lv_ldc hx hb hown (hts _ q_659) d_M_search_44 ?_
        refine n_topi (show (1000000000 : Int32) = nI 1000000000 by decide) ?_
        refine n_iast (x := nI 1000000000) hx hb hK hW hS 0 (q := 422) (hdl 422 (by decide) (by decide)) wS_422 rfl (j := z) (by omega) (by omega) d_M_search_46 (fun H locs hW hS => ?_)
        rw [wS_u422] at hW
        refine lv_aload_n hx hb d_M_search_47 rfl (lv_at hl 0 rfl) ?_
        refine g_get (C := R_M) (T := F_M) (N := 35) hx hb hts i_M hown hK hW (i := 400) (hdl 400 (by decide) (by decide)) ((wS_o (by decide)).trans h400) rfl 28 (by decide) (hts _ q_516) (fun _ h9 => h9) rfl d_M_search_48 ?_
        refine lv_sipush (v := nI 200) hx hb d_M_search_51 (by decide) ?_
        refine lv_iload_n hx hb d_M_search_54 rfl (lv_at hl 2 rfl) ?_
        refine n_mul hx hb d_M_search_55 ?_
        refine lv_iload_n hx hb d_M_search_56 rfl (lv_at hl 2 rfl) ?_
        refine n_iast (x := nI z) hx hb hK hW hS 0 (q := 420) (hdl 420 (by decide) (by decide)) wS_420 rfl (j := 200 * z) (by omega) (by omega) d_M_search_57 (fun H locs hW hS => ?_)
        rw [wS_u420] at hW
        refine n_iinc (lv' := [(2, .int (nI (z + 1))), (0, .ref (ad 400)), (1, .int w)]) hx hb d_M_search_58 hl (k := 2) rfl (by decide) rfl (fun ls hl => ?_)
        refine lv_goto (tgt := 2) hx hb d_M_search_61 (by decide) ?_
        refine ih (z + 1) (upd S (200 * z) (nI z)) (upd C z (nI 1000000000)) _ _ ls (by omega) (by omega) (fun b hb => ?_) hW hS (lv_sub hl [1, 2, 0] rfl)
        by_cases hbz : b = z
        · subst hbz; rw [pk_us, pk_us]; exact ⟨by rw [if_neg (by rw [h2]; decide)]; rfl, rfl⟩
        · have := hi b (by omega)
          rw [pk_un hbz, pk_un (show 200 * b ≠ 200 * z by omega)]; exact this
      · refine lv_aload_n hx hb d_M_search_25 rfl (lv_at hl 0 rfl) ?_
        refine g_get (C := R_M) (T := F_M) (N := 35) hx hb hts i_M hown hK hW (i := 400) (hdl 400 (by decide) (by decide)) ((wS_o (by decide)).trans h400) rfl 2 (by decide) (hts _ q_490) (fun _ h9 => h9) rfl d_M_search_26 ?_
        refine lv_bipush (v := nI 10) hx hb d_M_search_29 (by decide) ?_
        refine lv_iload_n hx hb d_M_search_31 rfl (lv_at hl 2 rfl) ?_
        refine n_mul hx hb d_M_search_32 ?_
        refine lv_aload_n hx hb d_M_search_33 rfl (lv_at hl 0 rfl) ?_
        refine g_get (C := R_M) (T := F_M) (N := 35) hx hb hts i_M hown hK hW (i := 400) (hdl 400 (by decide) (by decide)) ((wS_o (by decide)).trans h400) rfl 7 (by decide) (hts _ q_495) (fun _ h9 => h9) rfl d_M_search_34 ?_
        refine lv_iconst (v := nI 0) hx hb d_M_search_37 (by decide) ?_
        refine n_iald hx hb hK hW 0 (q := 406) (hdl 406 (by decide) (by decide)) ((wS_o (by decide)).trans h406) rfl (j := 0) (by omega) (by omega) d_M_search_38 ?_
        refine n_topi (show cls 0 = nI (cl 0) from hc0.1) ?_
        refine n_add hx hb d_M_search_39 ?_
        refine n_iald hx hb hK hW 0 (q := 402) (hdl 402 (by decide) (by decide)) ((wS_o (by decide)).trans h402) rfl (j := (10 * z) + (cl 0)) (by omega) (by omega) d_M_search_40 ?_
        refine n_topi (show fs ((10 * z) + (cl 0)) = nI (sp z (cl 0)) from hsp z (cl 0) h1 hc0.2) ?_
        refine lv_goto (tgt := 46) hx hb d_M_search_41 (by decide) ?_
        refine n_iast (x := nI (sp z (cl 0))) hx hb hK hW hS 0 (q := 422) (hdl 422 (by decide) (by decide)) wS_422 rfl (j := z) (by omega) (by omega) d_M_search_46 (fun H locs hW hS => ?_)
        rw [wS_u422] at hW
        refine lv_aload_n hx hb d_M_search_47 rfl (lv_at hl 0 rfl) ?_
        refine g_get (C := R_M) (T := F_M) (N := 35) hx hb hts i_M hown hK hW (i := 400) (hdl 400 (by decide) (by decide)) ((wS_o (by decide)).trans h400) rfl 28 (by decide) (hts _ q_516) (fun _ h9 => h9) rfl d_M_search_48 ?_
        refine lv_sipush (v := nI 200) hx hb d_M_search_51 (by decide) ?_
        refine lv_iload_n hx hb d_M_search_54 rfl (lv_at hl 2 rfl) ?_
        refine n_mul hx hb d_M_search_55 ?_
        refine lv_iload_n hx hb d_M_search_56 rfl (lv_at hl 2 rfl) ?_
        refine n_iast (x := nI z) hx hb hK hW hS 0 (q := 420) (hdl 420 (by decide) (by decide)) wS_420 rfl (j := 200 * z) (by omega) (by omega) d_M_search_57 (fun H locs hW hS => ?_)
        rw [wS_u420] at hW
        refine n_iinc (lv' := [(2, .int (nI (z + 1))), (0, .ref (ad 400)), (1, .int w)]) hx hb d_M_search_58 hl (k := 2) rfl (by decide) rfl (fun ls hl => ?_)
        refine lv_goto (tgt := 2) hx hb d_M_search_61 (by decide) ?_
        refine ih (z + 1) (upd S (200 * z) (nI z)) (upd C z (nI (sp z (cl 0)))) _ _ ls (by omega) (by omega) (fun b hb => ?_) hW hS (lv_sub hl [1, 2, 0] rfl)
        by_cases hbz : b = z
        · subst hbz; rw [pk_us, pk_us]; exact ⟨by rw [if_pos h2], rfl⟩
        · have := hi b (by omega)
          rw [pk_un hbz, pk_un (show 200 * b ≠ 200 * z by omega)]; exact this
