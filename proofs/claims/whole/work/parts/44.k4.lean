set_option maxHeartbeats 4000000 in
set_option maxRecDepth 100000 in
/-- cheapest -/
theorem c_F_cheapest (l : Launch) {D : va_G} {cI cJ cG : ClassId} {ad : Nat → Nat} {co : Nat → va_E} {dl : List Nat} {a fc bb ff : Nat}  (hdl : ∀ i, kD a i → i ∈ dl) (w16 : co 16 = oF ad fc a bb ff)   {q1 q2 : Nat} {f1 f2 : Nat → Int32} {u v : Nat → Nat} (hq1 : q1 ∈ dl) (hq2 : q2 ∈ dl) (wq1 : co q1 = .inl (cI, a, .inl f1)) (wq2 : co q2 = .inl (cI, a, .inl f2)) (ha0 : 0 < a) (ha : a ≤ 12) (hu : ∀ j, j < a → f1 j = nI (u j)) (hv : ∀ j, j < a → f2 j = nI (v j)) (huv : ∀ j, j < a → u j + v j < 2 ^ 31) : gMi l y_F_cheapest (Cond.code y_F_cheapest b_F_cheapest 7 (some .int) :: wA) ({ frames := 0, cells := 0, slots := 0, locals := 0 }) D gCl (gTy cI cJ cG) gNl [.ref (ad 16), .ref (ad q1), .ref (ad q2)] ad co dl (fun r co' => r = nI (amin (fun j => u j + v j) (a - 1)) ∧ co' = co) := by
  refine gMi_of (cc := b_F_cheapest) (maxL := 7) (ret := some .int) (by decide) rfl (Nat.le_of_ble_eq_true rfl) ?_
  intro pp ee s mm below meth cd ls hC hW hS hl
  obtain ⟨hx, hb, hr, hts0, hown, hlocks, hml, hK, hN⟩ := hC
  have hts : ∀ w ∈ wA, w.before _ s = true := fun w h => hts0 w (List.mem_cons_of_mem _ h)
  have hA : ∀ q, s.heap.size ≤ q → gA ad co dl s.heap.size q := fun q h => Or.inr h
  have hl : lv_has ls 7 [(0, .ref (ad 16)), (1, .ref (ad q1)), (2, .ref (ad q2))] := hl
  have hown : s.vm.findClass R_F = some mm.cls := hown
  refine lv_iconst (v := nI 0) hx hb d_F_cheapest_0 (by decide) ?_
  refine lv_istore_n (lv' := [(3, .int (nI 0)), (0, .ref (ad 16)), (1, .ref (ad q1)), (2, .ref (ad q2))]) hx hb d_F_cheapest_1 rfl hl (by decide) rfl (fun ls hl => ?_)
  refine lv_aload_n hx hb d_F_cheapest_2 rfl (lv_at hl 2 rfl) ?_
  refine lv_iconst (v := nI 0) hx hb d_F_cheapest_3 (by decide) ?_
  refine n_iald hx hb hK hW 0 (q := q1) hq1 wq1 rfl (j := 0) (by omega) (by omega) d_F_cheapest_4 ?_
  refine n_topi (show f1 0 = nI (u 0) from hu 0 ha0) ?_
  refine lv_aload_n hx hb d_F_cheapest_5 rfl (lv_at hl 3 rfl) ?_
  refine lv_iconst (v := nI 0) hx hb d_F_cheapest_6 (by decide) ?_
  refine n_iald hx hb hK hW 0 (q := q2) hq2 wq2 rfl (j := 0) (by omega) (by omega) d_F_cheapest_7 ?_
  refine n_topi (show f2 0 = nI (v 0) from hv 0 ha0) ?_
  refine n_add hx hb d_F_cheapest_8 ?_
  refine lv_istore (lv' := [(4, .int (nI ((u 0) + (v 0)))), (3, .int (nI 0)), (0, .ref (ad 16)), (1, .ref (ad q1)), (2, .ref (ad q2))]) hx hb d_F_cheapest_9 hl (by decide) rfl (fun ls hl => ?_)
  refine lv_iconst (v := nI 1) hx hb d_F_cheapest_11 (by decide) ?_
  refine lv_istore (lv' := [(5, .int (nI 1)), (4, .int (nI ((u 0) + (v 0)))), (3, .int (nI 0)), (0, .ref (ad 16)), (1, .ref (ad q1)), (2, .ref (ad q2))]) hx hb d_F_cheapest_12 hl (by decide) rfl (fun ls hl => ?_)
  suffices hloop : ∀ (d k : Nat) (H : Heap) (locs : List Loc) (ls : Array Slot), (k < a) → (a ≤ k + d) → gW D gCl (gA ad co dl s.heap.size) ad (co) dl H → va_S (gA ad co dl s.heap.size) s.heap H locs → lv_has ls 7 [(0, .ref (ad 16)), (1, .ref (ad q1)), (2, .ref (ad q2)), (3, .int (nI (amin (fun j => u j + v j) k))), (4, .int (nI (u (amin (fun j => u j + v j) k) + v (amin (fun j => u j + v j) k)))), (5, .int (nI (k + 1)))] → W pp l ee _ s mm _ below meth cd H locs 0 0 _ (F0 mm 14 ls []) by
    exact hloop a 0 _ _ ls ha0 (by omega) hW hS (lv_sub hl [3, 4, 5, 2, 1, 0] rfl)
  clear hW hS hl
  intro d
  induction d with
  | zero => intro k H locs ls hk hd; omega
  | succ d ih =>
    intro k H locs ls hk hd hW hS hl
    have hkl := amin_le (fun j => u j + v j) k
    have hb9 := huv (amin (fun j => u j + v j) k) (by omega)
    refine lv_iload hx hb d_F_cheapest_14 (lv_at hl 5 rfl) ?_
    refine lv_aload_n hx hb d_F_cheapest_16 rfl (lv_at hl 0 rfl) ?_
    refine g_get (C := R_F) (T := F_F) (N := 7) hx hb hts i_F hown hK hW (i := 16) (hdl (16) (by unfold kD; omega)) w16 rfl 2 (by decide) (hts _ q_94) (fun _ h9 => h9) rfl d_F_cheapest_17 ?_
    refine n_icmp_ge (tgt := 54) hx hb (by omega) (by omega) d_F_cheapest_20 (by decide) (fun h1 => ?_) (fun h1 => ?_)
    · have hka : k = a - 1 := by omega
      refine lv_iload_n hx hb d_F_cheapest_54 rfl (lv_at hl 3 rfl) ?_
      exact g_iret hx hb hr hlocks hW hS (⟨by rw [hka], rfl⟩) d_F_cheapest_55
    · have hb8 := huv (k + 1) h1
      refine lv_aload_n hx hb d_F_cheapest_23 rfl (lv_at hl 1 rfl) ?_
      refine lv_iload hx hb d_F_cheapest_24 (lv_at hl 5 rfl) ?_
      refine n_iald hx hb hK hW 0 (q := q1) hq1 wq1 rfl (j := k + 1) (by omega) (by omega) d_F_cheapest_26 ?_
      refine n_topi (show f1 (k + 1) = nI (u (k + 1)) from hu (k + 1) h1) ?_
      refine lv_aload_n hx hb d_F_cheapest_27 rfl (lv_at hl 2 rfl) ?_
      refine lv_iload hx hb d_F_cheapest_28 (lv_at hl 5 rfl) ?_
      refine n_iald hx hb hK hW 0 (q := q2) hq2 wq2 rfl (j := k + 1) (by omega) (by omega) d_F_cheapest_30 ?_
      refine n_topi (show f2 (k + 1) = nI (v (k + 1)) from hv (k + 1) h1) ?_
      refine n_add hx hb d_F_cheapest_31 ?_
      refine lv_istore (lv' := [(6, .int (nI ((u (k + 1)) + (v (k + 1))))), (0, .ref (ad 16)), (1, .ref (ad q1)), (2, .ref (ad q2)), (3, .int (nI (amin (fun j => u j + v j) k))), (4, .int (nI (u (amin (fun j => u j + v j) k) + v (amin (fun j => u j + v j) k)))), (5, .int (nI (k + 1)))]) hx hb d_F_cheapest_32 hl (by decide) rfl (fun ls hl => ?_)
      refine lv_iload hx hb d_F_cheapest_34 (lv_at hl 0 rfl) ?_
      refine lv_iload hx hb d_F_cheapest_36 (lv_at hl 5 rfl) ?_
      refine n_icmp_ge (tgt := 48) hx hb (by omega) (by omega) d_F_cheapest_38 (by decide) (fun h2 => ?_) (fun h2 => ?_)
      · refine n_iinc (lv' := [(5, .int (nI (k + 1 + 1))), (6, .int (nI ((u (k + 1)) + (v (k + 1))))), (0, .ref (ad 16)), (1, .ref (ad q1)), (2, .ref (ad q2)), (3, .int (nI (amin (fun j => u j + v j) k))), (4, .int (nI (u (amin (fun j => u j + v j) k) + v (amin (fun j => u j + v j) k))))]) hx hb d_F_cheapest_48 hl (k := 6) rfl (by decide) rfl (fun ls hl => ?_)
        rw [show amin (fun j => u j + v j) k = amin (fun j => u j + v j) (k + 1) by rw [amin, if_neg (by show ¬ (u (k + 1) + v (k + 1) < u (amin (fun j => u j + v j) k) + v (amin (fun j => u j + v j) k)); omega)]] at hl
        refine lv_goto (tgt := 14) hx hb d_F_cheapest_51 (by decide) ?_
        exact ih (k + 1) _ _ ls h1 (by omega) hW hS (lv_sub hl [2, 3, 4, 5, 6, 0] rfl)
      · refine lv_iload hx hb d_F_cheapest_41 (lv_at hl 0 rfl) ?_
        refine lv_istore (lv' := [(4, .int (nI ((u (k + 1)) + (v (k + 1))))), (6, .int (nI ((u (k + 1)) + (v (k + 1))))), (0, .ref (ad 16)), (1, .ref (ad q1)), (2, .ref (ad q2)), (3, .int (nI (amin (fun j => u j + v j) k))), (5, .int (nI (k + 1)))]) hx hb d_F_cheapest_43 hl (by decide) rfl (fun ls hl => ?_)
        refine lv_iload hx hb d_F_cheapest_45 (lv_at hl 6 rfl) ?_
        refine lv_istore_n (lv' := [(3, .int (nI (k + 1))), (4, .int (nI ((u (k + 1)) + (v (k + 1))))), (6, .int (nI ((u (k + 1)) + (v (k + 1))))), (0, .ref (ad 16)), (1, .ref (ad q1)), (2, .ref (ad q2)), (5, .int (nI (k + 1)))]) hx hb d_F_cheapest_47 rfl hl (by decide) rfl (fun ls hl => ?_)
        refine n_iinc (lv' := [(5, .int (nI (k + 1 + 1))), (3, .int (nI (k + 1))), (4, .int (nI ((u (k + 1)) + (v (k + 1))))), (6, .int (nI ((u (k + 1)) + (v (k + 1))))), (0, .ref (ad 16)), (1, .ref (ad q1)), (2, .ref (ad q2))]) hx hb d_F_cheapest_48 hl (k := 6) rfl (by decide) rfl (fun ls hl => ?_)
        have he : amin (fun j => u j + v j) (k + 1) = k + 1 := by rw [amin, if_pos (by show u (k + 1) + v (k + 1) < u (amin (fun j => u j + v j) k) + v (amin (fun j => u j + v j) k); omega)]
        have hl : lv_has ls 7 [(5, .int (nI (k + 1 + 1))), (3, .int (nI (amin (fun j => u j + v j) (k + 1)))), (4, .int (nI (u (amin (fun j => u j + v j) (k + 1)) + v (amin (fun j => u j + v j) (k + 1))))), (6, .int (nI ((u (k + 1)) + (v (k + 1))))), (0, .ref (ad 16)), (1, .ref (ad q1)), (2, .ref (ad q2))] := by rw [he]; exact hl
        refine lv_goto (tgt := 14) hx hb d_F_cheapest_51 (by decide) ?_
        exact ih (k + 1) _ _ ls h1 (by omega) hW hS (lv_sub hl [4, 5, 6, 1, 2, 0] rfl)
set_option maxHeartbeats 4000000 in
set_option maxRecDepth 100000 in
/-- leastOther -/
theorem c_F_leastOther (l : Launch) {D : va_G} {cI cJ cG : ClassId} {ad : Nat → Nat} {co : Nat → va_E} {dl : List Nat} {a fc bb ff : Nat}  (hdl : ∀ i, kD a i → i ∈ dl) (w16 : co 16 = oF ad fc a bb ff)   {q2 X : Nat} {f1 f2 : Nat → Int32} {u v : Nat → Nat} (hbb : bb = 20 ∨ bb = 21) (hq2 : q2 ∈ dl) (wbb : co bb = .inl (cI, a, .inl f1)) (wq2 : co q2 = .inl (cI, a, .inl f2)) (ha : a ≤ 12) (hX : X < a) (hu : ∀ j, j < a → f1 j = nI (u j)) (hv : ∀ j, j < a → f2 j = nI (v j)) (huv : ∀ j, j < a → u j + v j < 2 ^ 31) : gMi l y_F_leastOther (Cond.code y_F_leastOther b_F_leastOther 5 (some .int) :: wA) ({ frames := 1, cells := 0, slots := 0, locals := 60 }) D gCl (gTy cI cJ cG) gNl [.ref (ad 16), .int (nI X), .ref (ad q2)] ad co dl (fun r co' => r = nI (rmin (fun j => decide (¬ j = X)) (fun j => u j + v j) a) ∧ co' = co) := by
  refine gMi_of (cc := b_F_leastOther) (maxL := 5) (ret := some .int) (by decide) rfl (Nat.le_of_ble_eq_true rfl) ?_
  intro pp ee s mm below meth cd ls hC hW hS hl
  obtain ⟨hx, hb, hr, hts0, hown, hlocks, hml, hK, hN⟩ := hC
  have hts : ∀ w ∈ wA, w.before _ s = true := fun w h => hts0 w (List.mem_cons_of_mem _ h)
  have hA : ∀ q, s.heap.size ≤ q → gA ad co dl s.heap.size q := fun q h => Or.inr h
  have hl : lv_has ls 5 [(0, .ref (ad 16)), (1, .int (nI X)), (2, .ref (ad q2))] := hl
  have hown : s.vm.findClass R_F = some mm.cls := hown
  have hBIG : BIG = 1000000000 := rfl
  refine lv_ldc hx hb hown (hts _ q_266) d_F_leastOther_0 ?_
  refine n_topi (show (1000000000 : Int32) = nI 1000000000 by decide) ?_
  refine lv_istore_n (lv' := [(3, .int (nI 1000000000)), (0, .ref (ad 16)), (1, .int (nI X)), (2, .ref (ad q2))]) hx hb d_F_leastOther_2 rfl hl (by decide) rfl (fun ls hl => ?_)
  refine lv_iconst (v := nI 0) hx hb d_F_leastOther_3 (by decide) ?_
  refine lv_istore (lv' := [(4, .int (nI 0)), (3, .int (nI 1000000000)), (0, .ref (ad 16)), (1, .int (nI X)), (2, .ref (ad q2))]) hx hb d_F_leastOther_4 hl (by decide) rfl (fun ls hl => ?_)
  suffices hloop : ∀ (d k : Nat) (H : Heap) (locs : List Loc) (ls : Array Slot), (k ≤ a) → (a + 1 ≤ k + d) → gW D gCl (gA ad co dl s.heap.size) ad (co) dl H → va_S (gA ad co dl s.heap.size) s.heap H locs → lv_has ls 5 [(0, .ref (ad 16)), (1, .int (nI X)), (2, .ref (ad q2)), (3, .int (nI (rmin (fun j => decide (¬ j = X)) (fun j => u j + v j) k))), (4, .int (nI k))] → W pp l ee _ s mm _ below meth cd H locs 0 0 _ (F0 mm 6 ls []) by
    exact hloop (a + 1) 0 _ _ ls (by omega) (by omega) hW hS (lv_sub hl [2, 3, 4, 1, 0] rfl)
  clear hW hS hl
  intro d
  induction d with
  | zero => intro k H locs ls hk hd; omega
  | succ d ih =>
    intro k H locs ls hk hd hW hS hl
    have hrb := rmin_le_big (fun j => decide (¬ j = X)) (fun j => u j + v j) k
    refine lv_iload hx hb d_F_leastOther_6 (lv_at hl 4 rfl) ?_
    refine lv_aload_n hx hb d_F_leastOther_8 rfl (lv_at hl 0 rfl) ?_
    refine g_get (C := R_F) (T := F_F) (N := 7) hx hb hts i_F hown hK hW (i := 16) (hdl (16) (by unfold kD; omega)) w16 rfl 2 (by decide) (hts _ q_94) (fun _ h9 => h9) rfl d_F_leastOther_9 ?_
    refine n_icmp_ge (tgt := 44) hx hb (by omega) (by omega) d_F_leastOther_12 (by decide) (fun h1 => ?_) (fun h1 => ?_)
    · have hka : k = a := by omega
      refine lv_iload_n hx hb d_F_leastOther_44 rfl (lv_at hl 3 rfl) ?_
      exact g_iret hx hb hr hlocks hW hS (⟨by rw [hka], rfl⟩) d_F_leastOther_45
    · refine lv_iload hx hb d_F_leastOther_15 (lv_at hl 4 rfl) ?_
      refine lv_iload_n hx hb d_F_leastOther_17 rfl (lv_at hl 1 rfl) ?_
      refine n_icmp_eq (tgt := 38) hx hb (by omega) (by omega) d_F_leastOther_18 (by decide) (fun h2 => ?_) (fun h2 => ?_)
      · refine n_iinc (lv' := [(4, .int (nI (k + 1))), (0, .ref (ad 16)), (1, .int (nI X)), (2, .ref (ad q2)), (3, .int (nI (rmin (fun j => decide (¬ j = X)) (fun j => u j + v j) k)))]) hx hb d_F_leastOther_38 hl (k := 4) rfl (by decide) rfl (fun ls hl => ?_)
        rw [← rmin_no (p := fun j => decide (¬ j = X)) (f := fun j => u j + v j) (c := k) (by simp [h2])] at hl
        refine lv_goto (tgt := 6) hx hb d_F_leastOther_41 (by decide) ?_
        exact ih (k + 1) _ _ ls (by omega) (by omega) hW hS (lv_sub hl [1, 2, 3, 4, 0] rfl)
      · have hb8 := huv k h1
        refine lv_iload_n hx hb d_F_leastOther_21 rfl (lv_at hl 3 rfl) ?_
        refine lv_aload_n hx hb d_F_leastOther_22 rfl (lv_at hl 0 rfl) ?_
        refine g_get (C := R_F) (T := F_F) (N := 7) hx hb hts i_F hown hK hW (i := 16) (hdl (16) (by unfold kD; omega)) w16 rfl 5 (by decide) (hts _ q_97) (fun _ h9 => h9) rfl d_F_leastOther_23 ?_
        refine lv_iload hx hb d_F_leastOther_26 (lv_at hl 4 rfl) ?_
        refine n_iald hx hb hK hW 0 (q := bb) (hdl (bb) (by unfold kD; omega)) wbb rfl (j := k) (by omega) (by omega) d_F_leastOther_28 ?_
        refine n_topi (show f1 k = nI (u k) from hu k h1) ?_
        refine lv_aload_n hx hb d_F_leastOther_29 rfl (lv_at hl 2 rfl) ?_
        refine lv_iload hx hb d_F_leastOther_30 (lv_at hl 4 rfl) ?_
        refine n_iald hx hb hK hW 0 (q := q2) hq2 wq2 rfl (j := k) (by omega) (by omega) d_F_leastOther_32 ?_
        refine n_topi (show f2 k = nI (v k) from hv k h1) ?_
        refine n_add hx hb d_F_leastOther_33 ?_
        refine va_mmin hx hb (hml.trans hl.1.symm) hown (hts _ q_289) (hts _ q_21) (hts _ q_2) (hts _ qm_min) (Nat.le_of_ble_eq_true rfl) (Nat.le_of_ble_eq_true rfl) (Nat.zero_le _) (Nat.zero_le _) d_F_leastOther_34 ?_
        refine n_topi (show _ = nI (min (rmin (fun j => decide (¬ j = X)) (fun j => u j + v j) k) ((u k) + (v k))) from nI_min (by omega) (by omega)) ?_
        refine n_topi (show nI (min (rmin (fun j => decide (¬ j = X)) (fun j => u j + v j) k) ((u k) + (v k))) = nI (rmin (fun j => decide (¬ j = X)) (fun j => u j + v j) (k + 1)) from by rw [rmin, if_pos (by simp [h2])]) ?_
        refine lv_istore_n (lv' := [(3, .int (nI (rmin (fun j => decide (¬ j = X)) (fun j => u j + v j) (k + 1)))), (0, .ref (ad 16)), (1, .int (nI X)), (2, .ref (ad q2)), (4, .int (nI k))]) hx hb d_F_leastOther_37 rfl hl (by decide) rfl (fun ls hl => ?_)
        refine n_iinc (lv' := [(4, .int (nI (k + 1))), (3, .int (nI (rmin (fun j => decide (¬ j = X)) (fun j => u j + v j) (k + 1)))), (0, .ref (ad 16)), (1, .int (nI X)), (2, .ref (ad q2))]) hx hb d_F_leastOther_38 hl (k := 4) rfl (by decide) rfl (fun ls hl => ?_)
        refine lv_goto (tgt := 6) hx hb d_F_leastOther_41 (by decide) ?_
        exact ih (k + 1) _ _ ls (by omega) (by omega) hW hS (lv_sub hl [2, 3, 4, 1, 0] rfl)
set_option maxHeartbeats 4000000 in
set_option maxRecDepth 100000 in
/-- fillToGo -/
theorem c_F_fillToGo (l : Launch) {D : va_G} {cI cJ cG : ClassId} {ad : Nat → Nat} {co : Nat → va_E} {dl : List Nat} {a fc bb ff n : Nat}  (hdl : ∀ i, kD a i → i ∈ dl) (w16 : co 16 = oF ad fc a bb ff) (w1 : co 1 = oT ad n) {cls : Nat → Int32} {shp : Nat → Int32} {tr : Nat → Int32} (w3 : co 3 = .inl (cI, 200, .inl cls)) (w5 : co 5 = .inl (cI, 200, .inl shp)) (w6 : co 6 = .inl (cI, 200, .inl tr)) (r : Nat) (w : Int32) {tb c1 c2 m1 m2 : Nat} (htab : (tb = 7 ∧ c1 = 8 ∧ c2 = 9 ∧ m1 = 40 ∧ m2 = 60) ∨ (tb = 10 ∧ c1 = 11 ∧ c2 = 12 ∧ m1 = 80 ∧ m2 = 100) ∨ (tb = 13 ∧ c1 = 14 ∧ c2 = 15 ∧ m1 = 120 ∧ m2 = 140)) (wtb : co tb = oB ad c1 c2) (wc1 : co c1 = oG ad cG a m1) (wc2 : co c2 = oG ad cG a m2) {MV SP : Nat → Nat → Int32} (wm1 : ∀ i, i < a → co (m1 + i) = .inl (cI, a, .inl (MV i))) (wm2 : ∀ i, i < a → co (m2 + i) = .inl (cI, 10, .inl (SP i))) {cl : Nat → Nat} {mv sp : Nat → Nat → Nat} (ha : a ≤ 12) (hok : okN a (alw tr shp w) cl mv sp n) (hcl : ∀ k, k < n → cls k = nI (cl k) ∧ cl k < 10) (hmv : ∀ i j, i < a → j < a → MV i j = nI (mv i j)) (hsp : ∀ i c, i < a → c < 10 → SP i c = nI (sp i c)) (hr9 : r < n) (wc8 : co 18 = oG ad cG 200 200) {g0 h0 : Nat → Int32} (wr : co (200 + r) = .inl (cI, a, .inl g0)) (wr1 : r + 1 < n → co (200 + (r + 1)) = .inl (cI, a, .inl h0) ∧ ∀ b, b < a → h0 b = nI (tgo a (alw tr shp w) cl mv sp n (r + 1) b)) : gMv l y_F_fillToGo (Cond.code y_F_fillToGo b_F_fillToGo 9 none :: wA) ({ frames := 1, cells := 0, slots := 0, locals := 26 }) D gCl (gTy cI cJ cG) gNl [.ref (ad 16), .ref (ad 1), .ref (ad tb), .int (nI r), .int w] ad co dl (fun co' => ∃ g, co' = va_up co (200 + r) (.inl (cI, a, .inl g)) ∧ ∀ b, b < a → g b = nI (tgo a (alw tr shp w) cl mv sp n r b)) := by
  refine gMv_of (cc := b_F_fillToGo) (maxL := 9) (ret := none) (by decide) rfl (Nat.le_of_ble_eq_true rfl) ?_
  intro pp ee s mm below meth cd ls hC hW hS hl
  obtain ⟨hx, hb, hr, hts0, hown, hlocks, hml, hK, hN⟩ := hC
  have hts : ∀ w ∈ wA, w.before _ s = true := fun w h => hts0 w (List.mem_cons_of_mem _ h)
  have hA : ∀ q, s.heap.size ≤ q → gA ad co dl s.heap.size q := fun q h => Or.inr h
  have hl : lv_has ls 9 [(0, .ref (ad 16)), (1, .ref (ad 1)), (2, .ref (ad tb)), (3, .int (nI r)), (4, .int w)] := hl
  have hown : s.vm.findClass R_F = some mm.cls := hown
  have hn0 : 0 < n := hok.1
  have hn2 : n ≤ 200 := hok.2.1
  have ha0 : 0 < a := hok.2.2.1
  have hBIG : BIG = 1000000000 := rfl
  have hcr := hcl r hr9
  have hW := gW_eq (show co = va_up co (200 + r) (.inl (cI, a, .inl g0)) from by funext i; by_cases h : i = 200 + r; (subst h; rw [va_up_self]; exact wr); rw [va_up_ne _ _ h]) hW
  refine lv_aload_n hx hb d_F_fillToGo_0 rfl (lv_at hl 1 rfl) ?_
  refine g_get (C := R_T) (T := F_T) (N := 6) hx hb hts i_T hown hK hW (i := 1) (hdl (1) (by unfold kD; omega)) ((va_up_ne _ _ (by omega)).trans w1) rfl 1 (by decide) (hts _ q_36) (fun _ h9 => h9) rfl d_F_fillToGo_1 ?_
  refine lv_iload_n hx hb d_F_fillToGo_4 rfl (lv_at hl 3 rfl) ?_
  refine n_iald hx hb hK hW 0 (q := 3) (hdl (3) (by unfold kD; omega)) ((va_up_ne _ _ (by omega)).trans w3) rfl (j := r) (by omega) (by omega) d_F_fillToGo_5 ?_
  refine n_topi (show cls r = nI (cl r) from hcr.1) ?_
  refine lv_istore (lv' := [(5, .int (nI (cl r))), (0, .ref (ad 16)), (1, .ref (ad 1)), (2, .ref (ad tb)), (3, .int (nI r)), (4, .int w)]) hx hb d_F_fillToGo_6 hl (by decide) rfl (fun ls hl => ?_)
  refine lv_iconst (v := nI 0) hx hb d_F_fillToGo_8 (by decide) ?_
  refine lv_istore (lv' := [(6, .int (nI 0)), (5, .int (nI (cl r))), (0, .ref (ad 16)), (1, .ref (ad 1)), (2, .ref (ad tb)), (3, .int (nI r)), (4, .int w)]) hx hb d_F_fillToGo_9 hl (by decide) rfl (fun ls hl => ?_)
  suffices hloop : ∀ (d b : Nat) (g : Nat → Int32) (H : Heap) (locs : List Loc) (ls : Array Slot), (b ≤ a) → (a + 1 ≤ b + d) → (∀ j, j < b → g j = nI (tgo a (alw tr shp w) cl mv sp n r j)) → gW D gCl (gA ad co dl s.heap.size) ad (va_up co (200 + r) (.inl (cI, a, .inl g))) dl H → va_S (gA ad co dl s.heap.size) s.heap H locs → lv_has ls 9 [(0, .ref (ad 16)), (1, .ref (ad 1)), (2, .ref (ad tb)), (3, .int (nI r)), (4, .int w), (5, .int (nI (cl r))), (6, .int (nI b))] → W pp l ee _ s mm _ below meth cd H locs 0 0 _ (F0 mm 11 ls []) by
    exact hloop (a + 1) 0 g0 _ _ ls (by omega) (by omega) (fun j h => absurd h (Nat.not_lt_zero j)) hW hS (lv_sub hl [2, 3, 4, 5, 6, 1, 0] rfl)
  clear hW hS hl
  intro d
  induction d with
  | zero => intro b g H locs ls hbb hd hg; omega
  | succ d ih =>
    intro b g H locs ls hbb hd hg hW hS hl
    refine lv_iload hx hb d_F_fillToGo_11 (lv_at hl 6 rfl) ?_
    refine lv_aload_n hx hb d_F_fillToGo_13 rfl (lv_at hl 0 rfl) ?_
    refine g_get (C := R_F) (T := F_F) (N := 7) hx hb hts i_F hown hK hW (i := 16) (hdl (16) (by unfold kD; omega)) ((va_up_ne _ _ (by omega)).trans w16) rfl 2 (by decide) (hts _ q_94) (fun _ h9 => h9) rfl d_F_fillToGo_14 ?_
    refine n_icmp_ge (tgt := 146) hx hb (by omega) (by omega) d_F_fillToGo_17 (by decide) (fun h1 => ?_) (fun h1 => ?_)
    · have hba : b = a := by omega
      rw [hba] at hg
      exact g_vret hx hb hr hlocks hW hS (⟨g, rfl, hg⟩) d_F_fillToGo_146
    · refine lv_aload_n hx hb d_F_fillToGo_20 rfl (lv_at hl 1 rfl) ?_
      refine lv_iload_n hx hb d_F_fillToGo_21 rfl (lv_at hl 3 rfl) ?_
      refine lv_iload hx hb d_F_fillToGo_22 (lv_at hl 6 rfl) ?_
      refine lv_iload hx hb d_F_fillToGo_24 (lv_at hl 4 rfl) ?_
      refine g_cVi (As := [.int (nI r), .int (nI b), .int w]) (rest := []) ⟨hx, hb, hml, hown, hts⟩ (c_T_allows l hdl ((va_up_ne _ _ (by omega)).trans w1) ((va_up_ne _ _ (by omega)).trans w5) ((va_up_ne _ _ (by omega)).trans w6) r b w (by omega)) (gcwV 3 hts q_265 q_262 q_263 q_264 q_3 (by decide +kernel) ⟨(Nat.le_of_ble_eq_true rfl), (Nat.le_of_ble_eq_true rfl)⟩) gNl_ok hN hK hW hS hA (hdl (1) (by unfold kD; omega)) ((va_up_ne _ _ (by omega)).trans w1) rfl rfl hl.1 rfl (Nat.le_of_ble_eq_true rfl) d_F_fillToGo_26 ⟨Nat.zero_le _, Nat.zero_le _⟩ (fun r co9 H locs hp9 hW hS => ?_)
      obtain ⟨rfl, hco9⟩ := hp9
      rw [hco9] at hW
      refine n_ifz_ne (tgt := 46) hx hb d_F_fillToGo_29 (by decide) (fun h2 => ?_) (fun h2 => ?_)
      · refine lv_iload_n hx hb d_F_fillToGo_46 rfl (lv_at hl 3 rfl) ?_
        refine lv_aload_n hx hb d_F_fillToGo_47 rfl (lv_at hl 1 rfl) ?_
        refine g_get (C := R_T) (T := F_T) (N := 6) hx hb hts i_T hown hK hW (i := 1) (hdl (1) (by unfold kD; omega)) ((va_up_ne _ _ (by omega)).trans w1) rfl 5 (by decide) (hts _ q_43) (fun _ h9 => h9) rfl d_F_fillToGo_48 ?_
        refine lv_iconst (v := nI 1) hx hb d_F_fillToGo_51 (by decide) ?_
        refine n_sub hx hb (by omega) d_F_fillToGo_52 ?_
        refine n_icmp_ne (tgt := 78) hx hb (by omega) (by omega) d_F_fillToGo_53 (by decide) (fun h3 => ?_) (fun h3 => ?_)
        · have hr1 : r + 1 < n := by omega
          obtain ⟨wr1a, hh⟩ := wr1 hr1
          have w201 : va_up co (200 + r) (.inl (cI, a, .inl g)) (200 + (r + 1)) = .inl (cI, a, .inl h0) := (va_up_ne _ _ (by omega)).trans wr1a
          have hpick := tg_pick hok (d := n - 1 - (r + 1)) (r := r + 1) (by omega) (fun c => mv b c) (fun c hc => hok.2.2.2.1 b c h1 hc)
          have hpick : amin (fun j => mv b j + tgo a (alw tr shp w) cl mv sp n (r + 1) j) (a - 1) < a ∧ (alw tr shp w) (r + 1) (amin (fun j => mv b j + tgo a (alw tr shp w) cl mv sp n (r + 1) j) (a - 1)) = true ∧ mv b (amin (fun j => mv b j + tgo a (alw tr shp w) cl mv sp n (r + 1) j) (a - 1)) + tgo a (alw tr shp w) cl mv sp n (r + 1) (amin (fun j => mv b j + tgo a (alw tr shp w) cl mv sp n (r + 1) j) (a - 1)) = rmin ((alw tr shp w) (r + 1)) (fun c => mv b c + tgo a (alw tr shp w) cl mv sp n (r + 1) c) a := hpick
          have hbig : ∀ j, j < a → tgo a (alw tr shp w) cl mv sp n (r + 1) j ≤ 1000000000 := fun j hj => by
            cases hal : (alw tr shp w) (r + 1) j with
            | true => have := tgo_le hok hr1 hj hal; omega
            | false => rw [tgo_big hal]; exact Nat.le_refl _
          refine lv_aload_n hx hb d_F_fillToGo_78 rfl (lv_at hl 2 rfl) ?_
          refine g_get (C := R_B) (T := F_B) (N := 2) hx hb hts i_B hown hK hW (i := tb) (hdl (tb) (by unfold kD; omega)) ((va_up_ne _ _ (by omega)).trans wtb) rfl 0 (by decide) (hts _ q_72) (fun _ h9 => h9) rfl d_F_fillToGo_79 ?_
          refine lv_iload hx hb d_F_fillToGo_82 (lv_at hl 6 rfl) ?_
          refine n_aald hx hb hK hW 2 (q := c1) (hdl (c1) (by unfold kD; omega)) ((va_up_ne _ _ (by omega)).trans wc1) rfl rfl (j := b) (by omega) (by omega) (b := ad (m1 + b)) (if_pos (by omega)) d_F_fillToGo_84 ?_
          refine lv_astore (lv' := [(7, .ref (ad (m1 + b))), (0, .ref (ad 16)), (1, .ref (ad 1)), (2, .ref (ad tb)), (3, .int (nI r)), (4, .int w), (5, .int (nI (cl r))), (6, .int (nI b))]) hx hb d_F_fillToGo_85 hl (by decide) rfl (fun ls hl => ?_)
          refine lv_aload_n hx hb d_F_fillToGo_87 rfl (lv_at hl 1 rfl) ?_
          refine lv_aload hx hb d_F_fillToGo_88 (lv_at hl 0 rfl) ?_
          refine lv_aload_n hx hb d_F_fillToGo_90 rfl (lv_at hl 1 rfl) ?_
          refine g_get (C := R_F) (T := F_F) (N := 7) hx hb hts i_F hown hK hW (i := 16) (hdl (16) (by unfold kD; omega)) ((va_up_ne _ _ (by omega)).trans w16) rfl 3 (by decide) (hts _ q_95) (fun _ h9 => h9) rfl d_F_fillToGo_91 ?_
          refine lv_iload_n hx hb d_F_fillToGo_94 rfl (lv_at hl 4 rfl) ?_
          refine lv_iconst (v := nI 1) hx hb d_F_fillToGo_95 (by decide) ?_
          refine n_add hx hb d_F_fillToGo_96 ?_
          refine n_aald hx hb hK hW 2 (q := 18) (hdl (18) (by unfold kD; omega)) ((va_up_ne _ _ (by omega)).trans wc8) rfl rfl (j := r + 1) (by omega) (by omega) (b := ad (200 + (r + 1))) (if_pos (by omega)) d_F_fillToGo_97 ?_
          refine g_cVi (As := [.ref (ad (m1 + b)), .ref (ad (200 + (r + 1)))]) (rest := []) ⟨hx, hb, hml, hown, hts⟩ (c_F_cheapest l hdl ((va_up_ne _ _ (by omega)).trans w16) (q1 := m1 + b) (q2 := 200 + (r + 1)) (u := fun j => mv b j) (v := fun j => tgo a (alw tr shp w) cl mv sp n (r + 1) j) (hdl _ (by unfold kD; omega)) (hdl _ (by unfold kD; omega)) ((va_up_ne _ _ (by omega)).trans (wm1 b (by omega))) w201 ha0 ha (fun j hj => hmv b j h1 hj) hh (fun j hj => by have := hok.2.2.2.1 b j h1 hj; have := hbig j hj; show mv b j + tgo a (alw tr shp w) cl mv sp n (r + 1) j < 2 ^ 31; omega)) (gcwV 2 hts q_270 q_267 q_269 qs_2 q_5 (by decide +kernel) ⟨(Nat.le_of_ble_eq_true rfl), (Nat.le_of_ble_eq_true rfl)⟩) gNl_ok hN hK hW hS hA (hdl (16) (by unfold kD; omega)) ((va_up_ne _ _ (by omega)).trans w16) rfl rfl hl.1 rfl (Nat.le_of_ble_eq_true rfl) d_F_fillToGo_98 ⟨Nat.zero_le _, Nat.zero_le _⟩ (fun r co9 H locs hp9 hW hS => ?_)
          obtain ⟨rfl, hco9⟩ := hp9
          rw [hco9] at hW
          obtain ⟨z, hz⟩ : ∃ z, z = amin (fun j => mv b j + tgo a (alw tr shp w) cl mv sp n (r + 1) j) (a - 1) := ⟨_, rfl⟩
          rw [← hz] at hpick ⊢
          have hza := hpick.1
          have hbz := hbig z hza
          have hmz := hok.2.2.2.1 b z h1 hza
          have hsb := hok.2.2.2.2.1 b r h1 hr9
          refine lv_istore (lv' := [(8, .int (nI z)), (7, .ref (ad (m1 + b))), (0, .ref (ad 16)), (1, .ref (ad 1)), (2, .ref (ad tb)), (3, .int (nI r)), (4, .int w), (5, .int (nI (cl r))), (6, .int (nI b))]) hx hb d_F_fillToGo_101 hl (by decide) rfl (fun ls hl => ?_)
          refine lv_aload_n hx hb d_F_fillToGo_103 rfl (lv_at hl 2 rfl) ?_
          refine g_get (C := R_F) (T := F_F) (N := 7) hx hb hts i_F hown hK hW (i := 16) (hdl (16) (by unfold kD; omega)) ((va_up_ne _ _ (by omega)).trans w16) rfl 3 (by decide) (hts _ q_95) (fun _ h9 => h9) rfl d_F_fillToGo_104 ?_
          refine lv_iload_n hx hb d_F_fillToGo_107 rfl (lv_at hl 5 rfl) ?_
          refine n_aald hx hb hK hW 2 (q := 18) (hdl (18) (by unfold kD; omega)) ((va_up_ne _ _ (by omega)).trans wc8) rfl rfl (j := r) (by omega) (by omega) (b := ad (200 + r)) (if_pos (by omega)) d_F_fillToGo_108 ?_
          refine lv_iload hx hb d_F_fillToGo_109 (lv_at hl 8 rfl) ?_
          refine lv_aload_n hx hb d_F_fillToGo_111 rfl (lv_at hl 4 rfl) ?_
          refine g_get (C := R_B) (T := F_B) (N := 2) hx hb hts i_B hown hK hW (i := tb) (hdl (tb) (by unfold kD; omega)) ((va_up_ne _ _ (by omega)).trans wtb) rfl 1 (by decide) (hts _ q_75) (fun _ h9 => h9) rfl d_F_fillToGo_112 ?_
          refine lv_iload hx hb d_F_fillToGo_115 (lv_at hl 8 rfl) ?_
          refine n_aald hx hb hK hW 2 (q := c2) (hdl (c2) (by unfold kD; omega)) ((va_up_ne _ _ (by omega)).trans wc2) rfl rfl (j := b) (by omega) (by omega) (b := ad (m2 + b)) (if_pos (by omega)) d_F_fillToGo_117 ?_
          refine lv_iload hx hb d_F_fillToGo_118 (lv_at hl 7 rfl) ?_
          refine n_iald hx hb hK hW 0 (q := m2 + b) (hdl (m2 + b) (by unfold kD; omega)) ((va_up_ne _ _ (by omega)).trans (wm2 b (by omega))) rfl (j := cl r) (by omega) (by omega) d_F_fillToGo_120 ?_
          refine n_topi (show (SP b) (cl r) = nI (sp b (cl r)) from hsp b (cl r) h1 hcr.2) ?_
          refine lv_aload hx hb d_F_fillToGo_121 (lv_at hl 1 rfl) ?_
          refine lv_iload hx hb d_F_fillToGo_123 (lv_at hl 0 rfl) ?_
          refine n_iald hx hb hK hW 0 (q := m1 + b) (hdl (m1 + b) (by unfold kD; omega)) ((va_up_ne _ _ (by omega)).trans (wm1 b (by omega))) rfl (j := z) (by omega) (by omega) d_F_fillToGo_125 ?_
          refine n_topi (show (MV b) z = nI (mv b z) from hmv b z h1 hza) ?_
          refine n_add hx hb d_F_fillToGo_126 ?_
          refine lv_aload_n hx hb d_F_fillToGo_127 rfl (lv_at hl 2 rfl) ?_
          refine g_get (C := R_F) (T := F_F) (N := 7) hx hb hts i_F hown hK hW (i := 16) (hdl (16) (by unfold kD; omega)) ((va_up_ne _ _ (by omega)).trans w16) rfl 3 (by decide) (hts _ q_95) (fun _ h9 => h9) rfl d_F_fillToGo_128 ?_
          refine lv_iload_n hx hb d_F_fillToGo_131 rfl (lv_at hl 5 rfl) ?_
          refine lv_iconst (v := nI 1) hx hb d_F_fillToGo_132 (by decide) ?_
          refine n_add hx hb d_F_fillToGo_133 ?_
          refine n_aald hx hb hK hW 2 (q := 18) (hdl (18) (by unfold kD; omega)) ((va_up_ne _ _ (by omega)).trans wc8) rfl rfl (j := r + 1) (by omega) (by omega) (b := ad (200 + (r + 1))) (if_pos (by omega)) d_F_fillToGo_134 ?_
          refine lv_iload hx hb d_F_fillToGo_135 (lv_at hl 0 rfl) ?_
          refine n_iald hx hb hK hW 0 (q := 200 + (r + 1)) (hdl (200 + (r + 1)) (by unfold kD; omega)) w201 rfl (j := z) (by omega) (by omega) d_F_fillToGo_137 ?_
          refine n_topi (show h0 z = nI (tgo a (alw tr shp w) cl mv sp n (r + 1) z) from hh z hza) ?_
          refine n_add hx hb d_F_fillToGo_138 ?_
          refine n_iast (x := nI (((sp b (cl r)) + (mv b z)) + (tgo a (alw tr shp w) cl mv sp n (r + 1) z))) hx hb hK hW hS 0 (q := 200 + r) (hdl (200 + r) (by unfold kD; omega)) (va_up_self _ _ _) rfl (j := b) (by omega) (by omega) d_F_fillToGo_139 (fun H locs hW hS => ?_)
          rw [show va_up (va_up co (200 + r) (.inl (cI, a, .inl g))) (200 + r) (.inl (cI, a, .inl (upd g b (nI (sp b (cl r) + mv b z + tgo a (alw tr shp w) cl mv sp n (r + 1) z))))) = va_up co (200 + r) (.inl (cI, a, .inl (upd g b (nI (sp b (cl r) + mv b z + tgo a (alw tr shp w) cl mv sp n (r + 1) z))))) from bx_uu _ _ _ _] at hW
          refine n_iinc (lv' := [(6, .int (nI (b + 1))), (8, .int (nI z)), (7, .ref (ad (m1 + b))), (0, .ref (ad 16)), (1, .ref (ad 1)), (2, .ref (ad tb)), (3, .int (nI r)), (4, .int w), (5, .int (nI (cl r)))]) hx hb d_F_fillToGo_140 hl (k := 8) rfl (by decide) rfl (fun ls hl => ?_)
          refine lv_goto (tgt := 11) hx hb d_F_fillToGo_143 (by decide) ?_
          refine ih (b + 1) (upd g b (nI (sp b (cl r) + mv b z + tgo a (alw tr shp w) cl mv sp n (r + 1) z))) _ _ ls (by omega) (by omega) (lt_s (fun j hj => by rw [pk_un (show j ≠ b by omega)]; exact hg j hj) (by rw [pk_us, tgo_eq hr1, if_pos h2, ← hpick.2.2, Nat.add_assoc])) hW hS (lv_sub hl [3, 4, 5, 6, 7, 8, 0] rfl)
        · refine lv_aload_n hx hb d_F_fillToGo_56 rfl (lv_at hl 0 rfl) ?_
          refine g_get (C := R_F) (T := F_F) (N := 7) hx hb hts i_F hown hK hW (i := 16) (hdl (16) (by unfold kD; omega)) ((va_up_ne _ _ (by omega)).trans w16) rfl 3 (by decide) (hts _ q_95) (fun _ h9 => h9) rfl d_F_fillToGo_57 ?_
          refine lv_iload_n hx hb d_F_fillToGo_60 rfl (lv_at hl 3 rfl) ?_
          refine n_aald hx hb hK hW 2 (q := 18) (hdl (18) (by unfold kD; omega)) ((va_up_ne _ _ (by omega)).trans wc8) rfl rfl (j := r) (by omega) (by omega) (b := ad (200 + r)) (if_pos (by omega)) d_F_fillToGo_61 ?_
          refine lv_iload hx hb d_F_fillToGo_62 (lv_at hl 6 rfl) ?_
          refine lv_aload_n hx hb d_F_fillToGo_64 rfl (lv_at hl 2 rfl) ?_
          refine g_get (C := R_B) (T := F_B) (N := 2) hx hb hts i_B hown hK hW (i := tb) (hdl (tb) (by unfold kD; omega)) ((va_up_ne _ _ (by omega)).trans wtb) rfl 1 (by decide) (hts _ q_75) (fun _ h9 => h9) rfl d_F_fillToGo_65 ?_
          refine lv_iload hx hb d_F_fillToGo_68 (lv_at hl 6 rfl) ?_
          refine n_aald hx hb hK hW 2 (q := c2) (hdl (c2) (by unfold kD; omega)) ((va_up_ne _ _ (by omega)).trans wc2) rfl rfl (j := b) (by omega) (by omega) (b := ad (m2 + b)) (if_pos (by omega)) d_F_fillToGo_70 ?_
          refine lv_iload hx hb d_F_fillToGo_71 (lv_at hl 5 rfl) ?_
          refine n_iald hx hb hK hW 0 (q := m2 + b) (hdl (m2 + b) (by unfold kD; omega)) ((va_up_ne _ _ (by omega)).trans (wm2 b (by omega))) rfl (j := cl r) (by omega) (by omega) d_F_fillToGo_73 ?_
          refine n_topi (show (SP b) (cl r) = nI (sp b (cl r)) from hsp b (cl r) h1 hcr.2) ?_
          refine n_iast (x := nI (sp b (cl r))) hx hb hK hW hS 0 (q := 200 + r) (hdl (200 + r) (by unfold kD; omega)) (va_up_self _ _ _) rfl (j := b) (by omega) (by omega) d_F_fillToGo_74 (fun H locs hW hS => ?_)
          rw [show va_up (va_up co (200 + r) (.inl (cI, a, .inl g))) (200 + r) (.inl (cI, a, .inl (upd g b (nI (sp b (cl r)))))) = va_up co (200 + r) (.inl (cI, a, .inl (upd g b (nI (sp b (cl r)))))) from bx_uu _ _ _ _] at hW
          refine lv_goto (tgt := 140) hx hb d_F_fillToGo_75 (by decide) ?_
          refine n_iinc (lv' := [(6, .int (nI (b + 1))), (0, .ref (ad 16)), (1, .ref (ad 1)), (2, .ref (ad tb)), (3, .int (nI r)), (4, .int w), (5, .int (nI (cl r)))]) hx hb d_F_fillToGo_140 hl (k := 6) rfl (by decide) rfl (fun ls hl => ?_)
          refine lv_goto (tgt := 11) hx hb d_F_fillToGo_143 (by decide) ?_
          refine ih (b + 1) (upd g b (nI (sp b (cl r)))) _ _ ls (by omega) (by omega) (lt_s (fun j hj => by rw [pk_un (show j ≠ b by omega)]; exact hg j hj) (by rw [pk_us, h3, tgo_last hn0, ← h3, if_pos h2])) hW hS (lv_sub hl [1, 2, 3, 4, 5, 6, 0] rfl)
      · refine lv_aload_n hx hb d_F_fillToGo_32 rfl (lv_at hl 0 rfl) ?_
        refine g_get (C := R_F) (T := F_F) (N := 7) hx hb hts i_F hown hK hW (i := 16) (hdl (16) (by unfold kD; omega)) ((va_up_ne _ _ (by omega)).trans w16) rfl 3 (by decide) (hts _ q_95) (fun _ h9 => h9) rfl d_F_fillToGo_33 ?_
        refine lv_iload_n hx hb d_F_fillToGo_36 rfl (lv_at hl 3 rfl) ?_
        refine n_aald hx hb hK hW 2 (q := 18) (hdl (18) (by unfold kD; omega)) ((va_up_ne _ _ (by omega)).trans wc8) rfl rfl (j := r) (by omega) (by omega) (b := ad (200 + r)) (if_pos (by omega)) d_F_fillToGo_37 ?_
        refine lv_iload hx hb d_F_fillToGo_38 (lv_at hl 6 rfl) ?_
        refine lv_ldc hx hb hown (hts _ q_266) d_F_fillToGo_40 ?_
        refine n_topi (show (1000000000 : Int32) = nI 1000000000 by decide) ?_
        refine n_iast (x := nI 1000000000) hx hb hK hW hS 0 (q := 200 + r) (hdl (200 + r) (by unfold kD; omega)) (va_up_self _ _ _) rfl (j := b) (by omega) (by omega) d_F_fillToGo_42 (fun H locs hW hS => ?_)
        rw [show va_up (va_up co (200 + r) (.inl (cI, a, .inl g))) (200 + r) (.inl (cI, a, .inl (upd g b (nI 1000000000)))) = va_up co (200 + r) (.inl (cI, a, .inl (upd g b (nI 1000000000)))) from bx_uu _ _ _ _] at hW
        refine lv_goto (tgt := 140) hx hb d_F_fillToGo_43 (by decide) ?_
        refine n_iinc (lv' := [(6, .int (nI (b + 1))), (0, .ref (ad 16)), (1, .ref (ad 1)), (2, .ref (ad tb)), (3, .int (nI r)), (4, .int w), (5, .int (nI (cl r)))]) hx hb d_F_fillToGo_140 hl (k := 6) rfl (by decide) rfl (fun ls hl => ?_)
        refine lv_goto (tgt := 11) hx hb d_F_fillToGo_143 (by decide) ?_
        refine ih (b + 1) (upd g b (nI 1000000000)) _ _ ls (by omega) (by omega) (lt_s (fun j hj => by rw [pk_un (show j ≠ b by omega)]; exact hg j hj) (by rw [pk_us, tgo_big h2, hBIG])) hW hS (lv_sub hl [1, 2, 3, 4, 5, 6, 0] rfl)
