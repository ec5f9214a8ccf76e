set_option maxHeartbeats 4000000 in
set_option maxRecDepth 100000 in
theorem law_differs {p : Program} {l : Launch} {e : Env} {s : State} {m : MethodId} {below : List Frame} {meth : Method} {c : Code} {b L : Nat} {xs : Nat → Int32} {D : va_G} {cI cJ cG : ClassId} {cells slots : Nat} {Q : State → Prop} {ad : Nat → Nat} {dl : List Nat} {a : Nat} {co : Nat → va_E} {S : lSt} {H : Heap} {locs : List Loc} {ls : Array Slot} {i : Nat} (C0 : lCx p s m c b L xs D cI cJ cG) (hdl : ∀ i, kD a i → i ∈ dl) (hdm : ∀ i, 400 ≤ i → i < 427 → i ∈ dl) (hL : L ≤ 3073) (hcs : cells ≤ room_1.cells ∧ slots ≤ room_1.slots) (hi : i + 6 ≤ L) (hlS : lOk a S) (hk : kOS cI cJ cG ad co a S) (hm : mOS cI cJ ad co a S) (hW : gW D gCl (lA s) ad co dl H) (hS : va_S (lA s) s.heap H locs) (hl : lv_has ls 4 [(0, .ref b), (1, .ref (ad 0)), (2, .ref (ad 400)), (3, .int (nI i))])
    (kk : ∀ (co1 : Nat → va_E) (S1 : lSt) (H1 : Heap) (locs1 : List Loc), lOk a S1 → kOS cI cJ cG ad co1 a S1 → mOS cI cJ ad co1 a S1 → gW D gCl (lA s) ad co1 dl H1 → va_S (lA s) s.heap H1 locs1 → W p l e room_1 s m #[Value.ref b] below meth c H1 locs1 cells slots Q (F0 m 921 ls [])) : W p l e room_1 s m #[Value.ref b] below meth c H locs cells slots Q (F0 m 516 ls []) := by
  obtain ⟨hx, hb, hml, hown, hts, hX, hbl, hK, hN⟩ := C0
  have hA : ∀ q, s.heap.size ≤ q → lA s q := fun _ h => h
  have hbA : ¬ lA s b := Nat.not_le.mpr hbl
  refine lv_aload_n hx hb d_L_law_516 rfl (lv_at hl 1 rfl) ?_
  refine lv_aload_n hx hb d_L_law_517 rfl (lv_at hl 0 rfl) ?_
  refine lv_iload_n hx hb d_L_law_518 rfl (lv_at hl 3 rfl) ?_
  refine lv_iconst (v := nI 1) hx hb d_L_law_519 (by decide) ?_
  refine n_add hx hb d_L_law_520 ?_
  refine l_sld hx hb hX hbl hbA hS (j := i + 1) (by omega) (by omega) d_L_law_521 ?_
  refine lv_aload_n hx hb d_L_law_522 rfl (lv_at hl 0 rfl) ?_
  refine lv_iload_n hx hb d_L_law_523 rfl (lv_at hl 3 rfl) ?_
  refine lv_iconst (v := nI 2) hx hb d_L_law_524 (by decide) ?_
  refine n_add hx hb d_L_law_525 ?_
  refine l_sld hx hb hX hbl hbA hS (j := i + 2) (by omega) (by omega) d_L_law_526 ?_
  refine g_cVi (As := [.int (xs (i + 1)), .int (xs (i + 2))]) (rest := []) ⟨hx, hb, hml, hown, hts⟩ (k_differs l hdl hlS hk (xs (i + 1)) (xs (i + 2))) (gcwV 2 hts q_401 q_398 q_399 q_400 q_1 (by decide +kernel) ⟨(Nat.le_of_ble_eq_true rfl), (Nat.le_of_ble_eq_true rfl)⟩) gNl_ok hN hK hW hS hA (hdl 0 (Or.inl (by decide))) hk.1 rfl rfl hl.1 rfl (Nat.le_of_ble_eq_true rfl) d_L_law_527 hcs (fun r1 co1 H locs hp1 hW hS => ?_)
  obtain ⟨hr1, hk1, hf1⟩ := hp1
  have hm1 := mOS_tr hf1 hm
  refine lv_aload_n hx hb d_L_law_530 rfl (lv_at hl 2 rfl) ?_
  refine lv_aload_n hx hb d_L_law_531 rfl (lv_at hl 0 rfl) ?_
  refine lv_iload_n hx hb d_L_law_532 rfl (lv_at hl 3 rfl) ?_
  refine lv_iconst (v := nI 1) hx hb d_L_law_533 (by decide) ?_
  refine n_add hx hb d_L_law_534 ?_
  refine l_sld hx hb hX hbl hbA hS (j := i + 1) (by omega) (by omega) d_L_law_535 ?_
  refine lv_aload_n hx hb d_L_law_536 rfl (lv_at hl 0 rfl) ?_
  refine lv_iload_n hx hb d_L_law_537 rfl (lv_at hl 3 rfl) ?_
  refine lv_iconst (v := nI 2) hx hb d_L_law_538 (by decide) ?_
  refine n_add hx hb d_L_law_539 ?_
  refine l_sld hx hb hX hbl hbA hS (j := i + 2) (by omega) (by omega) d_L_law_540 ?_
  refine g_cVi (As := [.int (xs (i + 1)), .int (xs (i + 2))]) (rest := [.int (r1)]) ⟨hx, hb, hml, hown, hts⟩ (m_differs l hdm hlS hm1 (xs (i + 1)) (xs (i + 2))) (gcwV 2 hts q_734 q_731 q_732 q_733 q_9 (by decide +kernel) ⟨(Nat.le_of_ble_eq_true rfl), (Nat.le_of_ble_eq_true rfl)⟩) gNl_ok hN hK hW hS hA (hdm 400 (by decide) (by decide)) hm1.1 rfl rfl hl.1 rfl (Nat.le_of_ble_eq_true rfl) d_L_law_541 hcs (fun r2 co2 H locs hp2 hW hS => ?_)
  obtain ⟨hr2, hm2, hf2⟩ := hp2
  have hk2 := kOS_tr hlS.a2 hf2 hk1
  exact lv_icmp_eq (tgt := 921) hx hb d_L_law_544 (by decide) (fun _ => kk _ _ _ _ (hlS) hk2 hm2 hW hS) (fun hne => absurd (hr1.trans hr2.symm) hne)
set_option maxHeartbeats 4000000 in
set_option maxRecDepth 100000 in
theorem law_page {p : Program} {l : Launch} {e : Env} {s : State} {m : MethodId} {below : List Frame} {meth : Method} {c : Code} {b L : Nat} {xs : Nat → Int32} {D : va_G} {cI cJ cG : ClassId} {cells slots : Nat} {Q : State → Prop} {ad : Nat → Nat} {dl : List Nat} {a : Nat} {co : Nat → va_E} {S : lSt} {H : Heap} {locs : List Loc} {ls : Array Slot} {i : Nat} (C0 : lCx p s m c b L xs D cI cJ cG) (hdl : ∀ i, kD a i → i ∈ dl) (hdm : ∀ i, 400 ≤ i → i < 427 → i ∈ dl) (hL : L ≤ 3073) (hcs : cells ≤ room_1.cells ∧ slots ≤ room_1.slots) (hi : i + 6 ≤ L) (hlS : lOk a S) (hk : kOS cI cJ cG ad co a S) (hm : mOS cI cJ ad co a S) (hW : gW D gCl (lA s) ad co dl H) (hS : va_S (lA s) s.heap H locs) (hl : lv_has ls 4 [(0, .ref b), (1, .ref (ad 0)), (2, .ref (ad 400)), (3, .int (nI i))])
    (kk : ∀ (co1 : Nat → va_E) (S1 : lSt) (H1 : Heap) (locs1 : List Loc), lOk a S1 → kOS cI cJ cG ad co1 a S1 → mOS cI cJ ad co1 a S1 → gW D gCl (lA s) ad co1 dl H1 → va_S (lA s) s.heap H1 locs1 → W p l e room_1 s m #[Value.ref b] below meth c H1 locs1 cells slots Q (F0 m 921 ls [])) : W p l e room_1 s m #[Value.ref b] below meth c H locs cells slots Q (F0 m 549 ls []) := by
  obtain ⟨hx, hb, hml, hown, hts, hX, hbl, hK, hN⟩ := C0
  have hA : ∀ q, s.heap.size ≤ q → lA s q := fun _ h => h
  have hbA : ¬ lA s b := Nat.not_le.mpr hbl
  refine lv_aload_n hx hb d_L_law_549 rfl (lv_at hl 1 rfl) ?_
  refine lv_aload_n hx hb d_L_law_550 rfl (lv_at hl 0 rfl) ?_
  refine lv_iload_n hx hb d_L_law_551 rfl (lv_at hl 3 rfl) ?_
  refine lv_iconst (v := nI 1) hx hb d_L_law_552 (by decide) ?_
  refine n_add hx hb d_L_law_553 ?_
  refine l_sld hx hb hX hbl hbA hS (j := i + 1) (by omega) (by omega) d_L_law_554 ?_
  refine lv_i2l (v := (xs (i + 1)).toInt64) hx hb d_L_law_555 rfl ?_
  refine lv_bipush (v := nI 32) hx hb d_L_law_556 (by decide) ?_
  refine lv_lshl (v := (xs (i + 1)).toInt64 <<< ((nI 32).toInt64 &&& 63)) hx hb d_L_law_558 rfl ?_
  refine lv_aload_n hx hb d_L_law_559 rfl (lv_at hl 0 rfl) ?_
  refine lv_iload_n hx hb d_L_law_560 rfl (lv_at hl 3 rfl) ?_
  refine lv_iconst (v := nI 2) hx hb d_L_law_561 (by decide) ?_
  refine n_add hx hb d_L_law_562 ?_
  refine l_sld hx hb hX hbl hbA hS (j := i + 2) (by omega) (by omega) d_L_law_563 ?_
  refine lv_i2l (v := (xs (i + 2)).toInt64) hx hb d_L_law_564 rfl ?_
  refine lv_ldc2 hx hb hown (hts _ q_751) d_L_law_565 ?_
  refine lv_land hx hb d_L_law_568 ?_
  refine lv_lor hx hb d_L_law_569 ?_
  refine n_topl (x' := lJJ (xs (i + 1)) (xs (i + 2))) rfl ?_
  refine lv_aload_n hx hb d_L_law_570 rfl (lv_at hl 0 rfl) ?_
  refine lv_iload_n hx hb d_L_law_571 rfl (lv_at hl 3 rfl) ?_
  refine lv_iconst (v := nI 3) hx hb d_L_law_572 (by decide) ?_
  refine n_add hx hb d_L_law_573 ?_
  refine l_sld hx hb hX hbl hbA hS (j := i + 3) (by omega) (by omega) d_L_law_574 ?_
  refine lv_i2l (v := (xs (i + 3)).toInt64) hx hb d_L_law_575 rfl ?_
  refine lv_bipush (v := nI 32) hx hb d_L_law_576 (by decide) ?_
  refine lv_lshl (v := (xs (i + 3)).toInt64 <<< ((nI 32).toInt64 &&& 63)) hx hb d_L_law_578 rfl ?_
  refine lv_aload_n hx hb d_L_law_579 rfl (lv_at hl 0 rfl) ?_
  refine lv_iload_n hx hb d_L_law_580 rfl (lv_at hl 3 rfl) ?_
  refine lv_iconst (v := nI 4) hx hb d_L_law_581 (by decide) ?_
  refine n_add hx hb d_L_law_582 ?_
  refine l_sld hx hb hX hbl hbA hS (j := i + 4) (by omega) (by omega) d_L_law_583 ?_
  refine lv_i2l (v := (xs (i + 4)).toInt64) hx hb d_L_law_584 rfl ?_
  refine lv_ldc2 hx hb hown (hts _ q_751) d_L_law_585 ?_
  refine lv_land hx hb d_L_law_588 ?_
  refine lv_lor hx hb d_L_law_589 ?_
  refine n_topl (x' := lJJ (xs (i + 3)) (xs (i + 4))) rfl ?_
  refine lv_aload_n hx hb d_L_law_590 rfl (lv_at hl 0 rfl) ?_
  refine lv_iload_n hx hb d_L_law_591 rfl (lv_at hl 3 rfl) ?_
  refine lv_iconst (v := nI 5) hx hb d_L_law_592 (by decide) ?_
  refine n_add hx hb d_L_law_593 ?_
  refine l_sld hx hb hX hbl hbA hS (j := i + 5) (by omega) (by omega) d_L_law_594 ?_
  refine g_cVi (As := [.long (lJJ (xs (i + 1)) (xs (i + 2))), .long (lJJ (xs (i + 3)) (xs (i + 4))), .int (xs (i + 5))]) (rest := []) ⟨hx, hb, hml, hown, hts⟩ (k_page l hdl hlS hk (lJJ (xs (i + 1)) (xs (i + 2))) (lJJ (xs (i + 3)) (xs (i + 4))) (xs (i + 5))) (gcwV 3 hts q_413 q_410 q_411 q_412 q_1 (by decide +kernel) ⟨(Nat.le_of_ble_eq_true rfl), (Nat.le_of_ble_eq_true rfl)⟩) gNl_ok hN hK hW hS hA (hdl 0 (Or.inl (by decide))) hk.1 rfl rfl hl.1 rfl (Nat.le_of_ble_eq_true rfl) d_L_law_595 hcs (fun r1 co1 H locs hp1 hW hS => ?_)
  obtain ⟨hr1, hk1, hf1⟩ := hp1
  have hm1 := mOS_tr hf1 hm
  refine lv_aload_n hx hb d_L_law_598 rfl (lv_at hl 2 rfl) ?_
  refine lv_aload_n hx hb d_L_law_599 rfl (lv_at hl 0 rfl) ?_
  refine lv_iload_n hx hb d_L_law_600 rfl (lv_at hl 3 rfl) ?_
  refine lv_iconst (v := nI 1) hx hb d_L_law_601 (by decide) ?_
  refine n_add hx hb d_L_law_602 ?_
  refine l_sld hx hb hX hbl hbA hS (j := i + 1) (by omega) (by omega) d_L_law_603 ?_
  refine lv_i2l (v := (xs (i + 1)).toInt64) hx hb d_L_law_604 rfl ?_
  refine lv_bipush (v := nI 32) hx hb d_L_law_605 (by decide) ?_
  refine lv_lshl (v := (xs (i + 1)).toInt64 <<< ((nI 32).toInt64 &&& 63)) hx hb d_L_law_607 rfl ?_
  refine lv_aload_n hx hb d_L_law_608 rfl (lv_at hl 0 rfl) ?_
  refine lv_iload_n hx hb d_L_law_609 rfl (lv_at hl 3 rfl) ?_
  refine lv_iconst (v := nI 2) hx hb d_L_law_610 (by decide) ?_
  refine n_add hx hb d_L_law_611 ?_
  refine l_sld hx hb hX hbl hbA hS (j := i + 2) (by omega) (by omega) d_L_law_612 ?_
  refine lv_i2l (v := (xs (i + 2)).toInt64) hx hb d_L_law_613 rfl ?_
  refine lv_ldc2 hx hb hown (hts _ q_751) d_L_law_614 ?_
  refine lv_land hx hb d_L_law_617 ?_
  refine lv_lor hx hb d_L_law_618 ?_
  refine n_topl (x' := lJJ (xs (i + 1)) (xs (i + 2))) rfl ?_
  refine lv_aload_n hx hb d_L_law_619 rfl (lv_at hl 0 rfl) ?_
  refine lv_iload_n hx hb d_L_law_620 rfl (lv_at hl 3 rfl) ?_
  refine lv_iconst (v := nI 3) hx hb d_L_law_621 (by decide) ?_
  refine n_add hx hb d_L_law_622 ?_
  refine l_sld hx hb hX hbl hbA hS (j := i + 3) (by omega) (by omega) d_L_law_623 ?_
  refine lv_i2l (v := (xs (i + 3)).toInt64) hx hb d_L_law_624 rfl ?_
  refine lv_bipush (v := nI 32) hx hb d_L_law_625 (by decide) ?_
  refine lv_lshl (v := (xs (i + 3)).toInt64 <<< ((nI 32).toInt64 &&& 63)) hx hb d_L_law_627 rfl ?_
  refine lv_aload_n hx hb d_L_law_628 rfl (lv_at hl 0 rfl) ?_
  refine lv_iload_n hx hb d_L_law_629 rfl (lv_at hl 3 rfl) ?_
  refine lv_iconst (v := nI 4) hx hb d_L_law_630 (by decide) ?_
  refine n_add hx hb d_L_law_631 ?_
  refine l_sld hx hb hX hbl hbA hS (j := i + 4) (by omega) (by omega) d_L_law_632 ?_
  refine lv_i2l (v := (xs (i + 4)).toInt64) hx hb d_L_law_633 rfl ?_
  refine lv_ldc2 hx hb hown (hts _ q_751) d_L_law_634 ?_
  refine lv_land hx hb d_L_law_637 ?_
  refine lv_lor hx hb d_L_law_638 ?_
  refine n_topl (x' := lJJ (xs (i + 3)) (xs (i + 4))) rfl ?_
  refine lv_aload_n hx hb d_L_law_639 rfl (lv_at hl 0 rfl) ?_
  refine lv_iload_n hx hb d_L_law_640 rfl (lv_at hl 3 rfl) ?_
  refine lv_iconst (v := nI 5) hx hb d_L_law_641 (by decide) ?_
  refine n_add hx hb d_L_law_642 ?_
  refine l_sld hx hb hX hbl hbA hS (j := i + 5) (by omega) (by omega) d_L_law_643 ?_
  refine g_cVi (As := [.long (lJJ (xs (i + 1)) (xs (i + 2))), .long (lJJ (xs (i + 3)) (xs (i + 4))), .int (xs (i + 5))]) (rest := [.int (r1)]) ⟨hx, hb, hml, hown, hts⟩ (m_page l hdm hlS hm1 (lJJ (xs (i + 1)) (xs (i + 2))) (lJJ (xs (i + 3)) (xs (i + 4))) (xs (i + 5))) (gcwV 3 hts q_630 q_627 q_628 q_629 q_9 (by decide +kernel) ⟨(Nat.le_of_ble_eq_true rfl), (Nat.le_of_ble_eq_true rfl)⟩) gNl_ok hN hK hW hS hA (hdm 400 (by decide) (by decide)) hm1.1 rfl rfl hl.1 rfl (Nat.le_of_ble_eq_true rfl) d_L_law_644 hcs (fun r2 co2 H locs hp2 hW hS => ?_)
  obtain ⟨hr2, hm2, hf2⟩ := hp2
  have hk2 := kOS_tr hlS.a2 hf2 hk1
  exact lv_icmp_eq (tgt := 921) hx hb d_L_law_647 (by decide) (fun _ => kk _ _ _ _ (ok_Page hlS (lJJ (xs (i + 1)) (xs (i + 2))) (lJJ (xs (i + 3)) (xs (i + 4))) (xs (i + 5))) hk2 hm2 hW hS) (fun hne => absurd (hr1.trans hr2.symm) hne)
set_option maxHeartbeats 4000000 in
set_option maxRecDepth 100000 in
theorem law_unsure {p : Program} {l : Launch} {e : Env} {s : State} {m : MethodId} {below : List Frame} {meth : Method} {c : Code} {b L : Nat} {xs : Nat → Int32} {D : va_G} {cI cJ cG : ClassId} {cells slots : Nat} {Q : State → Prop} {ad : Nat → Nat} {dl : List Nat} {a : Nat} {co : Nat → va_E} {S : lSt} {H : Heap} {locs : List Loc} {ls : Array Slot} {i : Nat} (C0 : lCx p s m c b L xs D cI cJ cG) (hdl : ∀ i, kD a i → i ∈ dl) (hdm : ∀ i, 400 ≤ i → i < 427 → i ∈ dl) (hL : L ≤ 3073) (hcs : cells ≤ room_1.cells ∧ slots ≤ room_1.slots) (hi : i + 6 ≤ L) (hlS : lOk a S) (hk : kOS cI cJ cG ad co a S) (hm : mOS cI cJ ad co a S) (hW : gW D gCl (lA s) ad co dl H) (hS : va_S (lA s) s.heap H locs) (hl : lv_has ls 4 [(0, .ref b), (1, .ref (ad 0)), (2, .ref (ad 400)), (3, .int (nI i))])
    (kk : ∀ (co1 : Nat → va_E) (S1 : lSt) (H1 : Heap) (locs1 : List Loc), lOk a S1 → kOS cI cJ cG ad co1 a S1 → mOS cI cJ ad co1 a S1 → gW D gCl (lA s) ad co1 dl H1 → va_S (lA s) s.heap H1 locs1 → W p l e room_1 s m #[Value.ref b] below meth c H1 locs1 cells slots Q (F0 m 921 ls [])) : W p l e room_1 s m #[Value.ref b] below meth c H locs cells slots Q (F0 m 652 ls []) := by
  obtain ⟨hx, hb, hml, hown, hts, hX, hbl, hK, hN⟩ := C0
  have hA : ∀ q, s.heap.size ≤ q → lA s q := fun _ h => h
  have hbA : ¬ lA s b := Nat.not_le.mpr hbl
  refine lv_aload_n hx hb d_L_law_652 rfl (lv_at hl 1 rfl) ?_
  refine lv_aload_n hx hb d_L_law_653 rfl (lv_at hl 0 rfl) ?_
  refine lv_iload_n hx hb d_L_law_654 rfl (lv_at hl 3 rfl) ?_
  refine lv_iconst (v := nI 1) hx hb d_L_law_655 (by decide) ?_
  refine n_add hx hb d_L_law_656 ?_
  refine l_sld hx hb hX hbl hbA hS (j := i + 1) (by omega) (by omega) d_L_law_657 ?_
  refine g_cVi (As := [.int (xs (i + 1))]) (rest := []) ⟨hx, hb, hml, hown, hts⟩ (k_unsure l hdl hlS hk (xs (i + 1))) (gcwV 1 hts q_421 q_418 q_419 q_420 q_1 (by decide +kernel) ⟨(Nat.le_of_ble_eq_true rfl), (Nat.le_of_ble_eq_true rfl)⟩) gNl_ok hN hK hW hS hA (hdl 0 (Or.inl (by decide))) hk.1 rfl rfl hl.1 rfl (Nat.le_of_ble_eq_true rfl) d_L_law_658 hcs (fun r1 co1 H locs hp1 hW hS => ?_)
  obtain ⟨hr1, hk1, hf1⟩ := hp1
  have hm1 := mOS_tr hf1 hm
  refine lv_aload_n hx hb d_L_law_661 rfl (lv_at hl 2 rfl) ?_
  refine lv_aload_n hx hb d_L_law_662 rfl (lv_at hl 0 rfl) ?_
  refine lv_iload_n hx hb d_L_law_663 rfl (lv_at hl 3 rfl) ?_
  refine lv_iconst (v := nI 1) hx hb d_L_law_664 (by decide) ?_
  refine n_add hx hb d_L_law_665 ?_
  refine l_sld hx hb hX hbl hbA hS (j := i + 1) (by omega) (by omega) d_L_law_666 ?_
  refine g_cVi (As := [.int (xs (i + 1))]) (rest := [.int (r1)]) ⟨hx, hb, hml, hown, hts⟩ (m_unsure l hdm hlS hm1 (xs (i + 1))) (gcwV 1 hts q_742 q_739 q_740 q_741 q_9 (by decide +kernel) ⟨(Nat.le_of_ble_eq_true rfl), (Nat.le_of_ble_eq_true rfl)⟩) gNl_ok hN hK hW hS hA (hdm 400 (by decide) (by decide)) hm1.1 rfl rfl hl.1 rfl (Nat.le_of_ble_eq_true rfl) d_L_law_667 hcs (fun r2 co2 H locs hp2 hW hS => ?_)
  obtain ⟨hr2, hm2, hf2⟩ := hp2
  have hk2 := kOS_tr hlS.a2 hf2 hk1
  exact lv_icmp_eq (tgt := 921) hx hb d_L_law_670 (by decide) (fun _ => kk _ _ _ _ (hlS) hk2 hm2 hW hS) (fun hne => absurd (hr1.trans hr2.symm) hne)
set_option maxHeartbeats 4000000 in
set_option maxRecDepth 100000 in
theorem law_margin {p : Program} {l : Launch} {e : Env} {s : State} {m : MethodId} {below : List Frame} {meth : Method} {c : Code} {b L : Nat} {xs : Nat → Int32} {D : va_G} {cI cJ cG : ClassId} {cells slots : Nat} {Q : State → Prop} {ad : Nat → Nat} {dl : List Nat} {a : Nat} {co : Nat → va_E} {S : lSt} {H : Heap} {locs : List Loc} {ls : Array Slot} {i : Nat} (C0 : lCx p s m c b L xs D cI cJ cG) (hdl : ∀ i, kD a i → i ∈ dl) (hdm : ∀ i, 400 ≤ i → i < 427 → i ∈ dl) (hL : L ≤ 3073) (hcs : cells ≤ room_1.cells ∧ slots ≤ room_1.slots) (hi : i + 6 ≤ L) (hlS : lOk a S) (hk : kOS cI cJ cG ad co a S) (hm : mOS cI cJ ad co a S) (hW : gW D gCl (lA s) ad co dl H) (hS : va_S (lA s) s.heap H locs) (hl : lv_has ls 4 [(0, .ref b), (1, .ref (ad 0)), (2, .ref (ad 400)), (3, .int (nI i))])
    (kk : ∀ (co1 : Nat → va_E) (S1 : lSt) (H1 : Heap) (locs1 : List Loc), lOk a S1 → kOS cI cJ cG ad co1 a S1 → mOS cI cJ ad co1 a S1 → gW D gCl (lA s) ad co1 dl H1 → va_S (lA s) s.heap H1 locs1 → W p l e room_1 s m #[Value.ref b] below meth c H1 locs1 cells slots Q (F0 m 921 ls [])) : W p l e room_1 s m #[Value.ref b] below meth c H locs cells slots Q (F0 m 675 ls []) := by
  obtain ⟨hx, hb, hml, hown, hts, hX, hbl, hK, hN⟩ := C0
  have hA : ∀ q, s.heap.size ≤ q → lA s q := fun _ h => h
  have hbA : ¬ lA s b := Nat.not_le.mpr hbl
  refine lv_aload_n hx hb d_L_law_675 rfl (lv_at hl 1 rfl) ?_
  refine lv_aload_n hx hb d_L_law_676 rfl (lv_at hl 0 rfl) ?_
  refine lv_iload_n hx hb d_L_law_677 rfl (lv_at hl 3 rfl) ?_
  refine lv_iconst (v := nI 1) hx hb d_L_law_678 (by decide) ?_
  refine n_add hx hb d_L_law_679 ?_
  refine l_sld hx hb hX hbl hbA hS (j := i + 1) (by omega) (by omega) d_L_law_680 ?_
  refine g_cVi (As := [.int (xs (i + 1))]) (rest := []) ⟨hx, hb, hml, hown, hts⟩ (k_margin l hdl hlS hk (xs (i + 1))) (gcwV 1 hts q_429 q_426 q_427 q_428 q_1 (by decide +kernel) ⟨(Nat.le_of_ble_eq_true rfl), (Nat.le_of_ble_eq_true rfl)⟩) gNl_ok hN hK hW hS hA (hdl 0 (Or.inl (by decide))) hk.1 rfl rfl hl.1 rfl (Nat.le_of_ble_eq_true rfl) d_L_law_681 hcs (fun r1 co1 H locs hp1 hW hS => ?_)
  obtain ⟨hr1, hk1, hf1⟩ := hp1
  have hm1 := mOS_tr hf1 hm
  refine lv_aload_n hx hb d_L_law_684 rfl (lv_at hl 2 rfl) ?_
  refine lv_aload_n hx hb d_L_law_685 rfl (lv_at hl 0 rfl) ?_
  refine lv_iload_n hx hb d_L_law_686 rfl (lv_at hl 3 rfl) ?_
  refine lv_iconst (v := nI 1) hx hb d_L_law_687 (by decide) ?_
  refine n_add hx hb d_L_law_688 ?_
  refine l_sld hx hb hX hbl hbA hS (j := i + 1) (by omega) (by omega) d_L_law_689 ?_
  refine g_cVi (As := [.int (xs (i + 1))]) (rest := [.int (r1)]) ⟨hx, hb, hml, hown, hts⟩ (m_margin l hdm hlS hm1 (xs (i + 1))) (gcwV 1 hts q_625 q_622 q_623 q_624 q_9 (by decide +kernel) ⟨(Nat.le_of_ble_eq_true rfl), (Nat.le_of_ble_eq_true rfl)⟩) gNl_ok hN hK hW hS hA (hdm 400 (by decide) (by decide)) hm1.1 rfl rfl hl.1 rfl (Nat.le_of_ble_eq_true rfl) d_L_law_690 hcs (fun r2 co2 H locs hp2 hW hS => ?_)
  obtain ⟨hr2, hm2, hf2⟩ := hp2
  have hk2 := kOS_tr hlS.a2 hf2 hk1
  exact lv_icmp_eq (tgt := 921) hx hb d_L_law_693 (by decide) (fun _ => kk _ _ _ _ (ok_Margin hlS (xs (i + 1))) hk2 hm2 hW hS) (fun hne => absurd (hr1.trans hr2.symm) hne)
set_option maxHeartbeats 4000000 in
set_option maxRecDepth 100000 in
theorem law_map {p : Program} {l : Launch} {e : Env} {s : State} {m : MethodId} {below : List Frame} {meth : Method} {c : Code} {b L : Nat} {xs : Nat → Int32} {D : va_G} {cI cJ cG : ClassId} {cells slots : Nat} {Q : State → Prop} {ad : Nat → Nat} {dl : List Nat} {a : Nat} {co : Nat → va_E} {S : lSt} {H : Heap} {locs : List Loc} {ls : Array Slot} {i : Nat} (C0 : lCx p s m c b L xs D cI cJ cG) (hdl : ∀ i, kD a i → i ∈ dl) (hdm : ∀ i, 400 ≤ i → i < 427 → i ∈ dl) (hL : L ≤ 3073) (hcs : cells ≤ room_1.cells ∧ slots ≤ room_1.slots) (hi : i + 6 ≤ L) (hlS : lOk a S) (hk : kOS cI cJ cG ad co a S) (hm : mOS cI cJ ad co a S) (hW : gW D gCl (lA s) ad co dl H) (hS : va_S (lA s) s.heap H locs) (hl : lv_has ls 4 [(0, .ref b), (1, .ref (ad 0)), (2, .ref (ad 400)), (3, .int (nI i))])
    (kk : ∀ (co1 : Nat → va_E) (S1 : lSt) (H1 : Heap) (locs1 : List Loc), lOk a S1 → kOS cI cJ cG ad co1 a S1 → mOS cI cJ ad co1 a S1 → gW D gCl (lA s) ad co1 dl H1 → va_S (lA s) s.heap H1 locs1 → W p l e room_1 s m #[Value.ref b] below meth c H1 locs1 cells slots Q (F0 m 921 ls [])) : W p l e room_1 s m #[Value.ref b] below meth c H locs cells slots Q (F0 m 698 ls []) := by
  obtain ⟨hx, hb, hml, hown, hts, hX, hbl, hK, hN⟩ := C0
  have hA : ∀ q, s.heap.size ≤ q → lA s q := fun _ h => h
  have hbA : ¬ lA s b := Nat.not_le.mpr hbl
  refine lv_aload_n hx hb d_L_law_698 rfl (lv_at hl 1 rfl) ?_
  refine lv_aload_n hx hb d_L_law_699 rfl (lv_at hl 0 rfl) ?_
  refine lv_iload_n hx hb d_L_law_700 rfl (lv_at hl 3 rfl) ?_
  refine lv_iconst (v := nI 1) hx hb d_L_law_701 (by decide) ?_
  refine n_add hx hb d_L_law_702 ?_
  refine l_sld hx hb hX hbl hbA hS (j := i + 1) (by omega) (by omega) d_L_law_703 ?_
  refine lv_aload_n hx hb d_L_law_704 rfl (lv_at hl 0 rfl) ?_
  refine lv_iload_n hx hb d_L_law_705 rfl (lv_at hl 3 rfl) ?_
  refine lv_iconst (v := nI 2) hx hb d_L_law_706 (by decide) ?_
  refine n_add hx hb d_L_law_707 ?_
  refine l_sld hx hb hX hbl hbA hS (j := i + 2) (by omega) (by omega) d_L_law_708 ?_
  refine g_cVl (As := [.int (xs (i + 1)), .int (xs (i + 2))]) (rest := []) ⟨hx, hb, hml, hown, hts⟩ (k_map l hdl hlS hk (xs (i + 1)) (xs (i + 2))) (gcwV 2 hts q_434 q_431 q_432 q_433 q_1 (by decide +kernel) ⟨(Nat.le_of_ble_eq_true rfl), (Nat.le_of_ble_eq_true rfl)⟩) gNl_ok hN hK hW hS hA (hdl 0 (Or.inl (by decide))) hk.1 rfl rfl hl.1 rfl (Nat.le_of_ble_eq_true rfl) d_L_law_709 hcs (fun r1 co1 H locs hp1 hW hS => ?_)
  obtain ⟨hr1, hk1, hf1⟩ := hp1
  have hm1 := mOS_tr hf1 hm
  refine lv_aload_n hx hb d_L_law_712 rfl (lv_at hl 2 rfl) ?_
  refine lv_aload_n hx hb d_L_law_713 rfl (lv_at hl 0 rfl) ?_
  refine lv_iload_n hx hb d_L_law_714 rfl (lv_at hl 3 rfl) ?_
  refine lv_iconst (v := nI 1) hx hb d_L_law_715 (by decide) ?_
  refine n_add hx hb d_L_law_716 ?_
  refine l_sld hx hb hX hbl hbA hS (j := i + 1) (by omega) (by omega) d_L_law_717 ?_
  refine lv_aload_n hx hb d_L_law_718 rfl (lv_at hl 0 rfl) ?_
  refine lv_iload_n hx hb d_L_law_719 rfl (lv_at hl 3 rfl) ?_
  refine lv_iconst (v := nI 2) hx hb d_L_law_720 (by decide) ?_
  refine n_add hx hb d_L_law_721 ?_
  refine l_sld hx hb hX hbl hbA hS (j := i + 2) (by omega) (by omega) d_L_law_722 ?_
  refine g_cVl (As := [.int (xs (i + 1)), .int (xs (i + 2))]) (rest := [.long (r1)]) ⟨hx, hb, hml, hown, hts⟩ (m_map l hdm hlS hm1 (xs (i + 1)) (xs (i + 2))) (gcwV 2 hts q_750 q_747 q_748 q_749 q_9 (by decide +kernel) ⟨(Nat.le_of_ble_eq_true rfl), (Nat.le_of_ble_eq_true rfl)⟩) gNl_ok hN hK hW hS hA (hdm 400 (by decide) (by decide)) hm1.1 rfl rfl hl.1 rfl (Nat.le_of_ble_eq_true rfl) d_L_law_723 hcs (fun r2 co2 H locs hp2 hW hS => ?_)
  obtain ⟨hr2, hm2, hf2⟩ := hp2
  have hk2 := kOS_tr hlS.a2 hf2 hk1
  refine W.lcmp hx hb d_L_law_726 ?_
  exact lv_if_eq (tgt := 921) hx hb d_L_law_727 (by decide) (fun _ => kk _ _ _ _ (hlS) hk2 hm2 hW hS) (fun hne => absurd ((lg_cmp_eq _ _).mpr (hr1.trans hr2.symm)) hne)
set_option maxHeartbeats 4000000 in
set_option maxRecDepth 100000 in
theorem law_cell {p : Program} {l : Launch} {e : Env} {s : State} {m : MethodId} {below : List Frame} {meth : Method} {c : Code} {b L : Nat} {xs : Nat → Int32} {D : va_G} {cI cJ cG : ClassId} {cells slots : Nat} {Q : State → Prop} {ad : Nat → Nat} {dl : List Nat} {a : Nat} {co : Nat → va_E} {S : lSt} {H : Heap} {locs : List Loc} {ls : Array Slot} {i : Nat} (C0 : lCx p s m c b L xs D cI cJ cG) (hdl : ∀ i, kD a i → i ∈ dl) (hdm : ∀ i, 400 ≤ i → i < 427 → i ∈ dl) (hL : L ≤ 3073) (hcs : cells ≤ room_1.cells ∧ slots ≤ room_1.slots) (hi : i + 6 ≤ L) (hlS : lOk a S) (hk : kOS cI cJ cG ad co a S) (hm : mOS cI cJ ad co a S) (hW : gW D gCl (lA s) ad co dl H) (hS : va_S (lA s) s.heap H locs) (hl : lv_has ls 4 [(0, .ref b), (1, .ref (ad 0)), (2, .ref (ad 400)), (3, .int (nI i))])
    (kk : ∀ (co1 : Nat → va_E) (S1 : lSt) (H1 : Heap) (locs1 : List Loc), lOk a S1 → kOS cI cJ cG ad co1 a S1 → mOS cI cJ ad co1 a S1 → gW D gCl (lA s) ad co1 dl H1 → va_S (lA s) s.heap H1 locs1 → W p l e room_1 s m #[Value.ref b] below meth c H1 locs1 cells slots Q (F0 m 921 ls [])) : W p l e room_1 s m #[Value.ref b] below meth c H locs cells slots Q (F0 m 732 ls []) := by
  obtain ⟨hx, hb, hml, hown, hts, hX, hbl, hK, hN⟩ := C0
  have hA : ∀ q, s.heap.size ≤ q → lA s q := fun _ h => h
  have hbA : ¬ lA s b := Nat.not_le.mpr hbl
  refine lv_aload_n hx hb d_L_law_732 rfl (lv_at hl 1 rfl) ?_
  refine lv_aload_n hx hb d_L_law_733 rfl (lv_at hl 0 rfl) ?_
  refine lv_iload_n hx hb d_L_law_734 rfl (lv_at hl 3 rfl) ?_
  refine lv_iconst (v := nI 1) hx hb d_L_law_735 (by decide) ?_
  refine n_add hx hb d_L_law_736 ?_
  refine l_sld hx hb hX hbl hbA hS (j := i + 1) (by omega) (by omega) d_L_law_737 ?_
  refine lv_aload_n hx hb d_L_law_738 rfl (lv_at hl 0 rfl) ?_
  refine lv_iload_n hx hb d_L_law_739 rfl (lv_at hl 3 rfl) ?_
  refine lv_iconst (v := nI 2) hx hb d_L_law_740 (by decide) ?_
  refine n_add hx hb d_L_law_741 ?_
  refine l_sld hx hb hX hbl hbA hS (j := i + 2) (by omega) (by omega) d_L_law_742 ?_
  refine lv_aload_n hx hb d_L_law_743 rfl (lv_at hl 0 rfl) ?_
  refine lv_iload_n hx hb d_L_law_744 rfl (lv_at hl 3 rfl) ?_
  refine lv_iconst (v := nI 3) hx hb d_L_law_745 (by decide) ?_
  refine n_add hx hb d_L_law_746 ?_
  refine l_sld hx hb hX hbl hbA hS (j := i + 3) (by omega) (by omega) d_L_law_747 ?_
  refine lv_aload_n hx hb d_L_law_748 rfl (lv_at hl 0 rfl) ?_
  refine lv_iload_n hx hb d_L_law_749 rfl (lv_at hl 3 rfl) ?_
  refine lv_iconst (v := nI 4) hx hb d_L_law_750 (by decide) ?_
  refine n_add hx hb d_L_law_751 ?_
  refine l_sld hx hb hX hbl hbA hS (j := i + 4) (by omega) (by omega) d_L_law_752 ?_
  refine lv_i2l (v := (xs (i + 4)).toInt64) hx hb d_L_law_753 rfl ?_
  refine lv_bipush (v := nI 32) hx hb d_L_law_754 (by decide) ?_
  refine lv_lshl (v := (xs (i + 4)).toInt64 <<< ((nI 32).toInt64 &&& 63)) hx hb d_L_law_756 rfl ?_
  refine lv_aload_n hx hb d_L_law_757 rfl (lv_at hl 0 rfl) ?_
  refine lv_iload_n hx hb d_L_law_758 rfl (lv_at hl 3 rfl) ?_
  refine lv_iconst (v := nI 5) hx hb d_L_law_759 (by decide) ?_
  refine n_add hx hb d_L_law_760 ?_
  refine l_sld hx hb hX hbl hbA hS (j := i + 5) (by omega) (by omega) d_L_law_761 ?_
  refine lv_i2l (v := (xs (i + 5)).toInt64) hx hb d_L_law_762 rfl ?_
  refine lv_ldc2 hx hb hown (hts _ q_751) d_L_law_763 ?_
  refine lv_land hx hb d_L_law_766 ?_
  refine lv_lor hx hb d_L_law_767 ?_
  refine n_topl (x' := lJJ (xs (i + 4)) (xs (i + 5))) rfl ?_
  refine g_cVi (As := [.int (xs (i + 1)), .int (xs (i + 2)), .int (xs (i + 3)), .long (lJJ (xs (i + 4)) (xs (i + 5)))]) (rest := []) ⟨hx, hb, hml, hown, hts⟩ (k_cell l hdl hlS hk (xs (i + 1)) (xs (i + 2)) (xs (i + 3)) (lJJ (xs (i + 4)) (xs (i + 5)))) (gcwV 4 hts q_446 q_443 q_444 q_445 q_1 (by decide +kernel) ⟨(Nat.le_of_ble_eq_true rfl), (Nat.le_of_ble_eq_true rfl)⟩) gNl_ok hN hK hW hS hA (hdl 0 (Or.inl (by decide))) hk.1 rfl rfl hl.1 rfl (Nat.le_of_ble_eq_true rfl) d_L_law_768 hcs (fun r1 co1 H locs hp1 hW hS => ?_)
  obtain ⟨hr1, hk1, hf1⟩ := hp1
  have hm1 := mOS_tr hf1 hm
  refine lv_aload_n hx hb d_L_law_771 rfl (lv_at hl 2 rfl) ?_
  refine lv_aload_n hx hb d_L_law_772 rfl (lv_at hl 0 rfl) ?_
  refine lv_iload_n hx hb d_L_law_773 rfl (lv_at hl 3 rfl) ?_
  refine lv_iconst (v := nI 1) hx hb d_L_law_774 (by decide) ?_
  refine n_add hx hb d_L_law_775 ?_
  refine l_sld hx hb hX hbl hbA hS (j := i + 1) (by omega) (by omega) d_L_law_776 ?_
  refine lv_aload_n hx hb d_L_law_777 rfl (lv_at hl 0 rfl) ?_
  refine lv_iload_n hx hb d_L_law_778 rfl (lv_at hl 3 rfl) ?_
  refine lv_iconst (v := nI 2) hx hb d_L_law_779 (by decide) ?_
  refine n_add hx hb d_L_law_780 ?_
  refine l_sld hx hb hX hbl hbA hS (j := i + 2) (by omega) (by omega) d_L_law_781 ?_
  refine lv_aload_n hx hb d_L_law_782 rfl (lv_at hl 0 rfl) ?_
  refine lv_iload_n hx hb d_L_law_783 rfl (lv_at hl 3 rfl) ?_
  refine lv_iconst (v := nI 3) hx hb d_L_law_784 (by decide) ?_
  refine n_add hx hb d_L_law_785 ?_
  refine l_sld hx hb hX hbl hbA hS (j := i + 3) (by omega) (by omega) d_L_law_786 ?_
  refine lv_aload_n hx hb d_L_law_787 rfl (lv_at hl 0 rfl) ?_
  refine lv_iload_n hx hb d_L_law_788 rfl (lv_at hl 3 rfl) ?_
  refine lv_iconst (v := nI 4) hx hb d_L_law_789 (by decide) ?_
  refine n_add hx hb d_L_law_790 ?_
  refine l_sld hx hb hX hbl hbA hS (j := i + 4) (by omega) (by omega) d_L_law_791 ?_
  refine lv_i2l (v := (xs (i + 4)).toInt64) hx hb d_L_law_792 rfl ?_
  refine lv_bipush (v := nI 32) hx hb d_L_law_793 (by decide) ?_
  refine lv_lshl (v := (xs (i + 4)).toInt64 <<< ((nI 32).toInt64 &&& 63)) hx hb d_L_law_795 rfl ?_
  refine lv_aload_n hx hb d_L_law_796 rfl (lv_at hl 0 rfl) ?_
  refine lv_iload_n hx hb d_L_law_797 rfl (lv_at hl 3 rfl) ?_
  refine lv_iconst (v := nI 5) hx hb d_L_law_798 (by decide) ?_
  refine n_add hx hb d_L_law_799 ?_
  refine l_sld hx hb hX hbl hbA hS (j := i + 5) (by omega) (by omega) d_L_law_800 ?_
  refine lv_i2l (v := (xs (i + 5)).toInt64) hx hb d_L_law_801 rfl ?_
  refine lv_ldc2 hx hb hown (hts _ q_751) d_L_law_802 ?_
  refine lv_land hx hb d_L_law_805 ?_
  refine lv_lor hx hb d_L_law_806 ?_
  refine n_topl (x' := lJJ (xs (i + 4)) (xs (i + 5))) rfl ?_
  refine g_cVi (As := [.int (xs (i + 1)), .int (xs (i + 2)), .int (xs (i + 3)), .long (lJJ (xs (i + 4)) (xs (i + 5)))]) (rest := [.int (r1)]) ⟨hx, hb, hml, hown, hts⟩ (m_cell l hdm hlS hm1 (xs (i + 1)) (xs (i + 2)) (xs (i + 3)) (lJJ (xs (i + 4)) (xs (i + 5)))) (gcwV 4 hts q_634 q_631 q_632 q_633 q_9 (by decide +kernel) ⟨(Nat.le_of_ble_eq_true rfl), (Nat.le_of_ble_eq_true rfl)⟩) gNl_ok hN hK hW hS hA (hdm 400 (by decide) (by decide)) hm1.1 rfl rfl hl.1 rfl (Nat.le_of_ble_eq_true rfl) d_L_law_807 hcs (fun r2 co2 H locs hp2 hW hS => ?_)
  obtain ⟨hr2, hm2, hf2⟩ := hp2
  have hk2 := kOS_tr hlS.a2 hf2 hk1
  exact lv_icmp_eq (tgt := 921) hx hb d_L_law_810 (by decide) (fun _ => kk _ _ _ _ (ok_Cell hlS (xs (i + 1)) (xs (i + 2)) (xs (i + 3)) (lJJ (xs (i + 4)) (xs (i + 5)))) hk2 hm2 hW hS) (fun hne => absurd (hr1.trans hr2.symm) hne)
set_option maxHeartbeats 4000000 in
set_option maxRecDepth 100000 in
theorem law_gear {p : Program} {l : Launch} {e : Env} {s : State} {m : MethodId} {below : List Frame} {meth : Method} {c : Code} {b L : Nat} {xs : Nat → Int32} {D : va_G} {cI cJ cG : ClassId} {cells slots : Nat} {Q : State → Prop} {ad : Nat → Nat} {dl : List Nat} {a : Nat} {co : Nat → va_E} {S : lSt} {H : Heap} {locs : List Loc} {ls : Array Slot} {i : Nat} (C0 : lCx p s m c b L xs D cI cJ cG) (hdl : ∀ i, kD a i → i ∈ dl) (hdm : ∀ i, 400 ≤ i → i < 427 → i ∈ dl) (hL : L ≤ 3073) (hcs : cells ≤ room_1.cells ∧ slots ≤ room_1.slots) (hi : i + 6 ≤ L) (hlS : lOk a S) (hk : kOS cI cJ cG ad co a S) (hm : mOS cI cJ ad co a S) (hW : gW D gCl (lA s) ad co dl H) (hS : va_S (lA s) s.heap H locs) (hl : lv_has ls 4 [(0, .ref b), (1, .ref (ad 0)), (2, .ref (ad 400)), (3, .int (nI i))])
    (kk : ∀ (co1 : Nat → va_E) (S1 : lSt) (H1 : Heap) (locs1 : List Loc), lOk a S1 → kOS cI cJ cG ad co1 a S1 → mOS cI cJ ad co1 a S1 → gW D gCl (lA s) ad co1 dl H1 → va_S (lA s) s.heap H1 locs1 → W p l e room_1 s m #[Value.ref b] below meth c H1 locs1 cells slots Q (F0 m 921 ls [])) : W p l e room_1 s m #[Value.ref b] below meth c H locs cells slots Q (F0 m 815 ls []) := by
  obtain ⟨hx, hb, hml, hown, hts, hX, hbl, hK, hN⟩ := C0
  have hA : ∀ q, s.heap.size ≤ q → lA s q := fun _ h => h
  have hbA : ¬ lA s b := Nat.not_le.mpr hbl
  refine lv_aload_n hx hb d_L_law_815 rfl (lv_at hl 1 rfl) ?_
  refine lv_aload_n hx hb d_L_law_816 rfl (lv_at hl 0 rfl) ?_
  refine lv_iload_n hx hb d_L_law_817 rfl (lv_at hl 3 rfl) ?_
  refine lv_iconst (v := nI 1) hx hb d_L_law_818 (by decide) ?_
  refine n_add hx hb d_L_law_819 ?_
  refine l_sld hx hb hX hbl hbA hS (j := i + 1) (by omega) (by omega) d_L_law_820 ?_
  refine g_cVi (As := [.int (xs (i + 1))]) (rest := []) ⟨hx, hb, hml, hown, hts⟩ (k_gear l hdl hlS hk (xs (i + 1))) (gcwV 1 hts q_455 q_452 q_453 q_454 q_1 (by decide +kernel) ⟨(Nat.le_of_ble_eq_true rfl), (Nat.le_of_ble_eq_true rfl)⟩) gNl_ok hN hK hW hS hA (hdl 0 (Or.inl (by decide))) hk.1 rfl rfl hl.1 rfl (Nat.le_of_ble_eq_true rfl) d_L_law_821 hcs (fun r1 co1 H locs hp1 hW hS => ?_)
  obtain ⟨hr1, hk1, hf1⟩ := hp1
  have hm1 := mOS_tr hf1 hm
  refine lv_aload_n hx hb d_L_law_824 rfl (lv_at hl 2 rfl) ?_
  refine lv_aload_n hx hb d_L_law_825 rfl (lv_at hl 0 rfl) ?_
  refine lv_iload_n hx hb d_L_law_826 rfl (lv_at hl 3 rfl) ?_
  refine lv_iconst (v := nI 1) hx hb d_L_law_827 (by decide) ?_
  refine n_add hx hb d_L_law_828 ?_
  refine l_sld hx hb hX hbl hbA hS (j := i + 1) (by omega) (by omega) d_L_law_829 ?_
  refine g_cVi (As := [.int (xs (i + 1))]) (rest := [.int (r1)]) ⟨hx, hb, hml, hown, hts⟩ (m_gear l hdm hlS hm1 (xs (i + 1))) (gcwV 1 hts q_730 q_727 q_728 q_729 q_9 (by decide +kernel) ⟨(Nat.le_of_ble_eq_true rfl), (Nat.le_of_ble_eq_true rfl)⟩) gNl_ok hN hK hW hS hA (hdm 400 (by decide) (by decide)) hm1.1 rfl rfl hl.1 rfl (Nat.le_of_ble_eq_true rfl) d_L_law_830 hcs (fun r2 co2 H locs hp2 hW hS => ?_)
  obtain ⟨hr2, hm2, hf2⟩ := hp2
  have hk2 := kOS_tr hlS.a2 hf2 hk1
  exact lv_icmp_eq (tgt := 921) hx hb d_L_law_833 (by decide) (fun _ => kk _ _ _ _ (hlS) hk2 hm2 hW hS) (fun hne => absurd (hr1.trans hr2.symm) hne)
set_option maxHeartbeats 4000000 in
set_option maxRecDepth 100000 in
theorem law_ship {p : Program} {l : Launch} {e : Env} {s : State} {m : MethodId} {below : List Frame} {meth : Method} {c : Code} {b L : Nat} {xs : Nat → Int32} {D : va_G} {cI cJ cG : ClassId} {cells slots : Nat} {Q : State → Prop} {ad : Nat → Nat} {dl : List Nat} {a : Nat} {co : Nat → va_E} {S : lSt} {H : Heap} {locs : List Loc} {ls : Array Slot} {i : Nat} (C0 : lCx p s m c b L xs D cI cJ cG) (hdl : ∀ i, kD a i → i ∈ dl) (hdm : ∀ i, 400 ≤ i → i < 427 → i ∈ dl) (hL : L ≤ 3073) (hcs : cells ≤ room_1.cells ∧ slots ≤ room_1.slots) (hi : i + 6 ≤ L) (hlS : lOk a S) (hk : kOS cI cJ cG ad co a S) (hm : mOS cI cJ ad co a S) (hW : gW D gCl (lA s) ad co dl H) (hS : va_S (lA s) s.heap H locs) (hl : lv_has ls 4 [(0, .ref b), (1, .ref (ad 0)), (2, .ref (ad 400)), (3, .int (nI i))])
    (kk : ∀ (co1 : Nat → va_E) (S1 : lSt) (H1 : Heap) (locs1 : List Loc), lOk a S1 → kOS cI cJ cG ad co1 a S1 → mOS cI cJ ad co1 a S1 → gW D gCl (lA s) ad co1 dl H1 → va_S (lA s) s.heap H1 locs1 → W p l e room_1 s m #[Value.ref b] below meth c H1 locs1 cells slots Q (F0 m 921 ls [])) : W p l e room_1 s m #[Value.ref b] below meth c H locs cells slots Q (F0 m 838 ls []) := by
  obtain ⟨hx, hb, hml, hown, hts, hX, hbl, hK, hN⟩ := C0
  have hA : ∀ q, s.heap.size ≤ q → lA s q := fun _ h => h
  have hbA : ¬ lA s b := Nat.not_le.mpr hbl
  refine lv_aload_n hx hb d_L_law_838 rfl (lv_at hl 1 rfl) ?_
  refine lv_aload_n hx hb d_L_law_839 rfl (lv_at hl 0 rfl) ?_
  refine lv_iload_n hx hb d_L_law_840 rfl (lv_at hl 3 rfl) ?_
  refine lv_iconst (v := nI 1) hx hb d_L_law_841 (by decide) ?_
  refine n_add hx hb d_L_law_842 ?_
  refine l_sld hx hb hX hbl hbA hS (j := i + 1) (by omega) (by omega) d_L_law_843 ?_
  refine g_cVi (As := [.int (xs (i + 1))]) (rest := []) ⟨hx, hb, hml, hown, hts⟩ (k_ship l hdl hlS hk (xs (i + 1))) (gcwV 1 hts q_463 q_460 q_461 q_462 q_1 (by decide +kernel) ⟨(Nat.le_of_ble_eq_true rfl), (Nat.le_of_ble_eq_true rfl)⟩) gNl_ok hN hK hW hS hA (hdl 0 (Or.inl (by decide))) hk.1 rfl rfl hl.1 rfl (Nat.le_of_ble_eq_true rfl) d_L_law_844 hcs (fun r1 co1 H locs hp1 hW hS => ?_)
  obtain ⟨hr1, hk1, hf1⟩ := hp1
  have hm1 := mOS_tr hf1 hm
  refine lv_aload_n hx hb d_L_law_847 rfl (lv_at hl 2 rfl) ?_
  refine lv_aload_n hx hb d_L_law_848 rfl (lv_at hl 0 rfl) ?_
  refine lv_iload_n hx hb d_L_law_849 rfl (lv_at hl 3 rfl) ?_
  refine lv_iconst (v := nI 1) hx hb d_L_law_850 (by decide) ?_
  refine n_add hx hb d_L_law_851 ?_
  refine l_sld hx hb hX hbl hbA hS (j := i + 1) (by omega) (by omega) d_L_law_852 ?_
  refine g_cVi (As := [.int (xs (i + 1))]) (rest := [.int (r1)]) ⟨hx, hb, hml, hown, hts⟩ (m_ship l hdm hlS hm1 (xs (i + 1))) (gcwV 1 hts q_613 q_610 q_611 q_612 q_9 (by decide +kernel) ⟨(Nat.le_of_ble_eq_true rfl), (Nat.le_of_ble_eq_true rfl)⟩) gNl_ok hN hK hW hS hA (hdm 400 (by decide) (by decide)) hm1.1 rfl rfl hl.1 rfl (Nat.le_of_ble_eq_true rfl) d_L_law_853 hcs (fun r2 co2 H locs hp2 hW hS => ?_)
  obtain ⟨hr2, hm2, hf2⟩ := hp2
  have hk2 := kOS_tr hlS.a2 hf2 hk1
  exact lv_icmp_eq (tgt := 921) hx hb d_L_law_856 (by decide) (fun _ => kk _ _ _ _ (ok_Ship hlS (xs (i + 1))) hk2 hm2 hW hS) (fun hne => absurd (hr1.trans hr2.symm) hne)
set_option maxHeartbeats 4000000 in
set_option maxRecDepth 100000 in
theorem law_total {p : Program} {l : Launch} {e : Env} {s : State} {m : MethodId} {below : List Frame} {meth : Method} {c : Code} {b L : Nat} {xs : Nat → Int32} {D : va_G} {cI cJ cG : ClassId} {cells slots : Nat} {Q : State → Prop} {ad : Nat → Nat} {dl : List Nat} {a : Nat} {co : Nat → va_E} {S : lSt} {H : Heap} {locs : List Loc} {ls : Array Slot} {i : Nat} (C0 : lCx p s m c b L xs D cI cJ cG) (hdl : ∀ i, kD a i → i ∈ dl) (hdm : ∀ i, 400 ≤ i → i < 427 → i ∈ dl) (hL : L ≤ 3073) (hcs : cells ≤ room_1.cells ∧ slots ≤ room_1.slots) (hi : i + 6 ≤ L) (hlS : lOk a S) (hk : kOS cI cJ cG ad co a S) (hm : mOS cI cJ ad co a S) (hW : gW D gCl (lA s) ad co dl H) (hS : va_S (lA s) s.heap H locs) (hl : lv_has ls 4 [(0, .ref b), (1, .ref (ad 0)), (2, .ref (ad 400)), (3, .int (nI i))])
    (kk : ∀ (co1 : Nat → va_E) (S1 : lSt) (H1 : Heap) (locs1 : List Loc), lOk a S1 → kOS cI cJ cG ad co1 a S1 → mOS cI cJ ad co1 a S1 → gW D gCl (lA s) ad co1 dl H1 → va_S (lA s) s.heap H1 locs1 → W p l e room_1 s m #[Value.ref b] below meth c H1 locs1 cells slots Q (F0 m 921 ls [])) : W p l e room_1 s m #[Value.ref b] below meth c H locs cells slots Q (F0 m 861 ls []) := by
  obtain ⟨hx, hb, hml, hown, hts, hX, hbl, hK, hN⟩ := C0
  have hA : ∀ q, s.heap.size ≤ q → lA s q := fun _ h => h
  have hbA : ¬ lA s b := Nat.not_le.mpr hbl
  refine lv_aload_n hx hb d_L_law_861 rfl (lv_at hl 1 rfl) ?_
  refine g_cVl (As := []) (rest := []) ⟨hx, hb, hml, hown, hts⟩ (k_total l hdl hlS hk ) (gcwV 0 hts q_467 q_464 q_465 q_466 q_1 (by decide +kernel) ⟨(Nat.le_of_ble_eq_true rfl), (Nat.le_of_ble_eq_true rfl)⟩) gNl_ok hN hK hW hS hA (hdl 0 (Or.inl (by decide))) hk.1 rfl rfl hl.1 rfl (Nat.le_of_ble_eq_true rfl) d_L_law_862 hcs (fun r1 co1 H locs hp1 hW hS => ?_)
  obtain ⟨hr1, hk1, hf1⟩ := hp1
  have hm1 := mOS_tr hf1 hm
  refine lv_aload_n hx hb d_L_law_865 rfl (lv_at hl 2 rfl) ?_
  refine g_cVl (As := []) (rest := [.long (r1)]) ⟨hx, hb, hml, hown, hts⟩ (m_total l hdm hlS hm1 ) (gcwV 0 hts q_713 q_710 q_711 q_712 q_9 (by decide +kernel) ⟨(Nat.le_of_ble_eq_true rfl), (Nat.le_of_ble_eq_true rfl)⟩) gNl_ok hN hK hW hS hA (hdm 400 (by decide) (by decide)) hm1.1 rfl rfl hl.1 rfl (Nat.le_of_ble_eq_true rfl) d_L_law_866 hcs (fun r2 co2 H locs hp2 hW hS => ?_)
  obtain ⟨hr2, hm2, hf2⟩ := hp2
  have hk2 := kOS_tr hlS.a2 hf2 hk1
  refine W.lcmp hx hb d_L_law_869 ?_
  exact lv_if_eq (tgt := 921) hx hb d_L_law_870 (by decide) (fun _ => kk _ _ _ _ (hlS) hk2 hm2 hW hS) (fun hne => absurd ((lg_cmp_eq _ _).mpr (hr1.trans hr2.symm)) hne)
set_option maxHeartbeats 4000000 in
set_option maxRecDepth 100000 in
theorem law_tied {p : Program} {l : Launch} {e : Env} {s : State} {m : MethodId} {below : List Frame} {meth : Method} {c : Code} {b L : Nat} {xs : Nat → Int32} {D : va_G} {cI cJ cG : ClassId} {cells slots : Nat} {Q : State → Prop} {ad : Nat → Nat} {dl : List Nat} {a : Nat} {co : Nat → va_E} {S : lSt} {H : Heap} {locs : List Loc} {ls : Array Slot} {i : Nat} (C0 : lCx p s m c b L xs D cI cJ cG) (hdl : ∀ i, kD a i → i ∈ dl) (hdm : ∀ i, 400 ≤ i → i < 427 → i ∈ dl) (hL : L ≤ 3073) (hcs : cells ≤ room_1.cells ∧ slots ≤ room_1.slots) (hi : i + 6 ≤ L) (hlS : lOk a S) (hk : kOS cI cJ cG ad co a S) (hm : mOS cI cJ ad co a S) (hW : gW D gCl (lA s) ad co dl H) (hS : va_S (lA s) s.heap H locs) (hl : lv_has ls 4 [(0, .ref b), (1, .ref (ad 0)), (2, .ref (ad 400)), (3, .int (nI i))])
    (kk : ∀ (co1 : Nat → va_E) (S1 : lSt) (H1 : Heap) (locs1 : List Loc), lOk a S1 → kOS cI cJ cG ad co1 a S1 → mOS cI cJ ad co1 a S1 → gW D gCl (lA s) ad co1 dl H1 → va_S (lA s) s.heap H1 locs1 → W p l e room_1 s m #[Value.ref b] below meth c H1 locs1 cells slots Q (F0 m 921 ls [])) : W p l e room_1 s m #[Value.ref b] below meth c H locs cells slots Q (F0 m 875 ls []) := by
  obtain ⟨hx, hb, hml, hown, hts, hX, hbl, hK, hN⟩ := C0
  have hA : ∀ q, s.heap.size ≤ q → lA s q := fun _ h => h
  have hbA : ¬ lA s b := Nat.not_le.mpr hbl
  refine lv_aload_n hx hb d_L_law_875 rfl (lv_at hl 1 rfl) ?_
  refine lv_aload_n hx hb d_L_law_876 rfl (lv_at hl 0 rfl) ?_
  refine lv_iload_n hx hb d_L_law_877 rfl (lv_at hl 3 rfl) ?_
  refine lv_iconst (v := nI 1) hx hb d_L_law_878 (by decide) ?_
  refine n_add hx hb d_L_law_879 ?_
  refine l_sld hx hb hX hbl hbA hS (j := i + 1) (by omega) (by omega) d_L_law_880 ?_
  refine g_cVi (As := [.int (xs (i + 1))]) (rest := []) ⟨hx, hb, hml, hown, hts⟩ (k_tied l hdl hlS hk (xs (i + 1))) (gcwV 1 hts q_471 q_468 q_469 q_470 q_1 (by decide +kernel) ⟨(Nat.le_of_ble_eq_true rfl), (Nat.le_of_ble_eq_true rfl)⟩) gNl_ok hN hK hW hS hA (hdl 0 (Or.inl (by decide))) hk.1 rfl rfl hl.1 rfl (Nat.le_of_ble_eq_true rfl) d_L_law_881 hcs (fun r1 co1 H locs hp1 hW hS => ?_)
  obtain ⟨hr1, hk1, hf1⟩ := hp1
  have hm1 := mOS_tr hf1 hm
  refine lv_aload_n hx hb d_L_law_884 rfl (lv_at hl 2 rfl) ?_
  refine lv_aload_n hx hb d_L_law_885 rfl (lv_at hl 0 rfl) ?_
  refine lv_iload_n hx hb d_L_law_886 rfl (lv_at hl 3 rfl) ?_
  refine lv_iconst (v := nI 1) hx hb d_L_law_887 (by decide) ?_
  refine n_add hx hb d_L_law_888 ?_
  refine l_sld hx hb hX hbl hbA hS (j := i + 1) (by omega) (by omega) d_L_law_889 ?_
  refine g_cVi (As := [.int (xs (i + 1))]) (rest := [.int (r1)]) ⟨hx, hb, hml, hown, hts⟩ (m_tied l hdm hlS hm1 (xs (i + 1))) (gcwV 1 hts q_746 q_743 q_744 q_745 q_9 (by decide +kernel) ⟨(Nat.le_of_ble_eq_true rfl), (Nat.le_of_ble_eq_true rfl)⟩) gNl_ok hN hK hW hS hA (hdm 400 (by decide) (by decide)) hm1.1 rfl rfl hl.1 rfl (Nat.le_of_ble_eq_true rfl) d_L_law_890 hcs (fun r2 co2 H locs hp2 hW hS => ?_)
  obtain ⟨hr2, hm2, hf2⟩ := hp2
  have hk2 := kOS_tr hlS.a2 hf2 hk1
  exact lv_icmp_eq (tgt := 921) hx hb d_L_law_893 (by decide) (fun _ => kk _ _ _ _ (hlS) hk2 hm2 hW hS) (fun hne => absurd (hr1.trans hr2.symm) hne)
set_option maxHeartbeats 4000000 in
set_option maxRecDepth 100000 in
theorem law_night {p : Program} {l : Launch} {e : Env} {s : State} {m : MethodId} {below : List Frame} {meth : Method} {c : Code} {b L : Nat} {xs : Nat → Int32} {D : va_G} {cI cJ cG : ClassId} {cells slots : Nat} {Q : State → Prop} {ad : Nat → Nat} {dl : List Nat} {a : Nat} {co : Nat → va_E} {S : lSt} {H : Heap} {locs : List Loc} {ls : Array Slot} {i : Nat} (C0 : lCx p s m c b L xs D cI cJ cG) (hdl : ∀ i, kD a i → i ∈ dl) (hdm : ∀ i, 400 ≤ i → i < 427 → i ∈ dl) (hL : L ≤ 3073) (hcs : cells ≤ room_1.cells ∧ slots ≤ room_1.slots) (hi : i + 6 ≤ L) (hlS : lOk a S) (hk : kOS cI cJ cG ad co a S) (hm : mOS cI cJ ad co a S) (hW : gW D gCl (lA s) ad co dl H) (hS : va_S (lA s) s.heap H locs) (hl : lv_has ls 4 [(0, .ref b), (1, .ref (ad 0)), (2, .ref (ad 400)), (3, .int (nI i))])
    (kk : ∀ (co1 : Nat → va_E) (S1 : lSt) (H1 : Heap) (locs1 : List Loc), lOk a S1 → kOS cI cJ cG ad co1 a S1 → mOS cI cJ ad co1 a S1 → gW D gCl (lA s) ad co1 dl H1 → va_S (lA s) s.heap H1 locs1 → W p l e room_1 s m #[Value.ref b] below meth c H1 locs1 cells slots Q (F0 m 921 ls [])) : W p l e room_1 s m #[Value.ref b] below meth c H locs cells slots Q (F0 m 898 ls []) := by
  obtain ⟨hx, hb, hml, hown, hts, hX, hbl, hK, hN⟩ := C0
  have hA : ∀ q, s.heap.size ≤ q → lA s q := fun _ h => h
  have hbA : ¬ lA s b := Nat.not_le.mpr hbl
  refine lv_aload_n hx hb d_L_law_898 rfl (lv_at hl 1 rfl) ?_
  refine lv_aload_n hx hb d_L_law_899 rfl (lv_at hl 0 rfl) ?_
  refine lv_iload_n hx hb d_L_law_900 rfl (lv_at hl 3 rfl) ?_
  refine lv_iconst (v := nI 1) hx hb d_L_law_901 (by decide) ?_
  refine n_add hx hb d_L_law_902 ?_
  refine l_sld hx hb hX hbl hbA hS (j := i + 1) (by omega) (by omega) d_L_law_903 ?_
  refine g_cVi (As := [.int (xs (i + 1))]) (rest := []) ⟨hx, hb, hml, hown, hts⟩ (k_night l hdl hlS hk (xs (i + 1))) (gcwV 1 hts q_475 q_472 q_473 q_474 q_1 (by decide +kernel) ⟨(Nat.le_of_ble_eq_true rfl), (Nat.le_of_ble_eq_true rfl)⟩) gNl_ok hN hK hW hS hA (hdl 0 (Or.inl (by decide))) hk.1 rfl rfl hl.1 rfl (Nat.le_of_ble_eq_true rfl) d_L_law_904 hcs (fun r1 co1 H locs hp1 hW hS => ?_)
  obtain ⟨hr1, hk1, hf1⟩ := hp1
  have hm1 := mOS_tr hf1 hm
  refine lv_aload_n hx hb d_L_law_907 rfl (lv_at hl 2 rfl) ?_
  refine lv_aload_n hx hb d_L_law_908 rfl (lv_at hl 0 rfl) ?_
  refine lv_iload_n hx hb d_L_law_909 rfl (lv_at hl 3 rfl) ?_
  refine lv_iconst (v := nI 1) hx hb d_L_law_910 (by decide) ?_
  refine n_add hx hb d_L_law_911 ?_
  refine l_sld hx hb hX hbl hbA hS (j := i + 1) (by omega) (by omega) d_L_law_912 ?_
  refine g_cVi (As := [.int (xs (i + 1))]) (rest := [.int (r1)]) ⟨hx, hb, hml, hown, hts⟩ (m_night l hdm hlS hm1 (xs (i + 1))) (gcwV 1 hts q_639 q_636 q_637 q_638 q_9 (by decide +kernel) ⟨(Nat.le_of_ble_eq_true rfl), (Nat.le_of_ble_eq_true rfl)⟩) gNl_ok hN hK hW hS hA (hdm 400 (by decide) (by decide)) hm1.1 rfl rfl hl.1 rfl (Nat.le_of_ble_eq_true rfl) d_L_law_913 hcs (fun r2 co2 H locs hp2 hW hS => ?_)
  obtain ⟨hr2, hm2, hf2⟩ := hp2
  have hk2 := kOS_tr hlS.a2 hf2 hk1
  exact lv_icmp_eq (tgt := 921) hx hb d_L_law_916 (by decide) (fun _ => kk _ _ _ _ (hlS) hk2 hm2 hW hS) (fun hne => absurd (hr1.trans hr2.symm) hne)
