theorem lw_head {L i : Nat} (hL : L ≤ 3073) (hi : i ≤ L + 1) (h : ¬ nI L - nI 6 < nI i) : i + 6 ≤ L := by
  rcases Nat.lt_or_ge L 6 with h6 | h6
  · exfalso
    have h0 : nI L - nI 6 < 0 := by
      rcases (show L = 0 ∨ L = 1 ∨ L = 2 ∨ L = 3 ∨ L = 4 ∨ L = 5 by omega) with rfl | rfl | rfl | rfl | rfl | rfl <;> decide
    exact h (Int32.lt_of_lt_of_le h0 (nI_pos' (by omega)))
  · have e : nI L - nI 6 = nI (L - 6) := by
      have q := nI_add (L - 6) 6
      rw [Nat.sub_add_cancel h6] at q
      rw [← q]
      exact Int32.add_sub_cancel _ _
    rw [e] at h
    have h1 : ¬ (L - 6 < i) := fun q => h ((nI_ltI (a := L - 6) (b := i) (by omega) (by omega)).mpr q)
    omega
set_option maxHeartbeats 4000000 in
set_option maxRecDepth 100000 in
/-- THE LAW'S LOOP: at its head both sides hold the same -/
theorem law_loop {p : Program} {l : Launch} {e : Env} {s : State} {m : MethodId} {below : List Frame} {meth : Method} {c : Code} {b L : Nat} {xs : Nat → Int32} {D : va_G} {cI cJ cG : ClassId} {cells slots : Nat} {Q : State → Prop} {ad : Nat → Nat} {dl : List Nat} {a : Nat} (C0 : lCx p s m c b L xs D cI cJ cG) (hdl : ∀ i, kD a i → i ∈ dl) (hdm : ∀ i, 400 ≤ i → i < 427 → i ∈ dl) (hL : L ≤ 3073) (hcs : cells ≤ room_1.cells ∧ slots ≤ room_1.slots)
    (kend : ∀ (H : Heap) (locs : List Loc) (ls : Array Slot), va_S (lA s) s.heap H locs → W p l e room_1 s m #[Value.ref b] below meth c H locs cells slots Q (F0 m 927 ls [])) :
    ∀ (n i : Nat) (co : Nat → va_E) (S : lSt) (H : Heap) (locs : List Loc) (ls : Array Slot), i ≤ L + 1 → L + 2 ≤ i + n → lOk a S → kOS cI cJ cG ad co a S → mOS cI cJ ad co a S → gW D gCl (lA s) ad co dl H → va_S (lA s) s.heap H locs → lv_has ls 4 [(0, .ref b), (1, .ref (ad 0)), (2, .ref (ad 400)), (3, .int (nI i))] → W p l e room_1 s m #[Value.ref b] below meth c H locs cells slots Q (F0 m 28 ls []) := by
  have C1 := C0
  obtain ⟨hx, hb, hml, hown, hts, hX, hbl, hK, hN⟩ := C1
  have hbA : ¬ lA s b := Nat.not_le.mpr hbl
  intro n
  induction n with
  | zero =>
    intro i co S H locs ls h1 h2
    exact absurd h2 (by omega)
  | succ n ih =>
    intro i co S H locs ls hiL hin hlS hk hm hW hS hl
    refine lv_iload_n hx hb d_L_law_28 rfl (lv_at hl 3 rfl) ?_
    refine lv_aload_n hx hb d_L_law_29 rfl (lv_at hl 0 rfl) ?_
    refine l_slen hx hb hX hbl hbA hS d_L_law_30 ?_
    refine lv_bipush (v := nI 6) hx hb d_L_law_31 (by decide) ?_
    refine lv_isub hx hb d_L_law_33 ?_
    refine lv_icmp_gt (tgt := 927) hx hb d_L_law_34 (by decide) (fun _ => kend H locs ls hS) (fun h1 => ?_)
    have hi := lw_head hL hiL h1
    refine lv_aload_n hx hb d_L_law_37 rfl (lv_at hl 0 rfl) ?_
    refine lv_iload_n hx hb d_L_law_38 rfl (lv_at hl 3 rfl) ?_
    refine l_sld hx hb hX hbl hbA hS (j := i) (by omega) (by omega) d_L_law_39 ?_
    refine lv_bipush (v := nI 31) hx hb d_L_law_40 (by decide) ?_
    refine lv_iand hx hb d_L_law_42 ?_
    generalize xs i &&& nI 31 = v
    have next : ∀ (co1 : Nat → va_E) (S1 : lSt) (H1 : Heap) (locs1 : List Loc), lOk a S1 → kOS cI cJ cG ad co1 a S1 → mOS cI cJ ad co1 a S1 → gW D gCl (lA s) ad co1 dl H1 → va_S (lA s) s.heap H1 locs1 → W p l e room_1 s m #[Value.ref b] below meth c H1 locs1 cells slots Q (F0 m 921 ls []) := by
      intro co1 S1 H1 locs1 a1 a2 a3 a4 a5
      refine lv_iinc (v := nI (i + 6)) (lv' := [(3, .int (nI (i + 6))), (0, .ref b), (1, .ref (ad 0)), (2, .ref (ad 400))]) hx hb d_L_law_921 hl (k := 3) rfl (nI_add i 6) (by decide) rfl (fun ls hl => ?_)
      refine lv_goto (tgt := 28) hx hb d_L_law_924 (by decide) ?_
      exact ih (i + 6) co1 S1 H1 locs1 ls (by omega) (by omega) a1 a2 a3 a4 a5 (lv_sub hl [1, 2, 3, 0] rfl)
    by_cases hv : v.toInt < 0 ∨ 22 < v.toInt
    · exact lv_tableOut (tgt := 921) hx hb d_L_law_43 hv (by decide) (next co S H locs hlS hk hm hW hS)
    · obtain ⟨k, hk9, hkv⟩ : ∃ k : Nat, k < 23 ∧ v.toInt = (k : Int) := ⟨v.toInt.toNat, by omega, by omega⟩
      rcases (show k = 0 ∨ k = 1 ∨ k = 2 ∨ k = 3 ∨ k = 4 ∨ k = 5 ∨ k = 6 ∨ k = 7 ∨ k = 8 ∨ k = 9 ∨ k = 10 ∨ k = 11 ∨ k = 12 ∨ k = 13 ∨ k = 14 ∨ k = 15 ∨ k = 16 ∨ k = 17 ∨ k = 18 ∨ k = 19 ∨ k = 20 ∨ k = 21 ∨ k = 22 by omega) with rfl | rfl | rfl | rfl | rfl | rfl | rfl | rfl | rfl | rfl | rfl | rfl | rfl | rfl | rfl | rfl | rfl | rfl | rfl | rfl | rfl | rfl | rfl
      · refine lv_tableIn (off := 105) (tgt := 148) hx hb d_L_law_43 (by rw [hkv]; decide) (by rw [hkv]; decide) (by rw [hkv]; rfl) (by decide) ?_
        exact law_move C0 hdl hdm hL hcs hi hlS hk hm hW hS hl next
      · refine lv_tableIn (off := 148) (tgt := 191) hx hb d_L_law_43 (by rw [hkv]; decide) (by rw [hkv]; decide) (by rw [hkv]; rfl) (by decide) ?_
        exact law_speed C0 hdl hdm hL hcs hi hlS hk hm hW hS hl next
      · refine lv_tableIn (off := 191) (tgt := 234) hx hb d_L_law_43 (by rw [hkv]; decide) (by rw [hkv]; decide) (by rw [hkv]; rfl) (by decide) ?_
        exact law_row C0 hdl hdm hL hcs hi hlS hk hm hW hS hl next
      · refine lv_tableIn (off := 264) (tgt := 307) hx hb d_L_law_43 (by rw [hkv]; decide) (by rw [hkv]; decide) (by rw [hkv]; rfl) (by decide) ?_
        exact law_run C0 hdl hdm hL hcs hi hlS hk hm hW hS hl next
      · refine lv_tableIn (off := 277) (tgt := 320) hx hb d_L_law_43 (by rw [hkv]; decide) (by rw [hkv]; decide) (by rw [hkv]; rfl) (by decide) ?_
        exact law_act C0 hdl hdm hL hcs hi hlS hk hm hW hS hl next
      · refine lv_tableIn (off := 300) (tgt := 343) hx hb d_L_law_43 (by rw [hkv]; decide) (by rw [hkv]; decide) (by rw [hkv]; rfl) (by decide) ?_
        exact law_greatest C0 hdl hdm hL hcs hi hlS hk hm hW hS hl next
      · refine lv_tableIn (off := 313) (tgt := 356) hx hb d_L_law_43 (by rw [hkv]; decide) (by rw [hkv]; decide) (by rw [hkv]; rfl) (by decide) ?_
        exact law_truth C0 hdl hdm hL hcs hi hlS hk hm hW hS hl next
      · refine lv_tableIn (off := 346) (tgt := 389) hx hb d_L_law_43 (by rw [hkv]; decide) (by rw [hkv]; decide) (by rw [hkv]; rfl) (by decide) ?_
        exact law_fit C0 hdl hdm hL hcs hi hlS hk hm hW hS hl next
      · refine lv_tableIn (off := 369) (tgt := 412) hx hb d_L_law_43 (by rw [hkv]; decide) (by rw [hkv]; decide) (by rw [hkv]; rfl) (by decide) ?_
        exact law_sum C0 hdl hdm hL hcs hi hlS hk hm hW hS hl next
      · refine lv_tableIn (off := 393) (tgt := 436) hx hb d_L_law_43 (by rw [hkv]; decide) (by rw [hkv]; decide) (by rw [hkv]; rfl) (by decide) ?_
        exact law_leftOut C0 hdl hdm hL hcs hi hlS hk hm hW hS hl next
      · refine lv_tableIn (off := 416) (tgt := 459) hx hb d_L_law_43 (by rw [hkv]; decide) (by rw [hkv]; decide) (by rw [hkv]; rfl) (by decide) ?_
        exact law_hours C0 hdl hdm hL hcs hi hlS hk hm hW hS hl next
      · refine lv_tableIn (off := 440) (tgt := 483) hx hb d_L_law_43 (by rw [hkv]; decide) (by rw [hkv]; decide) (by rw [hkv]; rfl) (by decide) ?_
        exact law_haul C0 hdl hdm hL hcs hi hlS hk hm hW hS hl next
      · refine lv_tableIn (off := 473) (tgt := 516) hx hb d_L_law_43 (by rw [hkv]; decide) (by rw [hkv]; decide) (by rw [hkv]; rfl) (by decide) ?_
        exact law_differs C0 hdl hdm hL hcs hi hlS hk hm hW hS hl next
      · refine lv_tableIn (off := 506) (tgt := 549) hx hb d_L_law_43 (by rw [hkv]; decide) (by rw [hkv]; decide) (by rw [hkv]; rfl) (by decide) ?_
        exact law_page C0 hdl hdm hL hcs hi hlS hk hm hW hS hl next
      · refine lv_tableIn (off := 609) (tgt := 652) hx hb d_L_law_43 (by rw [hkv]; decide) (by rw [hkv]; decide) (by rw [hkv]; rfl) (by decide) ?_
        exact law_unsure C0 hdl hdm hL hcs hi hlS hk hm hW hS hl next
      · refine lv_tableIn (off := 632) (tgt := 675) hx hb d_L_law_43 (by rw [hkv]; decide) (by rw [hkv]; decide) (by rw [hkv]; rfl) (by decide) ?_
        exact law_margin C0 hdl hdm hL hcs hi hlS hk hm hW hS hl next
      · refine lv_tableIn (off := 655) (tgt := 698) hx hb d_L_law_43 (by rw [hkv]; decide) (by rw [hkv]; decide) (by rw [hkv]; rfl) (by decide) ?_
        exact law_map C0 hdl hdm hL hcs hi hlS hk hm hW hS hl next
      · refine lv_tableIn (off := 689) (tgt := 732) hx hb d_L_law_43 (by rw [hkv]; decide) (by rw [hkv]; decide) (by rw [hkv]; rfl) (by decide) ?_
        exact law_cell C0 hdl hdm hL hcs hi hlS hk hm hW hS hl next
      · refine lv_tableIn (off := 772) (tgt := 815) hx hb d_L_law_43 (by rw [hkv]; decide) (by rw [hkv]; decide) (by rw [hkv]; rfl) (by decide) ?_
        exact law_gear C0 hdl hdm hL hcs hi hlS hk hm hW hS hl next
      · refine lv_tableIn (off := 795) (tgt := 838) hx hb d_L_law_43 (by rw [hkv]; decide) (by rw [hkv]; decide) (by rw [hkv]; rfl) (by decide) ?_
        exact law_ship C0 hdl hdm hL hcs hi hlS hk hm hW hS hl next
      · refine lv_tableIn (off := 818) (tgt := 861) hx hb d_L_law_43 (by rw [hkv]; decide) (by rw [hkv]; decide) (by rw [hkv]; rfl) (by decide) ?_
        exact law_total C0 hdl hdm hL hcs hi hlS hk hm hW hS hl next
      · refine lv_tableIn (off := 832) (tgt := 875) hx hb d_L_law_43 (by rw [hkv]; decide) (by rw [hkv]; decide) (by rw [hkv]; rfl) (by decide) ?_
        exact law_tied C0 hdl hdm hL hcs hi hlS hk hm hW hS hl next
      · refine lv_tableIn (off := 855) (tgt := 898) hx hb d_L_law_43 (by rw [hkv]; decide) (by rw [hkv]; decide) (by rw [hkv]; rfl) (by decide) ?_
        exact law_night C0 hdl hdm hL hcs hi hlS hk hm hW hS hl next
