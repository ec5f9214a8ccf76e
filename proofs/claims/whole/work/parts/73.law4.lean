set_option maxHeartbeats 4000000 in
set_option maxRecDepth 100000 in
theorem law_move {p : Program} {l : Launch} {e : Env} {s : State} {m : MethodId} {below : List Frame} {meth : Method} {c : Code} {b L : Nat} {xs : Nat → Int32} {D : va_G} {cI cJ cG : ClassId} {cells slots : Nat} {Q : State → Prop} {ad : Nat → Nat} {dl : List Nat} {a : Nat} {co : Nat → va_E} {S : lSt} {H : Heap} {locs : List Loc} {ls : Array Slot} {i : Nat} (C0 : lCx p s m c b L xs D cI cJ cG) (hdl : ∀ i, kD a i → i ∈ dl) (hdm : ∀ i, 400 ≤ i → i < 427 → i ∈ dl) (hL : L ≤ 3073) (hcs : cells ≤ room_1.cells ∧ slots ≤ room_1.slots) (hi : i + 6 ≤ L) (hlS : lOk a S) (hk : kOS cI cJ cG ad co a S) (hm : mOS cI cJ ad co a S) (hW : gW D gCl (lA s) ad co dl H) (hS : va_S (lA s) s.heap H locs) (hl : lv_has ls 4 [(0, .ref b), (1, .ref (ad 0)), (2, .ref (ad 400)), (3, .int (nI i))])
    (kk : ∀ (co1 : Nat → va_E) (S1 : lSt) (H1 : Heap) (locs1 : List Loc), lOk a S1 → kOS cI cJ cG ad co1 a S1 → mOS cI cJ ad co1 a S1 → gW D gCl (lA s) ad co1 dl H1 → va_S (lA s) s.heap H1 locs1 → W p l e room_1 s m #[Value.ref b] below meth c H1 locs1 cells slots Q (F0 m 921 ls [])) : W p l e room_1 s m #[Value.ref b] below meth c H locs cells slots Q (F0 m 148 ls []) := by
  obtain ⟨hx, hb, hml, hown, hts, hX, hbl, hK, hN⟩ := C0
  have hA : ∀ q, s.heap.size ≤ q → lA s q := fun _ h => h
  have hbA : ¬ lA s b := Nat.not_le.mpr hbl
  refine lv_aload_n hx hb d_L_law_148 rfl (lv_at hl 1 rfl) ?_
  refine lv_aload_n hx hb d_L_law_149 rfl (lv_at hl 0 rfl) ?_
  refine lv_iload_n hx hb d_L_law_150 rfl (lv_at hl 3 rfl) ?_
  refine lv_iconst (v := nI 1) hx hb d_L_law_151 (by decide) ?_
  refine n_add hx hb d_L_law_152 ?_
  refine l_sld hx hb hX hbl hbA hS (j := i + 1) (by omega) (by omega) d_L_law_153 ?_
  refine lv_aload_n hx hb d_L_law_154 rfl (lv_at hl 0 rfl) ?_
  refine lv_iload_n hx hb d_L_law_155 rfl (lv_at hl 3 rfl) ?_
  refine lv_iconst (v := nI 2) hx hb d_L_law_156 (by decide) ?_
  refine n_add hx hb d_L_law_157 ?_
  refine l_sld hx hb hX hbl hbA hS (j := i + 2) (by omega) (by omega) d_L_law_158 ?_
  refine lv_aload_n hx hb d_L_law_159 rfl (lv_at hl 0 rfl) ?_
  refine lv_iload_n hx hb d_L_law_160 rfl (lv_at hl 3 rfl) ?_
  refine lv_iconst (v := nI 3) hx hb d_L_law_161 (by decide) ?_
  refine n_add hx hb d_L_law_162 ?_
  refine l_sld hx hb hX hbl hbA hS (j := i + 3) (by omega) (by omega) d_L_law_163 ?_
  refine g_cVi (As := [.int (xs (i + 1)), .int (xs (i + 2)), .int (xs (i + 3))]) (rest := []) ⟨hx, hb, hml, hown, hts⟩ (k_move l hdl hlS hk (xs (i + 1)) (xs (i + 2)) (xs (i + 3))) (gcwV 3 hts q_223 q_220 q_221 q_222 q_1 (by decide +kernel) ⟨(Nat.le_of_ble_eq_true rfl), (Nat.le_of_ble_eq_true rfl)⟩) gNl_ok hN hK hW hS hA (hdl 0 (Or.inl (by decide))) hk.1 rfl rfl hl.1 rfl (Nat.le_of_ble_eq_true rfl) d_L_law_164 hcs (fun r1 co1 H locs hp1 hW hS => ?_)
  obtain ⟨hr1, hk1, hf1⟩ := hp1
  have hm1 := mOS_tr hf1 hm
  refine lv_aload_n hx hb d_L_law_167 rfl (lv_at hl 2 rfl) ?_
  refine lv_aload_n hx hb d_L_law_168 rfl (lv_at hl 0 rfl) ?_
  refine lv_iload_n hx hb d_L_law_169 rfl (lv_at hl 3 rfl) ?_
  refine lv_iconst (v := nI 1) hx hb d_L_law_170 (by decide) ?_
  refine n_add hx hb d_L_law_171 ?_
  refine l_sld hx hb hX hbl hbA hS (j := i + 1) (by omega) (by omega) d_L_law_172 ?_
  refine lv_aload_n hx hb d_L_law_173 rfl (lv_at hl 0 rfl) ?_
  refine lv_iload_n hx hb d_L_law_174 rfl (lv_at hl 3 rfl) ?_
  refine lv_iconst (v := nI 2) hx hb d_L_law_175 (by decide) ?_
  refine n_add hx hb d_L_law_176 ?_
  refine l_sld hx hb hX hbl hbA hS (j := i + 2) (by omega) (by omega) d_L_law_177 ?_
  refine lv_aload_n hx hb d_L_law_178 rfl (lv_at hl 0 rfl) ?_
  refine lv_iload_n hx hb d_L_law_179 rfl (lv_at hl 3 rfl) ?_
  refine lv_iconst (v := nI 3) hx hb d_L_law_180 (by decide) ?_
  refine n_add hx hb d_L_law_181 ?_
  refine l_sld hx hb hX hbl hbA hS (j := i + 3) (by omega) (by omega) d_L_law_182 ?_
  refine g_cVi (As := [.int (xs (i + 1)), .int (xs (i + 2)), .int (xs (i + 3))]) (rest := [.int (r1)]) ⟨hx, hb, hml, hown, hts⟩ (m_move l hdm hlS hm1 (xs (i + 1)) (xs (i + 2)) (xs (i + 3))) (gcwV 3 hts q_597 q_594 q_595 q_596 q_9 (by decide +kernel) ⟨(Nat.le_of_ble_eq_true rfl), (Nat.le_of_ble_eq_true rfl)⟩) gNl_ok hN hK hW hS hA (hdm 400 (by decide) (by decide)) hm1.1 rfl rfl hl.1 rfl (Nat.le_of_ble_eq_true rfl) d_L_law_183 hcs (fun r2 co2 H locs hp2 hW hS => ?_)
  obtain ⟨hr2, hm2, hf2⟩ := hp2
  have hk2 := kOS_tr hlS.a2 hf2 hk1
  exact lv_icmp_eq (tgt := 921) hx hb d_L_law_186 (by decide) (fun _ => kk _ _ _ _ (ok_Move hlS (xs (i + 1)) (xs (i + 2)) (xs (i + 3))) hk2 hm2 hW hS) (fun hne => absurd (hr1.trans hr2.symm) hne)
set_option maxHeartbeats 4000000 in
set_option maxRecDepth 100000 in
theorem law_speed {p : Program} {l : Launch} {e : Env} {s : State} {m : MethodId} {below : List Frame} {meth : Method} {c : Code} {b L : Nat} {xs : Nat → Int32} {D : va_G} {cI cJ cG : ClassId} {cells slots : Nat} {Q : State → Prop} {ad : Nat → Nat} {dl : List Nat} {a : Nat} {co : Nat → va_E} {S : lSt} {H : Heap} {locs : List Loc} {ls : Array Slot} {i : Nat} (C0 : lCx p s m c b L xs D cI cJ cG) (hdl : ∀ i, kD a i → i ∈ dl) (hdm : ∀ i, 400 ≤ i → i < 427 → i ∈ dl) (hL : L ≤ 3073) (hcs : cells ≤ room_1.cells ∧ slots ≤ room_1.slots) (hi : i + 6 ≤ L) (hlS : lOk a S) (hk : kOS cI cJ cG ad co a S) (hm : mOS cI cJ ad co a S) (hW : gW D gCl (lA s) ad co dl H) (hS : va_S (lA s) s.heap H locs) (hl : lv_has ls 4 [(0, .ref b), (1, .ref (ad 0)), (2, .ref (ad 400)), (3, .int (nI i))])
    (kk : ∀ (co1 : Nat → va_E) (S1 : lSt) (H1 : Heap) (locs1 : List Loc), lOk a S1 → kOS cI cJ cG ad co1 a S1 → mOS cI cJ ad co1 a S1 → gW D gCl (lA s) ad co1 dl H1 → va_S (lA s) s.heap H1 locs1 → W p l e room_1 s m #[Value.ref b] below meth c H1 locs1 cells slots Q (F0 m 921 ls [])) : W p l e room_1 s m #[Value.ref b] below meth c H locs cells slots Q (F0 m 191 ls []) := by
  obtain ⟨hx, hb, hml, hown, hts, hX, hbl, hK, hN⟩ := C0
  have hA : ∀ q, s.heap.size ≤ q → lA s q := fun _ h => h
  have hbA : ¬ lA s b := Nat.not_le.mpr hbl
  refine lv_aload_n hx hb d_L_law_191 rfl (lv_at hl 1 rfl) ?_
  refine lv_aload_n hx hb d_L_law_192 rfl (lv_at hl 0 rfl) ?_
  refine lv_iload_n hx hb d_L_law_193 rfl (lv_at hl 3 rfl) ?_
  refine lv_iconst (v := nI 1) hx hb d_L_law_194 (by decide) ?_
  refine n_add hx hb d_L_law_195 ?_
  refine l_sld hx hb hX hbl hbA hS (j := i + 1) (by omega) (by omega) d_L_law_196 ?_
  refine lv_aload_n hx hb d_L_law_197 rfl (lv_at hl 0 rfl) ?_
  refine lv_iload_n hx hb d_L_law_198 rfl (lv_at hl 3 rfl) ?_
  refine lv_iconst (v := nI 2) hx hb d_L_law_199 (by decide) ?_
  refine n_add hx hb d_L_law_200 ?_
  refine l_sld hx hb hX hbl hbA hS (j := i + 2) (by omega) (by omega) d_L_law_201 ?_
  refine lv_aload_n hx hb d_L_law_202 rfl (lv_at hl 0 rfl) ?_
  refine lv_iload_n hx hb d_L_law_203 rfl (lv_at hl 3 rfl) ?_
  refine lv_iconst (v := nI 3) hx hb d_L_law_204 (by decide) ?_
  refine n_add hx hb d_L_law_205 ?_
  refine l_sld hx hb hX hbl hbA hS (j := i + 3) (by omega) (by omega) d_L_law_206 ?_
  refine g_cVi (As := [.int (xs (i + 1)), .int (xs (i + 2)), .int (xs (i + 3))]) (rest := []) ⟨hx, hb, hml, hown, hts⟩ (k_speed l hdl hlS hk (xs (i + 1)) (xs (i + 2)) (xs (i + 3))) (gcwV 3 hts q_237 q_234 q_235 q_236 q_1 (by decide +kernel) ⟨(Nat.le_of_ble_eq_true rfl), (Nat.le_of_ble_eq_true rfl)⟩) gNl_ok hN hK hW hS hA (hdl 0 (Or.inl (by decide))) hk.1 rfl rfl hl.1 rfl (Nat.le_of_ble_eq_true rfl) d_L_law_207 hcs (fun r1 co1 H locs hp1 hW hS => ?_)
  obtain ⟨hr1, hk1, hf1⟩ := hp1
  have hm1 := mOS_tr hf1 hm
  refine lv_aload_n hx hb d_L_law_210 rfl (lv_at hl 2 rfl) ?_
  refine lv_aload_n hx hb d_L_law_211 rfl (lv_at hl 0 rfl) ?_
  refine lv_iload_n hx hb d_L_law_212 rfl (lv_at hl 3 rfl) ?_
  refine lv_iconst (v := nI 1) hx hb d_L_law_213 (by decide) ?_
  refine n_add hx hb d_L_law_214 ?_
  refine l_sld hx hb hX hbl hbA hS (j := i + 1) (by omega) (by omega) d_L_law_215 ?_
  refine lv_aload_n hx hb d_L_law_216 rfl (lv_at hl 0 rfl) ?_
  refine lv_iload_n hx hb d_L_law_217 rfl (lv_at hl 3 rfl) ?_
  refine lv_iconst (v := nI 2) hx hb d_L_law_218 (by decide) ?_
  refine n_add hx hb d_L_law_219 ?_
  refine l_sld hx hb hX hbl hbA hS (j := i + 2) (by omega) (by omega) d_L_law_220 ?_
  refine lv_aload_n hx hb d_L_law_221 rfl (lv_at hl 0 rfl) ?_
  refine lv_iload_n hx hb d_L_law_222 rfl (lv_at hl 3 rfl) ?_
  refine lv_iconst (v := nI 3) hx hb d_L_law_223 (by decide) ?_
  refine n_add hx hb d_L_law_224 ?_
  refine l_sld hx hb hX hbl hbA hS (j := i + 3) (by omega) (by omega) d_L_law_225 ?_
  refine g_cVi (As := [.int (xs (i + 1)), .int (xs (i + 2)), .int (xs (i + 3))]) (rest := [.int (r1)]) ⟨hx, hb, hml, hown, hts⟩ (m_speed l hdm hlS hm1 (xs (i + 1)) (xs (i + 2)) (xs (i + 3))) (gcwV 3 hts q_605 q_602 q_603 q_604 q_9 (by decide +kernel) ⟨(Nat.le_of_ble_eq_true rfl), (Nat.le_of_ble_eq_true rfl)⟩) gNl_ok hN hK hW hS hA (hdm 400 (by decide) (by decide)) hm1.1 rfl rfl hl.1 rfl (Nat.le_of_ble_eq_true rfl) d_L_law_226 hcs (fun r2 co2 H locs hp2 hW hS => ?_)
  obtain ⟨hr2, hm2, hf2⟩ := hp2
  have hk2 := kOS_tr hlS.a2 hf2 hk1
  exact lv_icmp_eq (tgt := 921) hx hb d_L_law_229 (by decide) (fun _ => kk _ _ _ _ (ok_Speed hlS (xs (i + 1)) (xs (i + 2)) (xs (i + 3))) hk2 hm2 hW hS) (fun hne => absurd (hr1.trans hr2.symm) hne)
set_option maxHeartbeats 4000000 in
set_option maxRecDepth 100000 in
theorem law_row {p : Program} {l : Launch} {e : Env} {s : State} {m : MethodId} {below : List Frame} {meth : Method} {c : Code} {b L : Nat} {xs : Nat → Int32} {D : va_G} {cI cJ cG : ClassId} {cells slots : Nat} {Q : State → Prop} {ad : Nat → Nat} {dl : List Nat} {a : Nat} {co : Nat → va_E} {S : lSt} {H : Heap} {locs : List Loc} {ls : Array Slot} {i : Nat} (C0 : lCx p s m c b L xs D cI cJ cG) (hdl : ∀ i, kD a i → i ∈ dl) (hdm : ∀ i, 400 ≤ i → i < 427 → i ∈ dl) (hL : L ≤ 3073) (hcs : cells ≤ room_1.cells ∧ slots ≤ room_1.slots) (hi : i + 6 ≤ L) (hlS : lOk a S) (hk : kOS cI cJ cG ad co a S) (hm : mOS cI cJ ad co a S) (hW : gW D gCl (lA s) ad co dl H) (hS : va_S (lA s) s.heap H locs) (hl : lv_has ls 4 [(0, .ref b), (1, .ref (ad 0)), (2, .ref (ad 400)), (3, .int (nI i))])
    (kk : ∀ (co1 : Nat → va_E) (S1 : lSt) (H1 : Heap) (locs1 : List Loc), lOk a S1 → kOS cI cJ cG ad co1 a S1 → mOS cI cJ ad co1 a S1 → gW D gCl (lA s) ad co1 dl H1 → va_S (lA s) s.heap H1 locs1 → W p l e room_1 s m #[Value.ref b] below meth c H1 locs1 cells slots Q (F0 m 921 ls [])) : W p l e room_1 s m #[Value.ref b] below meth c H locs cells slots Q (F0 m 234 ls []) := by
  obtain ⟨hx, hb, hml, hown, hts, hX, hbl, hK, hN⟩ := C0
  have hA : ∀ q, s.heap.size ≤ q → lA s q := fun _ h => h
  have hbA : ¬ lA s b := Nat.not_le.mpr hbl
  refine lv_aload_n hx hb d_L_law_234 rfl (lv_at hl 1 rfl) ?_
  refine lv_aload_n hx hb d_L_law_235 rfl (lv_at hl 0 rfl) ?_
  refine lv_iload_n hx hb d_L_law_236 rfl (lv_at hl 3 rfl) ?_
  refine lv_iconst (v := nI 1) hx hb d_L_law_237 (by decide) ?_
  refine n_add hx hb d_L_law_238 ?_
  refine l_sld hx hb hX hbl hbA hS (j := i + 1) (by omega) (by omega) d_L_law_239 ?_
  refine lv_i2l (v := (xs (i + 1)).toInt64) hx hb d_L_law_240 rfl ?_
  refine lv_bipush (v := nI 32) hx hb d_L_law_241 (by decide) ?_
  refine lv_lshl (v := (xs (i + 1)).toInt64 <<< ((nI 32).toInt64 &&& 63)) hx hb d_L_law_243 rfl ?_
  refine lv_aload_n hx hb d_L_law_244 rfl (lv_at hl 0 rfl) ?_
  refine lv_iload_n hx hb d_L_law_245 rfl (lv_at hl 3 rfl) ?_
  refine lv_iconst (v := nI 2) hx hb d_L_law_246 (by decide) ?_
  refine n_add hx hb d_L_law_247 ?_
  refine l_sld hx hb hX hbl hbA hS (j := i + 2) (by omega) (by omega) d_L_law_248 ?_
  refine lv_i2l (v := (xs (i + 2)).toInt64) hx hb d_L_law_249 rfl ?_
  refine lv_ldc2 hx hb hown (hts _ q_751) d_L_law_250 ?_
  refine lv_land hx hb d_L_law_253 ?_
  refine lv_lor hx hb d_L_law_254 ?_
  refine n_topl (x' := lJJ (xs (i + 1)) (xs (i + 2))) rfl ?_
  refine lv_aload_n hx hb d_L_law_255 rfl (lv_at hl 0 rfl) ?_
  refine lv_iload_n hx hb d_L_law_256 rfl (lv_at hl 3 rfl) ?_
  refine lv_iconst (v := nI 3) hx hb d_L_law_257 (by decide) ?_
  refine n_add hx hb d_L_law_258 ?_
  refine l_sld hx hb hX hbl hbA hS (j := i + 3) (by omega) (by omega) d_L_law_259 ?_
  refine lv_aload_n hx hb d_L_law_260 rfl (lv_at hl 0 rfl) ?_
  refine lv_iload_n hx hb d_L_law_261 rfl (lv_at hl 3 rfl) ?_
  refine lv_iconst (v := nI 4) hx hb d_L_law_262 (by decide) ?_
  refine n_add hx hb d_L_law_263 ?_
  refine l_sld hx hb hX hbl hbA hS (j := i + 4) (by omega) (by omega) d_L_law_264 ?_
  refine g_cVi (As := [.long (lJJ (xs (i + 1)) (xs (i + 2))), .int (xs (i + 3)), .int (xs (i + 4))]) (rest := []) ⟨hx, hb, hml, hown, hts⟩ (k_row l hdl hlS hk (lJJ (xs (i + 1)) (xs (i + 2))) (xs (i + 3)) (xs (i + 4))) (gcwV 3 hts q_241 q_238 q_239 q_240 q_1 (by decide +kernel) ⟨(Nat.le_of_ble_eq_true rfl), (Nat.le_of_ble_eq_true rfl)⟩) gNl_ok hN hK hW hS hA (hdl 0 (Or.inl (by decide))) hk.1 rfl rfl hl.1 rfl (Nat.le_of_ble_eq_true rfl) d_L_law_265 hcs (fun r1 co1 H locs hp1 hW hS => ?_)
  obtain ⟨hr1, hk1, hf1⟩ := hp1
  have hm1 := mOS_tr hf1 hm
  refine lv_aload_n hx hb d_L_law_268 rfl (lv_at hl 2 rfl) ?_
  refine lv_aload_n hx hb d_L_law_269 rfl (lv_at hl 0 rfl) ?_
  refine lv_iload_n hx hb d_L_law_270 rfl (lv_at hl 3 rfl) ?_
  refine lv_iconst (v := nI 1) hx hb d_L_law_271 (by decide) ?_
  refine n_add hx hb d_L_law_272 ?_
  refine l_sld hx hb hX hbl hbA hS (j := i + 1) (by omega) (by omega) d_L_law_273 ?_
  refine lv_i2l (v := (xs (i + 1)).toInt64) hx hb d_L_law_274 rfl ?_
  refine lv_bipush (v := nI 32) hx hb d_L_law_275 (by decide) ?_
  refine lv_lshl (v := (xs (i + 1)).toInt64 <<< ((nI 32).toInt64 &&& 63)) hx hb d_L_law_277 rfl ?_
  refine lv_aload_n hx hb d_L_law_278 rfl (lv_at hl 0 rfl) ?_
  refine lv_iload_n hx hb d_L_law_279 rfl (lv_at hl 3 rfl) ?_
  refine lv_iconst (v := nI 2) hx hb d_L_law_280 (by decide) ?_
  refine n_add hx hb d_L_law_281 ?_
  refine l_sld hx hb hX hbl hbA hS (j := i + 2) (by omega) (by omega) d_L_law_282 ?_
  refine lv_i2l (v := (xs (i + 2)).toInt64) hx hb d_L_law_283 rfl ?_
  refine lv_ldc2 hx hb hown (hts _ q_751) d_L_law_284 ?_
  refine lv_land hx hb d_L_law_287 ?_
  refine lv_lor hx hb d_L_law_288 ?_
  refine n_topl (x' := lJJ (xs (i + 1)) (xs (i + 2))) rfl ?_
  refine lv_aload_n hx hb d_L_law_289 rfl (lv_at hl 0 rfl) ?_
  refine lv_iload_n hx hb d_L_law_290 rfl (lv_at hl 3 rfl) ?_
  refine lv_iconst (v := nI 3) hx hb d_L_law_291 (by decide) ?_
  refine n_add hx hb d_L_law_292 ?_
  refine l_sld hx hb hX hbl hbA hS (j := i + 3) (by omega) (by omega) d_L_law_293 ?_
  refine lv_aload_n hx hb d_L_law_294 rfl (lv_at hl 0 rfl) ?_
  refine lv_iload_n hx hb d_L_law_295 rfl (lv_at hl 3 rfl) ?_
  refine lv_iconst (v := nI 4) hx hb d_L_law_296 (by decide) ?_
  refine n_add hx hb d_L_law_297 ?_
  refine l_sld hx hb hX hbl hbA hS (j := i + 4) (by omega) (by omega) d_L_law_298 ?_
  refine g_cVi (As := [.long (lJJ (xs (i + 1)) (xs (i + 2))), .int (xs (i + 3)), .int (xs (i + 4))]) (rest := [.int (r1)]) ⟨hx, hb, hml, hown, hts⟩ (m_row l hdm hlS hm1 (lJJ (xs (i + 1)) (xs (i + 2))) (xs (i + 3)) (xs (i + 4))) (gcwV 3 hts q_609 q_606 q_607 q_608 q_9 (by decide +kernel) ⟨(Nat.le_of_ble_eq_true rfl), (Nat.le_of_ble_eq_true rfl)⟩) gNl_ok hN hK hW hS hA (hdm 400 (by decide) (by decide)) hm1.1 rfl rfl hl.1 rfl (Nat.le_of_ble_eq_true rfl) d_L_law_299 hcs (fun r2 co2 H locs hp2 hW hS => ?_)
  obtain ⟨hr2, hm2, hf2⟩ := hp2
  have hk2 := kOS_tr hlS.a2 hf2 hk1
  exact lv_icmp_eq (tgt := 921) hx hb d_L_law_302 (by decide) (fun _ => kk _ _ _ _ (ok_Row hlS (lJJ (xs (i + 1)) (xs (i + 2))) (xs (i + 3)) (xs (i + 4))) hk2 hm2 hW hS) (fun hne => absurd (hr1.trans hr2.symm) hne)
set_option maxHeartbeats 4000000 in
set_option maxRecDepth 100000 in
theorem law_run {p : Program} {l : Launch} {e : Env} {s : State} {m : MethodId} {below : List Frame} {meth : Method} {c : Code} {b L : Nat} {xs : Nat → Int32} {D : va_G} {cI cJ cG : ClassId} {cells slots : Nat} {Q : State → Prop} {ad : Nat → Nat} {dl : List Nat} {a : Nat} {co : Nat → va_E} {S : lSt} {H : Heap} {locs : List Loc} {ls : Array Slot} {i : Nat} (C0 : lCx p s m c b L xs D cI cJ cG) (hdl : ∀ i, kD a i → i ∈ dl) (hdm : ∀ i, 400 ≤ i → i < 427 → i ∈ dl) (hL : L ≤ 3073) (hcs : cells ≤ room_1.cells ∧ slots ≤ room_1.slots) (hi : i + 6 ≤ L) (hlS : lOk a S) (hk : kOS cI cJ cG ad co a S) (hm : mOS cI cJ ad co a S) (hW : gW D gCl (lA s) ad co dl H) (hS : va_S (lA s) s.heap H locs) (hl : lv_has ls 4 [(0, .ref b), (1, .ref (ad 0)), (2, .ref (ad 400)), (3, .int (nI i))])
    (kk : ∀ (co1 : Nat → va_E) (S1 : lSt) (H1 : Heap) (locs1 : List Loc), lOk a S1 → kOS cI cJ cG ad co1 a S1 → mOS cI cJ ad co1 a S1 → gW D gCl (lA s) ad co1 dl H1 → va_S (lA s) s.heap H1 locs1 → W p l e room_1 s m #[Value.ref b] below meth c H1 locs1 cells slots Q (F0 m 921 ls [])) : W p l e room_1 s m #[Value.ref b] below meth c H locs cells slots Q (F0 m 307 ls []) := by
  obtain ⟨hx, hb, hml, hown, hts, hX, hbl, hK, hN⟩ := C0
  have hA : ∀ q, s.heap.size ≤ q → lA s q := fun _ h => h
  have hbA : ¬ lA s b := Nat.not_le.mpr hbl
  refine lv_aload_n hx hb d_L_law_307 rfl (lv_at hl 1 rfl) ?_
  refine g_cVi (As := []) (rest := []) ⟨hx, hb, hml, hown, hts⟩ (k_run l hdl hlS hk ) (gcwV 0 hts q_253 q_250 q_251 q_252 q_1 (by decide +kernel) ⟨(Nat.le_of_ble_eq_true rfl), (Nat.le_of_ble_eq_true rfl)⟩) gNl_ok hN hK hW hS hA (hdl 0 (Or.inl (by decide))) hk.1 rfl rfl hl.1 rfl (Nat.le_of_ble_eq_true rfl) d_L_law_308 hcs (fun r1 co1 H locs hp1 hW hS => ?_)
  obtain ⟨hr1, hk1, hf1⟩ := hp1
  have hm1 := mOS_tr hf1 hm
  refine lv_aload_n hx hb d_L_law_311 rfl (lv_at hl 2 rfl) ?_
  refine g_cVi (As := []) (rest := [.int (r1)]) ⟨hx, hb, hml, hown, hts⟩ (m_run l hdm hlS hm1 ) (gcwV 0 hts q_646 q_643 q_644 q_645 q_9 (by decide +kernel) ⟨(Nat.le_of_ble_eq_true rfl), (Nat.le_of_ble_eq_true rfl)⟩) gNl_ok hN hK hW hS hA (hdm 400 (by decide) (by decide)) hm1.1 rfl rfl hl.1 rfl (Nat.le_of_ble_eq_true rfl) d_L_law_312 hcs (fun r2 co2 H locs hp2 hW hS => ?_)
  obtain ⟨hr2, hm2, hf2⟩ := hp2
  have hk2 := kOS_tr hlS.a2 hf2 hk1
  exact lv_icmp_eq (tgt := 921) hx hb d_L_law_315 (by decide) (fun _ => kk _ _ _ _ (ok_Run hlS ) hk2 hm2 hW hS) (fun hne => absurd (hr1.trans hr2.symm) hne)
set_option maxHeartbeats 4000000 in
set_option maxRecDepth 100000 in
theorem law_act {p : Program} {l : Launch} {e : Env} {s : State} {m : MethodId} {below : List Frame} {meth : Method} {c : Code} {b L : Nat} {xs : Nat → Int32} {D : va_G} {cI cJ cG : ClassId} {cells slots : Nat} {Q : State → Prop} {ad : Nat → Nat} {dl : List Nat} {a : Nat} {co : Nat → va_E} {S : lSt} {H : Heap} {locs : List Loc} {ls : Array Slot} {i : Nat} (C0 : lCx p s m c b L xs D cI cJ cG) (hdl : ∀ i, kD a i → i ∈ dl) (hdm : ∀ i, 400 ≤ i → i < 427 → i ∈ dl) (hL : L ≤ 3073) (hcs : cells ≤ room_1.cells ∧ slots ≤ room_1.slots) (hi : i + 6 ≤ L) (hlS : lOk a S) (hk : kOS cI cJ cG ad co a S) (hm : mOS cI cJ ad co a S) (hW : gW D gCl (lA s) ad co dl H) (hS : va_S (lA s) s.heap H locs) (hl : lv_has ls 4 [(0, .ref b), (1, .ref (ad 0)), (2, .ref (ad 400)), (3, .int (nI i))])
    (kk : ∀ (co1 : Nat → va_E) (S1 : lSt) (H1 : Heap) (locs1 : List Loc), lOk a S1 → kOS cI cJ cG ad co1 a S1 → mOS cI cJ ad co1 a S1 → gW D gCl (lA s) ad co1 dl H1 → va_S (lA s) s.heap H1 locs1 → W p l e room_1 s m #[Value.ref b] below meth c H1 locs1 cells slots Q (F0 m 921 ls [])) : W p l e room_1 s m #[Value.ref b] below meth c H locs cells slots Q (F0 m 320 ls []) := by
  obtain ⟨hx, hb, hml, hown, hts, hX, hbl, hK, hN⟩ := C0
  have hA : ∀ q, s.heap.size ≤ q → lA s q := fun _ h => h
  have hbA : ¬ lA s b := Nat.not_le.mpr hbl
  refine lv_aload_n hx hb d_L_law_320 rfl (lv_at hl 1 rfl) ?_
  refine lv_aload_n hx hb d_L_law_321 rfl (lv_at hl 0 rfl) ?_
  refine lv_iload_n hx hb d_L_law_322 rfl (lv_at hl 3 rfl) ?_
  refine lv_iconst (v := nI 1) hx hb d_L_law_323 (by decide) ?_
  refine n_add hx hb d_L_law_324 ?_
  refine l_sld hx hb hX hbl hbA hS (j := i + 1) (by omega) (by omega) d_L_law_325 ?_
  refine g_cVi (As := [.int (xs (i + 1))]) (rest := []) ⟨hx, hb, hml, hown, hts⟩ (k_act l hdl hlS hk (xs (i + 1))) (gcwV 1 hts q_297 q_294 q_295 q_296 q_1 (by decide +kernel) ⟨(Nat.le_of_ble_eq_true rfl), (Nat.le_of_ble_eq_true rfl)⟩) gNl_ok hN hK hW hS hA (hdl 0 (Or.inl (by decide))) hk.1 rfl rfl hl.1 rfl (Nat.le_of_ble_eq_true rfl) d_L_law_326 hcs (fun r1 co1 H locs hp1 hW hS => ?_)
  obtain ⟨hr1, hk1, hf1⟩ := hp1
  have hm1 := mOS_tr hf1 hm
  refine lv_aload_n hx hb d_L_law_329 rfl (lv_at hl 2 rfl) ?_
  refine lv_aload_n hx hb d_L_law_330 rfl (lv_at hl 0 rfl) ?_
  refine lv_iload_n hx hb d_L_law_331 rfl (lv_at hl 3 rfl) ?_
  refine lv_iconst (v := nI 1) hx hb d_L_law_332 (by decide) ?_
  refine n_add hx hb d_L_law_333 ?_
  refine l_sld hx hb hX hbl hbA hS (j := i + 1) (by omega) (by omega) d_L_law_334 ?_
  refine g_cVi (As := [.int (xs (i + 1))]) (rest := [.int (r1)]) ⟨hx, hb, hml, hown, hts⟩ (m_act l hdm hlS hm1 (xs (i + 1))) (gcwV 1 hts q_693 q_690 q_691 q_692 q_9 (by decide +kernel) ⟨(Nat.le_of_ble_eq_true rfl), (Nat.le_of_ble_eq_true rfl)⟩) gNl_ok hN hK hW hS hA (hdm 400 (by decide) (by decide)) hm1.1 rfl rfl hl.1 rfl (Nat.le_of_ble_eq_true rfl) d_L_law_335 hcs (fun r2 co2 H locs hp2 hW hS => ?_)
  obtain ⟨hr2, hm2, hf2⟩ := hp2
  have hk2 := kOS_tr hlS.a2 hf2 hk1
  exact lv_icmp_eq (tgt := 921) hx hb d_L_law_338 (by decide) (fun _ => kk _ _ _ _ (hlS) hk2 hm2 hW hS) (fun hne => absurd (hr1.trans hr2.symm) hne)
set_option maxHeartbeats 4000000 in
set_option maxRecDepth 100000 in
theorem law_greatest {p : Program} {l : Launch} {e : Env} {s : State} {m : MethodId} {below : List Frame} {meth : Method} {c : Code} {b L : Nat} {xs : Nat → Int32} {D : va_G} {cI cJ cG : ClassId} {cells slots : Nat} {Q : State → Prop} {ad : Nat → Nat} {dl : List Nat} {a : Nat} {co : Nat → va_E} {S : lSt} {H : Heap} {locs : List Loc} {ls : Array Slot} {i : Nat} (C0 : lCx p s m c b L xs D cI cJ cG) (hdl : ∀ i, kD a i → i ∈ dl) (hdm : ∀ i, 400 ≤ i → i < 427 → i ∈ dl) (hL : L ≤ 3073) (hcs : cells ≤ room_1.cells ∧ slots ≤ room_1.slots) (hi : i + 6 ≤ L) (hlS : lOk a S) (hk : kOS cI cJ cG ad co a S) (hm : mOS cI cJ ad co a S) (hW : gW D gCl (lA s) ad co dl H) (hS : va_S (lA s) s.heap H locs) (hl : lv_has ls 4 [(0, .ref b), (1, .ref (ad 0)), (2, .ref (ad 400)), (3, .int (nI i))])
    (kk : ∀ (co1 : Nat → va_E) (S1 : lSt) (H1 : Heap) (locs1 : List Loc), lOk a S1 → kOS cI cJ cG ad co1 a S1 → mOS cI cJ ad co1 a S1 → gW D gCl (lA s) ad co1 dl H1 → va_S (lA s) s.heap H1 locs1 → W p l e room_1 s m #[Value.ref b] below meth c H1 locs1 cells slots Q (F0 m 921 ls [])) : W p l e room_1 s m #[Value.ref b] below meth c H locs cells slots Q (F0 m 343 ls []) := by
  obtain ⟨hx, hb, hml, hown, hts, hX, hbl, hK, hN⟩ := C0
  have hA : ∀ q, s.heap.size ≤ q → lA s q := fun _ h => h
  have hbA : ¬ lA s b := Nat.not_le.mpr hbl
  refine lv_aload_n hx hb d_L_law_343 rfl (lv_at hl 1 rfl) ?_
  refine g_cVi (As := []) (rest := []) ⟨hx, hb, hml, hown, hts⟩ (k_greatest l hdl hlS hk ) (gcwV 0 hts q_306 q_303 q_304 q_305 q_1 (by decide +kernel) ⟨(Nat.le_of_ble_eq_true rfl), (Nat.le_of_ble_eq_true rfl)⟩) gNl_ok hN hK hW hS hA (hdl 0 (Or.inl (by decide))) hk.1 rfl rfl hl.1 rfl (Nat.le_of_ble_eq_true rfl) d_L_law_344 hcs (fun r1 co1 H locs hp1 hW hS => ?_)
  obtain ⟨hr1, hk1, hf1⟩ := hp1
  have hm1 := mOS_tr hf1 hm
  refine lv_aload_n hx hb d_L_law_347 rfl (lv_at hl 2 rfl) ?_
  refine g_cVi (As := []) (rest := [.int (r1)]) ⟨hx, hb, hml, hown, hts⟩ (m_greatest l hdm hlS hm1 ) (gcwV 0 hts q_701 q_698 q_699 q_700 q_9 (by decide +kernel) ⟨(Nat.le_of_ble_eq_true rfl), (Nat.le_of_ble_eq_true rfl)⟩) gNl_ok hN hK hW hS hA (hdm 400 (by decide) (by decide)) hm1.1 rfl rfl hl.1 rfl (Nat.le_of_ble_eq_true rfl) d_L_law_348 hcs (fun r2 co2 H locs hp2 hW hS => ?_)
  obtain ⟨hr2, hm2, hf2⟩ := hp2
  have hk2 := kOS_tr hlS.a2 hf2 hk1
  exact lv_icmp_eq (tgt := 921) hx hb d_L_law_351 (by decide) (fun _ => kk _ _ _ _ (hlS) hk2 hm2 hW hS) (fun hne => absurd (hr1.trans hr2.symm) hne)
set_option maxHeartbeats 4000000 in
set_option maxRecDepth 100000 in
theorem law_truth {p : Program} {l : Launch} {e : Env} {s : State} {m : MethodId} {below : List Frame} {meth : Method} {c : Code} {b L : Nat} {xs : Nat → Int32} {D : va_G} {cI cJ cG : ClassId} {cells slots : Nat} {Q : State → Prop} {ad : Nat → Nat} {dl : List Nat} {a : Nat} {co : Nat → va_E} {S : lSt} {H : Heap} {locs : List Loc} {ls : Array Slot} {i : Nat} (C0 : lCx p s m c b L xs D cI cJ cG) (hdl : ∀ i, kD a i → i ∈ dl) (hdm : ∀ i, 400 ≤ i → i < 427 → i ∈ dl) (hL : L ≤ 3073) (hcs : cells ≤ room_1.cells ∧ slots ≤ room_1.slots) (hi : i + 6 ≤ L) (hlS : lOk a S) (hk : kOS cI cJ cG ad co a S) (hm : mOS cI cJ ad co a S) (hW : gW D gCl (lA s) ad co dl H) (hS : va_S (lA s) s.heap H locs) (hl : lv_has ls 4 [(0, .ref b), (1, .ref (ad 0)), (2, .ref (ad 400)), (3, .int (nI i))])
    (kk : ∀ (co1 : Nat → va_E) (S1 : lSt) (H1 : Heap) (locs1 : List Loc), lOk a S1 → kOS cI cJ cG ad co1 a S1 → mOS cI cJ ad co1 a S1 → gW D gCl (lA s) ad co1 dl H1 → va_S (lA s) s.heap H1 locs1 → W p l e room_1 s m #[Value.ref b] below meth c H1 locs1 cells slots Q (F0 m 921 ls [])) : W p l e room_1 s m #[Value.ref b] below meth c H locs cells slots Q (F0 m 356 ls []) := by
  obtain ⟨hx, hb, hml, hown, hts, hX, hbl, hK, hN⟩ := C0
  have hA : ∀ q, s.heap.size ≤ q → lA s q := fun _ h => h
  have hbA : ¬ lA s b := Nat.not_le.mpr hbl
  refine lv_aload_n hx hb d_L_law_356 rfl (lv_at hl 1 rfl) ?_
  refine lv_aload_n hx hb d_L_law_357 rfl (lv_at hl 0 rfl) ?_
  refine lv_iload_n hx hb d_L_law_358 rfl (lv_at hl 3 rfl) ?_
  refine lv_iconst (v := nI 1) hx hb d_L_law_359 (by decide) ?_
  refine n_add hx hb d_L_law_360 ?_
  refine l_sld hx hb hX hbl hbA hS (j := i + 1) (by omega) (by omega) d_L_law_361 ?_
  refine lv_aload_n hx hb d_L_law_362 rfl (lv_at hl 0 rfl) ?_
  refine lv_iload_n hx hb d_L_law_363 rfl (lv_at hl 3 rfl) ?_
  refine lv_iconst (v := nI 2) hx hb d_L_law_364 (by decide) ?_
  refine n_add hx hb d_L_law_365 ?_
  refine l_sld hx hb hX hbl hbA hS (j := i + 2) (by omega) (by omega) d_L_law_366 ?_
  refine g_cVi (As := [.int (xs (i + 1)), .int (xs (i + 2))]) (rest := []) ⟨hx, hb, hml, hown, hts⟩ (k_truth l hdl hlS hk (xs (i + 1)) (xs (i + 2))) (gcwV 2 hts q_314 q_311 q_312 q_313 q_1 (by decide +kernel) ⟨(Nat.le_of_ble_eq_true rfl), (Nat.le_of_ble_eq_true rfl)⟩) gNl_ok hN hK hW hS hA (hdl 0 (Or.inl (by decide))) hk.1 rfl rfl hl.1 rfl (Nat.le_of_ble_eq_true rfl) d_L_law_367 hcs (fun r1 co1 H locs hp1 hW hS => ?_)
  obtain ⟨hr1, hk1, hf1⟩ := hp1
  have hm1 := mOS_tr hf1 hm
  refine lv_aload_n hx hb d_L_law_370 rfl (lv_at hl 2 rfl) ?_
  refine lv_aload_n hx hb d_L_law_371 rfl (lv_at hl 0 rfl) ?_
  refine lv_iload_n hx hb d_L_law_372 rfl (lv_at hl 3 rfl) ?_
  refine lv_iconst (v := nI 1) hx hb d_L_law_373 (by decide) ?_
  refine n_add hx hb d_L_law_374 ?_
  refine l_sld hx hb hX hbl hbA hS (j := i + 1) (by omega) (by omega) d_L_law_375 ?_
  refine lv_aload_n hx hb d_L_law_376 rfl (lv_at hl 0 rfl) ?_
  refine lv_iload_n hx hb d_L_law_377 rfl (lv_at hl 3 rfl) ?_
  refine lv_iconst (v := nI 2) hx hb d_L_law_378 (by decide) ?_
  refine n_add hx hb d_L_law_379 ?_
  refine l_sld hx hb hX hbl hbA hS (j := i + 2) (by omega) (by omega) d_L_law_380 ?_
  refine g_cVi (As := [.int (xs (i + 1)), .int (xs (i + 2))]) (rest := [.int (r1)]) ⟨hx, hb, hml, hown, hts⟩ (m_truth l hdm hlS hm1 (xs (i + 1)) (xs (i + 2))) (gcwV 2 hts q_617 q_614 q_615 q_616 q_9 (by decide +kernel) ⟨(Nat.le_of_ble_eq_true rfl), (Nat.le_of_ble_eq_true rfl)⟩) gNl_ok hN hK hW hS hA (hdm 400 (by decide) (by decide)) hm1.1 rfl rfl hl.1 rfl (Nat.le_of_ble_eq_true rfl) d_L_law_381 hcs (fun r2 co2 H locs hp2 hW hS => ?_)
  obtain ⟨hr2, hm2, hf2⟩ := hp2
  have hk2 := kOS_tr hlS.a2 hf2 hk1
  exact lv_icmp_eq (tgt := 921) hx hb d_L_law_384 (by decide) (fun _ => kk _ _ _ _ (ok_Truth hlS (xs (i + 1)) (xs (i + 2))) hk2 hm2 hW hS) (fun hne => absurd (hr1.trans hr2.symm) hne)
set_option maxHeartbeats 4000000 in
set_option maxRecDepth 100000 in
theorem law_fit {p : Program} {l : Launch} {e : Env} {s : State} {m : MethodId} {below : List Frame} {meth : Method} {c : Code} {b L : Nat} {xs : Nat → Int32} {D : va_G} {cI cJ cG : ClassId} {cells slots : Nat} {Q : State → Prop} {ad : Nat → Nat} {dl : List Nat} {a : Nat} {co : Nat → va_E} {S : lSt} {H : Heap} {locs : List Loc} {ls : Array Slot} {i : Nat} (C0 : lCx p s m c b L xs D cI cJ cG) (hdl : ∀ i, kD a i → i ∈ dl) (hdm : ∀ i, 400 ≤ i → i < 427 → i ∈ dl) (hL : L ≤ 3073) (hcs : cells ≤ room_1.cells ∧ slots ≤ room_1.slots) (hi : i + 6 ≤ L) (hlS : lOk a S) (hk : kOS cI cJ cG ad co a S) (hm : mOS cI cJ ad co a S) (hW : gW D gCl (lA s) ad co dl H) (hS : va_S (lA s) s.heap H locs) (hl : lv_has ls 4 [(0, .ref b), (1, .ref (ad 0)), (2, .ref (ad 400)), (3, .int (nI i))])
    (kk : ∀ (co1 : Nat → va_E) (S1 : lSt) (H1 : Heap) (locs1 : List Loc), lOk a S1 → kOS cI cJ cG ad co1 a S1 → mOS cI cJ ad co1 a S1 → gW D gCl (lA s) ad co1 dl H1 → va_S (lA s) s.heap H1 locs1 → W p l e room_1 s m #[Value.ref b] below meth c H1 locs1 cells slots Q (F0 m 921 ls [])) : W p l e room_1 s m #[Value.ref b] below meth c H locs cells slots Q (F0 m 389 ls []) := by
  obtain ⟨hx, hb, hml, hown, hts, hX, hbl, hK, hN⟩ := C0
  have hA : ∀ q, s.heap.size ≤ q → lA s q := fun _ h => h
  have hbA : ¬ lA s b := Nat.not_le.mpr hbl
  refine lv_aload_n hx hb d_L_law_389 rfl (lv_at hl 1 rfl) ?_
  refine lv_aload_n hx hb d_L_law_390 rfl (lv_at hl 0 rfl) ?_
  refine lv_iload_n hx hb d_L_law_391 rfl (lv_at hl 3 rfl) ?_
  refine lv_iconst (v := nI 1) hx hb d_L_law_392 (by decide) ?_
  refine n_add hx hb d_L_law_393 ?_
  refine l_sld hx hb hX hbl hbA hS (j := i + 1) (by omega) (by omega) d_L_law_394 ?_
  refine g_cVi (As := [.int (xs (i + 1))]) (rest := []) ⟨hx, hb, hml, hown, hts⟩ (k_fit l hdl hlS hk (xs (i + 1))) (gcwV 1 hts q_318 q_315 q_316 q_317 q_1 (by decide +kernel) ⟨(Nat.le_of_ble_eq_true rfl), (Nat.le_of_ble_eq_true rfl)⟩) gNl_ok hN hK hW hS hA (hdl 0 (Or.inl (by decide))) hk.1 rfl rfl hl.1 rfl (Nat.le_of_ble_eq_true rfl) d_L_law_395 hcs (fun r1 co1 H locs hp1 hW hS => ?_)
  obtain ⟨hr1, hk1, hf1⟩ := hp1
  have hm1 := mOS_tr hf1 hm
  refine lv_aload_n hx hb d_L_law_398 rfl (lv_at hl 2 rfl) ?_
  refine lv_aload_n hx hb d_L_law_399 rfl (lv_at hl 0 rfl) ?_
  refine lv_iload_n hx hb d_L_law_400 rfl (lv_at hl 3 rfl) ?_
  refine lv_iconst (v := nI 1) hx hb d_L_law_401 (by decide) ?_
  refine n_add hx hb d_L_law_402 ?_
  refine l_sld hx hb hX hbl hbA hS (j := i + 1) (by omega) (by omega) d_L_law_403 ?_
  refine g_cVi (As := [.int (xs (i + 1))]) (rest := [.int (r1)]) ⟨hx, hb, hml, hown, hts⟩ (m_fit l hdm hlS hm1 (xs (i + 1))) (gcwV 1 hts q_671 q_668 q_669 q_670 q_9 (by decide +kernel) ⟨(Nat.le_of_ble_eq_true rfl), (Nat.le_of_ble_eq_true rfl)⟩) gNl_ok hN hK hW hS hA (hdm 400 (by decide) (by decide)) hm1.1 rfl rfl hl.1 rfl (Nat.le_of_ble_eq_true rfl) d_L_law_404 hcs (fun r2 co2 H locs hp2 hW hS => ?_)
  obtain ⟨hr2, hm2, hf2⟩ := hp2
  have hk2 := kOS_tr hlS.a2 hf2 hk1
  exact lv_icmp_eq (tgt := 921) hx hb d_L_law_407 (by decide) (fun _ => kk _ _ _ _ (ok_Fit hlS (xs (i + 1))) hk2 hm2 hW hS) (fun hne => absurd (hr1.trans hr2.symm) hne)
set_option maxHeartbeats 4000000 in
set_option maxRecDepth 100000 in
theorem law_sum {p : Program} {l : Launch} {e : Env} {s : State} {m : MethodId} {below : List Frame} {meth : Method} {c : Code} {b L : Nat} {xs : Nat → Int32} {D : va_G} {cI cJ cG : ClassId} {cells slots : Nat} {Q : State → Prop} {ad : Nat → Nat} {dl : List Nat} {a : Nat} {co : Nat → va_E} {S : lSt} {H : Heap} {locs : List Loc} {ls : Array Slot} {i : Nat} (C0 : lCx p s m c b L xs D cI cJ cG) (hdl : ∀ i, kD a i → i ∈ dl) (hdm : ∀ i, 400 ≤ i → i < 427 → i ∈ dl) (hL : L ≤ 3073) (hcs : cells ≤ room_1.cells ∧ slots ≤ room_1.slots) (hi : i + 6 ≤ L) (hlS : lOk a S) (hk : kOS cI cJ cG ad co a S) (hm : mOS cI cJ ad co a S) (hW : gW D gCl (lA s) ad co dl H) (hS : va_S (lA s) s.heap H locs) (hl : lv_has ls 4 [(0, .ref b), (1, .ref (ad 0)), (2, .ref (ad 400)), (3, .int (nI i))])
    (kk : ∀ (co1 : Nat → va_E) (S1 : lSt) (H1 : Heap) (locs1 : List Loc), lOk a S1 → kOS cI cJ cG ad co1 a S1 → mOS cI cJ ad co1 a S1 → gW D gCl (lA s) ad co1 dl H1 → va_S (lA s) s.heap H1 locs1 → W p l e room_1 s m #[Value.ref b] below meth c H1 locs1 cells slots Q (F0 m 921 ls [])) : W p l e room_1 s m #[Value.ref b] below meth c H locs cells slots Q (F0 m 412 ls []) := by
  obtain ⟨hx, hb, hml, hown, hts, hX, hbl, hK, hN⟩ := C0
  have hA : ∀ q, s.heap.size ≤ q → lA s q := fun _ h => h
  have hbA : ¬ lA s b := Nat.not_le.mpr hbl
  refine lv_aload_n hx hb d_L_law_412 rfl (lv_at hl 1 rfl) ?_
  refine lv_aload_n hx hb d_L_law_413 rfl (lv_at hl 0 rfl) ?_
  refine lv_iload_n hx hb d_L_law_414 rfl (lv_at hl 3 rfl) ?_
  refine lv_iconst (v := nI 1) hx hb d_L_law_415 (by decide) ?_
  refine n_add hx hb d_L_law_416 ?_
  refine l_sld hx hb hX hbl hbA hS (j := i + 1) (by omega) (by omega) d_L_law_417 ?_
  refine g_cVl (As := [.int (xs (i + 1))]) (rest := []) ⟨hx, hb, hml, hown, hts⟩ (k_sum l hdl hlS hk (xs (i + 1))) (gcwV 1 hts q_348 q_345 q_346 q_347 q_1 (by decide +kernel) ⟨(Nat.le_of_ble_eq_true rfl), (Nat.le_of_ble_eq_true rfl)⟩) gNl_ok hN hK hW hS hA (hdl 0 (Or.inl (by decide))) hk.1 rfl rfl hl.1 rfl (Nat.le_of_ble_eq_true rfl) d_L_law_418 hcs (fun r1 co1 H locs hp1 hW hS => ?_)
  obtain ⟨hr1, hk1, hf1⟩ := hp1
  have hm1 := mOS_tr hf1 hm
  refine lv_aload_n hx hb d_L_law_421 rfl (lv_at hl 2 rfl) ?_
  refine lv_aload_n hx hb d_L_law_422 rfl (lv_at hl 0 rfl) ?_
  refine lv_iload_n hx hb d_L_law_423 rfl (lv_at hl 3 rfl) ?_
  refine lv_iconst (v := nI 1) hx hb d_L_law_424 (by decide) ?_
  refine n_add hx hb d_L_law_425 ?_
  refine l_sld hx hb hX hbl hbA hS (j := i + 1) (by omega) (by omega) d_L_law_426 ?_
  refine g_cVl (As := [.int (xs (i + 1))]) (rest := [.long (r1)]) ⟨hx, hb, hml, hown, hts⟩ (m_sum l hdm hlS hm1 (xs (i + 1))) (gcwV 1 hts q_684 q_681 q_682 q_683 q_9 (by decide +kernel) ⟨(Nat.le_of_ble_eq_true rfl), (Nat.le_of_ble_eq_true rfl)⟩) gNl_ok hN hK hW hS hA (hdm 400 (by decide) (by decide)) hm1.1 rfl rfl hl.1 rfl (Nat.le_of_ble_eq_true rfl) d_L_law_427 hcs (fun r2 co2 H locs hp2 hW hS => ?_)
  obtain ⟨hr2, hm2, hf2⟩ := hp2
  have hk2 := kOS_tr hlS.a2 hf2 hk1
  refine W.lcmp hx hb d_L_law_430 ?_
  exact lv_if_eq (tgt := 921) hx hb d_L_law_431 (by decide) (fun _ => kk _ _ _ _ (hlS) hk2 hm2 hW hS) (fun hne => absurd ((lg_cmp_eq _ _).mpr (hr1.trans hr2.symm)) hne)
set_option maxHeartbeats 4000000 in
set_option maxRecDepth 100000 in
theorem law_leftOut {p : Program} {l : Launch} {e : Env} {s : State} {m : MethodId} {below : List Frame} {meth : Method} {c : Code} {b L : Nat} {xs : Nat → Int32} {D : va_G} {cI cJ cG : ClassId} {cells slots : Nat} {Q : State → Prop} {ad : Nat → Nat} {dl : List Nat} {a : Nat} {co : Nat → va_E} {S : lSt} {H : Heap} {locs : List Loc} {ls : Array Slot} {i : Nat} (C0 : lCx p s m c b L xs D cI cJ cG) (hdl : ∀ i, kD a i → i ∈ dl) (hdm : ∀ i, 400 ≤ i → i < 427 → i ∈ dl) (hL : L ≤ 3073) (hcs : cells ≤ room_1.cells ∧ slots ≤ room_1.slots) (hi : i + 6 ≤ L) (hlS : lOk a S) (hk : kOS cI cJ cG ad co a S) (hm : mOS cI cJ ad co a S) (hW : gW D gCl (lA s) ad co dl H) (hS : va_S (lA s) s.heap H locs) (hl : lv_has ls 4 [(0, .ref b), (1, .ref (ad 0)), (2, .ref (ad 400)), (3, .int (nI i))])
    (kk : ∀ (co1 : Nat → va_E) (S1 : lSt) (H1 : Heap) (locs1 : List Loc), lOk a S1 → kOS cI cJ cG ad co1 a S1 → mOS cI cJ ad co1 a S1 → gW D gCl (lA s) ad co1 dl H1 → va_S (lA s) s.heap H1 locs1 → W p l e room_1 s m #[Value.ref b] below meth c H1 locs1 cells slots Q (F0 m 921 ls [])) : W p l e room_1 s m #[Value.ref b] below meth c H locs cells slots Q (F0 m 436 ls []) := by
  obtain ⟨hx, hb, hml, hown, hts, hX, hbl, hK, hN⟩ := C0
  have hA : ∀ q, s.heap.size ≤ q → lA s q := fun _ h => h
  have hbA : ¬ lA s b := Nat.not_le.mpr hbl
  refine lv_aload_n hx hb d_L_law_436 rfl (lv_at hl 1 rfl) ?_
  refine lv_aload_n hx hb d_L_law_437 rfl (lv_at hl 0 rfl) ?_
  refine lv_iload_n hx hb d_L_law_438 rfl (lv_at hl 3 rfl) ?_
  refine lv_iconst (v := nI 1) hx hb d_L_law_439 (by decide) ?_
  refine n_add hx hb d_L_law_440 ?_
  refine l_sld hx hb hX hbl hbA hS (j := i + 1) (by omega) (by omega) d_L_law_441 ?_
  refine g_cVi (As := [.int (xs (i + 1))]) (rest := []) ⟨hx, hb, hml, hown, hts⟩ (k_leftOut l hdl hlS hk (xs (i + 1))) (gcwV 1 hts q_353 q_350 q_351 q_352 q_1 (by decide +kernel) ⟨(Nat.le_of_ble_eq_true rfl), (Nat.le_of_ble_eq_true rfl)⟩) gNl_ok hN hK hW hS hA (hdl 0 (Or.inl (by decide))) hk.1 rfl rfl hl.1 rfl (Nat.le_of_ble_eq_true rfl) d_L_law_442 hcs (fun r1 co1 H locs hp1 hW hS => ?_)
  obtain ⟨hr1, hk1, hf1⟩ := hp1
  have hm1 := mOS_tr hf1 hm
  refine lv_aload_n hx hb d_L_law_445 rfl (lv_at hl 2 rfl) ?_
  refine lv_aload_n hx hb d_L_law_446 rfl (lv_at hl 0 rfl) ?_
  refine lv_iload_n hx hb d_L_law_447 rfl (lv_at hl 3 rfl) ?_
  refine lv_iconst (v := nI 1) hx hb d_L_law_448 (by decide) ?_
  refine n_add hx hb d_L_law_449 ?_
  refine l_sld hx hb hX hbl hbA hS (j := i + 1) (by omega) (by omega) d_L_law_450 ?_
  refine g_cVi (As := [.int (xs (i + 1))]) (rest := [.int (r1)]) ⟨hx, hb, hml, hown, hts⟩ (m_leftOut l hdm hlS hm1 (xs (i + 1))) (gcwV 1 hts q_689 q_686 q_687 q_688 q_9 (by decide +kernel) ⟨(Nat.le_of_ble_eq_true rfl), (Nat.le_of_ble_eq_true rfl)⟩) gNl_ok hN hK hW hS hA (hdm 400 (by decide) (by decide)) hm1.1 rfl rfl hl.1 rfl (Nat.le_of_ble_eq_true rfl) d_L_law_451 hcs (fun r2 co2 H locs hp2 hW hS => ?_)
  obtain ⟨hr2, hm2, hf2⟩ := hp2
  have hk2 := kOS_tr hlS.a2 hf2 hk1
  exact lv_icmp_eq (tgt := 921) hx hb d_L_law_454 (by decide) (fun _ => kk _ _ _ _ (hlS) hk2 hm2 hW hS) (fun hne => absurd (hr1.trans hr2.symm) hne)
set_option maxHeartbeats 4000000 in
set_option maxRecDepth 100000 in
theorem law_hours {p : Program} {l : Launch} {e : Env} {s : State} {m : MethodId} {below : List Frame} {meth : Method} {c : Code} {b L : Nat} {xs : Nat → Int32} {D : va_G} {cI cJ cG : ClassId} {cells slots : Nat} {Q : State → Prop} {ad : Nat → Nat} {dl : List Nat} {a : Nat} {co : Nat → va_E} {S : lSt} {H : Heap} {locs : List Loc} {ls : Array Slot} {i : Nat} (C0 : lCx p s m c b L xs D cI cJ cG) (hdl : ∀ i, kD a i → i ∈ dl) (hdm : ∀ i, 400 ≤ i → i < 427 → i ∈ dl) (hL : L ≤ 3073) (hcs : cells ≤ room_1.cells ∧ slots ≤ room_1.slots) (hi : i + 6 ≤ L) (hlS : lOk a S) (hk : kOS cI cJ cG ad co a S) (hm : mOS cI cJ ad co a S) (hW : gW D gCl (lA s) ad co dl H) (hS : va_S (lA s) s.heap H locs) (hl : lv_has ls 4 [(0, .ref b), (1, .ref (ad 0)), (2, .ref (ad 400)), (3, .int (nI i))])
    (kk : ∀ (co1 : Nat → va_E) (S1 : lSt) (H1 : Heap) (locs1 : List Loc), lOk a S1 → kOS cI cJ cG ad co1 a S1 → mOS cI cJ ad co1 a S1 → gW D gCl (lA s) ad co1 dl H1 → va_S (lA s) s.heap H1 locs1 → W p l e room_1 s m #[Value.ref b] below meth c H1 locs1 cells slots Q (F0 m 921 ls [])) : W p l e room_1 s m #[Value.ref b] below meth c H locs cells slots Q (F0 m 459 ls []) := by
  obtain ⟨hx, hb, hml, hown, hts, hX, hbl, hK, hN⟩ := C0
  have hA : ∀ q, s.heap.size ≤ q → lA s q := fun _ h => h
  have hbA : ¬ lA s b := Nat.not_le.mpr hbl
  refine lv_aload_n hx hb d_L_law_459 rfl (lv_at hl 1 rfl) ?_
  refine lv_aload_n hx hb d_L_law_460 rfl (lv_at hl 0 rfl) ?_
  refine lv_iload_n hx hb d_L_law_461 rfl (lv_at hl 3 rfl) ?_
  refine lv_iconst (v := nI 1) hx hb d_L_law_462 (by decide) ?_
  refine n_add hx hb d_L_law_463 ?_
  refine l_sld hx hb hX hbl hbA hS (j := i + 1) (by omega) (by omega) d_L_law_464 ?_
  refine g_cVl (As := [.int (xs (i + 1))]) (rest := []) ⟨hx, hb, hml, hown, hts⟩ (k_hours l hdl hlS hk (xs (i + 1))) (gcwV 1 hts q_369 q_366 q_367 q_368 q_1 (by decide +kernel) ⟨(Nat.le_of_ble_eq_true rfl), (Nat.le_of_ble_eq_true rfl)⟩) gNl_ok hN hK hW hS hA (hdl 0 (Or.inl (by decide))) hk.1 rfl rfl hl.1 rfl (Nat.le_of_ble_eq_true rfl) d_L_law_465 hcs (fun r1 co1 H locs hp1 hW hS => ?_)
  obtain ⟨hr1, hk1, hf1⟩ := hp1
  have hm1 := mOS_tr hf1 hm
  refine lv_aload_n hx hb d_L_law_468 rfl (lv_at hl 2 rfl) ?_
  refine lv_aload_n hx hb d_L_law_469 rfl (lv_at hl 0 rfl) ?_
  refine lv_iload_n hx hb d_L_law_470 rfl (lv_at hl 3 rfl) ?_
  refine lv_iconst (v := nI 1) hx hb d_L_law_471 (by decide) ?_
  refine n_add hx hb d_L_law_472 ?_
  refine l_sld hx hb hX hbl hbA hS (j := i + 1) (by omega) (by omega) d_L_law_473 ?_
  refine g_cVl (As := [.int (xs (i + 1))]) (rest := [.long (r1)]) ⟨hx, hb, hml, hown, hts⟩ (m_hours l hdm hlS hm1 (xs (i + 1))) (gcwV 1 hts q_705 q_702 q_703 q_704 q_9 (by decide +kernel) ⟨(Nat.le_of_ble_eq_true rfl), (Nat.le_of_ble_eq_true rfl)⟩) gNl_ok hN hK hW hS hA (hdm 400 (by decide) (by decide)) hm1.1 rfl rfl hl.1 rfl (Nat.le_of_ble_eq_true rfl) d_L_law_474 hcs (fun r2 co2 H locs hp2 hW hS => ?_)
  obtain ⟨hr2, hm2, hf2⟩ := hp2
  have hk2 := kOS_tr hlS.a2 hf2 hk1
  refine W.lcmp hx hb d_L_law_477 ?_
  exact lv_if_eq (tgt := 921) hx hb d_L_law_478 (by decide) (fun _ => kk _ _ _ _ (hlS) hk2 hm2 hW hS) (fun hne => absurd ((lg_cmp_eq _ _).mpr (hr1.trans hr2.symm)) hne)
set_option maxHeartbeats 4000000 in
set_option maxRecDepth 100000 in
theorem law_haul {p : Program} {l : Launch} {e : Env} {s : State} {m : MethodId} {below : List Frame} {meth : Method} {c : Code} {b L : Nat} {xs : Nat → Int32} {D : va_G} {cI cJ cG : ClassId} {cells slots : Nat} {Q : State → Prop} {ad : Nat → Nat} {dl : List Nat} {a : Nat} {co : Nat → va_E} {S : lSt} {H : Heap} {locs : List Loc} {ls : Array Slot} {i : Nat} (C0 : lCx p s m c b L xs D cI cJ cG) (hdl : ∀ i, kD a i → i ∈ dl) (hdm : ∀ i, 400 ≤ i → i < 427 → i ∈ dl) (hL : L ≤ 3073) (hcs : cells ≤ room_1.cells ∧ slots ≤ room_1.slots) (hi : i + 6 ≤ L) (hlS : lOk a S) (hk : kOS cI cJ cG ad co a S) (hm : mOS cI cJ ad co a S) (hW : gW D gCl (lA s) ad co dl H) (hS : va_S (lA s) s.heap H locs) (hl : lv_has ls 4 [(0, .ref b), (1, .ref (ad 0)), (2, .ref (ad 400)), (3, .int (nI i))])
    (kk : ∀ (co1 : Nat → va_E) (S1 : lSt) (H1 : Heap) (locs1 : List Loc), lOk a S1 → kOS cI cJ cG ad co1 a S1 → mOS cI cJ ad co1 a S1 → gW D gCl (lA s) ad co1 dl H1 → va_S (lA s) s.heap H1 locs1 → W p l e room_1 s m #[Value.ref b] below meth c H1 locs1 cells slots Q (F0 m 921 ls [])) : W p l e room_1 s m #[Value.ref b] below meth c H locs cells slots Q (F0 m 483 ls []) := by
  obtain ⟨hx, hb, hml, hown, hts, hX, hbl, hK, hN⟩ := C0
  have hA : ∀ q, s.heap.size ≤ q → lA s q := fun _ h => h
  have hbA : ¬ lA s b := Nat.not_le.mpr hbl
  refine lv_aload_n hx hb d_L_law_483 rfl (lv_at hl 1 rfl) ?_
  refine lv_aload_n hx hb d_L_law_484 rfl (lv_at hl 0 rfl) ?_
  refine lv_iload_n hx hb d_L_law_485 rfl (lv_at hl 3 rfl) ?_
  refine lv_iconst (v := nI 1) hx hb d_L_law_486 (by decide) ?_
  refine n_add hx hb d_L_law_487 ?_
  refine l_sld hx hb hX hbl hbA hS (j := i + 1) (by omega) (by omega) d_L_law_488 ?_
  refine lv_aload_n hx hb d_L_law_489 rfl (lv_at hl 0 rfl) ?_
  refine lv_iload_n hx hb d_L_law_490 rfl (lv_at hl 3 rfl) ?_
  refine lv_iconst (v := nI 2) hx hb d_L_law_491 (by decide) ?_
  refine n_add hx hb d_L_law_492 ?_
  refine l_sld hx hb hX hbl hbA hS (j := i + 2) (by omega) (by omega) d_L_law_493 ?_
  refine g_cVi (As := [.int (xs (i + 1)), .int (xs (i + 2))]) (rest := []) ⟨hx, hb, hml, hown, hts⟩ (k_haul l hdl hlS hk (xs (i + 1)) (xs (i + 2))) (gcwV 2 hts q_382 q_379 q_380 q_381 q_1 (by decide +kernel) ⟨(Nat.le_of_ble_eq_true rfl), (Nat.le_of_ble_eq_true rfl)⟩) gNl_ok hN hK hW hS hA (hdl 0 (Or.inl (by decide))) hk.1 rfl rfl hl.1 rfl (Nat.le_of_ble_eq_true rfl) d_L_law_494 hcs (fun r1 co1 H locs hp1 hW hS => ?_)
  obtain ⟨hr1, hk1, hf1⟩ := hp1
  have hm1 := mOS_tr hf1 hm
  refine lv_aload_n hx hb d_L_law_497 rfl (lv_at hl 2 rfl) ?_
  refine lv_aload_n hx hb d_L_law_498 rfl (lv_at hl 0 rfl) ?_
  refine lv_iload_n hx hb d_L_law_499 rfl (lv_at hl 3 rfl) ?_
  refine lv_iconst (v := nI 1) hx hb d_L_law_500 (by decide) ?_
  refine n_add hx hb d_L_law_501 ?_
  refine l_sld hx hb hX hbl hbA hS (j := i + 1) (by omega) (by omega) d_L_law_502 ?_
  refine lv_aload_n hx hb d_L_law_503 rfl (lv_at hl 0 rfl) ?_
  refine lv_iload_n hx hb d_L_law_504 rfl (lv_at hl 3 rfl) ?_
  refine lv_iconst (v := nI 2) hx hb d_L_law_505 (by decide) ?_
  refine n_add hx hb d_L_law_506 ?_
  refine l_sld hx hb hX hbl hbA hS (j := i + 2) (by omega) (by omega) d_L_law_507 ?_
  refine g_cVi (As := [.int (xs (i + 1)), .int (xs (i + 2))]) (rest := [.int (r1)]) ⟨hx, hb, hml, hown, hts⟩ (m_haul l hdm hlS hm1 (xs (i + 1)) (xs (i + 2))) (gcwV 2 hts q_717 q_714 q_715 q_716 q_9 (by decide +kernel) ⟨(Nat.le_of_ble_eq_true rfl), (Nat.le_of_ble_eq_true rfl)⟩) gNl_ok hN hK hW hS hA (hdm 400 (by decide) (by decide)) hm1.1 rfl rfl hl.1 rfl (Nat.le_of_ble_eq_true rfl) d_L_law_508 hcs (fun r2 co2 H locs hp2 hW hS => ?_)
  obtain ⟨hr2, hm2, hf2⟩ := hp2
  have hk2 := kOS_tr hlS.a2 hf2 hk1
  exact lv_icmp_eq (tgt := 921) hx hb d_L_law_511 (by decide) (fun _ => kk _ _ _ _ (hlS) hk2 hm2 hW hS) (fun hne => absurd (hr1.trans hr2.symm) hne)
