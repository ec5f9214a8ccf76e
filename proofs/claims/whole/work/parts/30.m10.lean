set_option maxHeartbeats 4000000 in
set_option maxRecDepth 100000 in
/-- bothEnds -/
theorem c_M_bothEnds (l : Launch) {D : va_G} {cI cJ cG : ClassId} {ad : Nat → Nat} {co : Nat → va_E} {dl : List Nat} {a rw sh pg ce mg kn cs sm : Nat} (hdl : ∀ i, 400 ≤ i → i < 427 → i ∈ dl) (h400 : co 400 = mO ad a rw sh pg ce mg kn cs sm) {fm : Nat → Int32} {fs : Nat → Int32} {cls : Nat → Int32} {shp : Nat → Int32} {tr : Nat → Int32} {f0 : Nat → Int32} {g0 : Nat → Int32} (h401 : co 401 = .inl (cI, 144, .inl fm)) (h402 : co 402 = .inl (cI, 120, .inl fs)) (h406 : co 406 = .inl (cI, 200, .inl cls)) (h408 : co 408 = .inl (cI, 200, .inl shp)) (h409 : co 409 = .inl (cI, 200, .inl tr)) (h424 : co 424 = .inl (cI, 2400, .inl f0)) (h425 : co 425 = .inl (cI, 2400, .inl g0)) {cl : Nat → Nat} {mv sp : Nat → Nat → Nat} (ha : a ≤ 12) (hok : okN a (alw tr shp (-1)) cl mv sp rw) (hcl : ∀ k, k < rw → cls k = nI (cl k) ∧ cl k < 10) (hmv : ∀ i j, i < a → j < a → fm (12 * i + j) = nI (mv i j)) (hsp : ∀ i c, i < a → c < 10 → fs (10 * i + c) = nI (sp i c)) (hsh : ∀ k, k < rw → shp k ≠ -1) : gMv l y_M_bothEnds (Cond.code y_M_bothEnds b_M_bothEnds 6 none :: wA) ({ frames := 1, cells := 0, slots := 0, locals := 23 }) D gCl (gTy cI cJ cG) gNl [.ref (ad 400)] ad co dl (fun co' => ∃ F G : Nat → Int32, co' = wB cI cJ co F G ∧ (∀ k b, k < rw → b < a → F (12 * k + b) = nI (if (alw tr shp (-1)) k b then bfo a (alw tr shp (-1)) cl mv sp k b + sp b (cl k) else BIG)) ∧ ∀ k b, k < rw → b < a → G (12 * k + b) = nI (tgo a (alw tr shp (-1)) cl mv sp rw k b)) := by
  refine gMv_of (cc := b_M_bothEnds) (maxL := 6) (ret := none) (by decide) rfl (Nat.le_of_ble_eq_true rfl) ?_
  intro pp ee s mm below meth cd ls hC hW hS hl
  obtain ⟨hx, hb, hr, hts0, hown, hlocks, hml, hK, hN⟩ := hC
  have hts : ∀ w ∈ wA, w.before _ s = true := fun w h => hts0 w (List.mem_cons_of_mem _ h)
  have hA : ∀ q, s.heap.size ≤ q → gA ad co dl s.heap.size q := fun q h => Or.inr h
  have hl : lv_has ls 6 [(0, .ref (ad 400))] := hl
  have hown : s.vm.findClass R_M = some mm.cls := hown
  have hn0 : 0 < rw := hok.1
  have hn2 : rw ≤ 200 := hok.2.1
  have ha0 : 0 < a := hok.2.2.1
  have hBIG : BIG = 1000000000 := rfl
  have hW := gW_eq (wB_self (cJ := cJ) h424 h425) hW
  refine lv_iconst (v := nI 0) hx hb d_M_bothEnds_0 (by decide) ?_
  refine lv_istore_n (lv' := [(1, .int (nI 0)), (0, .ref (ad 400))]) hx hb d_M_bothEnds_1 rfl hl (by decide) rfl (fun ls hl => ?_)
  suffices hloop : ∀ (d k : Nat) (F : Nat → Int32) (H : Heap) (locs : List Loc) (ls : Array Slot), (k ≤ rw) → (rw + 1 ≤ k + d) → (∀ y b, y < k → b < a → F (12 * y + b) = nI (if (alw tr shp (-1)) y b then bfo a (alw tr shp (-1)) cl mv sp y b + sp b (cl y) else BIG)) → gW D gCl (gA ad co dl s.heap.size) ad (wB cI cJ co F g0) dl H → va_S (gA ad co dl s.heap.size) s.heap H locs → lv_has ls 6 [(0, .ref (ad 400)), (1, .int (nI k))] → W pp l ee _ s mm _ below meth cd H locs 0 0 _ (F0 mm 2 ls []) by
    exact hloop (rw + 1) 0 f0 _ _ ls (by omega) (by omega) (fun y b h => absurd h (Nat.not_lt_zero y)) hW hS (lv_sub hl [1, 0] rfl)
  clear hW hS hl
  intro d
  induction d with
  | zero => intro k F H locs ls hk hd hF; omega
  | succ d ih1 =>
    intro k F H locs ls hk hd hF hW hS hl
    refine lv_iload_n hx hb d_M_bothEnds_2 rfl (lv_at hl 1 rfl) ?_
    refine lv_aload_n hx hb d_M_bothEnds_3 rfl (lv_at hl 0 rfl) ?_
    refine g_get (C := R_M) (T := F_M) (N := 35) hx hb hts i_M hown hK hW (i := 400) (hdl 400 (by decide) (by decide)) ((wB_o (by decide)).trans h400) rfl 5 (by decide) (hts _ q_493) (fun _ h9 => h9) rfl d_M_bothEnds_4 ?_
    refine n_icmp_ge (tgt := 181) hx hb (by omega) (by omega) d_M_bothEnds_7 (by decide) (fun h1 => ?_) (fun h1 => ?_)
    · have hkr : k = rw := by omega
      rw [hkr] at hF
      clear ih1 hk hd h1
      refine lv_aload_n hx hb d_M_bothEnds_181 rfl (lv_at hl 0 rfl) ?_
      refine g_get (C := R_M) (T := F_M) (N := 35) hx hb hts i_M hown hK hW (i := 400) (hdl 400 (by decide) (by decide)) ((wB_o (by decide)).trans h400) rfl 5 (by decide) (hts _ q_493) (fun _ h9 => h9) rfl d_M_bothEnds_182 ?_
      refine lv_iconst (v := nI 1) hx hb d_M_bothEnds_185 (by decide) ?_
      refine lv_isub hx hb d_M_bothEnds_186 ?_
      refine lv_istore_n (lv' := [(1, .int ((nI rw) - (nI 1))), (0, .ref (ad 400))]) hx hb d_M_bothEnds_187 rfl hl (by decide) rfl (fun ls hl => ?_)
      suffices hloop : ∀ (d q : Nat) (G : Nat → Int32) (H : Heap) (locs : List Loc) (ls : Array Slot), (q ≤ rw) → (q + 1 ≤ d) → (∀ y b, q ≤ y → y < rw → b < a → G (12 * y + b) = nI (tgo a (alw tr shp (-1)) cl mv sp rw y b)) → gW D gCl (gA ad co dl s.heap.size) ad (wB cI cJ co F G) dl H → va_S (gA ad co dl s.heap.size) s.heap H locs → lv_has ls 6 [(0, .ref (ad 400)), (1, .int (nI q - nI 1))] → W pp l ee _ s mm _ below meth cd H locs 0 0 _ (F0 mm 188 ls []) by
        exact hloop (rw + 1) rw g0 _ _ ls (Nat.le_refl _) (Nat.le_refl _) (fun y b h1 h2 => absurd h2 (by omega)) hW hS (lv_sub hl [1, 0] rfl)
      clear hW hS hl
      intro d
      induction d with
      | zero => intro q G H locs ls hq hd hG; omega
      | succ d ih4 =>
        intro q G H locs ls hq hd hG hW hS hl
        rcases Nat.eq_zero_or_pos q with h0 | h0
        · subst h0
          refine lv_iload_n hx hb d_M_bothEnds_188 rfl (lv_at hl 1 rfl) ?_
          refine lv_if_lt (tgt := 375) hx hb d_M_bothEnds_189 (by decide) (fun h1 => ?_) (fun h1 => ?_)
          · exact g_vret hx hb hr hlocks hW hS (⟨F, G, rfl, hF, fun k b hk hb => hG k b (Nat.zero_le k) hk hb⟩) d_M_bothEnds_375
          · exact absurd (by decide) h1
        · obtain ⟨k, rfl⟩ : ∃ z, q = z + 1 := ⟨q - 1, by omega⟩
          rw [show nI (k + 1) - nI 1 = nI k from nI_pred k] at hl
          have hck := hcl k (by omega)
          refine lv_iload_n hx hb d_M_bothEnds_188 rfl (lv_at hl 1 rfl) ?_
          refine n_if_lt (tgt := 375) hx hb (by omega) d_M_bothEnds_189 (by decide) ?_
          refine lv_iconst (v := nI 0) hx hb d_M_bothEnds_192 (by decide) ?_
          refine lv_istore_n (lv' := [(2, .int (nI 0)), (0, .ref (ad 400)), (1, .int (nI k))]) hx hb d_M_bothEnds_193 rfl hl (by decide) rfl (fun ls hl => ?_)
          suffices hloop : ∀ (d5 z : Nat) (G2 : Nat → Int32) (H : Heap) (locs : List Loc) (ls : Array Slot), (z ≤ a) → (a + 1 ≤ z + d5) → (∀ y b, k < y → y < rw → b < a → G2 (12 * y + b) = G (12 * y + b)) → (∀ b, b < z → G2 (12 * k + b) = nI (tgo a (alw tr shp (-1)) cl mv sp rw k b)) → gW D gCl (gA ad co dl s.heap.size) ad (wB cI cJ co F G2) dl H → va_S (gA ad co dl s.heap.size) s.heap H locs → lv_has ls 6 [(0, .ref (ad 400)), (1, .int (nI k)), (2, .int (nI z))] → W pp l ee _ s mm _ below meth cd H locs 0 0 _ (F0 mm 194 ls []) by
            exact hloop (a + 1) 0 G _ _ ls (by omega) (by omega) (fun _ _ _ _ _ => rfl) (fun b h => absurd h (Nat.not_lt_zero b)) hW hS (lv_sub hl [1, 2, 0] rfl)
          clear hW hS hl
          intro d5
          induction d5 with
          | zero => intro z G2 H locs ls hz hd5 hG2 hG3; omega
          | succ d5 ih5 =>
            intro z G2 H locs ls hz hd5 hG2 hG3 hW hS hl
            refine lv_iload_n hx hb d_M_bothEnds_194 rfl (lv_at hl 2 rfl) ?_
            refine lv_aload_n hx hb d_M_bothEnds_195 rfl (lv_at hl 0 rfl) ?_
            refine g_get (C := R_M) (T := F_M) (N := 35) hx hb hts i_M hown hK hW (i := 400) (hdl 400 (by decide) (by decide)) ((wB_o (by decide)).trans h400) rfl 0 (by decide) (hts _ q_488) (fun _ h9 => h9) rfl d_M_bothEnds_196 ?_
            refine n_icmp_ge (tgt := 369) hx hb (by omega) (by omega) d_M_bothEnds_199 (by decide) (fun h2 => ?_) (fun h2 => ?_)
            · have hza : z = a := by omega
              rw [hza] at hG3
              refine lv_iinc (v := (nI k) + (-1)) (lv' := [(1, .int ((nI k) + (-1))), (0, .ref (ad 400)), (2, .int (nI z))]) hx hb d_M_bothEnds_369 hl (k := 1) rfl rfl (by decide) rfl (fun ls hl => ?_)
              rw [show nI k + (-1) = nI k - nI 1 by rw [Int32.sub_eq_add_neg]; rfl] at hl
              refine lv_goto (tgt := 188) hx hb d_M_bothEnds_372 (by decide) ?_
              refine ih4 k G2 _ _ ls (by omega) (by omega) (fun y b hy1 hy2 hb => ?_) hW hS (lv_sub hl [1, 0] rfl)
              by_cases hyk : y = k
              · subst hyk; exact hG3 b hb
              · rw [hG2 y b (by omega) hy2 hb]; exact hG y b (by omega) hy2 hb
            · have hsz := hok.2.2.2.2.1 z k h2 (by omega)
              refine lv_iload_n hx hb d_M_bothEnds_202 rfl (lv_at hl 1 rfl) ?_
              refine lv_aload_n hx hb d_M_bothEnds_203 rfl (lv_at hl 0 rfl) ?_
              refine g_get (C := R_M) (T := F_M) (N := 35) hx hb hts i_M hown hK hW (i := 400) (hdl 400 (by decide) (by decide)) ((wB_o (by decide)).trans h400) rfl 5 (by decide) (hts _ q_493) (fun _ h9 => h9) rfl d_M_bothEnds_204 ?_
              refine lv_iconst (v := nI 1) hx hb d_M_bothEnds_207 (by decide) ?_
              refine n_sub hx hb (by omega) d_M_bothEnds_208 ?_
              refine n_icmp_ne (tgt := 216) hx hb (by omega) (by omega) d_M_bothEnds_209 (by decide) (fun h3 => ?_) (fun h3 => ?_)
              · have hk1 : k + 1 < rw := by omega
                have hrl := tgr_le hok hk1 h2
                refine lv_ldc hx hb hown (hts _ q_659) d_M_bothEnds_216 ?_
                refine n_topi (show (1000000000 : Int32) = nI 1000000000 by decide) ?_
                refine lv_istore_n (lv' := [(3, .int (nI 1000000000)), (0, .ref (ad 400)), (1, .int (nI k)), (2, .int (nI z))]) hx hb d_M_bothEnds_218 rfl hl (by decide) rfl (fun ls hl => ?_)
                refine lv_iconst (v := nI 0) hx hb d_M_bothEnds_219 (by decide) ?_
                refine lv_istore (lv' := [(4, .int (nI 0)), (3, .int (nI 1000000000)), (0, .ref (ad 400)), (1, .int (nI k)), (2, .int (nI z))]) hx hb d_M_bothEnds_220 hl (by decide) rfl (fun ls hl => ?_)
                suffices hloop : ∀ (d6 x : Nat) (H : Heap) (locs : List Loc) (ls : Array Slot), (x ≤ a) → (a + 1 ≤ x + d6) → gW D gCl (gA ad co dl s.heap.size) ad (wB cI cJ co F G2) dl H → va_S (gA ad co dl s.heap.size) s.heap H locs → lv_has ls 6 [(0, .ref (ad 400)), (1, .int (nI k)), (2, .int (nI z)), (3, .int (nI (rmin ((alw tr shp (-1)) (k + 1)) (fun c => mv z c + tgo a (alw tr shp (-1)) cl mv sp rw (k + 1) c) x))), (4, .int (nI x))] → W pp l ee _ s mm _ below meth cd H locs 0 0 _ (F0 mm 222 ls []) by
                  exact hloop (a + 1) 0 _ _ ls (by omega) (by omega) hW hS (lv_sub hl [2, 3, 4, 1, 0] rfl)
                clear hW hS hl
                intro d6
                induction d6 with
                | zero => intro x H locs ls hx6 hd6; omega
                | succ d6 ih6 =>
                  intro x H locs ls hx6 hd6 hW hS hl
                  have hrb := rmin_le_big ((alw tr shp (-1)) (k + 1)) (fun c => mv z c + tgo a (alw tr shp (-1)) cl mv sp rw (k + 1) c) x
                  refine lv_iload hx hb d_M_bothEnds_222 (lv_at hl 4 rfl) ?_
                  refine lv_aload_n hx hb d_M_bothEnds_224 rfl (lv_at hl 0 rfl) ?_
                  refine g_get (C := R_M) (T := F_M) (N := 35) hx hb hts i_M hown hK hW (i := 400) (hdl 400 (by decide) (by decide)) ((wB_o (by decide)).trans h400) rfl 0 (by decide) (hts _ q_488) (fun _ h9 => h9) rfl d_M_bothEnds_225 ?_
                  refine n_icmp_ge (tgt := 313) hx hb (by omega) (by omega) d_M_bothEnds_228 (by decide) (fun h4 => ?_) (fun h4 => ?_)
                  · have hxa : x = a := by omega
                    rw [hxa] at hl
                    refine lv_aload_n hx hb d_M_bothEnds_313 rfl (lv_at hl 0 rfl) ?_
                    refine g_get (C := R_M) (T := F_M) (N := 35) hx hb hts i_M hown hK hW (i := 400) (hdl 400 (by decide) (by decide)) ((wB_o (by decide)).trans h400) rfl 33 (by decide) (hts _ q_521) (fun _ h9 => h9) rfl d_M_bothEnds_314 ?_
                    refine lv_bipush (v := nI 12) hx hb d_M_bothEnds_317 (by decide) ?_
                    refine lv_iload_n hx hb d_M_bothEnds_319 rfl (lv_at hl 1 rfl) ?_
                    refine n_mul hx hb d_M_bothEnds_320 ?_
                    refine lv_iload_n hx hb d_M_bothEnds_321 rfl (lv_at hl 2 rfl) ?_
                    refine n_add hx hb d_M_bothEnds_322 ?_
                    refine lv_iload_n hx hb d_M_bothEnds_323 rfl (lv_at hl 3 rfl) ?_
                    refine lv_ldc hx hb hown (hts _ q_659) d_M_bothEnds_324 ?_
                    refine n_topi (show (1000000000 : Int32) = nI 1000000000 by decide) ?_
                    refine n_icmp_ge (tgt := 339) hx hb (by omega) (by omega) d_M_bothEnds_326 (by decide) (fun h8 => ?_) (fun h8 => ?_)
                    · omega
                    · refine lv_aload_n hx hb d_M_bothEnds_329 rfl (lv_at hl 0 rfl) ?_
                      refine lv_iload_n hx hb d_M_bothEnds_330 rfl (lv_at hl 1 rfl) ?_
                      refine lv_iload_n hx hb d_M_bothEnds_331 rfl (lv_at hl 2 rfl) ?_
                      refine lv_iconst (v := (-1)) hx hb d_M_bothEnds_332 (by decide) ?_
                      refine g_cVi (As := [.int (nI k), .int (nI z), .int (-1)]) (rest := [.int (nI ((12 * k) + z)), .ref (ad 425)]) ⟨hx, hb, hml, hown, hts⟩ (c_M_may l hdl ((wB_o (by decide)).trans h400) ((wB_o (by decide)).trans h408) ((wB_o (by decide)).trans h409) k z (-1) (by omega) (hsh k (by omega))) (gcwV 3 hts q_658 q_655 q_657 qs_12 q_9 (by decide +kernel) ⟨(Nat.le_of_ble_eq_true rfl), (Nat.le_of_ble_eq_true rfl)⟩) gNl_ok hN hK hW hS hA (hdl 400 (by decide) (by decide)) ((wB_o (by decide)).trans h400) rfl rfl hl.1 rfl (Nat.le_of_ble_eq_true rfl) d_M_bothEnds_333 ⟨Nat.zero_le _, Nat.zero_le _⟩ (fun r co9 H locs hp9 hW hS => ?_)
                      obtain ⟨rfl, hco9⟩ := hp9
                      rw [hco9] at hW
                      refine n_ifz_ne (tgt := 344) hx hb d_M_bothEnds_336 (by decide) (fun h9 => ?_) (fun h9 => ?_)
                      · refine lv_iload_n hx hb d_M_bothEnds_344 rfl (lv_at hl 3 rfl) ?_
                        refine lv_aload_n hx hb d_M_bothEnds_345 rfl (lv_at hl 0 rfl) ?_
                        refine g_get (C := R_M) (T := F_M) (N := 35) hx hb hts i_M hown hK hW (i := 400) (hdl 400 (by decide) (by decide)) ((wB_o (by decide)).trans h400) rfl 2 (by decide) (hts _ q_490) (fun _ h9 => h9) rfl d_M_bothEnds_346 ?_
                        refine lv_bipush (v := nI 10) hx hb d_M_bothEnds_349 (by decide) ?_
                        refine lv_iload_n hx hb d_M_bothEnds_351 rfl (lv_at hl 2 rfl) ?_
                        refine n_mul hx hb d_M_bothEnds_352 ?_
                        refine lv_aload_n hx hb d_M_bothEnds_353 rfl (lv_at hl 0 rfl) ?_
                        refine g_get (C := R_M) (T := F_M) (N := 35) hx hb hts i_M hown hK hW (i := 400) (hdl 400 (by decide) (by decide)) ((wB_o (by decide)).trans h400) rfl 7 (by decide) (hts _ q_495) (fun _ h9 => h9) rfl d_M_bothEnds_354 ?_
                        refine lv_iload_n hx hb d_M_bothEnds_357 rfl (lv_at hl 1 rfl) ?_
                        refine n_iald hx hb hK hW 0 (q := 406) (hdl 406 (by decide) (by decide)) ((wB_o (by decide)).trans h406) rfl (j := k) (by omega) (by omega) d_M_bothEnds_358 ?_
                        refine n_topi (show cls k = nI (cl k) from hck.1) ?_
                        refine n_add hx hb d_M_bothEnds_359 ?_
                        refine n_iald hx hb hK hW 0 (q := 402) (hdl 402 (by decide) (by decide)) ((wB_o (by decide)).trans h402) rfl (j := (10 * z) + (cl k)) (by omega) (by omega) d_M_bothEnds_360 ?_
                        refine n_topi (show fs ((10 * z) + (cl k)) = nI (sp z (cl k)) from hsp z (cl k) h2 hck.2) ?_
                        refine n_add hx hb d_M_bothEnds_361 ?_
                        refine n_iast (x := nI ((rmin ((alw tr shp (-1)) (k + 1)) (fun c => mv z c + tgo a (alw tr shp (-1)) cl mv sp rw (k + 1) c) a) + (sp z (cl k)))) hx hb hK hW hS 0 (q := 425) (hdl 425 (by decide) (by decide)) wB_425 rfl (j := (12 * k) + z) (by omega) (by omega) d_M_bothEnds_362 (fun H locs hW hS => ?_)
                        rw [wB_u425] at hW
                        refine n_iinc (lv' := [(2, .int (nI (z + 1))), (0, .ref (ad 400)), (1, .int (nI k)), (3, .int (nI (rmin ((alw tr shp (-1)) (k + 1)) (fun c => mv z c + tgo a (alw tr shp (-1)) cl mv sp rw (k + 1) c) a))), (4, .int (nI a))]) hx hb d_M_bothEnds_363 hl (k := 2) rfl (by decide) rfl (fun ls hl => ?_)
                        refine lv_goto (tgt := 194) hx hb d_M_bothEnds_366 (by decide) ?_
                        refine ih5 (z + 1) (upd G2 (12 * k + z) (nI (rmin ((alw tr shp (-1)) (k + 1)) (fun c => mv z c + tgo a (alw tr shp (-1)) cl mv sp rw (k + 1) c) a + sp z (cl k)))) _ _ ls (by omega) (by omega) (fun y b hy1 hy2 hb => ?_) (lt_s (fun b hb => ?_) ?_) hW hS (lv_sub hl [1, 2, 0] rfl)
                        · rw [pk_un (show 12 * y + b ≠ 12 * k + z by omega)]; exact hG2 y b hy1 hy2 hb
                        · rw [pk_un (show 12 * k + b ≠ 12 * k + z by omega)]; exact hG3 b hb
                        · rw [pk_us, tgo_eq hk1, if_pos h9, Nat.add_comm]
                      · refine lv_ldc hx hb hown (hts _ q_659) d_M_bothEnds_339 ?_
                        refine n_topi (show (1000000000 : Int32) = nI 1000000000 by decide) ?_
                        refine lv_goto (tgt := 362) hx hb d_M_bothEnds_341 (by decide) ?_
                        refine n_iast (x := nI 1000000000) hx hb hK hW hS 0 (q := 425) (hdl 425 (by decide) (by decide)) wB_425 rfl (j := (12 * k) + z) (by omega) (by omega) d_M_bothEnds_362 (fun H locs hW hS => ?_)
                        rw [wB_u425] at hW
                        refine n_iinc (lv' := [(2, .int (nI (z + 1))), (0, .ref (ad 400)), (1, .int (nI k)), (3, .int (nI (rmin ((alw tr shp (-1)) (k + 1)) (fun c => mv z c + tgo a (alw tr shp (-1)) cl mv sp rw (k + 1) c) a))), (4, .int (nI a))]) hx hb d_M_bothEnds_363 hl (k := 2) rfl (by decide) rfl (fun ls hl => ?_)
                        refine lv_goto (tgt := 194) hx hb d_M_bothEnds_366 (by decide) ?_
                        refine ih5 (z + 1) (upd G2 (12 * k + z) (nI 1000000000)) _ _ ls (by omega) (by omega) (fun y b hy1 hy2 hb => ?_) (lt_s (fun b hb => ?_) ?_) hW hS (lv_sub hl [1, 2, 0] rfl)
                        · rw [pk_un (show 12 * y + b ≠ 12 * k + z by omega)]; exact hG2 y b hy1 hy2 hb
                        · rw [pk_un (show 12 * k + b ≠ 12 * k + z by omega)]; exact hG3 b hb
                        · rw [pk_us, tgo_big h9, hBIG]
                  · refine lv_iload_n hx hb d_M_bothEnds_231 rfl (lv_at hl 1 rfl) ?_
                    refine lv_aload_n hx hb d_M_bothEnds_232 rfl (lv_at hl 0 rfl) ?_
                    refine g_get (C := R_M) (T := F_M) (N := 35) hx hb hts i_M hown hK hW (i := 400) (hdl 400 (by decide) (by decide)) ((wB_o (by decide)).trans h400) rfl 5 (by decide) (hts _ q_493) (fun _ h9 => h9) rfl d_M_bothEnds_233 ?_
                    refine lv_iconst (v := nI 1) hx hb d_M_bothEnds_236 (by decide) ?_
                    refine n_sub hx hb (by omega) d_M_bothEnds_237 ?_
                    refine n_icmp_ge (tgt := 313) hx hb (by omega) (by omega) d_M_bothEnds_238 (by decide) (fun h5 => ?_) (fun h5 => ?_)
                    · omega
                    · have hGx := (hG2 (k + 1) x (by omega) hk1 h4).trans (hG (k + 1) x (by omega) hk1 h4)
                      have hm0 := hok.2.2.2.1 z x h2 h4
                      cases hal : (alw tr shp (-1)) (k + 1) x with
                      | false =>
                        rw [tgo_big hal] at hGx
                        refine lv_aload_n hx hb d_M_bothEnds_241 rfl (lv_at hl 0 rfl) ?_
                        refine g_get (C := R_M) (T := F_M) (N := 35) hx hb hts i_M hown hK hW (i := 400) (hdl 400 (by decide) (by decide)) ((wB_o (by decide)).trans h400) rfl 33 (by decide) (hts _ q_521) (fun _ h9 => h9) rfl d_M_bothEnds_242 ?_
                        refine lv_bipush (v := nI 12) hx hb d_M_bothEnds_245 (by decide) ?_
                        refine lv_iload_n hx hb d_M_bothEnds_247 rfl (lv_at hl 1 rfl) ?_
                        refine lv_iconst (v := nI 1) hx hb d_M_bothEnds_248 (by decide) ?_
                        refine n_add hx hb d_M_bothEnds_249 ?_
                        refine n_mul hx hb d_M_bothEnds_250 ?_
                        refine lv_iload hx hb d_M_bothEnds_251 (lv_at hl 4 rfl) ?_
                        refine n_add hx hb d_M_bothEnds_253 ?_
                        refine n_iald hx hb hK hW 0 (q := 425) (hdl 425 (by decide) (by decide)) wB_425 rfl (j := (12 * (k + 1)) + x) (by omega) (by omega) d_M_bothEnds_254 ?_
                        refine n_topi (show G2 ((12 * (k + 1)) + x) = nI 1000000000 from hGx) ?_
                        refine lv_ldc hx hb hown (hts _ q_659) d_M_bothEnds_255 ?_
                        refine n_topi (show (1000000000 : Int32) = nI 1000000000 by decide) ?_
                        refine n_icmp_lt (tgt := 265) hx hb (by omega) (by omega) d_M_bothEnds_257 (by decide) (fun h6 => ?_) (fun h6 => ?_)
                        · omega
                        · refine lv_ldc hx hb hown (hts _ q_659) d_M_bothEnds_260 ?_
                          refine n_topi (show (1000000000 : Int32) = nI 1000000000 by decide) ?_
                          refine lv_goto (tgt := 292) hx hb d_M_bothEnds_262 (by decide) ?_
                          refine lv_istore (lv' := [(5, .int (nI 1000000000)), (0, .ref (ad 400)), (1, .int (nI k)), (2, .int (nI z)), (3, .int (nI (rmin ((alw tr shp (-1)) (k + 1)) (fun c => mv z c + tgo a (alw tr shp (-1)) cl mv sp rw (k + 1) c) x))), (4, .int (nI x))]) hx hb d_M_bothEnds_292 hl (by decide) rfl (fun ls hl => ?_)
                          refine lv_iload hx hb d_M_bothEnds_294 (lv_at hl 0 rfl) ?_
                          refine lv_iload_n hx hb d_M_bothEnds_296 rfl (lv_at hl 4 rfl) ?_
                          refine n_icmp_ge (tgt := 305) hx hb (by omega) (by omega) d_M_bothEnds_297 (by decide) (fun h7 => ?_) (fun h7 => ?_)
                          · refine lv_iload_n hx hb d_M_bothEnds_305 rfl (lv_at hl 4 rfl) ?_
                            refine n_topi (show nI (rmin ((alw tr shp (-1)) (k + 1)) (fun c => mv z c + tgo a (alw tr shp (-1)) cl mv sp rw (k + 1) c) x) = nI (rmin ((alw tr shp (-1)) (k + 1)) (fun c => mv z c + tgo a (alw tr shp (-1)) cl mv sp rw (k + 1) c) (x + 1)) from by rw [rmin_no hal]) ?_
                            refine lv_istore_n (lv' := [(3, .int (nI (rmin ((alw tr shp (-1)) (k + 1)) (fun c => mv z c + tgo a (alw tr shp (-1)) cl mv sp rw (k + 1) c) (x + 1)))), (5, .int (nI 1000000000)), (0, .ref (ad 400)), (1, .int (nI k)), (2, .int (nI z)), (4, .int (nI x))]) hx hb d_M_bothEnds_306 rfl hl (by decide) rfl (fun ls hl => ?_)
                            refine n_iinc (lv' := [(4, .int (nI (x + 1))), (3, .int (nI (rmin ((alw tr shp (-1)) (k + 1)) (fun c => mv z c + tgo a (alw tr shp (-1)) cl mv sp rw (k + 1) c) (x + 1)))), (5, .int (nI 1000000000)), (0, .ref (ad 400)), (1, .int (nI k)), (2, .int (nI z))]) hx hb d_M_bothEnds_307 hl (k := 5) rfl (by decide) rfl (fun ls hl => ?_)
                            refine lv_goto (tgt := 222) hx hb d_M_bothEnds_310 (by decide) ?_
                            exact ih6 (x + 1) _ _ ls (by omega) (by omega) hW hS (lv_sub hl [3, 4, 5, 1, 0] rfl)
                          · omega
                      | true =>
                        have ht0 := tgo_le hok hk1 h4 hal
                        refine lv_aload_n hx hb d_M_bothEnds_241 rfl (lv_at hl 0 rfl) ?_
                        refine g_get (C := R_M) (T := F_M) (N := 35) hx hb hts i_M hown hK hW (i := 400) (hdl 400 (by decide) (by decide)) ((wB_o (by decide)).trans h400) rfl 33 (by decide) (hts _ q_521) (fun _ h9 => h9) rfl d_M_bothEnds_242 ?_
                        refine lv_bipush (v := nI 12) hx hb d_M_bothEnds_245 (by decide) ?_
                        refine lv_iload_n hx hb d_M_bothEnds_247 rfl (lv_at hl 1 rfl) ?_
                        refine lv_iconst (v := nI 1) hx hb d_M_bothEnds_248 (by decide) ?_
                        refine n_add hx hb d_M_bothEnds_249 ?_
                        refine n_mul hx hb d_M_bothEnds_250 ?_
                        refine lv_iload hx hb d_M_bothEnds_251 (lv_at hl 4 rfl) ?_
                        refine n_add hx hb d_M_bothEnds_253 ?_
                        refine n_iald hx hb hK hW 0 (q := 425) (hdl 425 (by decide) (by decide)) wB_425 rfl (j := (12 * (k + 1)) + x) (by omega) (by omega) d_M_bothEnds_254 ?_
                        refine n_topi (show G2 ((12 * (k + 1)) + x) = nI (tgo a (alw tr shp (-1)) cl mv sp rw (k + 1) x) from hGx) ?_
                        refine lv_ldc hx hb hown (hts _ q_659) d_M_bothEnds_255 ?_
                        refine n_topi (show (1000000000 : Int32) = nI 1000000000 by decide) ?_
                        refine n_icmp_lt (tgt := 265) hx hb (by omega) (by omega) d_M_bothEnds_257 (by decide) (fun h6 => ?_) (fun h6 => ?_)
                        · refine lv_aload_n hx hb d_M_bothEnds_265 rfl (lv_at hl 0 rfl) ?_
                          refine g_get (C := R_M) (T := F_M) (N := 35) hx hb hts i_M hown hK hW (i := 400) (hdl 400 (by decide) (by decide)) ((wB_o (by decide)).trans h400) rfl 33 (by decide) (hts _ q_521) (fun _ h9 => h9) rfl d_M_bothEnds_266 ?_
                          refine lv_bipush (v := nI 12) hx hb d_M_bothEnds_269 (by decide) ?_
                          refine lv_iload_n hx hb d_M_bothEnds_271 rfl (lv_at hl 1 rfl) ?_
                          refine lv_iconst (v := nI 1) hx hb d_M_bothEnds_272 (by decide) ?_
                          refine n_add hx hb d_M_bothEnds_273 ?_
                          refine n_mul hx hb d_M_bothEnds_274 ?_
                          refine lv_iload hx hb d_M_bothEnds_275 (lv_at hl 4 rfl) ?_
                          refine n_add hx hb d_M_bothEnds_277 ?_
                          refine n_iald hx hb hK hW 0 (q := 425) (hdl 425 (by decide) (by decide)) wB_425 rfl (j := (12 * (k + 1)) + x) (by omega) (by omega) d_M_bothEnds_278 ?_
                          refine n_topi (show G2 ((12 * (k + 1)) + x) = nI (tgo a (alw tr shp (-1)) cl mv sp rw (k + 1) x) from hGx) ?_
                          refine lv_aload_n hx hb d_M_bothEnds_279 rfl (lv_at hl 0 rfl) ?_
                          refine g_get (C := R_M) (T := F_M) (N := 35) hx hb hts i_M hown hK hW (i := 400) (hdl 400 (by decide) (by decide)) ((wB_o (by decide)).trans h400) rfl 1 (by decide) (hts _ q_489) (fun _ h9 => h9) rfl d_M_bothEnds_280 ?_
                          refine lv_bipush (v := nI 12) hx hb d_M_bothEnds_283 (by decide) ?_
                          refine lv_iload_n hx hb d_M_bothEnds_285 rfl (lv_at hl 2 rfl) ?_
                          refine n_mul hx hb d_M_bothEnds_286 ?_
                          refine lv_iload hx hb d_M_bothEnds_287 (lv_at hl 4 rfl) ?_
                          refine n_add hx hb d_M_bothEnds_289 ?_
                          refine n_iald hx hb hK hW 0 (q := 401) (hdl 401 (by decide) (by decide)) ((wB_o (by decide)).trans h401) rfl (j := (12 * z) + x) (by omega) (by omega) d_M_bothEnds_290 ?_
                          refine n_topi (show fm ((12 * z) + x) = nI (mv z x) from hmv z x h2 h4) ?_
                          refine n_add hx hb d_M_bothEnds_291 ?_
                          refine n_topi (show nI ((tgo a (alw tr shp (-1)) cl mv sp rw (k + 1) x) + (mv z x)) = nI (mv z x + tgo a (alw tr shp (-1)) cl mv sp rw (k + 1) x) from by rw [Nat.add_comm]) ?_
                          refine lv_istore (lv' := [(5, .int (nI (mv z x + tgo a (alw tr shp (-1)) cl mv sp rw (k + 1) x))), (0, .ref (ad 400)), (1, .int (nI k)), (2, .int (nI z)), (3, .int (nI (rmin ((alw tr shp (-1)) (k + 1)) (fun c => mv z c + tgo a (alw tr shp (-1)) cl mv sp rw (k + 1) c) x))), (4, .int (nI x))]) hx hb d_M_bothEnds_292 hl (by decide) rfl (fun ls hl => ?_)
                          refine lv_iload hx hb d_M_bothEnds_294 (lv_at hl 0 rfl) ?_
                          refine lv_iload_n hx hb d_M_bothEnds_296 rfl (lv_at hl 4 rfl) ?_
                          refine n_icmp_ge (tgt := 305) hx hb (by omega) (by omega) d_M_bothEnds_297 (by decide) (fun h7 => ?_) (fun h7 => ?_)
                          · refine lv_iload_n hx hb d_M_bothEnds_305 rfl (lv_at hl 4 rfl) ?_
                            refine n_topi (show nI (rmin ((alw tr shp (-1)) (k + 1)) (fun c => mv z c + tgo a (alw tr shp (-1)) cl mv sp rw (k + 1) c) x) = nI (rmin ((alw tr shp (-1)) (k + 1)) (fun c => mv z c + tgo a (alw tr shp (-1)) cl mv sp rw (k + 1) c) (x + 1)) from by rw [rmin_ge hal h7]) ?_
                            refine lv_istore_n (lv' := [(3, .int (nI (rmin ((alw tr shp (-1)) (k + 1)) (fun c => mv z c + tgo a (alw tr shp (-1)) cl mv sp rw (k + 1) c) (x + 1)))), (5, .int (nI (mv z x + tgo a (alw tr shp (-1)) cl mv sp rw (k + 1) x))), (0, .ref (ad 400)), (1, .int (nI k)), (2, .int (nI z)), (4, .int (nI x))]) hx hb d_M_bothEnds_306 rfl hl (by decide) rfl (fun ls hl => ?_)
                            refine n_iinc (lv' := [(4, .int (nI (x + 1))), (3, .int (nI (rmin ((alw tr shp (-1)) (k + 1)) (fun c => mv z c + tgo a (alw tr shp (-1)) cl mv sp rw (k + 1) c) (x + 1)))), (5, .int (nI (mv z x + tgo a (alw tr shp (-1)) cl mv sp rw (k + 1) x))), (0, .ref (ad 400)), (1, .int (nI k)), (2, .int (nI z))]) hx hb d_M_bothEnds_307 hl (k := 5) rfl (by decide) rfl (fun ls hl => ?_)
                            refine lv_goto (tgt := 222) hx hb d_M_bothEnds_310 (by decide) ?_
                            exact ih6 (x + 1) _ _ ls (by omega) (by omega) hW hS (lv_sub hl [3, 4, 5, 1, 0] rfl)
                          · refine lv_iload hx hb d_M_bothEnds_300 (lv_at hl 0 rfl) ?_
                            refine lv_goto (tgt := 306) hx hb d_M_bothEnds_302 (by decide) ?_
                            refine n_topi (show nI (mv z x + tgo a (alw tr shp (-1)) cl mv sp rw (k + 1) x) = nI (rmin ((alw tr shp (-1)) (k + 1)) (fun c => mv z c + tgo a (alw tr shp (-1)) cl mv sp rw (k + 1) c) (x + 1)) from by rw [rmin_lt hal h7]) ?_
                            refine lv_istore_n (lv' := [(3, .int (nI (rmin ((alw tr shp (-1)) (k + 1)) (fun c => mv z c + tgo a (alw tr shp (-1)) cl mv sp rw (k + 1) c) (x + 1)))), (5, .int (nI (mv z x + tgo a (alw tr shp (-1)) cl mv sp rw (k + 1) x))), (0, .ref (ad 400)), (1, .int (nI k)), (2, .int (nI z)), (4, .int (nI x))]) hx hb d_M_bothEnds_306 rfl hl (by decide) rfl (fun ls hl => ?_)
                            refine n_iinc (lv' := [(4, .int (nI (x + 1))), (3, .int (nI (rmin ((alw tr shp (-1)) (k + 1)) (fun c => mv z c + tgo a (alw tr shp (-1)) cl mv sp rw (k + 1) c) (x + 1)))), (5, .int (nI (mv z x + tgo a (alw tr shp (-1)) cl mv sp rw (k + 1) x))), (0, .ref (ad 400)), (1, .int (nI k)), (2, .int (nI z))]) hx hb d_M_bothEnds_307 hl (k := 5) rfl (by decide) rfl (fun ls hl => ?_)
                            refine lv_goto (tgt := 222) hx hb d_M_bothEnds_310 (by decide) ?_
                            exact ih6 (x + 1) _ _ ls (by omega) (by omega) hW hS (lv_sub hl [3, 4, 5, 1, 0] rfl)
                        · omega
              · refine lv_iconst (v := nI 0) hx hb d_M_bothEnds_212 (by decide) ?_
                refine lv_goto (tgt := 218) hx hb d_M_bothEnds_213 (by decide) ?_
                refine lv_istore_n (lv' := [(3, .int (nI 0)), (0, .ref (ad 400)), (1, .int (nI k)), (2, .int (nI z))]) hx hb d_M_bothEnds_218 rfl hl (by decide) rfl (fun ls hl => ?_)
                refine lv_iconst (v := nI 0) hx hb d_M_bothEnds_219 (by decide) ?_
                refine lv_istore (lv' := [(4, .int (nI 0)), (3, .int (nI 0)), (0, .ref (ad 400)), (1, .int (nI k)), (2, .int (nI z))]) hx hb d_M_bothEnds_220 hl (by decide) rfl (fun ls hl => ?_)
                refine lv_iload hx hb d_M_bothEnds_222 (lv_at hl 0 rfl) ?_
                refine lv_aload_n hx hb d_M_bothEnds_224 rfl (lv_at hl 2 rfl) ?_
                refine g_get (C := R_M) (T := F_M) (N := 35) hx hb hts i_M hown hK hW (i := 400) (hdl 400 (by decide) (by decide)) ((wB_o (by decide)).trans h400) rfl 0 (by decide) (hts _ q_488) (fun _ h9 => h9) rfl d_M_bothEnds_225 ?_
                refine n_icmp_ge (tgt := 313) hx hb (by omega) (by omega) d_M_bothEnds_228 (by decide) (fun h4 => ?_) (fun h4 => ?_)
                · omega
                · refine lv_iload_n hx hb d_M_bothEnds_231 rfl (lv_at hl 3 rfl) ?_
                  refine lv_aload_n hx hb d_M_bothEnds_232 rfl (lv_at hl 2 rfl) ?_
                  refine g_get (C := R_M) (T := F_M) (N := 35) hx hb hts i_M hown hK hW (i := 400) (hdl 400 (by decide) (by decide)) ((wB_o (by decide)).trans h400) rfl 5 (by decide) (hts _ q_493) (fun _ h9 => h9) rfl d_M_bothEnds_233 ?_
                  refine lv_iconst (v := nI 1) hx hb d_M_bothEnds_236 (by decide) ?_
                  refine n_sub hx hb (by omega) d_M_bothEnds_237 ?_
                  refine n_icmp_ge (tgt := 313) hx hb (by omega) (by omega) d_M_bothEnds_238 (by decide) (fun h5 => ?_) (fun h5 => ?_)
                  · refine lv_aload_n hx hb d_M_bothEnds_313 rfl (lv_at hl 2 rfl) ?_
                    refine g_get (C := R_M) (T := F_M) (N := 35) hx hb hts i_M hown hK hW (i := 400) (hdl 400 (by decide) (by decide)) ((wB_o (by decide)).trans h400) rfl 33 (by decide) (hts _ q_521) (fun _ h9 => h9) rfl d_M_bothEnds_314 ?_
                    refine lv_bipush (v := nI 12) hx hb d_M_bothEnds_317 (by decide) ?_
                    refine lv_iload_n hx hb d_M_bothEnds_319 rfl (lv_at hl 3 rfl) ?_
                    refine n_mul hx hb d_M_bothEnds_320 ?_
                    refine lv_iload_n hx hb d_M_bothEnds_321 rfl (lv_at hl 4 rfl) ?_
                    refine n_add hx hb d_M_bothEnds_322 ?_
                    refine lv_iload_n hx hb d_M_bothEnds_323 rfl (lv_at hl 1 rfl) ?_
                    refine lv_ldc hx hb hown (hts _ q_659) d_M_bothEnds_324 ?_
                    refine n_topi (show (1000000000 : Int32) = nI 1000000000 by decide) ?_
                    refine n_icmp_ge (tgt := 339) hx hb (by omega) (by omega) d_M_bothEnds_326 (by decide) (fun h8 => ?_) (fun h8 => ?_)
                    · omega
                    · refine lv_aload_n hx hb d_M_bothEnds_329 rfl (lv_at hl 2 rfl) ?_
                      refine lv_iload_n hx hb d_M_bothEnds_330 rfl (lv_at hl 3 rfl) ?_
                      refine lv_iload_n hx hb d_M_bothEnds_331 rfl (lv_at hl 4 rfl) ?_
                      refine lv_iconst (v := (-1)) hx hb d_M_bothEnds_332 (by decide) ?_
                      refine g_cVi (As := [.int (nI k), .int (nI z), .int (-1)]) (rest := [.int (nI ((12 * k) + z)), .ref (ad 425)]) ⟨hx, hb, hml, hown, hts⟩ (c_M_may l hdl ((wB_o (by decide)).trans h400) ((wB_o (by decide)).trans h408) ((wB_o (by decide)).trans h409) k z (-1) (by omega) (hsh k (by omega))) (gcwV 3 hts q_658 q_655 q_657 qs_12 q_9 (by decide +kernel) ⟨(Nat.le_of_ble_eq_true rfl), (Nat.le_of_ble_eq_true rfl)⟩) gNl_ok hN hK hW hS hA (hdl 400 (by decide) (by decide)) ((wB_o (by decide)).trans h400) rfl rfl hl.1 rfl (Nat.le_of_ble_eq_true rfl) d_M_bothEnds_333 ⟨Nat.zero_le _, Nat.zero_le _⟩ (fun r co9 H locs hp9 hW hS => ?_)
                      obtain ⟨rfl, hco9⟩ := hp9
                      rw [hco9] at hW
                      refine n_ifz_ne (tgt := 344) hx hb d_M_bothEnds_336 (by decide) (fun h9 => ?_) (fun h9 => ?_)
                      · refine lv_iload_n hx hb d_M_bothEnds_344 rfl (lv_at hl 1 rfl) ?_
                        refine lv_aload_n hx hb d_M_bothEnds_345 rfl (lv_at hl 2 rfl) ?_
                        refine g_get (C := R_M) (T := F_M) (N := 35) hx hb hts i_M hown hK hW (i := 400) (hdl 400 (by decide) (by decide)) ((wB_o (by decide)).trans h400) rfl 2 (by decide) (hts _ q_490) (fun _ h9 => h9) rfl d_M_bothEnds_346 ?_
                        refine lv_bipush (v := nI 10) hx hb d_M_bothEnds_349 (by decide) ?_
                        refine lv_iload_n hx hb d_M_bothEnds_351 rfl (lv_at hl 4 rfl) ?_
                        refine n_mul hx hb d_M_bothEnds_352 ?_
                        refine lv_aload_n hx hb d_M_bothEnds_353 rfl (lv_at hl 2 rfl) ?_
                        refine g_get (C := R_M) (T := F_M) (N := 35) hx hb hts i_M hown hK hW (i := 400) (hdl 400 (by decide) (by decide)) ((wB_o (by decide)).trans h400) rfl 7 (by decide) (hts _ q_495) (fun _ h9 => h9) rfl d_M_bothEnds_354 ?_
                        refine lv_iload_n hx hb d_M_bothEnds_357 rfl (lv_at hl 3 rfl) ?_
                        refine n_iald hx hb hK hW 0 (q := 406) (hdl 406 (by decide) (by decide)) ((wB_o (by decide)).trans h406) rfl (j := k) (by omega) (by omega) d_M_bothEnds_358 ?_
                        refine n_topi (show cls k = nI (cl k) from hck.1) ?_
                        refine n_add hx hb d_M_bothEnds_359 ?_
                        refine n_iald hx hb hK hW 0 (q := 402) (hdl 402 (by decide) (by decide)) ((wB_o (by decide)).trans h402) rfl (j := (10 * z) + (cl k)) (by omega) (by omega) d_M_bothEnds_360 ?_
                        refine n_topi (show fs ((10 * z) + (cl k)) = nI (sp z (cl k)) from hsp z (cl k) h2 hck.2) ?_
                        refine n_add hx hb d_M_bothEnds_361 ?_
                        refine n_iast (x := nI (0 + (sp z (cl k)))) hx hb hK hW hS 0 (q := 425) (hdl 425 (by decide) (by decide)) wB_425 rfl (j := (12 * k) + z) (by omega) (by omega) d_M_bothEnds_362 (fun H locs hW hS => ?_)
                        rw [wB_u425] at hW
                        refine n_iinc (lv' := [(2, .int (nI (z + 1))), (4, .int (nI 0)), (3, .int (nI 0)), (0, .ref (ad 400)), (1, .int (nI k))]) hx hb d_M_bothEnds_363 hl (k := 4) rfl (by decide) rfl (fun ls hl => ?_)
                        refine lv_goto (tgt := 194) hx hb d_M_bothEnds_366 (by decide) ?_
                        refine ih5 (z + 1) (upd G2 (12 * k + z) (nI (0 + sp z (cl k)))) _ _ ls (by omega) (by omega) (fun y b hy1 hy2 hb => ?_) (lt_s (fun b hb => ?_) ?_) hW hS (lv_sub hl [3, 4, 0] rfl)
                        · rw [pk_un (show 12 * y + b ≠ 12 * k + z by omega)]; exact hG2 y b hy1 hy2 hb
                        · rw [pk_un (show 12 * k + b ≠ 12 * k + z by omega)]; exact hG3 b hb
                        · rw [pk_us, h3, tgo_last hn0, ← h3, if_pos h9, Nat.zero_add]
                      · refine lv_ldc hx hb hown (hts _ q_659) d_M_bothEnds_339 ?_
                        refine n_topi (show (1000000000 : Int32) = nI 1000000000 by decide) ?_
                        refine lv_goto (tgt := 362) hx hb d_M_bothEnds_341 (by decide) ?_
                        refine n_iast (x := nI 1000000000) hx hb hK hW hS 0 (q := 425) (hdl 425 (by decide) (by decide)) wB_425 rfl (j := (12 * k) + z) (by omega) (by omega) d_M_bothEnds_362 (fun H locs hW hS => ?_)
                        rw [wB_u425] at hW
                        refine n_iinc (lv' := [(2, .int (nI (z + 1))), (4, .int (nI 0)), (3, .int (nI 0)), (0, .ref (ad 400)), (1, .int (nI k))]) hx hb d_M_bothEnds_363 hl (k := 4) rfl (by decide) rfl (fun ls hl => ?_)
                        refine lv_goto (tgt := 194) hx hb d_M_bothEnds_366 (by decide) ?_
                        refine ih5 (z + 1) (upd G2 (12 * k + z) (nI 1000000000)) _ _ ls (by omega) (by omega) (fun y b hy1 hy2 hb => ?_) (lt_s (fun b hb => ?_) ?_) hW hS (lv_sub hl [3, 4, 0] rfl)
                        · rw [pk_un (show 12 * y + b ≠ 12 * k + z by omega)]; exact hG2 y b hy1 hy2 hb
                        · rw [pk_un (show 12 * k + b ≠ 12 * k + z by omega)]; exact hG3 b hb
                        · rw [pk_us, tgo_big h9, hBIG]
                  · omega
    · have hck := hcl k h1
      refine lv_iconst (v := nI 0) hx hb d_M_bothEnds_10 (by decide) ?_
      refine lv_istore_n (lv' := [(2, .int (nI 0)), (0, .ref (ad 400)), (1, .int (nI k))]) hx hb d_M_bothEnds_11 rfl hl (by decide) rfl (fun ls hl => ?_)
      suffices hloop : ∀ (d2 z : Nat) (F2 : Nat → Int32) (H : Heap) (locs : List Loc) (ls : Array Slot), (z ≤ a) → (a + 1 ≤ z + d2) → (∀ y b, y < k → b < a → F2 (12 * y + b) = F (12 * y + b)) → (∀ b, b < z → F2 (12 * k + b) = nI (if (alw tr shp (-1)) k b then bfo a (alw tr shp (-1)) cl mv sp k b + sp b (cl k) else BIG)) → gW D gCl (gA ad co dl s.heap.size) ad (wB cI cJ co F2 g0) dl H → va_S (gA ad co dl s.heap.size) s.heap H locs → lv_has ls 6 [(0, .ref (ad 400)), (1, .int (nI k)), (2, .int (nI z))] → W pp l ee _ s mm _ below meth cd H locs 0 0 _ (F0 mm 12 ls []) by
        exact hloop (a + 1) 0 F _ _ ls (by omega) (by omega) (fun _ _ _ _ => rfl) (fun b h => absurd h (Nat.not_lt_zero b)) hW hS (lv_sub hl [1, 2, 0] rfl)
      clear hW hS hl
      intro d2
      induction d2 with
      | zero => intro z F2 H locs ls hz hd2 hF2 hF3; omega
      | succ d2 ih2 =>
        intro z F2 H locs ls hz hd2 hF2 hF3 hW hS hl
        refine lv_iload_n hx hb d_M_bothEnds_12 rfl (lv_at hl 2 rfl) ?_
        refine lv_aload_n hx hb d_M_bothEnds_13 rfl (lv_at hl 0 rfl) ?_
        refine g_get (C := R_M) (T := F_M) (N := 35) hx hb hts i_M hown hK hW (i := 400) (hdl 400 (by decide) (by decide)) ((wB_o (by decide)).trans h400) rfl 0 (by decide) (hts _ q_488) (fun _ h9 => h9) rfl d_M_bothEnds_14 ?_
        refine n_icmp_ge (tgt := 175) hx hb (by omega) (by omega) d_M_bothEnds_17 (by decide) (fun h2 => ?_) (fun h2 => ?_)
        · refine n_iinc (lv' := [(1, .int (nI (k + 1))), (0, .ref (ad 400)), (2, .int (nI z))]) hx hb d_M_bothEnds_175 hl (k := 1) rfl (by decide) rfl (fun ls hl => ?_)
          refine lv_goto (tgt := 2) hx hb d_M_bothEnds_178 (by decide) ?_
          have hza : z = a := by omega
          rw [hza] at hF3
          refine ih1 (k + 1) F2 _ _ ls (by omega) (by omega) (fun y b hy hb => ?_) hW hS (lv_sub hl [1, 0] rfl)
          by_cases hyk : y = k
          · subst hyk; exact hF3 b hb
          · rw [hF2 y b (by omega) hb]; exact hF y b (by omega) hb
        · have hbl := bfo_le hok k z h1 h2
          have hsz := hok.2.2.2.2.1 z k h2 h1
          refine lv_iload_n hx hb d_M_bothEnds_20 rfl (lv_at hl 1 rfl) ?_
          refine n_if_ne (tgt := 28) hx hb (by omega) d_M_bothEnds_21 (by decide) (fun h3 => ?_) (fun h3 => ?_)
          · obtain ⟨k0, hk0⟩ : ∃ v, k = v + 1 := ⟨k - 1, by omega⟩
            refine lv_ldc hx hb hown (hts _ q_659) d_M_bothEnds_28 ?_
            refine n_topi (show (1000000000 : Int32) = nI 1000000000 by decide) ?_
            refine lv_istore_n (lv' := [(3, .int (nI 1000000000)), (0, .ref (ad 400)), (1, .int (nI k)), (2, .int (nI z))]) hx hb d_M_bothEnds_30 rfl hl (by decide) rfl (fun ls hl => ?_)
            refine lv_iconst (v := nI 0) hx hb d_M_bothEnds_31 (by decide) ?_
            refine lv_istore (lv' := [(4, .int (nI 0)), (3, .int (nI 1000000000)), (0, .ref (ad 400)), (1, .int (nI k)), (2, .int (nI z))]) hx hb d_M_bothEnds_32 hl (by decide) rfl (fun ls hl => ?_)
            suffices hloop : ∀ (d3 x : Nat) (H : Heap) (locs : List Loc) (ls : Array Slot), (x ≤ a) → (a + 1 ≤ x + d3) → gW D gCl (gA ad co dl s.heap.size) ad (wB cI cJ co F2 g0) dl H → va_S (gA ad co dl s.heap.size) s.heap H locs → lv_has ls 6 [(0, .ref (ad 400)), (1, .int (nI k)), (2, .int (nI z)), (3, .int (nI (rmin ((alw tr shp (-1)) k0) (fun c => bfo a (alw tr shp (-1)) cl mv sp k0 c + sp c (cl k0) + mv c z) x))), (4, .int (nI x))] → W pp l ee _ s mm _ below meth cd H locs 0 0 _ (F0 mm 34 ls []) by
              exact hloop (a + 1) 0 _ _ ls (by omega) (by omega) hW hS (lv_sub hl [2, 3, 4, 1, 0] rfl)
            clear hW hS hl
            intro d3
            induction d3 with
            | zero => intro x H locs ls hx3 hd3; omega
            | succ d3 ih3 =>
              intro x H locs ls hx3 hd3 hW hS hl
              have hrb := rmin_le_big ((alw tr shp (-1)) k0) (fun c => bfo a (alw tr shp (-1)) cl mv sp k0 c + sp c (cl k0) + mv c z) x
              refine lv_iload hx hb d_M_bothEnds_34 (lv_at hl 4 rfl) ?_
              refine lv_aload_n hx hb d_M_bothEnds_36 rfl (lv_at hl 0 rfl) ?_
              refine g_get (C := R_M) (T := F_M) (N := 35) hx hb hts i_M hown hK hW (i := 400) (hdl 400 (by decide) (by decide)) ((wB_o (by decide)).trans h400) rfl 0 (by decide) (hts _ q_488) (fun _ h9 => h9) rfl d_M_bothEnds_37 ?_
              refine n_icmp_ge (tgt := 119) hx hb (by omega) (by omega) d_M_bothEnds_40 (by decide) (fun h4 => ?_) (fun h4 => ?_)
              · have hxa : x = a := by omega
                rw [hxa, show rmin ((alw tr shp (-1)) k0) (fun c => bfo a (alw tr shp (-1)) cl mv sp k0 c + sp c (cl k0) + mv c z) a = bfo a (alw tr shp (-1)) cl mv sp k z by rw [hk0]; rfl] at hl
                have hlt : bfo a (alw tr shp (-1)) cl mv sp k z < 1000000000 := by omega
                refine lv_aload_n hx hb d_M_bothEnds_119 rfl (lv_at hl 0 rfl) ?_
                refine g_get (C := R_M) (T := F_M) (N := 35) hx hb hts i_M hown hK hW (i := 400) (hdl 400 (by decide) (by decide)) ((wB_o (by decide)).trans h400) rfl 32 (by decide) (hts _ q_520) (fun _ h9 => h9) rfl d_M_bothEnds_120 ?_
                refine lv_bipush (v := nI 12) hx hb d_M_bothEnds_123 (by decide) ?_
                refine lv_iload_n hx hb d_M_bothEnds_125 rfl (lv_at hl 1 rfl) ?_
                refine n_mul hx hb d_M_bothEnds_126 ?_
                refine lv_iload_n hx hb d_M_bothEnds_127 rfl (lv_at hl 2 rfl) ?_
                refine n_add hx hb d_M_bothEnds_128 ?_
                refine lv_iload_n hx hb d_M_bothEnds_129 rfl (lv_at hl 3 rfl) ?_
                refine lv_ldc hx hb hown (hts _ q_659) d_M_bothEnds_130 ?_
                refine n_topi (show (1000000000 : Int32) = nI 1000000000 by decide) ?_
                refine n_icmp_ge (tgt := 145) hx hb (by omega) (by omega) d_M_bothEnds_132 (by decide) (fun h8 => ?_) (fun h8 => ?_)
                · omega
                · refine lv_aload_n hx hb d_M_bothEnds_135 rfl (lv_at hl 0 rfl) ?_
                  refine lv_iload_n hx hb d_M_bothEnds_136 rfl (lv_at hl 1 rfl) ?_
                  refine lv_iload_n hx hb d_M_bothEnds_137 rfl (lv_at hl 2 rfl) ?_
                  refine lv_iconst (v := (-1)) hx hb d_M_bothEnds_138 (by decide) ?_
                  refine g_cVi (As := [.int (nI k), .int (nI z), .int (-1)]) (rest := [.int (nI ((12 * k) + z)), .ref (ad 424)]) ⟨hx, hb, hml, hown, hts⟩ (c_M_may l hdl ((wB_o (by decide)).trans h400) ((wB_o (by decide)).trans h408) ((wB_o (by decide)).trans h409) k z (-1) (by omega) (hsh k h1)) (gcwV 3 hts q_658 q_655 q_657 qs_12 q_9 (by decide +kernel) ⟨(Nat.le_of_ble_eq_true rfl), (Nat.le_of_ble_eq_true rfl)⟩) gNl_ok hN hK hW hS hA (hdl 400 (by decide) (by decide)) ((wB_o (by decide)).trans h400) rfl rfl hl.1 rfl (Nat.le_of_ble_eq_true rfl) d_M_bothEnds_139 ⟨Nat.zero_le _, Nat.zero_le _⟩ (fun r co9 H locs hp9 hW hS => ?_)
                  obtain ⟨rfl, hco9⟩ := hp9
                  rw [hco9] at hW
                  refine n_ifz_ne (tgt := 150) hx hb d_M_bothEnds_142 (by decide) (fun h9 => ?_) (fun h9 => ?_)
                  · refine lv_iload_n hx hb d_M_bothEnds_150 rfl (lv_at hl 3 rfl) ?_
                    refine lv_aload_n hx hb d_M_bothEnds_151 rfl (lv_at hl 0 rfl) ?_
                    refine g_get (C := R_M) (T := F_M) (N := 35) hx hb hts i_M hown hK hW (i := 400) (hdl 400 (by decide) (by decide)) ((wB_o (by decide)).trans h400) rfl 2 (by decide) (hts _ q_490) (fun _ h9 => h9) rfl d_M_bothEnds_152 ?_
                    refine lv_bipush (v := nI 10) hx hb d_M_bothEnds_155 (by decide) ?_
                    refine lv_iload_n hx hb d_M_bothEnds_157 rfl (lv_at hl 2 rfl) ?_
                    refine n_mul hx hb d_M_bothEnds_158 ?_
                    refine lv_aload_n hx hb d_M_bothEnds_159 rfl (lv_at hl 0 rfl) ?_
                    refine g_get (C := R_M) (T := F_M) (N := 35) hx hb hts i_M hown hK hW (i := 400) (hdl 400 (by decide) (by decide)) ((wB_o (by decide)).trans h400) rfl 7 (by decide) (hts _ q_495) (fun _ h9 => h9) rfl d_M_bothEnds_160 ?_
                    refine lv_iload_n hx hb d_M_bothEnds_163 rfl (lv_at hl 1 rfl) ?_
                    refine n_iald hx hb hK hW 0 (q := 406) (hdl 406 (by decide) (by decide)) ((wB_o (by decide)).trans h406) rfl (j := k) (by omega) (by omega) d_M_bothEnds_164 ?_
                    refine n_topi (show cls k = nI (cl k) from hck.1) ?_
                    refine n_add hx hb d_M_bothEnds_165 ?_
                    refine n_iald hx hb hK hW 0 (q := 402) (hdl 402 (by decide) (by decide)) ((wB_o (by decide)).trans h402) rfl (j := (10 * z) + (cl k)) (by omega) (by omega) d_M_bothEnds_166 ?_
                    refine n_topi (show fs ((10 * z) + (cl k)) = nI (sp z (cl k)) from hsp z (cl k) h2 hck.2) ?_
                    refine n_add hx hb d_M_bothEnds_167 ?_
                    refine n_iast (x := nI ((bfo a (alw tr shp (-1)) cl mv sp k z) + (sp z (cl k)))) hx hb hK hW hS 0 (q := 424) (hdl 424 (by decide) (by decide)) wB_424 rfl (j := (12 * k) + z) (by omega) (by omega) d_M_bothEnds_168 (fun H locs hW hS => ?_)
                    rw [wB_u424] at hW
                    refine n_iinc (lv' := [(2, .int (nI (z + 1))), (0, .ref (ad 400)), (1, .int (nI k)), (3, .int (nI (bfo a (alw tr shp (-1)) cl mv sp k z))), (4, .int (nI a))]) hx hb d_M_bothEnds_169 hl (k := 2) rfl (by decide) rfl (fun ls hl => ?_)
                    refine lv_goto (tgt := 12) hx hb d_M_bothEnds_172 (by decide) ?_
                    refine ih2 (z + 1) (upd F2 (12 * k + z) (nI (bfo a (alw tr shp (-1)) cl mv sp k z + sp z (cl k)))) _ _ ls (by omega) (by omega) (fun y b hy hb => ?_) (lt_s (fun b hb => ?_) ?_) hW hS (lv_sub hl [1, 2, 0] rfl)
                    · rw [pk_un (show 12 * y + b ≠ 12 * k + z by omega)]; exact hF2 y b hy hb
                    · rw [pk_un (show 12 * k + b ≠ 12 * k + z by omega)]; exact hF3 b hb
                    · rw [pk_us, if_pos h9]
                  · refine lv_ldc hx hb hown (hts _ q_659) d_M_bothEnds_145 ?_
                    refine n_topi (show (1000000000 : Int32) = nI 1000000000 by decide) ?_
                    refine lv_goto (tgt := 168) hx hb d_M_bothEnds_147 (by decide) ?_
                    refine n_iast (x := nI 1000000000) hx hb hK hW hS 0 (q := 424) (hdl 424 (by decide) (by decide)) wB_424 rfl (j := (12 * k) + z) (by omega) (by omega) d_M_bothEnds_168 (fun H locs hW hS => ?_)
                    rw [wB_u424] at hW
                    refine n_iinc (lv' := [(2, .int (nI (z + 1))), (0, .ref (ad 400)), (1, .int (nI k)), (3, .int (nI (bfo a (alw tr shp (-1)) cl mv sp k z))), (4, .int (nI a))]) hx hb d_M_bothEnds_169 hl (k := 2) rfl (by decide) rfl (fun ls hl => ?_)
                    refine lv_goto (tgt := 12) hx hb d_M_bothEnds_172 (by decide) ?_
                    refine ih2 (z + 1) (upd F2 (12 * k + z) (nI 1000000000)) _ _ ls (by omega) (by omega) (fun y b hy hb => ?_) (lt_s (fun b hb => ?_) ?_) hW hS (lv_sub hl [1, 2, 0] rfl)
                    · rw [pk_un (show 12 * y + b ≠ 12 * k + z by omega)]; exact hF2 y b hy hb
                    · rw [pk_un (show 12 * k + b ≠ 12 * k + z by omega)]; exact hF3 b hb
                    · rw [pk_us, if_neg (by rw [h9]; decide), hBIG]
              · refine lv_iload_n hx hb d_M_bothEnds_43 rfl (lv_at hl 1 rfl) ?_
                refine n_if_le (tgt := 119) hx hb (by omega) d_M_bothEnds_44 (by decide) (fun h5 => ?_) (fun h5 => ?_)
                · omega
                · have hFx := (hF2 k0 x (by omega) h4).trans (hF k0 x (by omega) h4)
                  have hb0 := bfo_le hok k0 x (by omega) h4
                  have hs0 := hok.2.2.2.2.1 x k0 h4 (by omega)
                  have hm0 := hok.2.2.2.1 x z h4 h2
                  rw [show k0 = k - 1 by omega] at hFx
                  cases hal : (alw tr shp (-1)) k0 x with
                  | false =>
                    rw [show k - 1 = k0 by omega, hal] at hFx
                    rw [show k0 = k - 1 by omega] at hFx
                    refine lv_aload_n hx hb d_M_bothEnds_47 rfl (lv_at hl 0 rfl) ?_
                    refine g_get (C := R_M) (T := F_M) (N := 35) hx hb hts i_M hown hK hW (i := 400) (hdl 400 (by decide) (by decide)) ((wB_o (by decide)).trans h400) rfl 32 (by decide) (hts _ q_520) (fun _ h9 => h9) rfl d_M_bothEnds_48 ?_
                    refine lv_bipush (v := nI 12) hx hb d_M_bothEnds_51 (by decide) ?_
                    refine lv_iload_n hx hb d_M_bothEnds_53 rfl (lv_at hl 1 rfl) ?_
                    refine lv_iconst (v := nI 1) hx hb d_M_bothEnds_54 (by decide) ?_
                    refine n_sub hx hb (by omega) d_M_bothEnds_55 ?_
                    refine n_mul hx hb d_M_bothEnds_56 ?_
                    refine lv_iload hx hb d_M_bothEnds_57 (lv_at hl 4 rfl) ?_
                    refine n_add hx hb d_M_bothEnds_59 ?_
                    refine n_iald hx hb hK hW 0 (q := 424) (hdl 424 (by decide) (by decide)) wB_424 rfl (j := (12 * (k - 1)) + x) (by omega) (by omega) d_M_bothEnds_60 ?_
                    refine n_topi (show F2 ((12 * (k - 1)) + x) = nI 1000000000 from hFx) ?_
                    refine lv_ldc hx hb hown (hts _ q_659) d_M_bothEnds_61 ?_
                    refine n_topi (show (1000000000 : Int32) = nI 1000000000 by decide) ?_
                    refine n_icmp_lt (tgt := 71) hx hb (by omega) (by omega) d_M_bothEnds_63 (by decide) (fun h6 => ?_) (fun h6 => ?_)
                    · omega
                    · refine lv_ldc hx hb hown (hts _ q_659) d_M_bothEnds_66 ?_
                      refine n_topi (show (1000000000 : Int32) = nI 1000000000 by decide) ?_
                      refine lv_goto (tgt := 98) hx hb d_M_bothEnds_68 (by decide) ?_
                      refine lv_istore (lv' := [(5, .int (nI 1000000000)), (0, .ref (ad 400)), (1, .int (nI k)), (2, .int (nI z)), (3, .int (nI (rmin ((alw tr shp (-1)) k0) (fun c => bfo a (alw tr shp (-1)) cl mv sp k0 c + sp c (cl k0) + mv c z) x))), (4, .int (nI x))]) hx hb d_M_bothEnds_98 hl (by decide) rfl (fun ls hl => ?_)
                      refine lv_iload hx hb d_M_bothEnds_100 (lv_at hl 0 rfl) ?_
                      refine lv_iload_n hx hb d_M_bothEnds_102 rfl (lv_at hl 4 rfl) ?_
                      refine n_icmp_ge (tgt := 111) hx hb (by omega) (by omega) d_M_bothEnds_103 (by decide) (fun h7 => ?_) (fun h7 => ?_)
                      · refine lv_iload_n hx hb d_M_bothEnds_111 rfl (lv_at hl 4 rfl) ?_
                        refine n_topi (show nI (rmin ((alw tr shp (-1)) k0) (fun c => bfo a (alw tr shp (-1)) cl mv sp k0 c + sp c (cl k0) + mv c z) x) = nI (rmin ((alw tr shp (-1)) k0) (fun c => bfo a (alw tr shp (-1)) cl mv sp k0 c + sp c (cl k0) + mv c z) (x + 1)) from by rw [rmin_no hal]) ?_
                        refine lv_istore_n (lv' := [(3, .int (nI (rmin ((alw tr shp (-1)) k0) (fun c => bfo a (alw tr shp (-1)) cl mv sp k0 c + sp c (cl k0) + mv c z) (x + 1)))), (5, .int (nI 1000000000)), (0, .ref (ad 400)), (1, .int (nI k)), (2, .int (nI z)), (4, .int (nI x))]) hx hb d_M_bothEnds_112 rfl hl (by decide) rfl (fun ls hl => ?_)
                        refine n_iinc (lv' := [(4, .int (nI (x + 1))), (3, .int (nI (rmin ((alw tr shp (-1)) k0) (fun c => bfo a (alw tr shp (-1)) cl mv sp k0 c + sp c (cl k0) + mv c z) (x + 1)))), (5, .int (nI 1000000000)), (0, .ref (ad 400)), (1, .int (nI k)), (2, .int (nI z))]) hx hb d_M_bothEnds_113 hl (k := 5) rfl (by decide) rfl (fun ls hl => ?_)
                        refine lv_goto (tgt := 34) hx hb d_M_bothEnds_116 (by decide) ?_
                        exact ih3 (x + 1) _ _ ls (by omega) (by omega) hW hS (lv_sub hl [3, 4, 5, 1, 0] rfl)
                      · omega
                  | true =>
                    rw [show k - 1 = k0 by omega, hal] at hFx
                    rw [show k0 = k - 1 by omega] at hFx
                    rw [show k0 = k - 1 by omega] at hb0 hs0
                    refine lv_aload_n hx hb d_M_bothEnds_47 rfl (lv_at hl 0 rfl) ?_
                    refine g_get (C := R_M) (T := F_M) (N := 35) hx hb hts i_M hown hK hW (i := 400) (hdl 400 (by decide) (by decide)) ((wB_o (by decide)).trans h400) rfl 32 (by decide) (hts _ q_520) (fun _ h9 => h9) rfl d_M_bothEnds_48 ?_
                    refine lv_bipush (v := nI 12) hx hb d_M_bothEnds_51 (by decide) ?_
                    refine lv_iload_n hx hb d_M_bothEnds_53 rfl (lv_at hl 1 rfl) ?_
                    refine lv_iconst (v := nI 1) hx hb d_M_bothEnds_54 (by decide) ?_
                    refine n_sub hx hb (by omega) d_M_bothEnds_55 ?_
                    refine n_mul hx hb d_M_bothEnds_56 ?_
                    refine lv_iload hx hb d_M_bothEnds_57 (lv_at hl 4 rfl) ?_
                    refine n_add hx hb d_M_bothEnds_59 ?_
                    refine n_iald hx hb hK hW 0 (q := 424) (hdl 424 (by decide) (by decide)) wB_424 rfl (j := (12 * (k - 1)) + x) (by omega) (by omega) d_M_bothEnds_60 ?_
                    refine n_topi (show F2 ((12 * (k - 1)) + x) = nI (bfo a (alw tr shp (-1)) cl mv sp (k - 1) x + sp x (cl (k - 1))) from hFx) ?_
                    refine lv_ldc hx hb hown (hts _ q_659) d_M_bothEnds_61 ?_
                    refine n_topi (show (1000000000 : Int32) = nI 1000000000 by decide) ?_
                    refine n_icmp_lt (tgt := 71) hx hb (by omega) (by omega) d_M_bothEnds_63 (by decide) (fun h6 => ?_) (fun h6 => ?_)
                    · refine lv_aload_n hx hb d_M_bothEnds_71 rfl (lv_at hl 0 rfl) ?_
                      refine g_get (C := R_M) (T := F_M) (N := 35) hx hb hts i_M hown hK hW (i := 400) (hdl 400 (by decide) (by decide)) ((wB_o (by decide)).trans h400) rfl 32 (by decide) (hts _ q_520) (fun _ h9 => h9) rfl d_M_bothEnds_72 ?_
                      refine lv_bipush (v := nI 12) hx hb d_M_bothEnds_75 (by decide) ?_
                      refine lv_iload_n hx hb d_M_bothEnds_77 rfl (lv_at hl 1 rfl) ?_
                      refine lv_iconst (v := nI 1) hx hb d_M_bothEnds_78 (by decide) ?_
                      refine n_sub hx hb (by omega) d_M_bothEnds_79 ?_
                      refine n_mul hx hb d_M_bothEnds_80 ?_
                      refine lv_iload hx hb d_M_bothEnds_81 (lv_at hl 4 rfl) ?_
                      refine n_add hx hb d_M_bothEnds_83 ?_
                      refine n_iald hx hb hK hW 0 (q := 424) (hdl 424 (by decide) (by decide)) wB_424 rfl (j := (12 * (k - 1)) + x) (by omega) (by omega) d_M_bothEnds_84 ?_
                      refine n_topi (show F2 ((12 * (k - 1)) + x) = nI (bfo a (alw tr shp (-1)) cl mv sp (k - 1) x + sp x (cl (k - 1))) from hFx) ?_
                      refine lv_aload_n hx hb d_M_bothEnds_85 rfl (lv_at hl 0 rfl) ?_
                      refine g_get (C := R_M) (T := F_M) (N := 35) hx hb hts i_M hown hK hW (i := 400) (hdl 400 (by decide) (by decide)) ((wB_o (by decide)).trans h400) rfl 1 (by decide) (hts _ q_489) (fun _ h9 => h9) rfl d_M_bothEnds_86 ?_
                      refine lv_bipush (v := nI 12) hx hb d_M_bothEnds_89 (by decide) ?_
                      refine lv_iload hx hb d_M_bothEnds_91 (lv_at hl 4 rfl) ?_
                      refine n_mul hx hb d_M_bothEnds_93 ?_
                      refine lv_iload_n hx hb d_M_bothEnds_94 rfl (lv_at hl 2 rfl) ?_
                      refine n_add hx hb d_M_bothEnds_95 ?_
                      refine n_iald hx hb hK hW 0 (q := 401) (hdl 401 (by decide) (by decide)) ((wB_o (by decide)).trans h401) rfl (j := (12 * x) + z) (by omega) (by omega) d_M_bothEnds_96 ?_
                      refine n_topi (show fm ((12 * x) + z) = nI (mv x z) from hmv x z h4 h2) ?_
                      refine n_add hx hb d_M_bothEnds_97 ?_
                      refine lv_istore (lv' := [(5, .int (nI ((bfo a (alw tr shp (-1)) cl mv sp (k - 1) x + sp x (cl (k - 1))) + (mv x z)))), (0, .ref (ad 400)), (1, .int (nI k)), (2, .int (nI z)), (3, .int (nI (rmin ((alw tr shp (-1)) k0) (fun c => bfo a (alw tr shp (-1)) cl mv sp k0 c + sp c (cl k0) + mv c z) x))), (4, .int (nI x))]) hx hb d_M_bothEnds_98 hl (by decide) rfl (fun ls hl => ?_)
                      refine lv_iload hx hb d_M_bothEnds_100 (lv_at hl 0 rfl) ?_
                      refine lv_iload_n hx hb d_M_bothEnds_102 rfl (lv_at hl 4 rfl) ?_
                      refine n_icmp_ge (tgt := 111) hx hb (by omega) (by omega) d_M_bothEnds_103 (by decide) (fun h7 => ?_) (fun h7 => ?_)
                      · refine lv_iload_n hx hb d_M_bothEnds_111 rfl (lv_at hl 4 rfl) ?_
                        refine n_topi (show nI (rmin ((alw tr shp (-1)) k0) (fun c => bfo a (alw tr shp (-1)) cl mv sp k0 c + sp c (cl k0) + mv c z) x) = nI (rmin ((alw tr shp (-1)) k0) (fun c => bfo a (alw tr shp (-1)) cl mv sp k0 c + sp c (cl k0) + mv c z) (x + 1)) from by rw [rmin_ge hal (by show _ ≤ bfo a (alw tr shp (-1)) cl mv sp k0 x + sp x (cl k0) + mv x z; rw [show k0 = k - 1 by omega] at h7 ⊢; exact h7)]) ?_
                        refine lv_istore_n (lv' := [(3, .int (nI (rmin ((alw tr shp (-1)) k0) (fun c => bfo a (alw tr shp (-1)) cl mv sp k0 c + sp c (cl k0) + mv c z) (x + 1)))), (5, .int (nI ((bfo a (alw tr shp (-1)) cl mv sp (k - 1) x + sp x (cl (k - 1))) + (mv x z)))), (0, .ref (ad 400)), (1, .int (nI k)), (2, .int (nI z)), (4, .int (nI x))]) hx hb d_M_bothEnds_112 rfl hl (by decide) rfl (fun ls hl => ?_)
                        refine n_iinc (lv' := [(4, .int (nI (x + 1))), (3, .int (nI (rmin ((alw tr shp (-1)) k0) (fun c => bfo a (alw tr shp (-1)) cl mv sp k0 c + sp c (cl k0) + mv c z) (x + 1)))), (5, .int (nI ((bfo a (alw tr shp (-1)) cl mv sp (k - 1) x + sp x (cl (k - 1))) + (mv x z)))), (0, .ref (ad 400)), (1, .int (nI k)), (2, .int (nI z))]) hx hb d_M_bothEnds_113 hl (k := 5) rfl (by decide) rfl (fun ls hl => ?_)
                        refine lv_goto (tgt := 34) hx hb d_M_bothEnds_116 (by decide) ?_
                        exact ih3 (x + 1) _ _ ls (by omega) (by omega) hW hS (lv_sub hl [3, 4, 5, 1, 0] rfl)
                      · refine lv_iload hx hb d_M_bothEnds_106 (lv_at hl 0 rfl) ?_
                        refine lv_goto (tgt := 112) hx hb d_M_bothEnds_108 (by decide) ?_
                        refine n_topi (show nI ((bfo a (alw tr shp (-1)) cl mv sp (k - 1) x + sp x (cl (k - 1))) + (mv x z)) = nI (rmin ((alw tr shp (-1)) k0) (fun c => bfo a (alw tr shp (-1)) cl mv sp k0 c + sp c (cl k0) + mv c z) (x + 1)) from by rw [rmin_lt hal (by show bfo a (alw tr shp (-1)) cl mv sp k0 x + sp x (cl k0) + mv x z < _; rw [show k0 = k - 1 by omega] at h7 ⊢; exact h7), show k0 = k - 1 by omega]) ?_
                        refine lv_istore_n (lv' := [(3, .int (nI (rmin ((alw tr shp (-1)) k0) (fun c => bfo a (alw tr shp (-1)) cl mv sp k0 c + sp c (cl k0) + mv c z) (x + 1)))), (5, .int (nI ((bfo a (alw tr shp (-1)) cl mv sp (k - 1) x + sp x (cl (k - 1))) + (mv x z)))), (0, .ref (ad 400)), (1, .int (nI k)), (2, .int (nI z)), (4, .int (nI x))]) hx hb d_M_bothEnds_112 rfl hl (by decide) rfl (fun ls hl => ?_)
                        refine n_iinc (lv' := [(4, .int (nI (x + 1))), (3, .int (nI (rmin ((alw tr shp (-1)) k0) (fun c => bfo a (alw tr shp (-1)) cl mv sp k0 c + sp c (cl k0) + mv c z) (x + 1)))), (5, .int (nI ((bfo a (alw tr shp (-1)) cl mv sp (k - 1) x + sp x (cl (k - 1))) + (mv x z)))), (0, .ref (ad 400)), (1, .int (nI k)), (2, .int (nI z))]) hx hb d_M_bothEnds_113 hl (k := 5) rfl (by decide) rfl (fun ls hl => ?_)
                        refine lv_goto (tgt := 34) hx hb d_M_bothEnds_116 (by decide) ?_
                        exact ih3 (x + 1) _ _ ls (by omega) (by omega) hW hS (lv_sub hl [3, 4, 5, 1, 0] rfl)
                    · omega
          · refine lv_iconst (v := nI 0) hx hb d_M_bothEnds_24 (by decide) ?_
            refine lv_goto (tgt := 30) hx hb d_M_bothEnds_25 (by decide) ?_
            refine lv_istore_n (lv' := [(3, .int (nI 0)), (0, .ref (ad 400)), (1, .int (nI k)), (2, .int (nI z))]) hx hb d_M_bothEnds_30 rfl hl (by decide) rfl (fun ls hl => ?_)
            refine lv_iconst (v := nI 0) hx hb d_M_bothEnds_31 (by decide) ?_
            refine lv_istore (lv' := [(4, .int (nI 0)), (3, .int (nI 0)), (0, .ref (ad 400)), (1, .int (nI k)), (2, .int (nI z))]) hx hb d_M_bothEnds_32 hl (by decide) rfl (fun ls hl => ?_)
            refine lv_iload hx hb d_M_bothEnds_34 (lv_at hl 0 rfl) ?_
            refine lv_aload_n hx hb d_M_bothEnds_36 rfl (lv_at hl 2 rfl) ?_
            refine g_get (C := R_M) (T := F_M) (N := 35) hx hb hts i_M hown hK hW (i := 400) (hdl 400 (by decide) (by decide)) ((wB_o (by decide)).trans h400) rfl 0 (by decide) (hts _ q_488) (fun _ h9 => h9) rfl d_M_bothEnds_37 ?_
            refine n_icmp_ge (tgt := 119) hx hb (by omega) (by omega) d_M_bothEnds_40 (by decide) (fun h4 => ?_) (fun h4 => ?_)
            · omega
            · refine lv_iload_n hx hb d_M_bothEnds_43 rfl (lv_at hl 3 rfl) ?_
              refine n_if_le (tgt := 119) hx hb (by omega) d_M_bothEnds_44 (by decide) (fun h5 => ?_) (fun h5 => ?_)
              · have hl : lv_has ls 6 [(4, .int (nI 0)), (3, .int (nI (bfo a (alw tr shp (-1)) cl mv sp k z))), (0, .ref (ad 400)), (1, .int (nI k)), (2, .int (nI z))] := by rw [show bfo a (alw tr shp (-1)) cl mv sp k z = 0 by rw [h3]; rfl]; exact hl
                have hlt : bfo a (alw tr shp (-1)) cl mv sp k z < 1000000000 := by omega
                refine lv_aload_n hx hb d_M_bothEnds_119 rfl (lv_at hl 2 rfl) ?_
                refine g_get (C := R_M) (T := F_M) (N := 35) hx hb hts i_M hown hK hW (i := 400) (hdl 400 (by decide) (by decide)) ((wB_o (by decide)).trans h400) rfl 32 (by decide) (hts _ q_520) (fun _ h9 => h9) rfl d_M_bothEnds_120 ?_
                refine lv_bipush (v := nI 12) hx hb d_M_bothEnds_123 (by decide) ?_
                refine lv_iload_n hx hb d_M_bothEnds_125 rfl (lv_at hl 3 rfl) ?_
                refine n_mul hx hb d_M_bothEnds_126 ?_
                refine lv_iload_n hx hb d_M_bothEnds_127 rfl (lv_at hl 4 rfl) ?_
                refine n_add hx hb d_M_bothEnds_128 ?_
                refine lv_iload_n hx hb d_M_bothEnds_129 rfl (lv_at hl 1 rfl) ?_
                refine lv_ldc hx hb hown (hts _ q_659) d_M_bothEnds_130 ?_
                refine n_topi (show (1000000000 : Int32) = nI 1000000000 by decide) ?_
                refine n_icmp_ge (tgt := 145) hx hb (by omega) (by omega) d_M_bothEnds_132 (by decide) (fun h8 => ?_) (fun h8 => ?_)
                · omega
                · refine lv_aload_n hx hb d_M_bothEnds_135 rfl (lv_at hl 2 rfl) ?_
                  refine lv_iload_n hx hb d_M_bothEnds_136 rfl (lv_at hl 3 rfl) ?_
                  refine lv_iload_n hx hb d_M_bothEnds_137 rfl (lv_at hl 4 rfl) ?_
                  refine lv_iconst (v := (-1)) hx hb d_M_bothEnds_138 (by decide) ?_
                  refine g_cVi (As := [.int (nI k), .int (nI z), .int (-1)]) (rest := [.int (nI ((12 * k) + z)), .ref (ad 424)]) ⟨hx, hb, hml, hown, hts⟩ (c_M_may l hdl ((wB_o (by decide)).trans h400) ((wB_o (by decide)).trans h408) ((wB_o (by decide)).trans h409) k z (-1) (by omega) (hsh k h1)) (gcwV 3 hts q_658 q_655 q_657 qs_12 q_9 (by decide +kernel) ⟨(Nat.le_of_ble_eq_true rfl), (Nat.le_of_ble_eq_true rfl)⟩) gNl_ok hN hK hW hS hA (hdl 400 (by decide) (by decide)) ((wB_o (by decide)).trans h400) rfl rfl hl.1 rfl (Nat.le_of_ble_eq_true rfl) d_M_bothEnds_139 ⟨Nat.zero_le _, Nat.zero_le _⟩ (fun r co9 H locs hp9 hW hS => ?_)
                  obtain ⟨rfl, hco9⟩ := hp9
                  rw [hco9] at hW
                  refine n_ifz_ne (tgt := 150) hx hb d_M_bothEnds_142 (by decide) (fun h9 => ?_) (fun h9 => ?_)
                  · refine lv_iload_n hx hb d_M_bothEnds_150 rfl (lv_at hl 1 rfl) ?_
                    refine lv_aload_n hx hb d_M_bothEnds_151 rfl (lv_at hl 2 rfl) ?_
                    refine g_get (C := R_M) (T := F_M) (N := 35) hx hb hts i_M hown hK hW (i := 400) (hdl 400 (by decide) (by decide)) ((wB_o (by decide)).trans h400) rfl 2 (by decide) (hts _ q_490) (fun _ h9 => h9) rfl d_M_bothEnds_152 ?_
                    refine lv_bipush (v := nI 10) hx hb d_M_bothEnds_155 (by decide) ?_
                    refine lv_iload_n hx hb d_M_bothEnds_157 rfl (lv_at hl 4 rfl) ?_
                    refine n_mul hx hb d_M_bothEnds_158 ?_
                    refine lv_aload_n hx hb d_M_bothEnds_159 rfl (lv_at hl 2 rfl) ?_
                    refine g_get (C := R_M) (T := F_M) (N := 35) hx hb hts i_M hown hK hW (i := 400) (hdl 400 (by decide) (by decide)) ((wB_o (by decide)).trans h400) rfl 7 (by decide) (hts _ q_495) (fun _ h9 => h9) rfl d_M_bothEnds_160 ?_
                    refine lv_iload_n hx hb d_M_bothEnds_163 rfl (lv_at hl 3 rfl) ?_
                    refine n_iald hx hb hK hW 0 (q := 406) (hdl 406 (by decide) (by decide)) ((wB_o (by decide)).trans h406) rfl (j := k) (by omega) (by omega) d_M_bothEnds_164 ?_
                    refine n_topi (show cls k = nI (cl k) from hck.1) ?_
                    refine n_add hx hb d_M_bothEnds_165 ?_
                    refine n_iald hx hb hK hW 0 (q := 402) (hdl 402 (by decide) (by decide)) ((wB_o (by decide)).trans h402) rfl (j := (10 * z) + (cl k)) (by omega) (by omega) d_M_bothEnds_166 ?_
                    refine n_topi (show fs ((10 * z) + (cl k)) = nI (sp z (cl k)) from hsp z (cl k) h2 hck.2) ?_
                    refine n_add hx hb d_M_bothEnds_167 ?_
                    refine n_iast (x := nI ((bfo a (alw tr shp (-1)) cl mv sp k z) + (sp z (cl k)))) hx hb hK hW hS 0 (q := 424) (hdl 424 (by decide) (by decide)) wB_424 rfl (j := (12 * k) + z) (by omega) (by omega) d_M_bothEnds_168 (fun H locs hW hS => ?_)
                    rw [wB_u424] at hW
                    refine n_iinc (lv' := [(2, .int (nI (z + 1))), (4, .int (nI 0)), (3, .int (nI (bfo a (alw tr shp (-1)) cl mv sp k z))), (0, .ref (ad 400)), (1, .int (nI k))]) hx hb d_M_bothEnds_169 hl (k := 4) rfl (by decide) rfl (fun ls hl => ?_)
                    refine lv_goto (tgt := 12) hx hb d_M_bothEnds_172 (by decide) ?_
                    refine ih2 (z + 1) (upd F2 (12 * k + z) (nI (bfo a (alw tr shp (-1)) cl mv sp k z + sp z (cl k)))) _ _ ls (by omega) (by omega) (fun y b hy hb => ?_) (lt_s (fun b hb => ?_) ?_) hW hS (lv_sub hl [3, 4, 0] rfl)
                    · rw [pk_un (show 12 * y + b ≠ 12 * k + z by omega)]; exact hF2 y b hy hb
                    · rw [pk_un (show 12 * k + b ≠ 12 * k + z by omega)]; exact hF3 b hb
                    · rw [pk_us, if_pos h9]
                  · refine lv_ldc hx hb hown (hts _ q_659) d_M_bothEnds_145 ?_
                    refine n_topi (show (1000000000 : Int32) = nI 1000000000 by decide) ?_
                    refine lv_goto (tgt := 168) hx hb d_M_bothEnds_147 (by decide) ?_
                    refine n_iast (x := nI 1000000000) hx hb hK hW hS 0 (q := 424) (hdl 424 (by decide) (by decide)) wB_424 rfl (j := (12 * k) + z) (by omega) (by omega) d_M_bothEnds_168 (fun H locs hW hS => ?_)
                    rw [wB_u424] at hW
                    refine n_iinc (lv' := [(2, .int (nI (z + 1))), (4, .int (nI 0)), (3, .int (nI (bfo a (alw tr shp (-1)) cl mv sp k z))), (0, .ref (ad 400)), (1, .int (nI k))]) hx hb d_M_bothEnds_169 hl (k := 4) rfl (by decide) rfl (fun ls hl => ?_)
                    refine lv_goto (tgt := 12) hx hb d_M_bothEnds_172 (by decide) ?_
                    refine ih2 (z + 1) (upd F2 (12 * k + z) (nI 1000000000)) _ _ ls (by omega) (by omega) (fun y b hy hb => ?_) (lt_s (fun b hb => ?_) ?_) hW hS (lv_sub hl [3, 4, 0] rfl)
                    · rw [pk_un (show 12 * y + b ≠ 12 * k + z by omega)]; exact hF2 y b hy hb
                    · rw [pk_un (show 12 * k + b ≠ 12 * k + z by omega)]; exact hF3 b hb
                    · rw [pk_us, if_neg (by rw [h9]; decide), hBIG]
              · omega
