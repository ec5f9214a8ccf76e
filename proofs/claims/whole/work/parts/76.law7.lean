/-- what the program holds reads no address from 400 on -/
theorem kOS_ad {cI cJ cG : ClassId} {ad ad9 : Nat → Nat} {co : Nat → va_E} {a : Nat} {S : lSt} (ha : a ≤ 12) (q : ∀ j, j < 400 → ad9 j = ad j) (hk : kOS cI cJ cG ad co a S) : kOS cI cJ cG ad9 co a S := by
  obtain ⟨w0, w1, w2, w3, w4, w5, w6, w25, w26, w27, w28, w29, w30, w31, w32, w33, w34, k1, k2, k3, k4⟩ := hk
  have hG : ∀ n base, base + n ≤ 400 → oG ad cG n base = oG ad9 cG n base := fun n base hb => oG_eq (fun i hi => q _ (by omega))
  obtain ⟨c7, c8, c9, c10, c11, c12, c13, c14, c15, c18, zz, c19, hzz⟩ := k1
  obtain ⟨fc, xx, yy, fl, g20, g21, G, MF, SF, MC, SC, e0, e1, e2, e3, e4, e5, e6, e7, e8, e9⟩ := k2
  obtain ⟨l1, l2, l3⟩ := k4
  have e1' : co 16 = oF ad9 fc a xx yy := by
    rcases e0 with ⟨rfl, rfl⟩ | ⟨rfl, rfl⟩
    · exact e1.trans (by simp only [oF, q 17 (by decide), q 18 (by decide), q 19 (by decide), q 20 (by decide), q 21 (by decide)])
    · exact e1.trans (by simp only [oF, q 17 (by decide), q 18 (by decide), q 19 (by decide), q 20 (by decide), q 21 (by decide)])
  exact ⟨w0.trans (by simp only [oK, q 1 (by decide), q 7 (by decide), q 10 (by decide), q 13 (by decide), q 16 (by decide), q 22 (by decide), q 25 (by decide), q 29 (by decide), q 34 (by decide)]), w1.trans (by simp only [oT, q 2 (by decide), q 3 (by decide), q 4 (by decide), q 5 (by decide), q 6 (by decide)]), w2, w3, w4, w5, w6, w25.trans (by simp only [oP, q 26 (by decide), q 27 (by decide), q 28 (by decide)]), w26, w27, w28, w29.trans (by simp only [oC, q 30 (by decide), q 31 (by decide), q 32 (by decide), q 33 (by decide)]), w30, w31, w32, w33, w34, ⟨c7.trans (by simp only [oB, q 8 (by decide), q 9 (by decide)]), c8.trans (hG _ _ (by omega)), c9.trans (hG _ _ (by omega)), c10.trans (by simp only [oB, q 11 (by decide), q 12 (by decide)]), c11.trans (hG _ _ (by omega)), c12.trans (hG _ _ (by omega)), c13.trans (by simp only [oB, q 14 (by decide), q 15 (by decide)]), c14.trans (hG _ _ (by omega)), c15.trans (hG _ _ (by omega)), c18.trans (hG _ _ (by omega)), zz, c19, hzz⟩, ⟨fc, xx, yy, fl, g20, g21, G, MF, SF, MC, SC, e0, e1', e2, e3, e4, e5, e6, e7, e8, e9⟩, k3, ⟨l1.trans (by simp only [oN, q 23 (by decide), q 24 (by decide)]), l2, l3⟩⟩
def lS0 : lSt := lMk 0 0 0 0 0 0 0 0 (fun _ _ => 0) (fun _ _ => 0) (fun _ => 0) (fun _ => nI 0) (fun _ => nI 0) (fun _ => nI 0) (fun _ => nI 0) (fun _ => 0) (fun _ => 0) (fun _ => 0) (fun _ => nI 0) (fun _ => nI 0) (fun _ => nI 0) (fun _ => nI 0) (fun _ => 0) (fun _ => nI 0) (fun _ => nI 0) (fun _ => 0)
theorem lS0_ok {a : Nat} (h1 : 1 ≤ a) (h2 : a ≤ 12) : lOk a lS0 :=
  ⟨h1, h2, Nat.zero_le _, Nat.zero_le _, Nat.zero_le _, Nat.zero_le _, by decide, Nat.zero_le _, by decide, fun k hk => absurd hk (Nat.not_lt_zero k), fun k hk => absurd hk (Nat.not_lt_zero k), fun k hk => absurd hk (Nat.not_lt_zero k), fun _ _ _ _ => Nat.zero_le _, fun _ _ _ _ => Nat.zero_le _, fun i hi => absurd hi (Nat.not_lt_zero i)⟩
/-! THE CLAIM OUT OF ONE WALK OF THE LAW'S BODY. Your part is whole_start (and what it stands on); all else here is the same for every law, but numbers. -/
def R_law : String := "ActChainsLaw"
def lw_P (b : Addr) (xs : List Int32) (args : Array Value) (s : State) : Prop := args = #[.ref b] ∧ s.IntsAt b xs ∧ xs.length ≤ 3073 ∧ (Jvm.Cond.and given_1 narrow_1).before args s = true
def lw_Q (_ : Array Value) (s : State) (o : Outcome) (t : State) : Prop := o = .returned (some (.int 1)) ∧ Framed s o t [] 600000 7302250
def lw_Z (below : List Frame) (a : Array Value) (s : State) : State → Prop := fun t => ∃ o, t.status = .running ∧ Ended t below o ∧ lw_Q a s o t
/-- the law's own end, with 1 on the stack, nothing written that was there before, its room as the claim has it -/
theorem lw_ret {p : Program} {l : Launch} {e : Env} {s : State} {m : MethodId} {below : List Frame} {meth : Method} {c : Code} {b : Nat} (hx : p.tables.exec = Jvm.exec) (hb : c.code = code) (hr : meth.sig.returnType = ret) (hlocks : meth.locks = false) {pc : Nat} {H : Heap} {ls : Array Slot} (hdg : decode code pc = .ok (.ireturn, 1)) : W p l e room_1 s m #[Value.ref b] below meth c H [] 600000 7302250 (lw_Z below #[Value.ref b] s) (F0 m pc ls [.int 1]) := by
  intro T hT X
  obtain ⟨fs, hret, hrun, hended, hW, hframe⟩ := X.leave (v := some (.int 1)) (hlocks := hlocks) (fun h => by rw [hr] at h; cases h)
  have hmeth' : T.vm.method? m = some meth := X.method'
  refine ⟨T.setFrames fs, ?_, .returned (some (.int 1)), hrun, hended, rfl, ⟨_, rfl⟩, hW, hframe⟩
  jvm_step X.here [X.here.top, hx, hb, hdg, hmeth', hr, ret, narrow_b1]
  (try refine ⟨rfl, ?_⟩); (try refine ⟨rfl, ?_⟩)
  first | (intro acts; rw [hret _ acts rfl rfl rfl]) | rw [hret _ _ rfl rfl rfl]
  exact Steps.refl _
/-- what holds at the law's entry: the machine, the code, the tables' words (any of lw_tbl by 'hts w (by decide +kernel)'), the script of L ints xs at the cell b, what the Statement gives of the start (any of its parts by flat_of_before) -/
def lw_At (p : Program) (s : State) (m : MethodId) (meth : Method) (c : Code) (b L : Nat) (xs : Nat → Int32) : Prop :=
  p.tables.exec = Jvm.exec ∧ c.code = code ∧ meth.sig.returnType = ret ∧ c.maxLocals = 4 ∧ s.vm.findClass R_law = some m.cls ∧ (∀ w ∈ lw_tbl, w.before #[Value.ref b] s = true) ∧ va_X b L xs s s.heap ∧ b < s.heap.size ∧ meth.locks = false ∧ (Jvm.Cond.and given_1 narrow_1).before #[Value.ref b] s = true
set_option maxHeartbeats 4000000 in
set_option maxRecDepth 100000 in
theorem lw_known {s : State} {b : Nat} (hts : ∀ w ∈ wA, w.before #[Value.ref b] s = true) (hov : (Cond.arrayOver (.array .int)).before #[Value.ref b] s = true) : ∃ (D : va_G) (cI cJ cG : ClassId), va_K D gCl (gTy cI cJ cG) s := by
  obtain ⟨c0, iS0, hKn0⟩ := u_known (C := R_C) (T := F_C) (N := 5) (n := 5) hts i_C (hts _ q_158)
  obtain ⟨c1, iS1, hKn1⟩ := u_known (C := R_N) (T := F_N) (N := 4) (n := 4) hts i_N (hts _ q_115)
  obtain ⟨c2, iS2, hKn2⟩ := u_known (C := R_F) (T := F_F) (N := 7) (n := 7) hts i_F (hts _ q_82)
  obtain ⟨c3, iS3, hKn3⟩ := u_known (C := R_P) (T := F_P) (N := 4) (n := 4) hts i_P (hts _ q_138)
  obtain ⟨c4, iS4, hKn4⟩ := u_known (C := R_B) (T := F_B) (N := 2) (n := 2) hts i_B (hts _ q_63)
  obtain ⟨c5, iS5, hKn5⟩ := u_known (C := R_T) (T := F_T) (N := 6) (n := 6) hts i_T (hts _ q_27)
  obtain ⟨c6, iS6, hKn6⟩ := u_known (C := R_K) (T := F_K) (N := 13) (n := 13) hts i_K (hts _ q_13)
  obtain ⟨c7, iS7, hKn7⟩ := u_known (C := R_M) (T := F_M) (N := 35) (n := 35) hts i_M (hts _ q_483)
  obtain ⟨cI, kI, pI, fI, gI, eI⟩ := Cond.arrayClass_spec (hts _ q_61)
  obtain ⟨cJ, kJ, pJ, fJ, gJ, eJ⟩ := Cond.arrayClass_spec (hts _ q_60)
  obtain ⟨pG, cG, kG, f1, gG, eG, fG⟩ := Cond.arrayOver_specA hov
  refine ⟨(fun k => match k with | 0 => c0 | 1 => c1 | 2 => c2 | 3 => c3 | 4 => c4 | 5 => c5 | 6 => c6 | _ => c7, fun k => match k with | 0 => iS0 | 1 => iS1 | 2 => iS2 | 3 => iS3 | 4 => iS4 | 5 => iS5 | 6 => iS6 | _ => iS7), cI, cJ, cG, ?_, ?_⟩
  · intro k q hq
    match k, hq with
    | 0, hq => cases hq; exact hKn0
    | 1, hq => cases hq; exact hKn1
    | 2, hq => cases hq; exact hKn2
    | 3, hq => cases hq; exact hKn3
    | 4, hq => cases hq; exact hKn4
    | 5, hq => cases hq; exact hKn5
    | 6, hq => cases hq; exact hKn6
    | 7, hq => cases hq; exact hKn7
    | k + 8, hq => simp [gCl] at hq
  · intro k q hq
    match k, hq with
    | 0, hq => cases hq; exact ⟨fun N z => ⟨(fun k h => by cases h), kI, gI, pI, eI⟩, fI⟩
    | 1, hq => cases hq; exact ⟨fun N z => ⟨(fun k h => by cases h), kJ, gJ, pJ, eJ⟩, fJ⟩
    | 2, hq => cases hq; exact ⟨fun N z => ⟨(fun k h => by cases h), kG, gG, pG, eG⟩, fG⟩
    | k + 3, hq => simp [gTy] at hq
set_option maxHeartbeats 4000000 in
set_option maxRecDepth 100000 in
/-- THE LAW, from its entry -/
theorem whole_start {p : Program} {e : Env} {s : State} {m : MethodId} {below : List Frame} {meth : Method} {c : Code} (l : Launch) {b L : Nat} {xs : Nat → Int32} (hL : L ≤ 3073) (C0 : lw_At p s m meth c b L xs) : W p l e room_1 s m #[Value.ref b] below meth c s.heap [] 0 0 (lw_Z below #[Value.ref b] s) (entryFrame m ([Value.ref b] : List Value).toArray 4) := by
  obtain ⟨hx, hb, hr, hml, hown, hts0, hX, hbl, hlocks, hgv⟩ := id C0
  have hown : s.vm.findClass R_L = some m.cls := hown
  have hts : ∀ w ∈ wA, w.before #[Value.ref b] s = true := fun w h => hts0 w (List.mem_filter.mp h).1
  have hA : ∀ q : Nat, s.heap.size ≤ q → lA s q := fun _ h => h
  have hbA : ¬ lA s b := Nat.not_le.mpr hbl
  have hN : gN gNl s := by
    intro w hw
    have h1 := hts0 w (List.mem_append_right _ (List.mem_filter.mp hw).1)
    rcases gNl_ok w hw with ⟨_, _, _, _, _, _, rfl⟩ | ⟨_, _, _, _, rfl⟩
    · exact va_Nw.of rfl h1
    · exact va_Nw.of rfl h1
  have hov : (Cond.arrayOver (.array .int)).before #[Value.ref b] s = true := hts0 _ (List.mem_append_right _ (List.mem_of_getElem? (i := 69) rfl))
  have hO : va_AOA .int s := over_moved (a := #[Value.ref b]) (a' := #[]) (Vm.Alike.refl s.vm) hov
  obtain ⟨D, cI, cJ, cG, hK⟩ := lw_known hts hov
  have hS : va_S (lA s) s.heap s.heap [] := va_S.rf
  have hW : gW D gCl (lA s) (fun _ => 0) (fun _ => .inr (0, [])) [] s.heap := ⟨fun k q h => by simp [gw] at h, fun i j p q h => by simp [gw] at h, fun k q h => by simp [gw] at h⟩
  have hl := lv_entry ([.ref b]) (n := 4) (Nat.le_of_ble_eq_true rfl)
  rw [lg_entry_eq]
  generalize (lg_sl ([.ref b]) ++ List.replicate (4 - (lg_sl ([.ref b])).length) Slot.unset).toArray = ls at hl ⊢
  have hl : lv_has ls 4 [(0, .ref b)] := hl
  refine g_new (ci := 6) (fs := [.int (nI 0), .null, .null, .null, .null, .null, .null, .null, .null, .null, .int (nI 0), .int (nI 0), .int (nI 0)]) (C := R_K) (T := F_K) (N := 13) hx hb hts i_K fy_K fy_K_ok hown (hts _ q_12) (hts _ q_13) (hts _ q_1) hK hW hS hA (i := 0) List.not_mem_nil rfl dfs_K (Nat.le_of_ble_eq_true rfl) (Nat.le_of_ble_eq_true rfl) d_L_law_0 (fun q0 ad0 co0 H hq0 ga0 gc0 gn0 hW hS => ?_)
  refine lv_dup hx hb d_L_law_3 rfl ?_
  refine lv_aload_n hx hb d_L_law_4 rfl (lv_at hl 0 rfl) ?_
  refine lv_iconst (v := nI 0) hx hb d_L_law_5 (by decide) ?_
  refine l_cell ⟨hx, hb, hml, hown, hts⟩ hX hbl hbA 0 (by decide) (by omega) (gcwS 2 hts q_481 q_479 q_480 q_0 (by decide +kernel) ⟨(Nat.le_of_ble_eq_true rfl), (Nat.le_of_ble_eq_true rfl)⟩) hN hK hW hS hA hl.1 (Nat.le_of_ble_eq_true rfl) d_L_law_6 ⟨(Nat.le_of_ble_eq_true rfl), (Nat.le_of_ble_eq_true rfl)⟩ (fun H locs hW hS => ?_)
  obtain ⟨v0, hv0⟩ : ∃ v : Int32, v = (if 0 < L then xs 0 else nI 0) := ⟨_, rfl⟩
  rw [← hv0]
  have hax := clA_ok v0
  refine g_cI (As := [.int v0]) (rest := [.ref q0]) ⟨hx, hb, hml, hown, hts⟩ (c_K_init l v0 (fun j h1 h2 h3 => by rw [mem1] at h3; rcases h3 with h3 | h3; exact List.not_mem_nil h3; omega) (mem1.mpr (Or.inr rfl)) gn0) (gcwI 1 hts q_16 q_14 q_15 q_1 rfl (by decide +kernel) ⟨(Nat.le_of_ble_eq_true rfl), (Nat.le_of_ble_eq_true rfl)⟩) gNl_ok hN hK hO hW hS hA hq0 rfl hl.1 rfl (Nat.le_of_ble_eq_true rfl) d_L_law_9 ⟨(Nat.le_of_ble_eq_true rfl), (Nat.le_of_ble_eq_true rfl)⟩ (fun ad1 co1 H locs hp1 hW hS => ?_)
  obtain ⟨hp10, hp11, hp12⟩ := hp1
  have hmem : ∀ j, j ∈ kDl ([] ++ [0]) (clA v0) ↔ j = 0 ∨ (kD (clA v0) j ∧ j ≠ 0) := fun j => (kDl_mem hax.2).trans (by rw [mem1]; simp)
  have hkD4 : ∀ j, 400 ≤ j → ¬ kD (clA v0) j := fun j hj h => by unfold kD at h; omega
  refine lv_astore_n (lv' := [(1, .ref q0), (0, .ref b)]) hx hb d_L_law_12 rfl hl (by decide) rfl (fun ls hl => ?_)
  refine g_new (ci := 7) (fs := [.int (nI 0), .null, .null, .null, .null, .int (nI 0), .null, .null, .null, .null, .null, .int (nI 0), .int (nI 0), .null, .null, .null, .int (nI 0), .null, .null, .null, .null, .int (nI 0), .int (nI 0), .null, .int (nI 0), .null, .int (nI 0), .null, .null, .null, .null, .null, .null, .null, .null]) (C := R_M) (T := F_M) (N := 35) hx hb hts i_M fy_M fy_M_ok hown (hts _ q_482) (hts _ q_483) (hts _ q_9) hK hW hS hA (i := 400) (fun h => by rw [hmem] at h; rcases h with h | h; exact absurd h (by decide); exact hkD4 400 (by decide) h.1) rfl dfs_M (Nat.le_of_ble_eq_true rfl) (Nat.le_of_ble_eq_true rfl) d_L_law_13 (fun q2 ad2 co2 H hq2 ga2 gc2 gn2 hW hS => ?_)
  refine lv_dup hx hb d_L_law_16 rfl ?_
  refine lv_aload_n hx hb d_L_law_17 rfl (lv_at hl 1 rfl) ?_
  refine lv_iconst (v := nI 0) hx hb d_L_law_18 (by decide) ?_
  refine l_cell ⟨hx, hb, hml, hown, hts⟩ hX hbl hbA 0 (by decide) (by omega) (gcwS 2 hts q_481 q_479 q_480 q_0 (by decide +kernel) ⟨(Nat.le_of_ble_eq_true rfl), (Nat.le_of_ble_eq_true rfl)⟩) hN hK hW hS hA hl.1 (Nat.le_of_ble_eq_true rfl) d_L_law_19 ⟨(Nat.le_of_ble_eq_true rfl), (Nat.le_of_ble_eq_true rfl)⟩ (fun H locs hW hS => ?_)
  rw [← hv0]
  refine g_cI (As := [.int v0]) (rest := [.ref q2]) ⟨hx, hb, hml, hown, hts⟩ (c_M_init l v0 (fun j h1 h2 h3 h4 => by rw [mem1, hmem] at h4; rcases h4 with (h4 | h4) | h4; omega; exact hkD4 j h1 h4.1; exact h3 h4) (mem1.mpr (Or.inr rfl)) gn2) (gcwI 1 hts q_486 q_484 q_485 q_9 rfl (by decide +kernel) ⟨(Nat.le_of_ble_eq_true rfl), (Nat.le_of_ble_eq_true rfl)⟩) gNl_ok hN hK hO hW hS hA hq2 rfl hl.1 rfl (Nat.le_of_ble_eq_true rfl) d_L_law_22 ⟨(Nat.le_of_ble_eq_true rfl), (Nat.le_of_ble_eq_true rfl)⟩ (fun ad3 co3 H locs hp3 hW hS => ?_)
  obtain ⟨hp30, hp31, w400, w401, w402, w403, w404, w405, w406, w407, w408, w409, w410, w411, w412, w413, w414, w415, w416, w417, w418, w419, w420, w421, w422, w423, w424, w425, w426⟩ := hp3
  have hlo : ∀ j, j < 400 → ad3 j = ad1 j ∧ co3 j = co1 j := fun j hj => ⟨(hp30 j (by omega)).1.trans (ga2 j (by omega)), (hp30 j (by omega)).2.trans (gc2 j (by omega))⟩
  have ha0 : q0 = ad3 0 := hq0.symm.trans (hp11.symm.trans (hlo 0 (by decide)).1.symm)
  have ha4 : q2 = ad3 400 := hq2.symm.trans hp31.symm
  have hk1 : kOS cI cJ cG ad1 co1 (clA v0) lS0 := by
    have e1 : (-1 : Int32) = nI 0 - nI 1 := by decide
    rw [e1] at hp12
    exact hp12
  have hk3 : kOS cI cJ cG ad3 co3 (clA v0) lS0 := kOS_ad hax.2 (fun j hj => (hlo j hj).1) (kOS_tr hax.2 (fun j hj => (hlo j hj).2) hk1)
  have hm3 : mOS cI cJ ad3 co3 (clA v0) lS0 := ⟨w400, w405, w406, w407, w408, w409, w410, w411, w412, w413, w414, w415, w416, w417, w418, w419, ⟨_, _, w401, w402, fun _ _ _ _ => rfl, fun _ _ _ _ => rfl⟩, _, _, _, _, _, _, _, _, _, w403, w404, w420, w421, w422, w423, w424, w425, w426⟩
  refine lv_astore_n (lv' := [(2, .ref q2), (1, .ref q0), (0, .ref b)]) hx hb d_L_law_25 rfl hl (by decide) rfl (fun ls hl => ?_)
  refine lv_iconst (v := nI 1) hx hb d_L_law_26 (by decide) ?_
  refine lv_istore_n (lv' := [(3, .int (nI 1)), (2, .ref q2), (1, .ref q0), (0, .ref b)]) hx hb d_L_law_27 rfl hl (by decide) rfl (fun ls hl => ?_)
  rw [ha0, ha4] at hl
  refine W.widen (k := 600000) (n := 7302250) (by decide) (by decide) ?_
  refine law_loop (cells := 600000) (slots := 7302250) ⟨hx, hb, hml, hown, hts, hX, hbl, hK, hN⟩ ?_ ?_ hL ⟨(Nat.le_of_ble_eq_true rfl), (Nat.le_of_ble_eq_true rfl)⟩ (fun H locs ls hS => ?_) (L + 2) 1 co3 lS0 H locs ls (by omega) (by omega) (lS0_ok hax.1 hax.2) hk3 hm3 hW hS (lv_sub hl [3, 2, 1, 0] rfl)
  · intro j hj
    simp only [mem1]
    have h1 : j ∈ kDl ([] ++ [0]) (clA v0) := (hmem j).mpr (by by_cases h0 : j = 0; exact Or.inl h0; exact Or.inr ⟨hj, h0⟩)
    simp only [h1, true_or]
  · intro j h1 h2
    simp only [mem1]
    have h3 : j = 400 ∨ j = 401 ∨ j = 402 ∨ j = 403 ∨ j = 404 ∨ j = 405 ∨ j = 406 ∨ j = 407 ∨ j = 408 ∨ j = 409 ∨ j = 410 ∨ j = 411 ∨ j = 412 ∨ j = 413 ∨ j = 414 ∨ j = 415 ∨ j = 416 ∨ j = 417 ∨ j = 418 ∨ j = 419 ∨ j = 420 ∨ j = 421 ∨ j = 422 ∨ j = 423 ∨ j = 424 ∨ j = 425 ∨ j = 426 := by omega
    simp only [or_assoc]
    exact Or.inr h3
  · refine lv_iconst (v := 1) hx hb d_L_law_927 (by decide) ?_
    refine va_forget (fun q hq => hS.2.2 q hq) ?_
    exact lw_ret hx hb hr hlocks d_L_law_928
