/-! THE LAW: the script's rows -/
section LRW
variable {p : Program} {l : Launch} {e : Env} {R : Room} {s : State} {m : MethodId} {args : Array Value} {below : List Frame} {meth : Method} {c : Code} {H : Heap} {locs : List Loc} {cells slots : Nat} {Q : State → Prop}
variable {cc : ByteArray} {pc : Nat} {ls : Array Slot} {rest : List Value} {A : Nat → Prop} {H0 : Heap}
theorem l_sld (hexec : p.tables.exec = Jvm.exec) (hb : c.code = cc) {b L : Nat} {xs : Nat → Int32} (hX : va_X b L xs s H0) (hbl : b < H0.size) (hbA : ¬ A b) (hS : va_S A H0 H locs) {j : Nat} (hj : j < L) (hL : L < 2 ^ 31) (hdg : decode cc pc = .ok (.iaload, 1))
    (kk : W p l e R s m args below meth c H locs cells slots Q (F0 m (pc + 1) ls (.int (xs j) :: rest))) : W p l e R s m args below meth c H locs cells slots Q (F0 m pc ls (.int (nI j) :: .ref b :: rest)) :=
  va_sld hexec hb hX hbl hbA hS (vp_in_nI hj hL) hdg (by rw [nI_clamp (Nat.lt_trans hj hL)]; exact kk)
theorem l_slen (hexec : p.tables.exec = Jvm.exec) (hb : c.code = cc) {b L : Nat} {xs : Nat → Int32} (hX : va_X b L xs s H0) (hbl : b < H0.size) (hbA : ¬ A b) (hS : va_S A H0 H locs) (hdg : decode cc pc = .ok (.arraylength, 1))
    (kk : W p l e R s m args below meth c H locs cells slots Q (F0 m (pc + 1) ls (.int (nI L) :: rest))) : W p l e R s m args below meth c H locs cells slots Q (F0 m pc ls (.ref b :: rest)) :=
  va_slen hexec hb hX hbl hbA hS hdg kk
end LRW
def gPreX (D : va_G) (cl : List vw_C) (tys : List (ClassId × FieldType)) (nl : List Cond) (av : List Value) (sz : Nat) (ad : Nat → Nat) (co : Nat → va_E) (dl : List Nat) (b L : Nat) (xs : Nat → Int32) : Array Value → State → Prop :=
  fun v U => gPre D cl tys nl av sz ad co dl v U ∧ va_X b L xs U U.heap
set_option maxHeartbeats 4000000 in
set_option maxRecDepth 100000 in
/-- cell(script, j) -/
theorem c_L_cell (l : Launch) {D : va_G} {cI cJ cG : ClassId} {ad : Nat → Nat} {co : Nat → va_E} {dl : List Nat} {b L : Nat} {xs : Nat → Int32} (j : Nat) (hj : j < 2 ^ 31) (hL : L < 2 ^ 31) (sz : Nat) : Met l y_L_cell (Cond.code y_L_cell b_L_cell 2 (some .int) :: wA) ({ frames := 0, cells := 0, slots := 0, locals := 0 }) (gPreX D gCl (gTy cI cJ cG) gNl [.ref b, .int (nI j)] sz ad co dl b L xs) (va_Qi (fun r co' => r = (if j < L then xs j else nI 0) ∧ co' = co) (gB D gCl (gA ad co dl sz) ad dl) (gA ad co dl sz)) 0 0 (gA ad co dl sz) := by
  refine Met.ofW (cc := b_L_cell) (maxL := 2) (ret := some .int) (by decide) rfl ?_
  intro p e s m args below meth c s₁ B hml hv
  obtain ⟨⟨rfl, hsz, hP, hK, hD0, hN⟩, hX⟩ := hv
  subst hsz
  rw [lg_entry_eq]
  have hx := B.exec
  have hb := B.bytes
  have hr := B.returns
  have hlocks := B.notSynchronized
  have hl := lv_entry [.ref b, .int (nI j)] (n := 2) (Nat.le_of_ble_eq_true rfl)
  generalize (lg_sl ([.ref b, .int (nI j)]) ++ List.replicate (2 - (lg_sl ([.ref b, .int (nI j)])).length) Slot.unset).toArray = ls at hl ⊢
  have hl : lv_has ls 2 [(0, .ref b), (1, .int (nI j))] := hl
  have hW : gW D gCl (gA ad co dl s.heap.size) ad co dl s.heap := ⟨hP, hD0.self (sz := s.heap.size)⟩
  have hS : va_S (gA ad co dl s.heap.size) s.heap s.heap [] := va_S.rf
  have hS0 : va_S (fun _ => False) s.heap s.heap [] := va_S.rf
  have hbl : b < s.heap.size := by
    obtain ⟨scr, h1, -⟩ := hX
    exact (Array.getElem?_eq_some_iff.mp h1).1
  refine lv_iload_n hx hb d_L_cell_0 rfl (lv_at hl 1 rfl) ?_
  refine lv_aload_n hx hb d_L_cell_1 rfl (lv_at hl 0 rfl) ?_
  refine l_slen hx hb hX hbl (fun h => h) hS0 d_L_cell_2 ?_
  refine n_icmp_ge (tgt := 12) hx hb hj hL d_L_cell_3 (by decide) (fun h1 => ?_) (fun h1 => ?_)
  · refine lv_iconst (v := nI 0) hx hb d_L_cell_12 (by decide) ?_
    exact g_iret hx hb hr hlocks hW hS ⟨(if_neg (Nat.not_lt.mpr h1)).symm, rfl⟩ d_L_cell_13
  · refine lv_aload_n hx hb d_L_cell_6 rfl (lv_at hl 0 rfl) ?_
    refine lv_iload_n hx hb d_L_cell_7 rfl (lv_at hl 1 rfl) ?_
    refine l_sld hx hb hX hbl (fun h => h) hS0 h1 hL d_L_cell_8 ?_
    refine lv_goto (tgt := 13) hx hb d_L_cell_9 (by decide) ?_
    exact g_iret hx hb hr hlocks hW hS ⟨(if_pos h1).symm, rfl⟩ d_L_cell_13
section LCC
variable {p : Program} {l : Launch} {e : Env} {R : Room} {s : State} {m : MethodId} {args : Array Value} {below : List Frame} {meth : Method} {c : Code} {H : Heap} {locs : List Loc} {cells slots : Nat} {Q : State → Prop}
variable {cc : ByteArray} {pc : Nat} {ls : Array Slot} {rest : List Value} {D : va_G} {A : Nat → Prop} {H0 : Heap} {ad : Nat → Nat} {co : Nat → va_E} {dl : List Nat} {nL : Nat}
/-- the law asks its script -/
theorem l_cell {cI cJ cG : ClassId} {index b L : Nat} {xs : Nat → Int32} {own : String} (S : CallFix p m c cc nL s args wA own) (hX : va_X b L xs s H0) (hbl : b < H0.size) (hbA : ¬ A b) (j : Nat) (hj : j < 2 ^ 31) (hL : L < 2 ^ 31) (cw : CallB R s args own index y_L_cell b_L_cell 2 (some .int) (Cond.code y_L_cell b_L_cell 2 (some .int) :: wA) ({ frames := 0, cells := 0, slots := 0, locals := 0 }) 0 0 2 ∧ (Cond.static y_L_cell).before args s = true) (hN : gN gNl s) (hK : va_K D gCl (gTy cI cJ cG) s) (hW : gW D gCl A ad co dl H) (hS : va_S A H0 H locs) (hA : ∀ q, H0.size ≤ q → A q) (hsize : ls.size = nL) (hr : (rest.map fun v => v.category).sum ≤ 8) (hdg : decode cc pc = .ok (.invokestatic index, 3)) (hf : cells ≤ R.cells ∧ slots ≤ R.slots)
    (kk : ∀ (H1 : Heap) (locs1 : List Loc), gW D gCl A ad co dl H1 → va_S A H0 H1 locs1 → W p l e R s m args below meth c H1 locs1 cells slots Q (F0 m (pc + 3) ls (.int (if j < L then xs j else nI 0) :: rest))) : W p l e R s m args below meth c H locs cells slots Q (F0 m pc ls (.int (nI j) :: .ref b :: rest)) := by
  have hFc := gfree hW hS hA
  have hX1 : va_X b L xs s H := hX.kept (hS.2.1 b hbl hbA)
  have hbd : FrameBlind (gPreX D gCl (gTy cI cJ cG) gNl [.ref b, .int (nI j)] H.size ad co dl b L xs) := fun a U g mk q => ⟨gPre_blind gNl_ok a U g mk q.1, va_X.moved (u := U) (U := U.calling g mk a) (Vm.Alike.refl U.vm) q.2⟩
  refine va_calli (va_runS (As := [.ref b, .int (nI j)]) (rest := rest) S (c_L_cell l j hj hL H.size) cw ⟨hbd, fun U hU hw => ⟨gPre_at gNl_ok hK hN hW U hU hw, by rw [hU]; exact hX1.moved hw.alike⟩⟩ rfl rfl hsize rfl (lv_room hr) hdg hf) hS (fun q _ h => hFc q h) hFc (fun r u t H1 locs1 ht hvm hp hB hz1 hk1 hS1 => ?_)
  obtain ⟨rfl, rfl⟩ := hp
  exact kk H1 locs1 ⟨by rw [← ht]; exact hB.1, hB.2.weaken (fun _ _ _ h => hFc _ h)⟩ hS1
end LCC
/-- two ints of the script, as a long -/
def lJJ (x y : Int32) : Int64 := (x.toInt64 <<< ((nI 32).toInt64 &&& 63)) ||| (y.toInt64 &&& 4294967295)
def lCx (p : Program) (s : State) (m : MethodId) (c : Code) (b L : Nat) (xs : Nat → Int32) (D : va_G) (cI cJ cG : ClassId) : Prop :=
  p.tables.exec = Jvm.exec ∧ c.code = b_L_law ∧ c.maxLocals = 4 ∧ s.vm.findClass R_L = some m.cls ∧ (∀ w ∈ wA, w.before #[Value.ref b] s = true) ∧ va_X b L xs s s.heap ∧ b < s.heap.size ∧ va_K D gCl (gTy cI cJ cG) s ∧ gN gNl s
abbrev lA (s : State) : Nat → Prop := fun q => s.heap.size ≤ q
