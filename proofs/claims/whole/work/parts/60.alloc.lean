/-! Arrays over arrays of ints have been made -/
def va_AOA (t : FieldType) (U : State) : Prop := (Cond.arrayOver (.array t)).before #[] U = true
theorem va_AOA.use {t : FieldType} {B : Array Value} {U : State} (h : va_AOA t U) : (Cond.arrayOver (.array t)).before B U = true := h
theorem va_AOA.moved {t : FieldType} {u U : State} (hvm : u.vm.Alike U.vm) (h : va_AOA t u) : va_AOA t U := over_moved (a := #[]) (a' := #[]) hvm h
/-! ===== BEGIN new T[n][m]: the outer array a place, the inner ones among the pooled ===== -/
/-- f, but v at every address of l -/
def vr_up {α : Type} (f : Nat → α) (l : List Nat) (v : α) : Nat → α := fun a => if a ∈ l then v else f a
theorem vr_up_in {α : Type} {f : Nat → α} {l : List Nat} {v : α} {a : Nat} (h : a ∈ l) : vr_up f l v a = v := if_pos h
theorem vr_up_ne {α : Type} {f : Nat → α} {l : List Nat} {v : α} {a : Nat} (h : a ∉ l) : vr_up f l v a = f a := if_neg h
theorem vr_rows {L l : List Nat} {f : Nat → va_E} {e : va_E} (h : ∀ a, a ∈ l → a ∉ L) : va_pl L f ++ l.map (fun a => (a, e)) = va_pl (L ++ l) (vr_up f l e) := by
  unfold va_pl
  rw [List.map_append]
  congr 1
  · apply List.map_congr_left
    intro a ha
    rw [vr_up_ne (fun q => h a q ha)]
  · apply List.map_congr_left
    intro a ha
    rw [vr_up_in ha]
theorem vr_lay {X rows : va_W} {x : Nat × va_E} {pl : va_W} {D : va_G} {cl : List vw_C} {H : Heap} (hP : va_P D cl (((X ++ pl) ++ [x]) ++ rows) H) : va_P D cl ((X ++ [x]) ++ (pl ++ rows)) H := by
  rw [List.append_assoc (X ++ pl)] at hP
  have h := va_P.swap hP
  rw [← List.append_assoc X] at h
  have h2 := va_P.swap h
  rw [List.append_assoc (X ++ [x])] at h2
  exact h2
theorem vr_layD {X rows : va_W} {x : Nat × va_E} {pl : va_W} {A : Nat → Prop} (hD : va_D A (((X ++ pl) ++ [x]) ++ rows)) : va_D A ((X ++ [x]) ++ (pl ++ rows)) := by
  rw [List.append_assoc (X ++ pl)] at hD
  have h := va_D.swap hD
  rw [← List.append_assoc X] at h
  have h2 := va_D.swap h
  rw [List.append_assoc (X ++ [x])] at h2
  exact h2
theorem vr_outer (c : ClassId) (N h0 : Nat) : ∀ i : Nat, Jvm.Free.Multi.outerC c N h0 i = arrV c N (fun j => va_rf (if j < i then some (h0 + 1 + j) else none))
  | 0 => by
    show ({ cls := c, slots := Array.replicate N .null, vm := .none } : Cell) = _
    rw [arrV_new]
    refine congrArg (arrV c N) (funext fun j => ?_)
    simp [va_rf]
  | i + 1 => by
    show (Jvm.Free.Multi.outerC c N h0 i).setSlot i (.ref (h0 + 1 + i)) = _
    rw [vr_outer c N h0 i, arrV_store]
    refine congrArg (arrV c N) (funext fun j => ?_)
    by_cases e : j = i
    · subst e
      simp [updV, va_rf]
    · by_cases h : j < i
      · simp [updV, e, h, Nat.lt_succ_of_lt h]
      · simp [updV, e, h, show ¬ j < i + 1 by omega]
section VGM
variable {p : Program} {l : Launch} {e : Env} {R : Room} {s : State} {m : MethodId} {args : Array Value} {below : List Frame} {meth : Method} {c : Code} {H : Heap} {locs : List Loc} {cells slots : Nat} {Q : State → Prop}
variable {cc : ByteArray} {pc : Nat} {ls : Array Slot} {rest : List Value} {D : va_G} {cl : List vw_C} {A : Nat → Prop} {a : Nat} {tys : List (ClassId × FieldType)} {ws : va_W} {H0 : Heap}
theorem va_mna {X : va_W} {L : List Nat} {f : Nat → va_E} {cc : ByteArray} (hexec : p.tables.exec = Jvm.exec) (hb : c.code = cc) {own : String} {index : Nat} {ty : FieldType} {cy : ClassId} (hown : s.vm.findClass own = some m.cls) (hclink : (Cond.classLink own index ("[" ++ (FieldType.array ty).toString)).before args s = true) (hover : va_AOA ty s) (harr : (Cond.arrayClass ty).before args s = true) (hcy : s.vm.findClass (FieldType.array ty).toString = some cy)
    (hK : va_K D cl tys s) (hP : va_P D cl (X ++ va_pl L f) H) (hD : va_D A (X ++ va_pl L f)) (hS : va_S A H0 H locs) (hA : ∀ q, H0.size ≤ q → A q) {n k : Int32} {N' K' : Nat} {z : vp_A} (hn : ¬ n < 0) (hk : ¬ k < 0) (hN : n.toNatClampNeg = N') (hM : k.toNatClampNeg = K')
    (hb1 : N' * 4 ≤ 536870912) (hb2 : K' * componentBytes ty ≤ 536870912) (hb3 : K' ≤ 536870912) (hdf : fits ty (defaultValue ty) = true) (hdd : (defaultValue ty).isDefault = true) (hcells : cells + (1 + N') ≤ R.cells) (hslots : slots + (N' + N' * K') ≤ R.slots) (hz : ∀ c : ClassId, Jvm.Free.Multi.innerC c K' (defaultValue ty) = vp_cell c z) (hdg : decode cc pc = .ok (.multianewarray index 2, 4))
    (kk : ∀ (q : Nat) (r : Nat → Nat) (cA : ClassId) (H1 : Heap), (∀ i j : Nat, i < N' → j < N' → r i = r j → i = j) → (∀ i : Nat, i < N' → r i ∉ L) → va_K D cl (tys ++ [(cA, .array ty)]) s →
      va_P D cl ((X ++ [(q, .inl (cA, N', .inr (.inr (.inr (.inr (fun i => if i < N' then some (r i) else none))))))]) ++ va_pl (L ++ (List.range N').map r) (vr_up f ((List.range N').map r) (.inl (cy, z)))) H1 → va_D A ((X ++ [(q, .inl (cA, N', .inr (.inr (.inr (.inr (fun i => if i < N' then some (r i) else none))))))]) ++ va_pl (L ++ (List.range N').map r) (vr_up f ((List.range N').map r) (.inl (cy, z)))) → va_S A H0 H1 locs →
      W p l e R s m args below meth c H1 locs (cells + 1 + N') (slots + N' + N' * K') Q (F0 m (pc + 4) ls (.ref q :: rest))) : W p l e R s m args below meth c H locs cells slots Q (F0 m pc ls (.int k :: .int n :: rest)) := by
  subst hN
  subst hM
  intro T hT Xs
  obtain ⟨vm₁, cA, comp, -, fA, fC, hO, -, X', step⟩ := Xs.multianewarray2F hexec hown hclink (va_AOA.use hover) harr (g := F0 m pc ls (.int k :: .int n :: rest)) rfl (by rw [hb]; exact hdg) rfl hn hk hb1 hb2 hb3 hdf hdd hcells hslots
  have ec : some cy = some comp := hcy.symm.trans fC
  cases ec
  generalize hF : Jvm.Free.Multi.fill (T.setVm vm₁) cA cy n.toNatClampNeg k.toNatClampNeg (defaultValue ty) n.toNatClampNeg = F at X' step
  have hTh : (T.setVm vm₁).heap = H := hT
  obtain ⟨f1, f2, -, -⟩ := Jvm.Free.Multi.fill_facts (T.setVm vm₁) cA cy n.toNatClampNeg k.toNatClampNeg (defaultValue ty) n.toNatClampNeg
  rw [hF, hTh] at f1 f2
  have hold : ∀ x : Nat, x < H.size → F.heap[x]? = H[x]? := fun x hx => by
    have := Jvm.Free.Multi.fill_old (T.setVm vm₁) cA cy n.toNatClampNeg k.toNatClampNeg (defaultValue ty) (a := x) (by rw [hTh]; exact hx) n.toNatClampNeg
    rw [hF, hTh] at this
    exact this
  have hrow : ∀ j : Nat, j < n.toNatClampNeg → F.heap[H.size + 1 + j]? = some (vp_cell cy z) := fun j hj => by
    have := Jvm.Free.Multi.fill_inner (T.setVm vm₁) cA cy n.toNatClampNeg k.toNatClampNeg (defaultValue ty) n.toNatClampNeg j hj
    rw [hF, hTh, hz] at this
    exact this
  have hout : Jvm.Free.Multi.outerC cA n.toNatClampNeg H.size n.toNatClampNeg = vp_cell cA (n.toNatClampNeg, .inr (.inr (.inr (.inr (fun i => if i < n.toNatClampNeg then some (H.size + 1 + i) else none))))) := by
    rw [vp_cell_q]
    exact vr_outer cA n.toNatClampNeg H.size n.toNatClampNeg
  rw [hout] at f2
  have hlt : ∀ a, a ∈ L → a < H.size := fun a ha => by
    obtain ⟨k9, hk9⟩ := va_pl_get (X := X) (f := f) ha
    exact (hP k9 _ hk9).lt
  have hnl : ∀ i : Nat, i < n.toNatClampNeg → H.size + 1 + i ∉ L := fun i _ h => by
    have := hlt _ h
    omega
  have hnm : ∀ a, a ∈ (List.range n.toNatClampNeg).map (fun i => H.size + 1 + i) → a ∉ L := fun a ha h => by
    obtain ⟨i, -, rfl⟩ := List.mem_map.mp ha
    have := hlt _ h
    omega
  have hP0 : va_P D cl (X ++ va_pl L f) F.heap := hP.kept (fun k9 x hx => hold x.1 ((hP k9 x hx).lt))
  have hP1 : va_P D cl ((X ++ va_pl L f) ++ [(H.size, .inl (cA, n.toNatClampNeg, .inr (.inr (.inr (.inr (fun i => if i < n.toNatClampNeg then some (H.size + 1 + i) else none))))))]) F.heap := hP0.app (fun k9 x hx => by
    have h0 : k9 < 1 := (List.getElem?_eq_some_iff.mp hx).1
    rw [show k9 = 0 by omega] at hx
    cases hx
    exact f2)
  have hP2 : va_P D cl (((X ++ va_pl L f) ++ [(H.size, .inl (cA, n.toNatClampNeg, .inr (.inr (.inr (.inr (fun i => if i < n.toNatClampNeg then some (H.size + 1 + i) else none))))))]) ++ ((List.range n.toNatClampNeg).map (fun i => H.size + 1 + i)).map (fun a => (a, .inl (cy, z)))) F.heap := hP1.app (fun k9 x hx => by
    obtain ⟨a, ha, rfl⟩ := List.mem_map.mp (List.mem_of_getElem? hx)
    obtain ⟨i, hi, rfl⟩ := List.mem_map.mp ha
    exact hrow i (List.mem_range.mp hi))
  have hD2 : va_D A (((X ++ va_pl L f) ++ [(H.size, .inl (cA, n.toNatClampNeg, .inr (.inr (.inr (.inr (fun i => if i < n.toNatClampNeg then some (H.size + 1 + i) else none))))))]) ++ ((List.range n.toNatClampNeg).map (fun i => H.size + 1 + i)).map (fun a => (a, .inl (cy, z)))) := by
    have hD1 := hD.push (e := .inl (cA, n.toNatClampNeg, .inr (.inr (.inr (.inr (fun i => if i < n.toNatClampNeg then some (H.size + 1 + i) else none)))))) hP rfl (hA _ hS.1)
    generalize hW1 : (X ++ va_pl L f) ++ [(H.size, .inl (cA, n.toNatClampNeg, .inr (.inr (.inr (.inr (fun i => if i < n.toNatClampNeg then some (H.size + 1 + i) else none))))))] = W1 at hD1 hP1 ⊢
    have hle : ∀ (k9 : Nat) (x : Nat × va_E), W1[k9]? = some x → x.1 ≤ H.size := fun k9 x hx => by
      rw [← hW1] at hx
      by_cases hl : k9 < (X ++ va_pl L f).length
      · rw [List.getElem?_append_left hl] at hx
        exact Nat.le_of_lt ((hP k9 x hx).lt)
      · rw [List.getElem?_append_right (by omega)] at hx
        have h0 : k9 - (X ++ va_pl L f).length < 1 := (List.getElem?_eq_some_iff.mp hx).1
        rw [show k9 - (X ++ va_pl L f).length = 0 by omega] at hx
        cases hx
        exact Nat.le_refl _
    have hr : ∀ (k9 : Nat) (x : Nat × va_E), (((List.range n.toNatClampNeg).map (fun i => H.size + 1 + i)).map (fun a => ((a, .inl (cy, z)) : Nat × va_E)))[k9]? = some x → x.1 = H.size + 1 + k9 := fun k9 x hx => by
      rw [List.getElem?_map, List.getElem?_map] at hx
      by_cases h9 : k9 < n.toNatClampNeg
      · rw [List.getElem?_range h9] at hx
        cases hx
        rfl
      · have hn0 : (List.range n.toNatClampNeg)[k9]? = none := List.getElem?_eq_none (by rw [List.length_range]; omega)
        rw [hn0] at hx
        cases hx
    refine ⟨fun i j x y hi hj hxy => ?_, fun k9 x hx => ?_⟩
    · by_cases h1 : i < W1.length <;> by_cases h2 : j < W1.length
      · rw [List.getElem?_append_left h1] at hi
        rw [List.getElem?_append_left h2] at hj
        exact hD1.1 i j x y hi hj hxy
      · rw [List.getElem?_append_left h1] at hi
        rw [List.getElem?_append_right (by omega)] at hj
        have := hle _ _ hi
        have := hr _ _ hj
        omega
      · rw [List.getElem?_append_right (by omega)] at hi
        rw [List.getElem?_append_left h2] at hj
        have := hle _ _ hj
        have := hr _ _ hi
        omega
      · rw [List.getElem?_append_right (by omega)] at hi hj
        have := hr _ _ hi
        have := hr _ _ hj
        omega
    · by_cases h1 : k9 < W1.length
      · rw [List.getElem?_append_left h1] at hx
        exact hD1.2 k9 x hx
      · rw [List.getElem?_append_right (by omega)] at hx
        have := hr _ _ hx
        exact hA _ (by have := hS.1; omega)
  have hAr : ArrOfT s cA (.array ty) := fun N9 z9 => by
    obtain ⟨-, k9, hk9, cm9, hkk9⟩ := (hO 0 0 0).1
    exact ⟨(fun q hq => by cases hq), k9, hk9, cm9, hkk9⟩
  have hK2 : va_K D cl (tys ++ [(cA, .array ty)]) s := ⟨hK.1, fun k9 x hx => by
    by_cases hl : k9 < tys.length
    · rw [List.getElem?_append_left hl] at hx
      exact hK.2 k9 x hx
    · rw [List.getElem?_append_right (by omega)] at hx
      have h0 : k9 - tys.length < 1 := (List.getElem?_eq_some_iff.mp hx).1
      rw [show k9 - tys.length = 0 by omega] at hx
      cases hx
      exact ⟨hAr, fA⟩⟩
  obtain ⟨t, a1, b1⟩ := kk H.size (fun i => H.size + 1 + i) cA F.heap (fun i j _ _ h => by have h9 : H.size + 1 + i = H.size + 1 + j := h; omega) hnl hK2 (by rw [← vr_rows hnm]; exact vr_lay hP2) (by rw [← vr_rows hnm]; exact vr_layD hD2) ⟨by rw [f1]; have := hS.1; omega, fun x h1 h2 => (hold x (Nat.lt_of_lt_of_le h1 hS.1)).trans (hS.2.1 x h1 h2), hS.2.2⟩ F rfl X'
  refine ⟨t, step t ?_, b1⟩
  have e : T.heap.size = H.size := by rw [hT]
  rw [e]
  exact a1
end VGM
/-! ===== END ===== -/
/-! CELLS THAT COME TO BE -/
theorem nI_z : nI 0 = 0 := by decide
theorem mem1 {dl : List Nat} {i j : Nat} : j ∈ dl ++ [i] ↔ j ∈ dl ∨ j = i := by simp
theorem memG {dl : List Nat} {o B N j : Nat} : j ∈ dl ++ o :: (List.range N).map (fun i => B + i) ↔ j ∈ dl ∨ j = o ∨ (B ≤ j ∧ j < B + N) := by
  simp only [List.mem_append, List.mem_cons, List.mem_map, List.mem_range]
  constructor
  · rintro (h | h | ⟨i, hi, rfl⟩)
    · exact Or.inl h
    · exact Or.inr (Or.inl h)
    · exact Or.inr (Or.inr ⟨by omega, by omega⟩)
  · rintro (h | h | h)
    · exact Or.inl h
    · exact Or.inr (Or.inl h)
    · exact Or.inr (Or.inr ⟨j - B, by omega, by omega⟩)
def gPreA (D : va_G) (cl : List vw_C) (tys : List (ClassId × FieldType)) (nl : List Cond) (av : List Value) (sz : Nat) (ad : Nat → Nat) (co : Nat → va_E) (dl : List Nat) : Array Value → State → Prop :=
  fun v U => gPre D cl tys nl av sz ad co dl v U ∧ va_AOA .int U
/-- contracts of constructors -/
def gMn (l : Launch) (y : MethodName) (ws : List Cond) (rm : Room) (D : va_G) (cl : List vw_C) (tys : List (ClassId × FieldType)) (nl : List Cond) (av : List Value) (ad : Nat → Nat) (co : Nat → va_E) (dl dl' : List Nat) (mc ms : Nat) (post : (Nat → Nat) → (Nat → va_E) → Prop) : Prop :=
  ∀ sz : Nat, Met l y ws rm (gPreA D cl tys nl av sz ad co dl) (va_Qv (fun u : (Nat → Nat) × (Nat → va_E) => post u.1 u.2) (fun u t => va_P D cl (gw u.1 u.2 dl') t.heap ∧ va_D (gA ad co dl sz) (gw u.1 u.2 dl')) (gA ad co dl sz)) mc ms (gA ad co dl sz)
theorem gPreA_blind {D : va_G} {cl : List vw_C} {tys : List (ClassId × FieldType)} {nl : List Cond} (hk : ∀ w ∈ nl, gNk w) {av : List Value} {sz : Nat} {ad : Nat → Nat} {co : Nat → va_E} {dl : List Nat} : FrameBlind (gPreA D cl tys nl av sz ad co dl) := by
  intro a U g mk q
  exact ⟨gPre_blind hk a U g mk q.1, va_AOA.moved (u := U) (U := U.calling g mk a) (Vm.Alike.refl U.vm) q.2⟩
theorem gPreA_at {D : va_G} {cl : List vw_C} {A : Nat → Prop} {tys : List (ClassId × FieldType)} {nl : List Cond} (hk : ∀ w ∈ nl, gNk w) {av : List Value} {ad : Nat → Nat} {co : Nat → va_E} {dl : List Nat} {s : State} {H : Heap} (hK : va_K D cl tys s) (hN : gN nl s) (hO : va_AOA .int s) (hW : gW D cl A ad co dl H) (U : State) (hU : U.heap = H) (hw : s.WarmedH U.vm) : gPreA D cl tys nl av H.size ad co dl av.toArray U :=
  ⟨gPre_at hk hK hN hW U hU hw, hO.moved hw.alike⟩
section GAB
variable {l : Launch} {y : MethodName} {ws ws' : List Cond} {rm : Room} {D : va_G} {cl : List vw_C} {tys : List (ClassId × FieldType)} {nl : List Cond} {av : List Value} {ad : Nat → Nat} {co : Nat → va_E} {dl dl' : List Nat} {cc : ByteArray} {maxL mc ms : Nat}
theorem gMn_of {post : (Nat → Nat) → (Nat → va_E) → Prop} (hy : plainName y.cls = true) (hi : y.name = "<init>") (hw : ws = Cond.code y cc maxL none :: ws') (hlen : (lg_sl av).length ≤ maxL)
    (body : ∀ (p : Program) (e : Env) (s : State) (m : MethodId) (below : List Frame) (meth : Method) (c : Code) (ls : Array Slot), gC p s m meth c cc maxL none ws y.cls av D cl tys nl → meth.name = "<init>" → va_AOA .int s → gW D cl (gA ad co dl s.heap.size) ad co dl s.heap → va_S (gA ad co dl s.heap.size) s.heap s.heap [] → lv_has ls maxL (lv_args 0 av) →
      W p l e rm s m av.toArray below meth c s.heap [] 0 0 (MQ below (va_Qv (fun u : (Nat → Nat) × (Nat → va_E) => post u.1 u.2) (fun u t => va_P D cl (gw u.1 u.2 dl') t.heap ∧ va_D (gA ad co dl s.heap.size) (gw u.1 u.2 dl')) (gA ad co dl s.heap.size)) av.toArray s mc ms (gA ad co dl s.heap.size)) (F0 m 0 ls [])) : gMn l y ws rm D cl tys nl av ad co dl dl' mc ms post := by
  intro sz
  refine Met.ofW (cc := cc) (maxL := maxL) (ret := none) hy hw ?_
  intro p e s m args below meth c s₁ B hml hv
  obtain ⟨⟨rfl, hsz, hP, hK, hD0, hN⟩, hO⟩ := hv
  subst hsz
  rw [lg_entry_eq]
  exact body p e s m below meth c _ ⟨B.exec, B.bytes, B.returns, atoms_spec (ws := ws) B.pre, findClass_of_methodNamed B.named, B.notSynchronized, hml, hK, hN⟩ ((name_of_methodNamed B.named B.method).1.trans hi) hO ⟨hP, hD0.self (sz := s.heap.size)⟩ va_S.rf (lv_entry av hlen)
end GAB
section GAR
variable {p : Program} {l : Launch} {e : Env} {R : Room} {s : State} {m : MethodId} {args : Array Value} {below : List Frame} {meth : Method} {c : Code} {H : Heap} {locs : List Loc} {cells slots : Nat} {Q : State → Prop}
variable {cc : ByteArray} {pc : Nat} {ls : Array Slot} {rest : List Value} {D : va_G} {cl : List vw_C} {A : Nat → Prop} {tys : List (ClassId × FieldType)} {H0 : Heap} {ad : Nat → Nat} {co : Nat → va_E} {dl : List Nat}
theorem g_getR (hexec : p.tables.exec = Jvm.exec) (hb : c.code = cc) {own ref C : String} {T : u_T} {N ci index : Nat} {Ts : List Cond} (hts : ∀ w ∈ Ts, w.before args s = true) (hin : ∀ w ∈ u_ws C T N, w ∈ Ts) (hown : s.vm.findClass own = some m.cls) (hK : va_K D cl tys s) (hW : gW D cl A ad co dl H) {i b : Nat} (hab : ad i = b) (hi : i ∈ dl) {fs : List Value} (he : co i = .inr (ci, fs)) (hc : cl[ci]? = some (C, T, N)) (k : Nat) (hk : k < N) (hlink : (Cond.fieldLink own index ref (T k).2.1 (T k).2.2.1).before args s = true) (hsame : ∀ x, s.fieldFound? (T k).1 (T k).2.1 (T k).2.2.1 = some x → s.fieldFound? ref (T k).2.1 (T k).2.2.1 = some x) {v : Value} (hv : fs[k]? = some v) (hdg : decode cc pc = .ok (.getfield index, 3))
    (kk : W p l e R s m args below meth c H locs cells slots Q (F0 m (pc + 3) ls (v :: rest))) : W p l e R s m args below meth c H locs cells slots Q (F0 m pc ls (.ref b :: rest)) := by
  subst hab
  exact g_get hexec hb hts hin hown hK hW hi he hc k hk hlink hsame hv hdg kk
theorem g_putR (hexec : p.tables.exec = Jvm.exec) (hb : c.code = cc) {own ref C : String} {T : u_T} {N ci index : Nat} {Ts : List Cond} (hts : ∀ w ∈ Ts, w.before args s = true) (hin : ∀ w ∈ u_ws C T N, w ∈ Ts) (ty0 : Nat → FieldType) (hty : ∀ k, k < N → parseFieldDescriptor (T k).2.2.1 = some (ty0 k)) (hnm : ∀ a, a < N → ∀ b, b < N → a ≠ b → (T a).2.1 ≠ (T b).2.1) (hown : s.vm.findClass own = some m.cls) (hK : va_K D cl tys s) (hW : gW D cl A ad co dl H) (hS0 : va_S A H0 H locs) {i b : Nat} (hab : ad i = b) (hi : i ∈ dl) {fs : List Value} (he : co i = .inr (ci, fs)) (hc : cl[ci]? = some (C, T, N)) (k : Nat) (hk : k < N) (hlink : (Cond.fieldLink own index ref (T k).2.1 (T k).2.2.1).before args s = true) (hsame : ∀ x, s.fieldFound? (T k).1 (T k).2.1 (T k).2.2.1 = some x → s.fieldFound? ref (T k).2.1 (T k).2.2.1 = some x) (hfin : (T k).2.2.2 = false) {ty : FieldType} {v : Value} (hd : parseFieldDescriptor (T k).2.2.1 = some ty) (hn : narrow ty v = v) (hfit : fits ty v = true) (hl : k < fs.length) (hdg : decode cc pc = .ok (.putfield index, 3))
    (kk : ∀ (H1 : Heap) (locs1 : List Loc), gW D cl A ad (va_up co i (.inr (ci, fs.set k v))) dl H1 → va_S A H0 H1 locs1 → W p l e R s m args below meth c H1 locs1 cells slots Q (F0 m (pc + 3) ls rest)) : W p l e R s m args below meth c H locs cells slots Q (F0 m pc ls (v :: .ref b :: rest)) := by
  subst hab
  exact g_put hexec hb hts hin ty0 hty hnm hown hK hW hS0 hi he hc k hk hlink hsame hfin hd hn hfit hl hdg kk
theorem g_putFR (hexec : p.tables.exec = Jvm.exec) (hb : c.code = cc) {own ref C : String} {T : u_T} {N ci index : Nat} {Ts : List Cond} (hts : ∀ w ∈ Ts, w.before args s = true) (hin : ∀ w ∈ u_ws C T N, w ∈ Ts) (ty0 : Nat → FieldType) (hty : ∀ k, k < N → parseFieldDescriptor (T k).2.2.1 = some (ty0 k)) (hnm : ∀ a, a < N → ∀ b, b < N → a ≠ b → (T a).2.1 ≠ (T b).2.1) (hown : s.vm.findClass own = some m.cls) (hK : va_K D cl tys s) (hW : gW D cl A ad co dl H) (hS0 : va_S A H0 H locs) {i b : Nat} (hab : ad i = b) (hi : i ∈ dl) {fs : List Value} (he : co i = .inr (ci, fs)) (hc : cl[ci]? = some (C, T, N)) (k : Nat) (hk : k < N) (hlink : (Cond.fieldLink own index ref (T k).2.1 (T k).2.2.1).before args s = true) (hsame : ∀ x, s.fieldFound? (T k).1 (T k).2.1 (T k).2.2.1 = some x → s.fieldFound? ref (T k).2.1 (T k).2.2.1 = some x) (hfin : (T k).2.2.2 = true) (hin2 : meth.name = "<init>") (hdecl : (T k).1 = own) {ty : FieldType} {v : Value} (hd : parseFieldDescriptor (T k).2.2.1 = some ty) (hn : narrow ty v = v) (hfit : fits ty v = true) (hl : k < fs.length) (hdg : decode cc pc = .ok (.putfield index, 3))
    (kk : ∀ (H1 : Heap) (locs1 : List Loc), gW D cl A ad (va_up co i (.inr (ci, fs.set k v))) dl H1 → va_S A H0 H1 locs1 → W p l e R s m args below meth c H1 locs1 cells slots Q (F0 m (pc + 3) ls rest)) : W p l e R s m args below meth c H locs cells slots Q (F0 m pc ls (v :: .ref b :: rest)) := by
  subst hab
  exact g_putF hexec hb hts hin ty0 hty hnm hown hK hW hS0 hi he hc k hk hlink hsame hfin hin2 hdecl hd hn hfit hl hdg kk
theorem g_new (hexec : p.tables.exec = Jvm.exec) (hb : c.code = cc) {own C : String} {T : u_T} {N ci index : Nat} {Ts : List Cond} (hts : ∀ w ∈ Ts, w.before args s = true) (hin : ∀ w ∈ u_ws C T N, w ∈ Ts) (ty : Nat → FieldType) (hty : ∀ k, k < N → parseFieldDescriptor (T k).2.2.1 = some (ty k)) (hown : s.vm.findClass own = some m.cls) (hcl : (Cond.classLink own index C).before args s = true) (hinst : (Cond.instantiable C N).before args s = true) (hini : (Cond.initialized C).before args s = true)
    (hK : va_K D cl tys s) (hW : gW D cl A ad co dl H) (hS : va_S A H0 H locs) (hA : ∀ q, H0.size ≤ q → A q) {i : Nat} (hi : i ∉ dl) (hc : cl[ci]? = some (C, T, N)) {fs : List Value} (hfs : ∀ j, j < N → defaultValue (ty j) = vp_V fs j) (hcells : cells + 1 ≤ R.cells) (hslots : slots + N ≤ R.slots) (hdg : decode cc pc = .ok (.new index, 3))
    (kk : ∀ (q : Nat) (ad' : Nat → Nat) (co' : Nat → va_E) (H1 : Heap), ad' i = q → (∀ j, j ≠ i → ad' j = ad j) → (∀ j, j ≠ i → co' j = co j) → co' i = .inr (ci, fs) → gW D cl A ad' co' (dl ++ [i]) H1 → va_S A H0 H1 locs → W p l e R s m args below meth c H1 locs (cells + 1) (slots + N) Q (F0 m (pc + 3) ls (.ref q :: rest))) : W p l e R s m args below meth c H locs cells slots Q (F0 m pc ls rest) := by
  refine va_new hexec hb hts hin ty hty hown hcl hinst hini hK hW.1 hW.2 hS hA hc hfs hcells hslots hdg (fun q H1 h1 h2 h3 => kk q (va_up ad i q) (va_up co i (.inr (ci, fs))) H1 (va_up_self _ _ _) (fun j hj => va_up_ne _ _ hj) (fun j hj => va_up_ne _ _ hj) (va_up_self _ _ _) ⟨?_, ?_⟩ h3)
  · rw [gw_push hi] at h1; exact h1
  · rw [gw_push hi] at h2; exact h2
theorem g_newI {cI cJ cG : ClassId} (hexec : p.tables.exec = Jvm.exec) (hb : c.code = cc) (harr : (Cond.arrayClass .int).before args s = true) (hK : va_K D cl [(cI, .int), (cJ, .long), (cG, .array .int)] s) (hW : gW D cl A ad co dl H) (hS : va_S A H0 H locs) (hA : ∀ q, H0.size ≤ q → A q) {i : Nat} (hi : i ∉ dl) {N : Nat} (hN : N < 100000) (hcells : cells + 1 ≤ R.cells) (hslots : slots + N ≤ R.slots) (hdg : decode cc pc = .ok (.newarray .int, 2))
    (kk : ∀ (q : Nat) (ad' : Nat → Nat) (co' : Nat → va_E) (H1 : Heap), ad' i = q → (∀ j, j ≠ i → ad' j = ad j) → (∀ j, j ≠ i → co' j = co j) → co' i = .inl (cI, N, .inl (fun _ => nI 0)) → gW D cl A ad' co' (dl ++ [i]) H1 → va_S A H0 H1 locs → W p l e R s m args below meth c H1 locs (cells + 1) (slots + N) Q (F0 m (pc + 2) ls (.ref q :: rest))) : W p l e R s m args below meth c H locs cells slots Q (F0 m pc ls (.int (nI N) :: rest)) := by
  refine va_newa (atype := .int) (ty := .int) (a0 := (N, .inl (fun _ => nI 0))) (N' := N) hexec hb harr rfl hK hW.1 hW.2 hS hA (fun c9 => congrArg (arrV c9 N) (funext fun _ => congrArg Value.int nI_z)) (nI_pos (by omega)) (nI_clamp (by omega)) (by show N * _ ≤ _; simp only [componentBytes]; omega) hcells hslots hdg (fun q cA H1 hK1 h1 h2 h3 => ?_)
  have e1 : s.vm.findClass ("[" ++ (FieldType.int).toString) = some cI := (hK.2 0 _ rfl).2
  have e2 : s.vm.findClass ("[" ++ (FieldType.int).toString) = some cA := (hK1.2 3 _ rfl).2
  obtain rfl : cI = cA := Option.some.inj (e1.symm.trans e2)
  refine kk q (va_up ad i q) (va_up co i (.inl (cI, N, .inl (fun _ => nI 0)))) H1 (va_up_self _ _ _) (fun j hj => va_up_ne _ _ hj) (fun j hj => va_up_ne _ _ hj) (va_up_self _ _ _) ⟨?_, ?_⟩ h3
  · rw [gw_push hi] at h1; exact h1
  · rw [gw_push hi] at h2; exact h2
theorem g_newL {cI cJ cG : ClassId} (hexec : p.tables.exec = Jvm.exec) (hb : c.code = cc) (harr : (Cond.arrayClass .long).before args s = true) (hK : va_K D cl [(cI, .int), (cJ, .long), (cG, .array .int)] s) (hW : gW D cl A ad co dl H) (hS : va_S A H0 H locs) (hA : ∀ q, H0.size ≤ q → A q) {i : Nat} (hi : i ∉ dl) {N : Nat} (hN : N < 100000) (hcells : cells + 1 ≤ R.cells) (hslots : slots + N ≤ R.slots) (hdg : decode cc pc = .ok (.newarray .long, 2))
    (kk : ∀ (q : Nat) (ad' : Nat → Nat) (co' : Nat → va_E) (H1 : Heap), ad' i = q → (∀ j, j ≠ i → ad' j = ad j) → (∀ j, j ≠ i → co' j = co j) → co' i = .inl (cJ, N, .inr (.inl (fun _ => 0))) → gW D cl A ad' co' (dl ++ [i]) H1 → va_S A H0 H1 locs → W p l e R s m args below meth c H1 locs (cells + 1) (slots + N) Q (F0 m (pc + 2) ls (.ref q :: rest))) : W p l e R s m args below meth c H locs cells slots Q (F0 m pc ls (.int (nI N) :: rest)) := by
  refine va_newa (atype := .long) (ty := .long) (a0 := (N, .inr (.inl (fun _ => 0)))) (N' := N) hexec hb harr rfl hK hW.1 hW.2 hS hA (fun c9 => rfl) (nI_pos (by omega)) (nI_clamp (by omega)) (by show N * _ ≤ _; simp only [componentBytes]; omega) hcells hslots hdg (fun q cA H1 hK1 h1 h2 h3 => ?_)
  have e1 : s.vm.findClass ("[" ++ (FieldType.long).toString) = some cJ := (hK.2 1 _ rfl).2
  have e2 : s.vm.findClass ("[" ++ (FieldType.long).toString) = some cA := (hK1.2 3 _ rfl).2
  obtain rfl : cJ = cA := Option.some.inj (e1.symm.trans e2)
  refine kk q (va_up ad i q) (va_up co i (.inl (cJ, N, .inr (.inl (fun _ => 0))))) H1 (va_up_self _ _ _) (fun j hj => va_up_ne _ _ hj) (fun j hj => va_up_ne _ _ hj) (va_up_self _ _ _) ⟨?_, ?_⟩ h3
  · rw [gw_push hi] at h1; exact h1
  · rw [gw_push hi] at h2; exact h2
theorem g_mna {cI cJ cG : ClassId} (hexec : p.tables.exec = Jvm.exec) (hb : c.code = cc) {own : String} {index : Nat} (hown : s.vm.findClass own = some m.cls) (hclink : (Cond.classLink own index "[[I").before args s = true) (hO : va_AOA .int s) (harr : (Cond.arrayClass .int).before args s = true) (hK : va_K D cl [(cI, .int), (cJ, .long), (cG, .array .int)] s) (hW : gW D cl A ad co dl H) (hS : va_S A H0 H locs) (hA : ∀ q, H0.size ≤ q → A q) {i B N K : Nat} (hi : i ∉ dl) (hB : ∀ r, r < N → B + r ∉ dl) (hiB : i < B ∨ B + N ≤ i) (hN : N < 100000) (hKK : K < 100000) (hcells : cells + (1 + N) ≤ R.cells) (hslots : slots + (N + N * K) ≤ R.slots) (hdg : decode cc pc = .ok (.multianewarray index 2, 4))
    (kk : ∀ (q : Nat) (ad' : Nat → Nat) (co' : Nat → va_E) (H1 : Heap), ad' i = q → (∀ j, j ≠ i → ¬ (B ≤ j ∧ j < B + N) → ad' j = ad j) → (∀ j, j ≠ i → ¬ (B ≤ j ∧ j < B + N) → co' j = co j) → co' i = oG ad' cG N B → (∀ r, r < N → co' (B + r) = .inl (cI, K, .inl (fun _ => nI 0))) → gW D cl A ad' co' (dl ++ i :: (List.range N).map (fun r => B + r)) H1 → va_S A H0 H1 locs → W p l e R s m args below meth c H1 locs (cells + 1 + N) (slots + N + N * K) Q (F0 m (pc + 4) ls (.ref q :: rest))) : W p l e R s m args below meth c H locs cells slots Q (F0 m pc ls (.int (nI K) :: .int (nI N) :: rest)) := by
  have e1 : s.vm.findClass ("[" ++ (FieldType.int).toString) = some cI := (hK.2 0 _ rfl).2
  refine va_mna (X := gw ad co dl) (L := []) (f := co) (ty := .int) (cy := cI) (N' := N) (K' := K) (z := (K, .inl (fun _ => nI 0))) hexec hb hown hclink hO harr e1 hK (by rw [show gw ad co dl ++ va_pl [] co = gw ad co dl from List.append_nil _]; exact hW.1) (by rw [show gw ad co dl ++ va_pl [] co = gw ad co dl from List.append_nil _]; exact hW.2) hS hA (nI_pos (by omega)) (nI_pos (by omega)) (nI_clamp (by omega)) (nI_clamp (by omega)) (by omega) (by simp only [componentBytes]; omega) (by omega) rfl rfl hcells hslots (fun c9 => by rw [vp_cell_i, nI_z]; exact arrV_new c9 K (.int 0)) hdg (fun q r cA H1 hr1 hr2 hK1 h1 h2 h3 => ?_)
  have e2 : s.vm.findClass ("[" ++ (FieldType.array .int).toString) = some cG := (hK.2 2 _ rfl).2
  have e3 : s.vm.findClass ("[" ++ (FieldType.array .int).toString) = some cA := (hK1.2 3 _ rfl).2
  obtain rfl : cG = cA := Option.some.inj (e2.symm.trans e3)
  have hw : ∀ E F : va_E, (gw ad co dl ++ [(q, E)]) ++ va_pl ([] ++ (List.range N).map r) (vr_up co ((List.range N).map r) F) = gw (fun j => if j = i then q else if B ≤ j ∧ j < B + N then r (j - B) else ad j) (fun j => if j = i then E else if B ≤ j ∧ j < B + N then F else co j) (dl ++ i :: (List.range N).map (fun r => B + r)) := by
    intro E F
    rw [List.nil_append]
    unfold gw va_pl
    rw [List.map_append, List.map_cons, List.append_assoc, List.singleton_append]
    congr 1
    · apply List.map_congr_left
      intro j hj
      have n1 : j ≠ i := fun h => hi (h ▸ hj)
      have n2 : ¬ (B ≤ j ∧ j < B + N) := fun h => hB (j - B) (by omega) (by rw [show B + (j - B) = j by omega]; exact hj)
      dsimp only
      rw [if_neg n1, if_neg n1, if_neg n2, if_neg n2]
    · congr 1
      · dsimp only
        rw [if_pos rfl, if_pos rfl]
      · rw [List.map_map, List.map_map]
        apply List.map_congr_left
        intro k hk
        have hk := List.mem_range.mp hk
        show (r k, vr_up co _ F (r k)) = _
        rw [vr_up_in (List.mem_map.mpr ⟨k, List.mem_range.mpr hk, rfl⟩)]
        show _ = ((if B + k = i then q else if B ≤ B + k ∧ B + k < B + N then r (B + k - B) else ad (B + k)), (if B + k = i then E else if B ≤ B + k ∧ B + k < B + N then F else co (B + k)))
        have n1 : B + k ≠ i := by omega
        have n2 : B ≤ B + k ∧ B + k < B + N := by omega
        rw [if_neg n1, if_neg n1, if_pos n2, if_pos n2, show B + k - B = k by omega]
  rw [hw] at h1 h2
  refine kk q (fun j => if j = i then q else if B ≤ j ∧ j < B + N then r (j - B) else ad j) (fun j => if j = i then .inl (cG, N, .inr (.inr (.inr (.inr (fun i => if i < N then some (r i) else none))))) else if B ≤ j ∧ j < B + N then .inl (cI, K, .inl (fun _ => nI 0)) else co j) H1 (if_pos rfl) (fun j h4 h5 => by show (if j = i then q else if B ≤ j ∧ j < B + N then r (j - B) else ad j) = ad j; rw [if_neg h4, if_neg h5]) (fun j h4 h5 => by show (if j = i then _ else if B ≤ j ∧ j < B + N then _ else co j) = co j; rw [if_neg h4, if_neg h5]) ?_ (fun k hk => ?_) ⟨h1, h2⟩ h3
  · show (if i = i then _ else _) = _
    rw [if_pos rfl]
    have hf : (fun j => if j < N then some (r j) else none) = (fun k => if k < N then some ((fun j => if j = i then q else if B ≤ j ∧ j < B + N then r (j - B) else ad j) (B + k)) else none) := by
      funext k
      by_cases hk : k < N
      · rw [if_pos hk, if_pos hk]
        show some (r k) = some (if B + k = i then q else if B ≤ B + k ∧ B + k < B + N then r (B + k - B) else ad (B + k))
        rw [if_neg (show ¬ B + k = i by omega), if_pos (show B ≤ B + k ∧ B + k < B + N by omega), show B + k - B = k by omega]
      · rw [if_neg hk, if_neg hk]
    rw [hf]
  · show (if B + k = i then _ else if B ≤ B + k ∧ B + k < B + N then _ else co (B + k)) = _
    rw [if_neg (show ¬ B + k = i by omega), if_pos (show B ≤ B + k ∧ B + k < B + N by omega)]
theorem g_nret (hexec : p.tables.exec = Jvm.exec) (hb : c.code = cc) {post : (Nat → Nat) → (Nat → va_E) → Prop} {ad' : Nat → Nat} {co' : Nat → va_E} {dl' : List Nat} (hr : meth.sig.returnType = none) (hlocks : meth.locks = false) (hW : gW D cl (gA ad co dl s.heap.size) ad' co' dl' H) (hS : va_S (gA ad co dl s.heap.size) s.heap H locs) (hp : post ad' co') (hdg : decode cc pc = .ok (.return_, 1)) : W p l e R s m args below meth c H locs cells slots (MQ below (va_Qv (fun u : (Nat → Nat) × (Nat → va_E) => post u.1 u.2) (fun u t => va_P D cl (gw u.1 u.2 dl') t.heap ∧ va_D (gA ad co dl s.heap.size) (gw u.1 u.2 dl')) (gA ad co dl s.heap.size)) args s cells slots (gA ad co dl s.heap.size)) (F0 m pc ls []) :=
  W.vret hexec hb hr (fun t ht _ => ⟨⟨(ad', co'), rfl, hp, by rw [ht]; exact hW.1, hW.2⟩, hS.F ht⟩) hS.2.2 hdg hlocks
variable {nl : List Cond} {y : MethodName} {bytes : ByteArray} {maxL nL n index i b mc ms : Nat} {ws Ts : List Cond} {rm : Room} {own host : String} {As st0 : List Value} {dl' : List Nat}
theorem g_cI {post : (Nat → Nat) → (Nat → va_E) → Prop} (S : CallFix p m c cc nL s args Ts own) (hM : gMn l y ws rm D cl tys nl (.ref (ad i) :: As) ad co dl dl' mc ms post) (cw : CallB R s args own index y bytes maxL none ws rm mc ms n ∧ y.name = "<init>" ∧ (Cond.instanceMethod y).before args s = true) (hk : ∀ w ∈ nl, gNk w) (hN : gN nl s) (hK : va_K D cl tys s) (hO : va_AOA .int s) (hW : gW D cl A ad co dl H) (hS : va_S A H0 H locs) (hA : ∀ q, H0.size ≤ q → A q) (hab : ad i = b) (hn : As.length = n) (hsize : ls.size = nL) (hstack : st0 = As.reverse ++ .ref b :: rest) (hr : (rest.map fun v => v.category).sum ≤ 8) (hdg : decode cc pc = .ok (.invokespecial index, 3)) (hf : cells + mc ≤ R.cells ∧ slots + ms ≤ R.slots)
    (kk : ∀ (ad' : Nat → Nat) (co' : Nat → va_E) (H1 : Heap) (locs1 : List Loc), post ad' co' → gW D cl A ad' co' dl' H1 → va_S A H0 H1 locs1 → W p l e R s m args below meth c H1 locs1 (cells + mc) (slots + ms) Q (F0 m (pc + 3) ls rest)) : W p l e R s m args below meth c H locs cells slots Q (F0 m pc ls st0) := by
  subst hab
  have hFc := gfree hW hS hA
  exact va_callv (va_runI (As := As) (rest := rest) S (hM H.size) cw ⟨gPreA_blind hk, gPreA_at hk hK hN hO hW⟩ rfl hn hsize hstack (lv_room hr) hdg hf) hS (fun q _ h => hFc q h) hFc (fun u t H1 locs1 ht hvm hp hB hz1 hk1 hS1 => kk u.1 u.2 H1 locs1 hp ⟨by rw [← ht]; exact hB.1, hB.2.weaken (fun _ _ _ h => hFc _ h)⟩ hS1)
theorem g_cIN {post : (Nat → Nat) → (Nat → va_E) → Prop} (S : CallFix p m c cc nL s args Ts own) (hM : gMn l y ws rm D cl tys nl (.ref (ad i) :: As) ad co dl dl' mc ms post) (cw : va_CN R s args own index y host bytes maxL none ws rm mc ms n ∧ y.name = "<init>" ∧ (Cond.instanceMethod y).before args s = true) (hk : ∀ w ∈ nl, gNk w) (hN : gN nl s) (hK : va_K D cl tys s) (hO : va_AOA .int s) (hW : gW D cl A ad co dl H) (hS : va_S A H0 H locs) (hA : ∀ q, H0.size ≤ q → A q) (hab : ad i = b) (hn : As.length = n) (hsize : ls.size = nL) (hstack : st0 = As.reverse ++ .ref b :: rest) (hr : (rest.map fun v => v.category).sum ≤ 8) (hdg : decode cc pc = .ok (.invokespecial index, 3)) (hf : cells + mc ≤ R.cells ∧ slots + ms ≤ R.slots)
    (kk : ∀ (ad' : Nat → Nat) (co' : Nat → va_E) (H1 : Heap) (locs1 : List Loc), post ad' co' → gW D cl A ad' co' dl' H1 → va_S A H0 H1 locs1 → W p l e R s m args below meth c H1 locs1 (cells + mc) (slots + ms) Q (F0 m (pc + 3) ls rest)) : W p l e R s m args below meth c H locs cells slots Q (F0 m pc ls st0) := by
  subst hab
  have hFc := gfree hW hS hA
  exact va_callv (va_runIN (As := As) (rest := rest) S (hM H.size) cw ⟨gPreA_blind hk, gPreA_at hk hK hN hO hW⟩ rfl hn hsize hstack (lv_room hr) hdg hf) hS (fun q _ h => hFc q h) hFc (fun u t H1 locs1 ht hvm hp hB hz1 hk1 hS1 => kk u.1 u.2 H1 locs1 hp ⟨by rw [← ht]; exact hB.1, hB.2.weaken (fun _ _ _ h => hFc _ h)⟩ hS1)
end GAR
section GCI
variable {R : Room} {s : State} {args : Array Value} {own host : String} {index maxL fr lo mc ms : Nat} {y : MethodName} {bytes : ByteArray}
theorem gcwI (n : Nat) (hts : ∀ w ∈ wA, w.before args s = true) (hc : Cond.code y bytes maxL none ∈ wA) (hl : Cond.methodLink own index y ∈ wA) (hi : Cond.instanceMethod y ∈ wA) (hini : Cond.initialized y.cls ∈ wA) (hy : y.name = "<init>") (hd : y.cls ≠ "java/lang/invoke/MethodHandle" ∧ y.cls ≠ "java/lang/invoke/VarHandle" ∧ (parseMethodDescriptor y.desc).map (fun d => d.parameters.length) = some n) (hR : fr + 1 ≤ R.frames ∧ 8 + (maxL + 11) + lo ≤ R.locals) :
    CallB R s args own index y bytes maxL none (Cond.code y bytes maxL none :: wA) { frames := fr, cells := mc, slots := ms, locals := lo } mc ms n ∧ y.name = "<init>" ∧ (Cond.instanceMethod y).before args s = true :=
  ⟨gcwB n hts hc hl hini hd hR, hy, hts _ hi⟩
theorem gcwIN (n : Nat) (hts : ∀ w ∈ wA, w.before args s = true) (hc : Cond.code y bytes maxL none ∈ wA) (hl : va_Nw (.methodLinkNest own index y host) s) (hi : Cond.instanceMethod y ∈ wA) (hini : Cond.initialized y.cls ∈ wA) (hy : y.name = "<init>") (hd : y.cls ≠ "java/lang/invoke/MethodHandle" ∧ y.cls ≠ "java/lang/invoke/VarHandle" ∧ (parseMethodDescriptor y.desc).map (fun d => d.parameters.length) = some n) (hR : fr + 1 ≤ R.frames ∧ 8 + (maxL + 11) + lo ≤ R.locals) :
    va_CN R s args own index y host bytes maxL none (Cond.code y bytes maxL none :: wA) { frames := fr, cells := mc, slots := ms, locals := lo } mc ms n ∧ y.name = "<init>" ∧ (Cond.instanceMethod y).before args s = true :=
  ⟨va_cnB n hts (wA_goodA hc) rfl rfl rfl hl (hts _ hini) hd hR, hy, hts _ hi⟩
end GCI
set_option maxRecDepth 20000 in
theorem qo_code : Cond.code Lib.objectInit ⟨#[0xb1]⟩ 1 none ∈ wA := q_19
/-- the number of acts, as both take it -/
def clA (x : Int32) : Nat := if x < nI 1 then 1 else if nI 12 < x then 12 else x.toNatClampNeg
theorem clA_1 {x : Int32} (h : x < nI 1) : clA x = 1 := if_pos h
theorem clA_12 {x : Int32} (h : ¬ x < nI 1) (h2 : nI 12 < x) : clA x = 12 := (if_neg h).trans (if_pos h2)
theorem clA_x {x : Int32} (h : ¬ x < nI 1) (h2 : ¬ nI 12 < x) : clA x = x.toNatClampNeg := (if_neg h).trans (if_neg h2)
theorem clA_ok (x : Int32) : 1 ≤ clA x ∧ clA x ≤ 12 := by
  by_cases h : x < nI 1
  · rw [clA_1 h]; omega
  · by_cases h2 : nI 12 < x
    · rw [clA_12 h h2]; omega
    · obtain ⟨j, hj, h3, rfl⟩ := fit_ge1 h
      rw [clA_x h h2, nI_clamp h3]
      have h4 : ¬ 12 < j := fun q => h2 ((nI_ltI (by omega) h3).mpr q)
      omega
theorem clA_nx {x : Int32} (h : ¬ x < nI 1) (h2 : ¬ nI 12 < x) : x = nI (clA x) := by
  obtain ⟨j, hj, h3, rfl⟩ := fit_ge1 h
  rw [clA_x h h2, nI_clamp h3]
