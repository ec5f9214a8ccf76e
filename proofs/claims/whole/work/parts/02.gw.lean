/-! INDEXED WORLDS. Cell number i (i among dl) lies at the address ad i and holds co i. A method's world is all that the system has; what a method changes is said by cell numbers. -/
def gw (ad : Nat → Nat) (co : Nat → va_E) (dl : List Nat) : va_W := dl.map (fun i => (ad i, co i))
def gW (D : va_G) (cl : List vw_C) (A : Nat → Prop) (ad : Nat → Nat) (co : Nat → va_E) (dl : List Nat) (H : Heap) : Prop := va_P D cl (gw ad co dl) H ∧ va_D A (gw ad co dl)
/-- the links between nest mates, as the state has them -/
def gN (nl : List Cond) (U : State) : Prop := ∀ w ∈ nl, va_Nw w U
def gNk (w : Cond) : Prop := (∃ a i b n d h, w = .fieldLinkNest a i b n d h) ∨ (∃ a i x h, w = .methodLinkNest a i x h)
theorem gN_warm {nl : List Cond} (hk : ∀ w ∈ nl, gNk w) {s U : State} (hW : s.WarmedH U.vm) (h : gN nl s) : gN nl U := by
  intro w hw
  rcases hk w hw with ⟨a, i, b, n, d, h1, rfl⟩ | ⟨a, i, x, h1, rfl⟩
  · exact va_Nw.warmF hW (h _ hw)
  · exact va_Nw.warmM hW (h _ hw)
theorem gN_same {nl : List Cond} (hk : ∀ w ∈ nl, gNk w) {u U : State} (hv : u.vm = U.vm) (h : gN nl u) : gN nl U := by
  intro w hw
  rcases hk w hw with ⟨a, i, b, n, d, h1, rfl⟩ | ⟨a, i, x, h1, rfl⟩
  · exact va_Nw.same rfl hv (h _ hw)
  · exact va_Nw.same rfl hv (h _ hw)
theorem gw_at {ad : Nat → Nat} {co : Nat → va_E} {dl : List Nat} {k i : Nat} (h : dl[k]? = some i) : (gw ad co dl)[k]? = some (ad i, co i) := by
  unfold gw
  rw [List.getElem?_map, h]
  rfl
theorem gw_of {ad : Nat → Nat} {co : Nat → va_E} {dl : List Nat} {k : Nat} {q : Nat × va_E} (h : (gw ad co dl)[k]? = some q) : ∃ i, dl[k]? = some i ∧ q = (ad i, co i) := by
  unfold gw at h
  rw [List.getElem?_map] at h
  cases hd : dl[k]? with
  | none => rw [hd] at h; cases h
  | some i => rw [hd] at h; exact ⟨i, rfl, (Option.some.inj h).symm⟩
theorem gw_len {ad : Nat → Nat} {co : Nat → va_E} {dl : List Nat} : (gw ad co dl).length = dl.length := by
  unfold gw
  rw [List.length_map]
theorem gw_set {A : Nat → Prop} {ad : Nat → Nat} {co : Nat → va_E} {dl : List Nat} {k i : Nat} {e : va_E} (hD : va_D A (gw ad co dl)) (h : dl[k]? = some i) : (gw ad co dl).set k (ad i, e) = gw ad (va_up co i e) dl := by
  have hk : k < dl.length := (List.getElem?_eq_some_iff.mp h).1
  apply List.ext_getElem?
  intro j
  by_cases hj : j = k
  · subst hj
    rw [List.getElem?_set_self (by rw [gw_len]; exact hk), gw_at h, va_up_self]
  · rw [List.getElem?_set_ne (Ne.symm hj)]
    cases hd : dl[j]? with
    | none => unfold gw; rw [List.getElem?_map, List.getElem?_map, hd]; rfl
    | some b =>
      have hb : b ≠ i := fun q => hj (hD.1 j k _ _ (gw_at hd) (gw_at h) (by rw [q]))
      rw [gw_at hd, gw_at hd, va_up_ne _ _ hb]
theorem gw_push {ad : Nat → Nat} {co : Nat → va_E} {dl : List Nat} {i q : Nat} {e : va_E} (h : i ∉ dl) : gw ad co dl ++ [(q, e)] = gw (va_up ad i q) (va_up co i e) (dl ++ [i]) := by
  unfold gw
  rw [List.map_append, List.map_cons, List.map_nil, va_up_self, va_up_self]
  congr 1
  apply List.map_congr_left
  intro b hb
  have hne : b ≠ i := fun q => h (q ▸ hb)
  rw [va_up_ne _ _ hne, va_up_ne _ _ hne]
theorem gw_congr {ad : Nat → Nat} {co co' : Nat → va_E} {dl : List Nat} (h : ∀ i, i ∈ dl → co i = co' i) : gw ad co dl = gw ad co' dl := by
  unfold gw
  apply List.map_congr_left
  intro b hb
  rw [h b hb]
/-- which addresses a method of the world may write -/
abbrev gA (ad : Nat → Nat) (co : Nat → va_E) (dl : List Nat) (sz : Nat) : Nat → Prop := va_A (gw ad co dl) sz
theorem gA_co {ad : Nat → Nat} {co co' : Nat → va_E} {dl : List Nat} {sz q : Nat} (h : gA ad co dl sz q) : gA ad co' dl sz q := by
  rcases h with ⟨k, e, h⟩ | h
  · obtain ⟨i, h1, h2⟩ := gw_of h
    cases h2
    exact Or.inl ⟨k, co' i, gw_at h1⟩
  · exact Or.inr h
def gPre (D : va_G) (cl : List vw_C) (tys : List (ClassId × FieldType)) (nl : List Cond) (av : List Value) (sz : Nat) (ad : Nat → Nat) (co : Nat → va_E) (dl : List Nat) : Array Value → State → Prop :=
  va_Pc av (fun U => U.heap.size = sz ∧ va_P D cl (gw ad co dl) U.heap ∧ va_K D cl tys U ∧ va_D (fun _ => True) (gw ad co dl) ∧ gN nl U)
def gB (D : va_G) (cl : List vw_C) (A : Nat → Prop) (ad : Nat → Nat) (dl : List Nat) (co : Nat → va_E) (t : State) : Prop := va_P D cl (gw ad co dl) t.heap ∧ va_D A (gw ad co dl)
/-- contracts of methods that make nothing: an int (long, nothing) comes back, the cells hold co' -/
def gMi (l : Launch) (y : MethodName) (ws : List Cond) (rm : Room) (D : va_G) (cl : List vw_C) (tys : List (ClassId × FieldType)) (nl : List Cond) (av : List Value) (ad : Nat → Nat) (co : Nat → va_E) (dl : List Nat) (post : Int32 → (Nat → va_E) → Prop) : Prop :=
  ∀ sz : Nat, Met l y ws rm (gPre D cl tys nl av sz ad co dl) (va_Qi post (gB D cl (gA ad co dl sz) ad dl) (gA ad co dl sz)) 0 0 (gA ad co dl sz)
def gMl (l : Launch) (y : MethodName) (ws : List Cond) (rm : Room) (D : va_G) (cl : List vw_C) (tys : List (ClassId × FieldType)) (nl : List Cond) (av : List Value) (ad : Nat → Nat) (co : Nat → va_E) (dl : List Nat) (post : Int64 → (Nat → va_E) → Prop) : Prop :=
  ∀ sz : Nat, Met l y ws rm (gPre D cl tys nl av sz ad co dl) (va_Ql post (gB D cl (gA ad co dl sz) ad dl) (gA ad co dl sz)) 0 0 (gA ad co dl sz)
def gMv (l : Launch) (y : MethodName) (ws : List Cond) (rm : Room) (D : va_G) (cl : List vw_C) (tys : List (ClassId × FieldType)) (nl : List Cond) (av : List Value) (ad : Nat → Nat) (co : Nat → va_E) (dl : List Nat) (post : (Nat → va_E) → Prop) : Prop :=
  ∀ sz : Nat, Met l y ws rm (gPre D cl tys nl av sz ad co dl) (va_Qv post (gB D cl (gA ad co dl sz) ad dl) (gA ad co dl sz)) 0 0 (gA ad co dl sz)
theorem gPre_blind {D : va_G} {cl : List vw_C} {tys : List (ClassId × FieldType)} {nl : List Cond} (hk : ∀ w ∈ nl, gNk w) {av : List Value} {sz : Nat} {ad : Nat → Nat} {co : Nat → va_E} {dl : List Nat} : FrameBlind (gPre D cl tys nl av sz ad co dl) := by
  intro a U g mk q
  obtain ⟨q0, q1, qP, qK, qD, qN⟩ := q
  exact ⟨q0, q1, qP, va_K.moved (u := U) (U := U.calling g mk a) (Vm.Alike.refl U.vm) qK, qD, gN_same (u := U) (U := U.calling g mk a) hk rfl qN⟩
theorem gPre_at {D : va_G} {cl : List vw_C} {A : Nat → Prop} {tys : List (ClassId × FieldType)} {nl : List Cond} (hk : ∀ w ∈ nl, gNk w) {av : List Value} {ad : Nat → Nat} {co : Nat → va_E} {dl : List Nat} {s : State} {H : Heap} (hK : va_K D cl tys s) (hN : gN nl s) (hW : gW D cl A ad co dl H) (U : State) (hU : U.heap = H) (hw : s.WarmedH U.vm) : gPre D cl tys nl av H.size ad co dl av.toArray U :=
  ⟨rfl, by rw [hU], by rw [hU]; exact hW.1, va_K.moved hw.alike hK, hW.2.weaken (fun _ _ _ _ => trivial), gN_warm hk hw hN⟩
theorem gfree {D : va_G} {cl : List vw_C} {A : Nat → Prop} {ad : Nat → Nat} {co : Nat → va_E} {dl : List Nat} {H0 H : Heap} {locs : List Loc} (hW : gW D cl A ad co dl H) (hS : va_S A H0 H locs) (hA : ∀ q, H0.size ≤ q → A q) : ∀ q, gA ad co dl H.size q → A q := by
  intro q h
  rcases h with ⟨k, e, h⟩ | h
  · exact hW.2.2 k (q, e) h
  · exact hA q (Nat.le_trans hS.1 h)
