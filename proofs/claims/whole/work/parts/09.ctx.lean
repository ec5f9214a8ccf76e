/-! What every contract of the system speaks of -/
abbrev gTy (cI cJ cG : ClassId) : List (ClassId × FieldType) := [(cI, .int), (cJ, .long), (cG, .array .int)]
theorem gNl_ok : ∀ w ∈ gNl, gNk w := by
  intro w hw
  have h := (List.mem_filter.mp hw).2
  cases w <;> first | exact Or.inr ⟨_, _, _, _, rfl⟩ | cases h
theorem wA_good {cy cz : Cond} (h : cz ∈ wA) : GoodIn (cy :: wA) (cz :: wA) := by
  intro w hw
  have hw2 : w ∈ wA := by
    rcases List.mem_cons.mp hw with rfl | q
    · exact h
    · exact q
  exact ⟨List.mem_cons_of_mem _ hw2, good_of_word (List.mem_filter.mp hw2).2⟩
theorem wA_goodA {cz : Cond} (h : cz ∈ wA) : GoodIn wA (cz :: wA) := by
  intro w hw
  have hw2 : w ∈ wA := by
    rcases List.mem_cons.mp hw with rfl | q
    · exact h
    · exact q
  exact ⟨hw2, good_of_word (List.mem_filter.mp hw2).2⟩
section GCW
variable {R : Room} {s : State} {args : Array Value} {own C host : String} {index maxL fr lo mc ms : Nat} {y : MethodName} {bytes : ByteArray} {ret : Option FieldType}
theorem gcwB (n : Nat) (hts : ∀ w ∈ wA, w.before args s = true) (hc : Cond.code y bytes maxL ret ∈ wA) (hl : Cond.methodLink own index y ∈ wA) (hini : Cond.initialized y.cls ∈ wA) (hd : y.cls ≠ "java/lang/invoke/MethodHandle" ∧ y.cls ≠ "java/lang/invoke/VarHandle" ∧ (parseMethodDescriptor y.desc).map (fun d => d.parameters.length) = some n) (hR : fr + 1 ≤ R.frames ∧ 8 + (maxL + 11) + lo ≤ R.locals) :
    CallB R s args own index y bytes maxL ret (Cond.code y bytes maxL ret :: wA) { frames := fr, cells := mc, slots := ms, locals := lo } mc ms n :=
  callB_of n hts (wA_goodA hc) rfl rfl rfl (hts _ hini) (hts _ hl) hd hR
theorem gcwV (n : Nat) (hts : ∀ w ∈ wA, w.before args s = true) (hc : Cond.code y bytes maxL ret ∈ wA) (hl : Cond.methodLink own index y ∈ wA) (hi : Cond.instanceMethod y ∈ wA) (hs : Cond.selects C y y ∈ wA) (hini : Cond.initialized y.cls ∈ wA) (hd : y.cls ≠ "java/lang/invoke/MethodHandle" ∧ y.cls ≠ "java/lang/invoke/VarHandle" ∧ (parseMethodDescriptor y.desc).map (fun d => d.parameters.length) = some n) (hR : fr + 1 ≤ R.frames ∧ 8 + (maxL + 11) + lo ≤ R.locals) :
    CallW R s args own C index y bytes maxL ret (Cond.code y bytes maxL ret :: wA) { frames := fr, cells := mc, slots := ms, locals := lo } mc ms n :=
  ⟨gcwB n hts hc hl hini hd hR, hts _ hi, hts _ hs⟩
theorem gcwS (n : Nat) (hts : ∀ w ∈ wA, w.before args s = true) (hc : Cond.code y bytes maxL ret ∈ wA) (hl : Cond.methodLink own index y ∈ wA) (hi : Cond.static y ∈ wA) (hini : Cond.initialized y.cls ∈ wA) (hd : y.cls ≠ "java/lang/invoke/MethodHandle" ∧ y.cls ≠ "java/lang/invoke/VarHandle" ∧ (parseMethodDescriptor y.desc).map (fun d => d.parameters.length) = some n) (hR : fr + 1 ≤ R.frames ∧ 8 + (maxL + 11) + lo ≤ R.locals) :
    CallB R s args own index y bytes maxL ret (Cond.code y bytes maxL ret :: wA) { frames := fr, cells := mc, slots := ms, locals := lo } mc ms n ∧ (Cond.static y).before args s = true :=
  ⟨gcwB n hts hc hl hini hd hR, hts _ hi⟩
theorem gcwSN (n : Nat) (hts : ∀ w ∈ wA, w.before args s = true) (hc : Cond.code y bytes maxL ret ∈ wA) (hl : va_Nw (.methodLinkNest own index y host) s) (hi : Cond.static y ∈ wA) (hini : Cond.initialized y.cls ∈ wA) (hd : y.cls ≠ "java/lang/invoke/MethodHandle" ∧ y.cls ≠ "java/lang/invoke/VarHandle" ∧ (parseMethodDescriptor y.desc).map (fun d => d.parameters.length) = some n) (hR : fr + 1 ≤ R.frames ∧ 8 + (maxL + 11) + lo ≤ R.locals) :
    va_CN R s args own index y host bytes maxL ret (Cond.code y bytes maxL ret :: wA) { frames := fr, cells := mc, slots := ms, locals := lo } mc ms n ∧ (Cond.static y).before args s = true ∧ True :=
  ⟨va_cnB n hts (wA_goodA hc) rfl rfl rfl hl (hts _ hini) hd hR, hts _ hi, trivial⟩
end GCW
set_option maxRecDepth 20000 in
theorem qn_28 : (Cond.methodLinkNest "ActChains" (24 : Nat) ({ cls := "ActChains$Tracks", name := "<init>", desc := "()V" } : Jvm.MethodName) "ActChains") ∈ gNl := List.mem_filter.mpr ⟨List.mem_of_getElem? (i := 28) rfl, rfl⟩
set_option maxRecDepth 20000 in
theorem qn_116 : (Cond.methodLinkNest "ActChains" (53 : Nat) ({ cls := "ActChains$LatestRun", name := "<init>", desc := "()V" } : Jvm.MethodName) "ActChains") ∈ gNl := List.mem_filter.mpr ⟨List.mem_of_getElem? (i := 116) rfl, rfl⟩
set_option maxRecDepth 20000 in
theorem qn_139 : (Cond.methodLinkNest "ActChains" (60 : Nat) ({ cls := "ActChains$Pages", name := "<init>", desc := "()V" } : Jvm.MethodName) "ActChains") ∈ gNl := List.mem_filter.mpr ⟨List.mem_of_getElem? (i := 139) rfl, rfl⟩
set_option maxRecDepth 20000 in
theorem qn_159 : (Cond.methodLinkNest "ActChains" (67 : Nat) ({ cls := "ActChains$Cells", name := "<init>", desc := "()V" } : Jvm.MethodName) "ActChains") ∈ gNl := List.mem_filter.mpr ⟨List.mem_of_getElem? (i := 159) rfl, rfl⟩
set_option maxRecDepth 20000 in
theorem qn_302 : (Cond.methodLinkNest "ActChains$LatestRun" (42 : Nat) ({ cls := "ActChains", name := "isBelow", desc := "(II)Z" } : Jvm.MethodName) "ActChains") ∈ gNl := List.mem_filter.mpr ⟨List.mem_of_getElem? (i := 302) rfl, rfl⟩
