-- ===== PART A: goes FIRST, ahead of the names: the tables' words, and 'selects' of the private methods out of them =====
/-- a private method of a class that the tables say can be made, by its rows of tables_1 -/
def lw_okq (q : MethodName × Nat) : Prop := (q.1.cls ≠ "java/lang/invoke/MethodHandle" ∧ q.1.cls ≠ "java/lang/invoke/VarHandle") ∧ Cond.instantiable q.1.cls q.2 ∈ tables_1 ∧ Cond.privateMethod q.1 ∈ tables_1 ∧ Cond.instanceMethod q.1 ∈ tables_1
theorem lw_p0 : lw_okq (⟨"ActChains", "isAct", "(I)Z"⟩, 13) := ⟨⟨by decide +kernel, by decide +kernel⟩, List.mem_of_getElem? (i := 13) (by decide +kernel), List.mem_of_getElem? (i := 225) (by decide +kernel), List.mem_of_getElem? (i := 226) (by decide +kernel)⟩
theorem lw_p1 : lw_okq (⟨"ActChains$LineFinder", "fillToGo", "(LActChains$Tracks;LActChains$Table;II)V"⟩, 7) := ⟨⟨by decide +kernel, by decide +kernel⟩, List.mem_of_getElem? (i := 82) (by decide +kernel), List.mem_of_getElem? (i := 259) (by decide +kernel), List.mem_of_getElem? (i := 260) (by decide +kernel)⟩
theorem lw_p2 : lw_okq (⟨"ActChains$LineFinder", "cheapest", "([I[I)I"⟩, 7) := ⟨⟨by decide +kernel, by decide +kernel⟩, List.mem_of_getElem? (i := 82) (by decide +kernel), List.mem_of_getElem? (i := 268) (by decide +kernel), List.mem_of_getElem? (i := 269) (by decide +kernel)⟩
theorem lw_p3 : lw_okq (⟨"ActChains$LineFinder", "leastOther", "(I[I)I"⟩, 7) := ⟨⟨by decide +kernel, by decide +kernel⟩, List.mem_of_getElem? (i := 82) (by decide +kernel), List.mem_of_getElem? (i := 286) (by decide +kernel), List.mem_of_getElem? (i := 287) (by decide +kernel)⟩
theorem lw_p4 : lw_okq (⟨"ActChains$LineFinder", "stepBefore", "(LActChains$Tracks;LActChains$Table;I)V"⟩, 7) := ⟨⟨by decide +kernel, by decide +kernel⟩, List.mem_of_getElem? (i := 82) (by decide +kernel), List.mem_of_getElem? (i := 291) (by decide +kernel), List.mem_of_getElem? (i := 292) (by decide +kernel)⟩
theorem lw_p5 : lw_okq (⟨"ActChains", "isRoundKept", "()Z"⟩, 13) := ⟨⟨by decide +kernel, by decide +kernel⟩, List.mem_of_getElem? (i := 13) (by decide +kernel), List.mem_of_getElem? (i := 321) (by decide +kernel), List.mem_of_getElem? (i := 322) (by decide +kernel)⟩
theorem lw_p6 : lw_okq (⟨"ActChains$Table", "clear", "()V"⟩, 2) := ⟨⟨by decide +kernel, by decide +kernel⟩, List.mem_of_getElem? (i := 63) (by decide +kernel), List.mem_of_getElem? (i := 329) (by decide +kernel), List.mem_of_getElem? (i := 330) (by decide +kernel)⟩
theorem lw_p7 : lw_okq (⟨"ActChains", "differingRow", "(I)I"⟩, 13) := ⟨⟨by decide +kernel, by decide +kernel⟩, List.mem_of_getElem? (i := 13) (by decide +kernel), List.mem_of_getElem? (i := 403) (by decide +kernel), List.mem_of_getElem? (i := 404) (by decide +kernel)⟩
theorem lw_p8 : lw_okq (⟨"ActChainsModel", "isAct", "(I)Z"⟩, 35) := ⟨⟨by decide +kernel, by decide +kernel⟩, List.mem_of_getElem? (i := 483) (by decide +kernel), List.mem_of_getElem? (i := 599) (by decide +kernel), List.mem_of_getElem? (i := 600) (by decide +kernel)⟩
theorem lw_p9 : lw_okq (⟨"ActChainsModel", "isRow", "(I)Z"⟩, 35) := ⟨⟨by decide +kernel, by decide +kernel⟩, List.mem_of_getElem? (i := 483) (by decide +kernel), List.mem_of_getElem? (i := 619) (by decide +kernel), List.mem_of_getElem? (i := 620) (by decide +kernel)⟩
theorem lw_p10 : lw_okq (⟨"ActChainsModel", "keep", "()V"⟩, 35) := ⟨⟨by decide +kernel, by decide +kernel⟩, List.mem_of_getElem? (i := 483) (by decide +kernel), List.mem_of_getElem? (i := 648) (by decide +kernel), List.mem_of_getElem? (i := 649) (by decide +kernel)⟩
theorem lw_p11 : lw_okq (⟨"ActChainsModel", "search", "(I)I"⟩, 35) := ⟨⟨by decide +kernel, by decide +kernel⟩, List.mem_of_getElem? (i := 483) (by decide +kernel), List.mem_of_getElem? (i := 652) (by decide +kernel), List.mem_of_getElem? (i := 653) (by decide +kernel)⟩
theorem lw_p12 : lw_okq (⟨"ActChainsModel", "may", "(III)Z"⟩, 35) := ⟨⟨by decide +kernel, by decide +kernel⟩, List.mem_of_getElem? (i := 483) (by decide +kernel), List.mem_of_getElem? (i := 656) (by decide +kernel), List.mem_of_getElem? (i := 657) (by decide +kernel)⟩
theorem lw_p13 : lw_okq (⟨"ActChainsModel", "isFirst", "(III)Z"⟩, 35) := ⟨⟨by decide +kernel, by decide +kernel⟩, List.mem_of_getElem? (i := 483) (by decide +kernel), List.mem_of_getElem? (i := 661) (by decide +kernel), List.mem_of_getElem? (i := 662) (by decide +kernel)⟩
theorem lw_p14 : lw_okq (⟨"ActChainsModel", "bothEnds", "()V"⟩, 35) := ⟨⟨by decide +kernel, by decide +kernel⟩, List.mem_of_getElem? (i := 483) (by decide +kernel), List.mem_of_getElem? (i := 665) (by decide +kernel), List.mem_of_getElem? (i := 666) (by decide +kernel)⟩
theorem lw_p15 : lw_okq (⟨"ActChainsModel", "save", "(Z)V"⟩, 35) := ⟨⟨by decide +kernel, by decide +kernel⟩, List.mem_of_getElem? (i := 483) (by decide +kernel), List.mem_of_getElem? (i := 673) (by decide +kernel), List.mem_of_getElem? (i := 674) (by decide +kernel)⟩
def lw_privs_1 : List (MethodName × Nat) := [(⟨"ActChains", "isAct", "(I)Z"⟩, 13), (⟨"ActChains$LineFinder", "fillToGo", "(LActChains$Tracks;LActChains$Table;II)V"⟩, 7), (⟨"ActChains$LineFinder", "cheapest", "([I[I)I"⟩, 7), (⟨"ActChains$LineFinder", "leastOther", "(I[I)I"⟩, 7), (⟨"ActChains$LineFinder", "stepBefore", "(LActChains$Tracks;LActChains$Table;I)V"⟩, 7), (⟨"ActChains", "isRoundKept", "()Z"⟩, 13), (⟨"ActChains$Table", "clear", "()V"⟩, 2), (⟨"ActChains", "differingRow", "(I)I"⟩, 13), (⟨"ActChainsModel", "isAct", "(I)Z"⟩, 35), (⟨"ActChainsModel", "isRow", "(I)Z"⟩, 35), (⟨"ActChainsModel", "keep", "()V"⟩, 35), (⟨"ActChainsModel", "search", "(I)I"⟩, 35), (⟨"ActChainsModel", "may", "(III)Z"⟩, 35), (⟨"ActChainsModel", "isFirst", "(III)Z"⟩, 35), (⟨"ActChainsModel", "bothEnds", "()V"⟩, 35), (⟨"ActChainsModel", "save", "(Z)V"⟩, 35)]
theorem lw_r1 : ∀ q ∈ lw_privs_1, lw_okq q := List.forall_mem_cons.mpr ⟨lw_p0, List.forall_mem_cons.mpr ⟨lw_p1, List.forall_mem_cons.mpr ⟨lw_p2, List.forall_mem_cons.mpr ⟨lw_p3, List.forall_mem_cons.mpr ⟨lw_p4, List.forall_mem_cons.mpr ⟨lw_p5, List.forall_mem_cons.mpr ⟨lw_p6, List.forall_mem_cons.mpr ⟨lw_p7, List.forall_mem_cons.mpr ⟨lw_p8, List.forall_mem_cons.mpr ⟨lw_p9, List.forall_mem_cons.mpr ⟨lw_p10, List.forall_mem_cons.mpr ⟨lw_p11, List.forall_mem_cons.mpr ⟨lw_p12, List.forall_mem_cons.mpr ⟨lw_p13, List.forall_mem_cons.mpr ⟨lw_p14, List.forall_mem_cons.mpr ⟨lw_p15, fun _ h => absurd h List.not_mem_nil⟩⟩⟩⟩⟩⟩⟩⟩⟩⟩⟩⟩⟩⟩⟩⟩
theorem lw_p16 : lw_okq (⟨"ActChainsModel", "count", "()V"⟩, 35) := ⟨⟨by decide +kernel, by decide +kernel⟩, List.mem_of_getElem? (i := 483) (by decide +kernel), List.mem_of_getElem? (i := 677) (by decide +kernel), List.mem_of_getElem? (i := 678) (by decide +kernel)⟩
theorem lw_p17 : lw_okq (⟨"ActChainsModel", "isKnown", "(I)Z"⟩, 35) := ⟨⟨by decide +kernel, by decide +kernel⟩, List.mem_of_getElem? (i := 483) (by decide +kernel), List.mem_of_getElem? (i := 695) (by decide +kernel), List.mem_of_getElem? (i := 696) (by decide +kernel)⟩
theorem lw_p18 : lw_okq (⟨"ActChainsModel", "end", "(I)J"⟩, 35) := ⟨⟨by decide +kernel, by decide +kernel⟩, List.mem_of_getElem? (i := 483) (by decide +kernel), List.mem_of_getElem? (i := 707) (by decide +kernel), List.mem_of_getElem? (i := 708) (by decide +kernel)⟩
theorem lw_p19 : lw_okq (⟨"ActChainsModel", "first", "(I)I"⟩, 35) := ⟨⟨by decide +kernel, by decide +kernel⟩, List.mem_of_getElem? (i := 483) (by decide +kernel), List.mem_of_getElem? (i := 719) (by decide +kernel), List.mem_of_getElem? (i := 720) (by decide +kernel)⟩
theorem lw_p20 : lw_okq (⟨"ActChainsModel", "last", "(I)I"⟩, 35) := ⟨⟨by decide +kernel, by decide +kernel⟩, List.mem_of_getElem? (i := 483) (by decide +kernel), List.mem_of_getElem? (i := 723) (by decide +kernel), List.mem_of_getElem? (i := 724) (by decide +kernel)⟩
theorem lw_p21 : lw_okq (⟨"ActChainsModel", "told", "(J)I"⟩, 35) := ⟨⟨by decide +kernel, by decide +kernel⟩, List.mem_of_getElem? (i := 483) (by decide +kernel), List.mem_of_getElem? (i := 736) (by decide +kernel), List.mem_of_getElem? (i := 737) (by decide +kernel)⟩
def lw_privs_2 : List (MethodName × Nat) := [(⟨"ActChainsModel", "count", "()V"⟩, 35), (⟨"ActChainsModel", "isKnown", "(I)Z"⟩, 35), (⟨"ActChainsModel", "end", "(I)J"⟩, 35), (⟨"ActChainsModel", "first", "(I)I"⟩, 35), (⟨"ActChainsModel", "last", "(I)I"⟩, 35), (⟨"ActChainsModel", "told", "(J)I"⟩, 35)]
theorem lw_r2 : ∀ q ∈ lw_privs_2, lw_okq q := List.forall_mem_cons.mpr ⟨lw_p16, List.forall_mem_cons.mpr ⟨lw_p17, List.forall_mem_cons.mpr ⟨lw_p18, List.forall_mem_cons.mpr ⟨lw_p19, List.forall_mem_cons.mpr ⟨lw_p20, List.forall_mem_cons.mpr ⟨lw_p21, fun _ h => absurd h List.not_mem_nil⟩⟩⟩⟩⟩⟩
def lw_privs : List (MethodName × Nat) := lw_privs_1 ++ (lw_privs_2)
def lw_tbl : List Cond := k2_sels lw_privs ++ tables_1
theorem lw_privs_ok : ∀ q ∈ lw_privs, lw_okq q := by
  show ∀ q ∈ lw_privs_1 ++ (lw_privs_2), lw_okq q
  exact List.forall_mem_append.mpr ⟨lw_r1, lw_r2⟩
/-! NAMES, by program out of the listing and the tables -/
def R_K : String := "ActChains"
def R_C : String := "ActChains$Cells"
def R_N : String := "ActChains$LatestRun"
def R_F : String := "ActChains$LineFinder"
def R_P : String := "ActChains$Pages"
def R_B : String := "ActChains$Table"
def R_T : String := "ActChains$Tracks"
def R_M : String := "ActChainsModel"
def R_L : String := "ActChainsLaw"
def R_JM : String := "java/lang/Math"
def R_JA : String := "java/util/Arrays"
def R_JO : String := "java/lang/Object"
def R_JS : String := "java/lang/System"
def F_C : u_T := fun k => match k with
  | 0 => ("ActChains$Cells", "rows", "[I", true)
  | 1 => ("ActChains$Cells", "xs", "[I", true)
  | 2 => ("ActChains$Cells", "ys", "[I", true)
  | 3 => ("ActChains$Cells", "times", "[J", true)
  | _ => ("ActChains$Cells", "count", "I", false)
def fy_C : Nat → FieldType := fun k => match k with
  | 0 => .array .int
  | 1 => .array .int
  | 2 => .array .int
  | 3 => .array .long
  | _ => .int
theorem fn_C : ∀ a, a < 5 → ∀ b, b < 5 → a ≠ b → (F_C a).2.1 ≠ (F_C b).2.1 := by decide +kernel
theorem fy_C_ok : ∀ k, k < 5 → parseFieldDescriptor (F_C k).2.2.1 = some (fy_C k) := by decide +kernel
def F_N : u_T := fun k => match k with
  | 0 => ("ActChains$LatestRun", "line", "[I", true)
  | 1 => ("ActChains$LatestRun", "nextCosts", "[I", true)
  | 2 => ("ActChains$LatestRun", "count", "I", false)
  | _ => ("ActChains$LatestRun", "cost", "I", false)
def fy_N : Nat → FieldType := fun k => match k with
  | 0 => .array .int
  | 1 => .array .int
  | 2 => .int
  | _ => .int
theorem fn_N : ∀ a, a < 4 → ∀ b, b < 4 → a ≠ b → (F_N a).2.1 ≠ (F_N b).2.1 := by decide +kernel
theorem fy_N_ok : ∀ k, k < 4 → parseFieldDescriptor (F_N k).2.2.1 = some (fy_N k) := by decide +kernel
def F_F : u_T := fun k => match k with
  | 0 => ("ActChains$LineFinder", "line", "[I", true)
  | 1 => ("ActChains$LineFinder", "cost", "I", false)
  | 2 => ("ActChains$LineFinder", "acts", "I", true)
  | 3 => ("ActChains$LineFinder", "toGo", "[[I", true)
  | 4 => ("ActChains$LineFinder", "noChange", "[I", true)
  | 5 => ("ActChains$LineFinder", "before", "[I", false)
  | _ => ("ActChains$LineFinder", "after", "[I", false)
def fy_F : Nat → FieldType := fun k => match k with
  | 0 => .array .int
  | 1 => .int
  | 2 => .int
  | 3 => .array (.array .int)
  | 4 => .array .int
  | 5 => .array .int
  | _ => .array .int
theorem fn_F : ∀ a, a < 7 → ∀ b, b < 7 → a ≠ b → (F_F a).2.1 ≠ (F_F b).2.1 := by decide +kernel
theorem fy_F_ok : ∀ k, k < 7 → parseFieldDescriptor (F_F k).2.2.1 = some (fy_F k) := by decide +kernel
def F_P : u_T := fun k => match k with
  | 0 => ("ActChains$Pages", "from", "[J", true)
  | 1 => ("ActChains$Pages", "to", "[J", true)
  | 2 => ("ActChains$Pages", "told", "[I", true)
  | _ => ("ActChains$Pages", "count", "I", false)
def fy_P : Nat → FieldType := fun k => match k with
  | 0 => .array .long
  | 1 => .array .long
  | 2 => .array .int
  | _ => .int
theorem fn_P : ∀ a, a < 4 → ∀ b, b < 4 → a ≠ b → (F_P a).2.1 ≠ (F_P b).2.1 := by decide +kernel
theorem fy_P_ok : ∀ k, k < 4 → parseFieldDescriptor (F_P k).2.2.1 = some (fy_P k) := by decide +kernel
def F_B : u_T := fun k => match k with
  | 0 => ("ActChains$Table", "changes", "[[I", true)
  | _ => ("ActChains$Table", "speeds", "[[I", true)
def fy_B : Nat → FieldType := fun k => match k with
  | 0 => .array (.array .int)
  | _ => .array (.array .int)
theorem fn_B : ∀ a, a < 2 → ∀ b, b < 2 → a ≠ b → (F_B a).2.1 ≠ (F_B b).2.1 := by decide +kernel
theorem fy_B_ok : ∀ k, k < 2 → parseFieldDescriptor (F_B k).2.2.1 = some (fy_B k) := by decide +kernel
def F_T : u_T := fun k => match k with
  | 0 => ("ActChains$Tracks", "seconds", "[J", true)
  | 1 => ("ActChains$Tracks", "classes", "[I", true)
  | 2 => ("ActChains$Tracks", "turns", "[I", true)
  | 3 => ("ActChains$Tracks", "ships", "[I", true)
  | 4 => ("ActChains$Tracks", "truths", "[I", true)
  | _ => ("ActChains$Tracks", "count", "I", false)
def fy_T : Nat → FieldType := fun k => match k with
  | 0 => .array .long
  | 1 => .array .int
  | 2 => .array .int
  | 3 => .array .int
  | 4 => .array .int
  | _ => .int
theorem fn_T : ∀ a, a < 6 → ∀ b, b < 6 → a ≠ b → (F_T a).2.1 ≠ (F_T b).2.1 := by decide +kernel
theorem fy_T_ok : ∀ k, k < 6 → parseFieldDescriptor (F_T k).2.2.1 = some (fy_T k) := by decide +kernel
def F_K : u_T := fun k => match k with
  | 0 => ("ActChains", "acts", "I", true)
  | 1 => ("ActChains", "tracks", "LActChains$Tracks;", true)
  | 2 => ("ActChains", "costs", "LActChains$Table;", true)
  | 3 => ("ActChains", "fitted", "LActChains$Table;", true)
  | 4 => ("ActChains", "counts", "LActChains$Table;", true)
  | 5 => ("ActChains", "finder", "LActChains$LineFinder;", true)
  | 6 => ("ActChains", "latest", "LActChains$LatestRun;", true)
  | 7 => ("ActChains", "pages", "LActChains$Pages;", true)
  | 8 => ("ActChains", "cells", "LActChains$Cells;", true)
  | 9 => ("ActChains", "sums", "[J", true)
  | 10 => ("ActChains", "keptRounds", "I", false)
  | 11 => ("ActChains", "shipNow", "I", false)
  | _ => ("ActChains", "marginNow", "I", false)
def fy_K : Nat → FieldType := fun k => match k with
  | 0 => .int
  | 1 => .object "ActChains$Tracks"
  | 2 => .object "ActChains$Table"
  | 3 => .object "ActChains$Table"
  | 4 => .object "ActChains$Table"
  | 5 => .object "ActChains$LineFinder"
  | 6 => .object "ActChains$LatestRun"
  | 7 => .object "ActChains$Pages"
  | 8 => .object "ActChains$Cells"
  | 9 => .array .long
  | 10 => .int
  | 11 => .int
  | _ => .int
theorem fn_K : ∀ a, a < 13 → ∀ b, b < 13 → a ≠ b → (F_K a).2.1 ≠ (F_K b).2.1 := by decide +kernel
theorem fy_K_ok : ∀ k, k < 13 → parseFieldDescriptor (F_K k).2.2.1 = some (fy_K k) := by decide +kernel
def F_M : u_T := fun k => match k with
  | 0 => ("ActChainsModel", "acts", "I", true)
  | 1 => ("ActChainsModel", "moves", "[I", true)
  | 2 => ("ActChainsModel", "speeds", "[I", true)
  | 3 => ("ActChainsModel", "oldMoves", "[I", true)
  | 4 => ("ActChainsModel", "oldSpeeds", "[I", true)
  | 5 => ("ActChainsModel", "rows", "I", false)
  | 6 => ("ActChainsModel", "seconds", "[J", true)
  | 7 => ("ActChainsModel", "classes", "[I", true)
  | 8 => ("ActChainsModel", "turns", "[I", true)
  | 9 => ("ActChainsModel", "ships", "[I", true)
  | 10 => ("ActChainsModel", "truths", "[I", true)
  | 11 => ("ActChainsModel", "ship", "I", false)
  | 12 => ("ActChainsModel", "pages", "I", false)
  | 13 => ("ActChainsModel", "pageFrom", "[J", true)
  | 14 => ("ActChainsModel", "pageTo", "[J", true)
  | 15 => ("ActChainsModel", "pageAct", "[I", true)
  | 16 => ("ActChainsModel", "cells", "I", false)
  | 17 => ("ActChainsModel", "cellRow", "[I", true)
  | 18 => ("ActChainsModel", "cellX", "[I", true)
  | 19 => ("ActChainsModel", "cellY", "[I", true)
  | 20 => ("ActChainsModel", "cellSeconds", "[J", true)
  | 21 => ("ActChainsModel", "margin", "I", false)
  | 22 => ("ActChainsModel", "known", "I", false)
  | 23 => ("ActChainsModel", "line", "[I", true)
  | 24 => ("ActChainsModel", "cost", "I", false)
  | 25 => ("ActChainsModel", "others", "[I", true)
  | 26 => ("ActChainsModel", "sums", "I", false)
  | 27 => ("ActChainsModel", "sum", "[J", true)
  | 28 => ("ActChainsModel", "so", "[I", true)
  | 29 => ("ActChainsModel", "longer", "[I", true)
  | 30 => ("ActChainsModel", "soCost", "[I", true)
  | 31 => ("ActChainsModel", "longerCost", "[I", true)
  | 32 => ("ActChainsModel", "before", "[I", true)
  | 33 => ("ActChainsModel", "behind", "[I", true)
  | _ => ("ActChainsModel", "found", "[I", true)
def fy_M : Nat → FieldType := fun k => match k with
  | 0 => .int
  | 1 => .array .int
  | 2 => .array .int
  | 3 => .array .int
  | 4 => .array .int
  | 5 => .int
  | 6 => .array .long
  | 7 => .array .int
  | 8 => .array .int
  | 9 => .array .int
  | 10 => .array .int
  | 11 => .int
  | 12 => .int
  | 13 => .array .long
  | 14 => .array .long
  | 15 => .array .int
  | 16 => .int
  | 17 => .array .int
  | 18 => .array .int
  | 19 => .array .int
  | 20 => .array .long
  | 21 => .int
  | 22 => .int
  | 23 => .array .int
  | 24 => .int
  | 25 => .array .int
  | 26 => .int
  | 27 => .array .long
  | 28 => .array .int
  | 29 => .array .int
  | 30 => .array .int
  | 31 => .array .int
  | 32 => .array .int
  | 33 => .array .int
  | _ => .array .int
theorem fn_M : ∀ a, a < 35 → ∀ b, b < 35 → a ≠ b → (F_M a).2.1 ≠ (F_M b).2.1 := by decide +kernel
theorem fy_M_ok : ∀ k, k < 35 → parseFieldDescriptor (F_M k).2.2.1 = some (fy_M k) := by decide +kernel
abbrev gCl : List vw_C := [(R_C, F_C, 5), (R_N, F_N, 4), (R_F, F_F, 7), (R_P, F_P, 4), (R_B, F_B, 2), (R_T, F_T, 6), (R_K, F_K, 13), (R_M, F_M, 35)]
abbrev b_K_init : ByteArray := prog_1_method_1_code
def y_K_init : MethodName := ⟨R_K, "<init>", "(I)V"⟩
abbrev b_JO_init : ByteArray := object_method_1_code
def y_JO_init : MethodName := ⟨R_JO, "<init>", "()V"⟩
abbrev b_JM_min : ByteArray := prog_10_method_69_code
def y_JM_min : MethodName := ⟨R_JM, "min", "(II)I"⟩
abbrev b_JM_max : ByteArray := prog_10_method_65_code
def y_JM_max : MethodName := ⟨R_JM, "max", "(II)I"⟩
abbrev b_T_init : ByteArray := prog_7_method_1_code
def y_T_init : MethodName := ⟨R_T, "<init>", "()V"⟩
abbrev b_B_init : ByteArray := prog_6_method_1_code
def y_B_init : MethodName := ⟨R_B, "<init>", "(I)V"⟩
abbrev b_F_init : ByteArray := prog_4_method_1_code
def y_F_init : MethodName := ⟨R_F, "<init>", "(I)V"⟩
abbrev b_N_init : ByteArray := prog_3_method_1_code
def y_N_init : MethodName := ⟨R_N, "<init>", "()V"⟩
abbrev b_P_init : ByteArray := prog_5_method_1_code
def y_P_init : MethodName := ⟨R_P, "<init>", "()V"⟩
abbrev b_C_init : ByteArray := prog_2_method_1_code
def y_C_init : MethodName := ⟨R_C, "<init>", "()V"⟩
abbrev b_K_move : ByteArray := prog_1_method_2_code
def y_K_move : MethodName := ⟨R_K, "move", "(III)Z"⟩
abbrev b_K_isAct : ByteArray := prog_1_method_25_code
def y_K_isAct : MethodName := ⟨R_K, "isAct", "(I)Z"⟩
abbrev b_K_isBelow : ByteArray := prog_1_method_28_code
def y_K_isBelow : MethodName := ⟨R_K, "isBelow", "(II)Z"⟩
abbrev b_K_isCost : ByteArray := prog_1_method_26_code
def y_K_isCost : MethodName := ⟨R_K, "isCost", "(I)Z"⟩
abbrev b_K_speed : ByteArray := prog_1_method_3_code
def y_K_speed : MethodName := ⟨R_K, "speed", "(III)Z"⟩
abbrev b_K_row : ByteArray := prog_1_method_4_code
def y_K_row : MethodName := ⟨R_K, "row", "(JII)Z"⟩
abbrev b_T_canFollow : ByteArray := prog_7_method_2_code
def y_T_canFollow : MethodName := ⟨R_T, "canFollow", "(J)Z"⟩
abbrev b_T_add : ByteArray := prog_7_method_3_code
def y_T_add : MethodName := ⟨R_T, "add", "(JIII)V"⟩
abbrev b_K_run : ByteArray := prog_1_method_5_code
def y_K_run : MethodName := ⟨R_K, "run", "()I"⟩
abbrev b_F_find : ByteArray := prog_4_method_2_code
def y_F_find : MethodName := ⟨R_F, "find", "(LActChains$Tracks;LActChains$Table;I)V"⟩
abbrev b_F_fillToGo : ByteArray := prog_4_method_4_code
def y_F_fillToGo : MethodName := ⟨R_F, "fillToGo", "(LActChains$Tracks;LActChains$Table;II)V"⟩
abbrev b_T_allows : ByteArray := prog_7_method_4_code
def y_T_allows : MethodName := ⟨R_T, "allows", "(III)Z"⟩
abbrev b_F_cheapest : ByteArray := prog_4_method_5_code
def y_F_cheapest : MethodName := ⟨R_F, "cheapest", "([I[I)I"⟩
abbrev b_N_takeOver : ByteArray := prog_3_method_2_code
def y_N_takeOver : MethodName := ⟨R_N, "takeOver", "(LActChains$Tracks;LActChains$Table;LActChains$LineFinder;)V"⟩
abbrev b_F_fillNextCosts : ByteArray := prog_4_method_3_code
def y_F_fillNextCosts : MethodName := ⟨R_F, "fillNextCosts", "(LActChains$Tracks;LActChains$Table;[I)V"⟩
abbrev b_JA_fill : ByteArray := prog_12_method_103_code
def y_JA_fill : MethodName := ⟨R_JA, "fill", "([II)V"⟩
abbrev b_F_leastOther : ByteArray := prog_4_method_6_code
def y_F_leastOther : MethodName := ⟨R_F, "leastOther", "(I[I)I"⟩
abbrev b_F_stepBefore : ByteArray := prog_4_method_7_code
def y_F_stepBefore : MethodName := ⟨R_F, "stepBefore", "(LActChains$Tracks;LActChains$Table;I)V"⟩
abbrev b_K_act : ByteArray := prog_1_method_6_code
def y_K_act : MethodName := ⟨R_K, "act", "(I)I"⟩
abbrev b_N_has : ByteArray := prog_3_method_4_code
def y_N_has : MethodName := ⟨R_N, "has", "(I)Z"⟩
abbrev b_K_greatest : ByteArray := prog_1_method_7_code
def y_K_greatest : MethodName := ⟨R_K, "greatest", "()Z"⟩
abbrev b_N_exists : ByteArray := prog_3_method_3_code
def y_N_exists : MethodName := ⟨R_N, "exists", "()Z"⟩
abbrev b_K_truth : ByteArray := prog_1_method_8_code
def y_K_truth : MethodName := ⟨R_K, "truth", "(II)Z"⟩
abbrev b_K_fit : ByteArray := prog_1_method_9_code
def y_K_fit : MethodName := ⟨R_K, "fit", "(I)I"⟩
abbrev b_K_isRoundKept : ByteArray := prog_1_method_29_code
def y_K_isRoundKept : MethodName := ⟨R_K, "isRoundKept", "()Z"⟩
abbrev b_B_countLine : ByteArray := prog_6_method_3_code
def y_B_countLine : MethodName := ⟨R_B, "countLine", "(LActChains$Tracks;[I)V"⟩
abbrev b_B_clear : ByteArray := prog_6_method_5_code
def y_B_clear : MethodName := ⟨R_B, "clear", "()V"⟩
abbrev b_B_copyFrom : ByteArray := prog_6_method_2_code
def y_B_copyFrom : MethodName := ⟨R_B, "copyFrom", "(LActChains$Table;)V"⟩
abbrev b_B_fitTo : ByteArray := prog_6_method_4_code
def y_B_fitTo : MethodName := ⟨R_B, "fitTo", "(LActChains$Table;)V"⟩
abbrev b_B_fitShares : ByteArray := prog_6_method_6_code
def y_B_fitShares : MethodName := ⟨R_B, "fitShares", "([I[I)V"⟩
abbrev b_K_sum : ByteArray := prog_1_method_10_code
def y_K_sum : MethodName := ⟨R_K, "sum", "(I)J"⟩
abbrev b_K_leftOut : ByteArray := prog_1_method_11_code
def y_K_leftOut : MethodName := ⟨R_K, "leftOut", "(I)I"⟩
abbrev b_T_truthsOf : ByteArray := prog_7_method_6_code
def y_T_truthsOf : MethodName := ⟨R_T, "truthsOf", "(I)I"⟩
abbrev b_T_hasTruthOf : ByteArray := prog_7_method_5_code
def y_T_hasTruthOf : MethodName := ⟨R_T, "hasTruthOf", "(II)Z"⟩
abbrev b_T_truthsMissed : ByteArray := prog_7_method_7_code
def y_T_truthsMissed : MethodName := ⟨R_T, "truthsMissed", "(I[I)I"⟩
abbrev b_K_hours : ByteArray := prog_1_method_12_code
def y_K_hours : MethodName := ⟨R_K, "hours", "(I)J"⟩
abbrev b_N_secondsOf : ByteArray := prog_3_method_8_code
def y_N_secondsOf : MethodName := ⟨R_N, "secondsOf", "(I[J)J"⟩
abbrev b_N_endOf : ByteArray := prog_3_method_7_code
def y_N_endOf : MethodName := ⟨R_N, "endOf", "(I[J)J"⟩
abbrev b_K_haul : ByteArray := prog_1_method_13_code
def y_K_haul : MethodName := ⟨R_K, "haul", "(II)I"⟩
abbrev b_N_haulStart : ByteArray := prog_3_method_9_code
def y_N_haulStart : MethodName := ⟨R_N, "haulStart", "(I)I"⟩
abbrev b_N_isHauling : ByteArray := prog_3_method_6_code
def y_N_isHauling : MethodName := ⟨R_N, "isHauling", "(I)Z"⟩
abbrev b_N_haulLast : ByteArray := prog_3_method_10_code
def y_N_haulLast : MethodName := ⟨R_N, "haulLast", "(I)I"⟩
abbrev b_K_differs : ByteArray := prog_1_method_14_code
def y_K_differs : MethodName := ⟨R_K, "differs", "(II)I"⟩
abbrev b_K_differingRow : ByteArray := prog_1_method_30_code
def y_K_differingRow : MethodName := ⟨R_K, "differingRow", "(I)I"⟩
abbrev b_P_actAt : ByteArray := prog_5_method_3_code
def y_P_actAt : MethodName := ⟨R_P, "actAt", "(J)I"⟩
abbrev b_K_page : ByteArray := prog_1_method_15_code
def y_K_page : MethodName := ⟨R_K, "page", "(JJI)Z"⟩
abbrev b_P_add : ByteArray := prog_5_method_2_code
def y_P_add : MethodName := ⟨R_P, "add", "(JJI)V"⟩
abbrev b_K_unsure : ByteArray := prog_1_method_16_code
def y_K_unsure : MethodName := ⟨R_K, "unsure", "(I)Z"⟩
abbrev b_N_hasNextCost : ByteArray := prog_3_method_5_code
def y_N_hasNextCost : MethodName := ⟨R_N, "hasNextCost", "(I)Z"⟩
abbrev b_K_margin : ByteArray := prog_1_method_17_code
def y_K_margin : MethodName := ⟨R_K, "margin", "(I)Z"⟩
abbrev b_K_map : ByteArray := prog_1_method_18_code
def y_K_map : MethodName := ⟨R_K, "map", "(II)J"⟩
abbrev b_K_isOnMap : ByteArray := prog_1_method_27_code
def y_K_isOnMap : MethodName := ⟨R_K, "isOnMap", "(II)Z"⟩
abbrev b_C_haulingSeconds : ByteArray := prog_2_method_3_code
def y_C_haulingSeconds : MethodName := ⟨R_C, "haulingSeconds", "(IILActChains$LatestRun;)J"⟩
abbrev b_K_cell : ByteArray := prog_1_method_19_code
def y_K_cell : MethodName := ⟨R_K, "cell", "(IIIJ)Z"⟩
abbrev b_C_add : ByteArray := prog_2_method_2_code
def y_C_add : MethodName := ⟨R_C, "add", "(IIIJ)V"⟩
abbrev b_K_gear : ByteArray := prog_1_method_20_code
def y_K_gear : MethodName := ⟨R_K, "gear", "(I)I"⟩
abbrev b_T_turningRows : ByteArray := prog_7_method_8_code
def y_T_turningRows : MethodName := ⟨R_T, "turningRows", "(II)I"⟩
abbrev b_K_ship : ByteArray := prog_1_method_21_code
def y_K_ship : MethodName := ⟨R_K, "ship", "(I)Z"⟩
abbrev b_K_total : ByteArray := prog_1_method_22_code
def y_K_total : MethodName := ⟨R_K, "total", "()J"⟩
abbrev b_K_tied : ByteArray := prog_1_method_23_code
def y_K_tied : MethodName := ⟨R_K, "tied", "(I)Z"⟩
abbrev b_K_night : ByteArray := prog_1_method_24_code
def y_K_night : MethodName := ⟨R_K, "night", "(I)I"⟩
abbrev b_L_cell : ByteArray := method_2_code
def y_L_cell : MethodName := ⟨R_L, "cell", "([II)I"⟩
abbrev b_M_init : ByteArray := prog_9_method_1_code
def y_M_init : MethodName := ⟨R_M, "<init>", "(I)V"⟩
abbrev b_M_move : ByteArray := prog_9_method_4_code
def y_M_move : MethodName := ⟨R_M, "move", "(III)Z"⟩
abbrev b_M_isAct : ByteArray := prog_9_method_2_code
def y_M_isAct : MethodName := ⟨R_M, "isAct", "(I)Z"⟩
abbrev b_M_speed : ByteArray := prog_9_method_5_code
def y_M_speed : MethodName := ⟨R_M, "speed", "(III)Z"⟩
abbrev b_M_row : ByteArray := prog_9_method_6_code
def y_M_row : MethodName := ⟨R_M, "row", "(JII)Z"⟩
abbrev b_M_ship : ByteArray := prog_9_method_7_code
def y_M_ship : MethodName := ⟨R_M, "ship", "(I)Z"⟩
abbrev b_M_truth : ByteArray := prog_9_method_8_code
def y_M_truth : MethodName := ⟨R_M, "truth", "(II)Z"⟩
abbrev b_M_isRow : ByteArray := prog_9_method_3_code
def y_M_isRow : MethodName := ⟨R_M, "isRow", "(I)Z"⟩
abbrev b_M_margin : ByteArray := prog_9_method_9_code
def y_M_margin : MethodName := ⟨R_M, "margin", "(I)Z"⟩
abbrev b_M_page : ByteArray := prog_9_method_10_code
def y_M_page : MethodName := ⟨R_M, "page", "(JJI)Z"⟩
abbrev b_M_cell : ByteArray := prog_9_method_11_code
def y_M_cell : MethodName := ⟨R_M, "cell", "(IIIJ)Z"⟩
abbrev b_M_night : ByteArray := prog_9_method_12_code
def y_M_night : MethodName := ⟨R_M, "night", "(I)I"⟩
abbrev b_M_run : ByteArray := prog_9_method_18_code
def y_M_run : MethodName := ⟨R_M, "run", "()I"⟩
abbrev b_M_keep : ByteArray := prog_9_method_17_code
def y_M_keep : MethodName := ⟨R_M, "keep", "()V"⟩
abbrev b_M_search : ByteArray := prog_9_method_15_code
def y_M_search : MethodName := ⟨R_M, "search", "(I)I"⟩
abbrev b_M_may : ByteArray := prog_9_method_13_code
def y_M_may : MethodName := ⟨R_M, "may", "(III)Z"⟩
abbrev b_M_isFirst : ByteArray := prog_9_method_14_code
def y_M_isFirst : MethodName := ⟨R_M, "isFirst", "(III)Z"⟩
abbrev b_M_bothEnds : ByteArray := prog_9_method_16_code
def y_M_bothEnds : MethodName := ⟨R_M, "bothEnds", "()V"⟩
abbrev b_M_fit : ByteArray := prog_9_method_21_code
def y_M_fit : MethodName := ⟨R_M, "fit", "(I)I"⟩
abbrev b_M_save : ByteArray := prog_9_method_20_code
def y_M_save : MethodName := ⟨R_M, "save", "(Z)V"⟩
abbrev b_M_count : ByteArray := prog_9_method_19_code
def y_M_count : MethodName := ⟨R_M, "count", "()V"⟩
abbrev b_M_sum : ByteArray := prog_9_method_22_code
def y_M_sum : MethodName := ⟨R_M, "sum", "(I)J"⟩
abbrev b_M_leftOut : ByteArray := prog_9_method_23_code
def y_M_leftOut : MethodName := ⟨R_M, "leftOut", "(I)I"⟩
abbrev b_M_act : ByteArray := prog_9_method_25_code
def y_M_act : MethodName := ⟨R_M, "act", "(I)I"⟩
abbrev b_M_isKnown : ByteArray := prog_9_method_24_code
def y_M_isKnown : MethodName := ⟨R_M, "isKnown", "(I)Z"⟩
abbrev b_M_greatest : ByteArray := prog_9_method_26_code
def y_M_greatest : MethodName := ⟨R_M, "greatest", "()Z"⟩
abbrev b_M_hours : ByteArray := prog_9_method_28_code
def y_M_hours : MethodName := ⟨R_M, "hours", "(I)J"⟩
abbrev b_M_end : ByteArray := prog_9_method_27_code
def y_M_end : MethodName := ⟨R_M, "end", "(I)J"⟩
abbrev b_M_total : ByteArray := prog_9_method_29_code
def y_M_total : MethodName := ⟨R_M, "total", "()J"⟩
abbrev b_M_haul : ByteArray := prog_9_method_32_code
def y_M_haul : MethodName := ⟨R_M, "haul", "(II)I"⟩
abbrev b_M_first : ByteArray := prog_9_method_30_code
def y_M_first : MethodName := ⟨R_M, "first", "(I)I"⟩
abbrev b_M_last : ByteArray := prog_9_method_31_code
def y_M_last : MethodName := ⟨R_M, "last", "(I)I"⟩
abbrev b_M_gear : ByteArray := prog_9_method_33_code
def y_M_gear : MethodName := ⟨R_M, "gear", "(I)I"⟩
abbrev b_M_differs : ByteArray := prog_9_method_35_code
def y_M_differs : MethodName := ⟨R_M, "differs", "(II)I"⟩
abbrev b_M_told : ByteArray := prog_9_method_34_code
def y_M_told : MethodName := ⟨R_M, "told", "(J)I"⟩
abbrev b_M_unsure : ByteArray := prog_9_method_36_code
def y_M_unsure : MethodName := ⟨R_M, "unsure", "(I)Z"⟩
abbrev b_M_tied : ByteArray := prog_9_method_37_code
def y_M_tied : MethodName := ⟨R_M, "tied", "(I)Z"⟩
abbrev b_M_map : ByteArray := prog_9_method_38_code
def y_M_map : MethodName := ⟨R_M, "map", "(II)J"⟩
abbrev b_L_law : ByteArray := code
def y_L_law : MethodName := ⟨R_L, "law", "([I)Z"⟩
/-- the words that every method gets: all of the tables that a change of the state keeps -/
def wA : List Cond := lw_tbl.filter goodWord
def gNl : List Cond := tables_1.filter (fun w => match w with | .methodLinkNest _ _ _ _ => true | _ => false)
theorem wA_of {w : Cond} (i : Nat) (h : tables_1[i]? = some w) (hg : goodWord w = true) : w ∈ wA := List.mem_filter.mpr ⟨List.mem_append_right _ (List.mem_of_getElem? h), hg⟩
theorem wA_sel {w : Cond} (i : Nat) (h : (k2_sels lw_privs)[i]? = some w) (hg : goodWord w = true) : w ∈ wA := List.mem_filter.mpr ⟨List.mem_append_left _ (List.mem_of_getElem? h), hg⟩
set_option maxRecDepth 20000 in
theorem q_0 : (Cond.initialized "ActChainsLaw") ∈ wA := wA_of 0 rfl rfl
set_option maxRecDepth 20000 in
theorem q_1 : (Cond.initialized "ActChains") ∈ wA := wA_of 1 rfl rfl
set_option maxRecDepth 20000 in
theorem q_2 : (Cond.initialized "java/lang/Math") ∈ wA := wA_of 2 rfl rfl
set_option maxRecDepth 20000 in
theorem q_3 : (Cond.initialized "ActChains$Tracks") ∈ wA := wA_of 3 rfl rfl
set_option maxRecDepth 20000 in
theorem q_4 : (Cond.initialized "ActChains$Table") ∈ wA := wA_of 4 rfl rfl
set_option maxRecDepth 20000 in
theorem q_5 : (Cond.initialized "ActChains$LineFinder") ∈ wA := wA_of 5 rfl rfl
set_option maxRecDepth 20000 in
theorem q_6 : (Cond.initialized "ActChains$LatestRun") ∈ wA := wA_of 6 rfl rfl
set_option maxRecDepth 20000 in
theorem q_7 : (Cond.initialized "ActChains$Pages") ∈ wA := wA_of 7 rfl rfl
set_option maxRecDepth 20000 in
theorem q_8 : (Cond.initialized "ActChains$Cells") ∈ wA := wA_of 8 rfl rfl
set_option maxRecDepth 20000 in
theorem q_9 : (Cond.initialized "ActChainsModel") ∈ wA := wA_of 9 rfl rfl
set_option maxRecDepth 20000 in
theorem q_10 : (Cond.initialized "java/lang/System") ∈ wA := wA_of 10 rfl rfl
set_option maxRecDepth 20000 in
theorem q_11 : (Cond.initialized "java/util/Arrays") ∈ wA := wA_of 11 rfl rfl
set_option maxRecDepth 20000 in
theorem q_12 : (Cond.classLink "ActChainsLaw" (7 : Nat) "ActChains") ∈ wA := wA_of 12 rfl rfl
set_option maxRecDepth 20000 in
theorem q_13 : (Cond.instantiable "ActChains" (13 : Nat)) ∈ wA := wA_of 13 rfl rfl
set_option maxRecDepth 20000 in
theorem q_14 : (Cond.methodLink "ActChainsLaw" (15 : Nat) ({ cls := "ActChains", name := "<init>", desc := "(I)V" } : Jvm.MethodName)) ∈ wA := wA_of 14 rfl rfl
set_option maxRecDepth 20000 in
theorem q_15 : (Cond.instanceMethod ({ cls := "ActChains", name := "<init>", desc := "(I)V" } : Jvm.MethodName)) ∈ wA := wA_of 15 rfl rfl
set_option maxRecDepth 20000 in
theorem q_16 : (Cond.code ({ cls := "ActChains", name := "<init>", desc := "(I)V" } : Jvm.MethodName) prog_1_method_1_code (2 : Nat) (Option.none : Option Jvm.ClassFile.FieldType)) ∈ wA := wA_of 16 rfl rfl
set_option maxRecDepth 20000 in
theorem q_17 : (Cond.methodLink "ActChains" (1 : Nat) ({ cls := "java/lang/Object", name := "<init>", desc := "()V" } : Jvm.MethodName)) ∈ wA := wA_of 17 rfl rfl
set_option maxRecDepth 20000 in
theorem q_18 : (Cond.instanceMethod ({ cls := "java/lang/Object", name := "<init>", desc := "()V" } : Jvm.MethodName)) ∈ wA := wA_of 18 rfl rfl
set_option maxRecDepth 20000 in
theorem q_19 : (Cond.code ({ cls := "java/lang/Object", name := "<init>", desc := "()V" } : Jvm.MethodName) object_method_1_code (1 : Nat) (Option.none : Option Jvm.ClassFile.FieldType)) ∈ wA := wA_of 19 rfl rfl
set_option maxRecDepth 20000 in
theorem q_20 : (Cond.methodLink "ActChains" (9 : Nat) ({ cls := "java/lang/Math", name := "min", desc := "(II)I" } : Jvm.MethodName)) ∈ wA := wA_of 20 rfl rfl
set_option maxRecDepth 20000 in
theorem q_21 : (Cond.static ({ cls := "java/lang/Math", name := "min", desc := "(II)I" } : Jvm.MethodName)) ∈ wA := wA_of 21 rfl rfl
set_option maxRecDepth 20000 in
theorem q_22 : (Cond.code ({ cls := "java/lang/Math", name := "min", desc := "(II)I" } : Jvm.MethodName) prog_10_method_69_code (2 : Nat) (Option.some Jvm.ClassFile.FieldType.int)) ∈ wA := wA_of 22 rfl rfl
set_option maxRecDepth 20000 in
theorem q_23 : (Cond.methodLink "ActChains" (15 : Nat) ({ cls := "java/lang/Math", name := "max", desc := "(II)I" } : Jvm.MethodName)) ∈ wA := wA_of 23 rfl rfl
set_option maxRecDepth 20000 in
theorem q_24 : (Cond.static ({ cls := "java/lang/Math", name := "max", desc := "(II)I" } : Jvm.MethodName)) ∈ wA := wA_of 24 rfl rfl
set_option maxRecDepth 20000 in
theorem q_25 : (Cond.code ({ cls := "java/lang/Math", name := "max", desc := "(II)I" } : Jvm.MethodName) prog_10_method_65_code (2 : Nat) (Option.some Jvm.ClassFile.FieldType.int)) ∈ wA := wA_of 25 rfl rfl
set_option maxRecDepth 20000 in
theorem q_26 : (Cond.classLink "ActChains" (22 : Nat) "ActChains$Tracks") ∈ wA := wA_of 26 rfl rfl
set_option maxRecDepth 20000 in
theorem q_27 : (Cond.instantiable "ActChains$Tracks" (6 : Nat)) ∈ wA := wA_of 27 rfl rfl
set_option maxRecDepth 20000 in
theorem q_29 : (Cond.instanceMethod ({ cls := "ActChains$Tracks", name := "<init>", desc := "()V" } : Jvm.MethodName)) ∈ wA := wA_of 29 rfl rfl
set_option maxRecDepth 20000 in
theorem q_30 : (Cond.code ({ cls := "ActChains$Tracks", name := "<init>", desc := "()V" } : Jvm.MethodName) prog_7_method_1_code (1 : Nat) (Option.none : Option Jvm.ClassFile.FieldType)) ∈ wA := wA_of 30 rfl rfl
set_option maxRecDepth 20000 in
theorem q_31 : (Cond.methodLink "ActChains$Tracks" (3 : Nat) ({ cls := "java/lang/Object", name := "<init>", desc := "()V" } : Jvm.MethodName)) ∈ wA := wA_of 31 rfl rfl
set_option maxRecDepth 20000 in
theorem q_32 : (Cond.fieldLink "ActChains$Tracks" (9 : Nat) "ActChains$Tracks" "seconds" "[J") ∈ wA := wA_of 32 rfl rfl
set_option maxRecDepth 20000 in
theorem q_33 : (Cond.fieldLink "ActChains" (157 : Nat) "ActChains$Tracks" "seconds" "[J") ∈ wA := wA_of 33 rfl rfl
set_option maxRecDepth 20000 in
theorem q_34 : (Cond.fieldLink "ActChains$Tracks" (15 : Nat) "ActChains$Tracks" "classes" "[I") ∈ wA := wA_of 34 rfl rfl
set_option maxRecDepth 20000 in
theorem q_35 : (Cond.fieldLink "ActChains$Table" (34 : Nat) "ActChains$Tracks" "classes" "[I") ∈ wA := wA_of 35 rfl rfl
set_option maxRecDepth 20000 in
theorem q_36 : (Cond.fieldLink "ActChains$LineFinder" (71 : Nat) "ActChains$Tracks" "classes" "[I") ∈ wA := wA_of 36 rfl rfl
set_option maxRecDepth 20000 in
theorem q_37 : (Cond.fieldLink "ActChains$Tracks" (19 : Nat) "ActChains$Tracks" "turns" "[I") ∈ wA := wA_of 37 rfl rfl
set_option maxRecDepth 20000 in
theorem q_38 : (Cond.fieldLink "ActChains$Tracks" (22 : Nat) "ActChains$Tracks" "ships" "[I") ∈ wA := wA_of 38 rfl rfl
set_option maxRecDepth 20000 in
theorem q_39 : (Cond.fieldLink "ActChains$Tracks" (25 : Nat) "ActChains$Tracks" "truths" "[I") ∈ wA := wA_of 39 rfl rfl
set_option maxRecDepth 20000 in
theorem q_40 : (Cond.fieldLink "ActChains$LineFinder" (60 : Nat) "ActChains$Tracks" "truths" "[I") ∈ wA := wA_of 40 rfl rfl
set_option maxRecDepth 20000 in
theorem q_41 : (Cond.fieldLink "ActChains" (136 : Nat) "ActChains$Tracks" "truths" "[I") ∈ wA := wA_of 41 rfl rfl
set_option maxRecDepth 20000 in
theorem q_42 : (Cond.fieldLink "ActChains$Tracks" (28 : Nat) "ActChains$Tracks" "count" "I") ∈ wA := wA_of 42 rfl rfl
set_option maxRecDepth 20000 in
theorem q_43 : (Cond.fieldLink "ActChains$LineFinder" (36 : Nat) "ActChains$Tracks" "count" "I") ∈ wA := wA_of 43 rfl rfl
set_option maxRecDepth 20000 in
theorem q_44 : (Cond.fieldLink "ActChains$LatestRun" (25 : Nat) "ActChains$Tracks" "count" "I") ∈ wA := wA_of 44 rfl rfl
set_option maxRecDepth 20000 in
theorem q_45 : (Cond.fieldLink "ActChains$Table" (28 : Nat) "ActChains$Tracks" "count" "I") ∈ wA := wA_of 45 rfl rfl
set_option maxRecDepth 20000 in
theorem q_46 : (Cond.fieldLink "ActChains" (111 : Nat) "ActChains$Tracks" "count" "I") ∈ wA := wA_of 46 rfl rfl
set_option maxRecDepth 20000 in
theorem q_60 : (Cond.arrayClass Jvm.ClassFile.FieldType.long) ∈ wA := wA_of 60 rfl rfl
set_option maxRecDepth 20000 in
theorem q_61 : (Cond.arrayClass Jvm.ClassFile.FieldType.int) ∈ wA := wA_of 61 rfl rfl
set_option maxRecDepth 20000 in
theorem q_62 : (Cond.classLink "ActChains" (29 : Nat) "ActChains$Table") ∈ wA := wA_of 62 rfl rfl
set_option maxRecDepth 20000 in
theorem q_63 : (Cond.instantiable "ActChains$Table" (2 : Nat)) ∈ wA := wA_of 63 rfl rfl
set_option maxRecDepth 20000 in
theorem q_64 : (Cond.methodLink "ActChains" (31 : Nat) ({ cls := "ActChains$Table", name := "<init>", desc := "(I)V" } : Jvm.MethodName)) ∈ wA := wA_of 64 rfl rfl
set_option maxRecDepth 20000 in
theorem q_65 : (Cond.instanceMethod ({ cls := "ActChains$Table", name := "<init>", desc := "(I)V" } : Jvm.MethodName)) ∈ wA := wA_of 65 rfl rfl
set_option maxRecDepth 20000 in
theorem q_66 : (Cond.code ({ cls := "ActChains$Table", name := "<init>", desc := "(I)V" } : Jvm.MethodName) prog_6_method_1_code (2 : Nat) (Option.none : Option Jvm.ClassFile.FieldType)) ∈ wA := wA_of 66 rfl rfl
set_option maxRecDepth 20000 in
theorem q_67 : (Cond.methodLink "ActChains$Table" (3 : Nat) ({ cls := "java/lang/Object", name := "<init>", desc := "()V" } : Jvm.MethodName)) ∈ wA := wA_of 67 rfl rfl
set_option maxRecDepth 20000 in
theorem q_68 : (Cond.classLink "ActChains$Table" (9 : Nat) "[[I") ∈ wA := wA_of 68 rfl rfl
set_option maxRecDepth 20000 in
theorem q_70 : (Cond.fieldLink "ActChains$Table" (11 : Nat) "ActChains$Table" "changes" "[[I") ∈ wA := wA_of 70 rfl rfl
set_option maxRecDepth 20000 in
theorem q_71 : (Cond.fieldLink "ActChains" (92 : Nat) "ActChains$Table" "changes" "[[I") ∈ wA := wA_of 71 rfl rfl
set_option maxRecDepth 20000 in
theorem q_72 : (Cond.fieldLink "ActChains$LineFinder" (49 : Nat) "ActChains$Table" "changes" "[[I") ∈ wA := wA_of 72 rfl rfl
set_option maxRecDepth 20000 in
theorem q_73 : (Cond.fieldLink "ActChains$Table" (16 : Nat) "ActChains$Table" "speeds" "[[I") ∈ wA := wA_of 73 rfl rfl
set_option maxRecDepth 20000 in
theorem q_74 : (Cond.fieldLink "ActChains" (100 : Nat) "ActChains$Table" "speeds" "[[I") ∈ wA := wA_of 74 rfl rfl
set_option maxRecDepth 20000 in
theorem q_75 : (Cond.fieldLink "ActChains$LineFinder" (79 : Nat) "ActChains$Table" "speeds" "[[I") ∈ wA := wA_of 75 rfl rfl
set_option maxRecDepth 20000 in
theorem q_81 : (Cond.classLink "ActChains" (44 : Nat) "ActChains$LineFinder") ∈ wA := wA_of 81 rfl rfl
set_option maxRecDepth 20000 in
theorem q_82 : (Cond.instantiable "ActChains$LineFinder" (7 : Nat)) ∈ wA := wA_of 82 rfl rfl
set_option maxRecDepth 20000 in
theorem q_83 : (Cond.methodLink "ActChains" (46 : Nat) ({ cls := "ActChains$LineFinder", name := "<init>", desc := "(I)V" } : Jvm.MethodName)) ∈ wA := wA_of 83 rfl rfl
set_option maxRecDepth 20000 in
theorem q_84 : (Cond.instanceMethod ({ cls := "ActChains$LineFinder", name := "<init>", desc := "(I)V" } : Jvm.MethodName)) ∈ wA := wA_of 84 rfl rfl
set_option maxRecDepth 20000 in
theorem q_85 : (Cond.code ({ cls := "ActChains$LineFinder", name := "<init>", desc := "(I)V" } : Jvm.MethodName) prog_4_method_1_code (2 : Nat) (Option.none : Option Jvm.ClassFile.FieldType)) ∈ wA := wA_of 85 rfl rfl
set_option maxRecDepth 20000 in
theorem q_86 : (Cond.methodLink "ActChains$LineFinder" (3 : Nat) ({ cls := "java/lang/Object", name := "<init>", desc := "()V" } : Jvm.MethodName)) ∈ wA := wA_of 86 rfl rfl
set_option maxRecDepth 20000 in
theorem q_87 : (Cond.classLink "ActChains$LineFinder" (22 : Nat) "[[I") ∈ wA := wA_of 87 rfl rfl
set_option maxRecDepth 20000 in
theorem q_88 : (Cond.fieldLink "ActChains$LineFinder" (9 : Nat) "ActChains$LineFinder" "line" "[I") ∈ wA := wA_of 88 rfl rfl
set_option maxRecDepth 20000 in
theorem q_89 : (Cond.fieldLink "ActChains$LatestRun" (31 : Nat) "ActChains$LineFinder" "line" "[I") ∈ wA := wA_of 89 rfl rfl
set_option maxRecDepth 20000 in
theorem q_90 : (Cond.fieldLink "ActChains" (152 : Nat) "ActChains$LineFinder" "line" "[I") ∈ wA := wA_of 90 rfl rfl
set_option maxRecDepth 20000 in
theorem q_91 : (Cond.fieldLink "ActChains$LineFinder" (15 : Nat) "ActChains$LineFinder" "cost" "I") ∈ wA := wA_of 91 rfl rfl
set_option maxRecDepth 20000 in
theorem q_92 : (Cond.fieldLink "ActChains$LatestRun" (28 : Nat) "ActChains$LineFinder" "cost" "I") ∈ wA := wA_of 92 rfl rfl
set_option maxRecDepth 20000 in
theorem q_93 : (Cond.fieldLink "ActChains" (227 : Nat) "ActChains$LineFinder" "cost" "I") ∈ wA := wA_of 93 rfl rfl
set_option maxRecDepth 20000 in
theorem q_94 : (Cond.fieldLink "ActChains$LineFinder" (19 : Nat) "ActChains$LineFinder" "acts" "I") ∈ wA := wA_of 94 rfl rfl
set_option maxRecDepth 20000 in
theorem q_95 : (Cond.fieldLink "ActChains$LineFinder" (24 : Nat) "ActChains$LineFinder" "toGo" "[[I") ∈ wA := wA_of 95 rfl rfl
set_option maxRecDepth 20000 in
theorem q_96 : (Cond.fieldLink "ActChains$LineFinder" (27 : Nat) "ActChains$LineFinder" "noChange" "[I") ∈ wA := wA_of 96 rfl rfl
set_option maxRecDepth 20000 in
theorem q_97 : (Cond.fieldLink "ActChains$LineFinder" (30 : Nat) "ActChains$LineFinder" "before" "[I") ∈ wA := wA_of 97 rfl rfl
set_option maxRecDepth 20000 in
theorem q_98 : (Cond.fieldLink "ActChains$LineFinder" (33 : Nat) "ActChains$LineFinder" "after" "[I") ∈ wA := wA_of 98 rfl rfl
set_option maxRecDepth 20000 in
theorem q_114 : (Cond.classLink "ActChains" (51 : Nat) "ActChains$LatestRun") ∈ wA := wA_of 114 rfl rfl
set_option maxRecDepth 20000 in
theorem q_115 : (Cond.instantiable "ActChains$LatestRun" (4 : Nat)) ∈ wA := wA_of 115 rfl rfl
set_option maxRecDepth 20000 in
theorem q_117 : (Cond.instanceMethod ({ cls := "ActChains$LatestRun", name := "<init>", desc := "()V" } : Jvm.MethodName)) ∈ wA := wA_of 117 rfl rfl
set_option maxRecDepth 20000 in
theorem q_118 : (Cond.code ({ cls := "ActChains$LatestRun", name := "<init>", desc := "()V" } : Jvm.MethodName) prog_3_method_1_code (1 : Nat) (Option.none : Option Jvm.ClassFile.FieldType)) ∈ wA := wA_of 118 rfl rfl
set_option maxRecDepth 20000 in
theorem q_119 : (Cond.methodLink "ActChains$LatestRun" (3 : Nat) ({ cls := "java/lang/Object", name := "<init>", desc := "()V" } : Jvm.MethodName)) ∈ wA := wA_of 119 rfl rfl
set_option maxRecDepth 20000 in
theorem q_120 : (Cond.fieldLink "ActChains$LatestRun" (9 : Nat) "ActChains$LatestRun" "line" "[I") ∈ wA := wA_of 120 rfl rfl
set_option maxRecDepth 20000 in
theorem q_121 : (Cond.fieldLink "ActChains" (128 : Nat) "ActChains$LatestRun" "line" "[I") ∈ wA := wA_of 121 rfl rfl
set_option maxRecDepth 20000 in
theorem q_122 : (Cond.fieldLink "ActChains$LatestRun" (15 : Nat) "ActChains$LatestRun" "nextCosts" "[I") ∈ wA := wA_of 122 rfl rfl
set_option maxRecDepth 20000 in
theorem q_123 : (Cond.fieldLink "ActChains" (189 : Nat) "ActChains$LatestRun" "nextCosts" "[I") ∈ wA := wA_of 123 rfl rfl
set_option maxRecDepth 20000 in
theorem q_124 : (Cond.fieldLink "ActChains$LatestRun" (18 : Nat) "ActChains$LatestRun" "count" "I") ∈ wA := wA_of 124 rfl rfl
set_option maxRecDepth 20000 in
theorem q_125 : (Cond.fieldLink "ActChains" (209 : Nat) "ActChains$LatestRun" "count" "I") ∈ wA := wA_of 125 rfl rfl
set_option maxRecDepth 20000 in
theorem q_126 : (Cond.fieldLink "ActChains$LatestRun" (22 : Nat) "ActChains$LatestRun" "cost" "I") ∈ wA := wA_of 126 rfl rfl
set_option maxRecDepth 20000 in
theorem q_127 : (Cond.fieldLink "ActChains" (122 : Nat) "ActChains$LatestRun" "cost" "I") ∈ wA := wA_of 127 rfl rfl
set_option maxRecDepth 20000 in
theorem q_137 : (Cond.classLink "ActChains" (58 : Nat) "ActChains$Pages") ∈ wA := wA_of 137 rfl rfl
set_option maxRecDepth 20000 in
theorem q_138 : (Cond.instantiable "ActChains$Pages" (4 : Nat)) ∈ wA := wA_of 138 rfl rfl
set_option maxRecDepth 20000 in
theorem q_140 : (Cond.instanceMethod ({ cls := "ActChains$Pages", name := "<init>", desc := "()V" } : Jvm.MethodName)) ∈ wA := wA_of 140 rfl rfl
set_option maxRecDepth 20000 in
theorem q_141 : (Cond.code ({ cls := "ActChains$Pages", name := "<init>", desc := "()V" } : Jvm.MethodName) prog_5_method_1_code (1 : Nat) (Option.none : Option Jvm.ClassFile.FieldType)) ∈ wA := wA_of 141 rfl rfl
set_option maxRecDepth 20000 in
theorem q_142 : (Cond.methodLink "ActChains$Pages" (3 : Nat) ({ cls := "java/lang/Object", name := "<init>", desc := "()V" } : Jvm.MethodName)) ∈ wA := wA_of 142 rfl rfl
set_option maxRecDepth 20000 in
theorem q_143 : (Cond.fieldLink "ActChains$Pages" (9 : Nat) "ActChains$Pages" "from" "[J") ∈ wA := wA_of 143 rfl rfl
set_option maxRecDepth 20000 in
theorem q_144 : (Cond.fieldLink "ActChains$Pages" (15 : Nat) "ActChains$Pages" "to" "[J") ∈ wA := wA_of 144 rfl rfl
set_option maxRecDepth 20000 in
theorem q_145 : (Cond.fieldLink "ActChains$Pages" (18 : Nat) "ActChains$Pages" "told" "[I") ∈ wA := wA_of 145 rfl rfl
set_option maxRecDepth 20000 in
theorem q_146 : (Cond.fieldLink "ActChains$Pages" (22 : Nat) "ActChains$Pages" "count" "I") ∈ wA := wA_of 146 rfl rfl
set_option maxRecDepth 20000 in
theorem q_147 : (Cond.fieldLink "ActChains" (182 : Nat) "ActChains$Pages" "count" "I") ∈ wA := wA_of 147 rfl rfl
set_option maxRecDepth 20000 in
theorem q_157 : (Cond.classLink "ActChains" (65 : Nat) "ActChains$Cells") ∈ wA := wA_of 157 rfl rfl
set_option maxRecDepth 20000 in
theorem q_158 : (Cond.instantiable "ActChains$Cells" (5 : Nat)) ∈ wA := wA_of 158 rfl rfl
set_option maxRecDepth 20000 in
theorem q_160 : (Cond.instanceMethod ({ cls := "ActChains$Cells", name := "<init>", desc := "()V" } : Jvm.MethodName)) ∈ wA := wA_of 160 rfl rfl
set_option maxRecDepth 20000 in
theorem q_161 : (Cond.code ({ cls := "ActChains$Cells", name := "<init>", desc := "()V" } : Jvm.MethodName) prog_2_method_1_code (1 : Nat) (Option.none : Option Jvm.ClassFile.FieldType)) ∈ wA := wA_of 161 rfl rfl
set_option maxRecDepth 20000 in
theorem q_162 : (Cond.methodLink "ActChains$Cells" (3 : Nat) ({ cls := "java/lang/Object", name := "<init>", desc := "()V" } : Jvm.MethodName)) ∈ wA := wA_of 162 rfl rfl
set_option maxRecDepth 20000 in
theorem q_163 : (Cond.fieldLink "ActChains$Cells" (9 : Nat) "ActChains$Cells" "rows" "[I") ∈ wA := wA_of 163 rfl rfl
set_option maxRecDepth 20000 in
theorem q_164 : (Cond.fieldLink "ActChains$Cells" (15 : Nat) "ActChains$Cells" "xs" "[I") ∈ wA := wA_of 164 rfl rfl
set_option maxRecDepth 20000 in
theorem q_165 : (Cond.fieldLink "ActChains$Cells" (18 : Nat) "ActChains$Cells" "ys" "[I") ∈ wA := wA_of 165 rfl rfl
set_option maxRecDepth 20000 in
theorem q_166 : (Cond.fieldLink "ActChains$Cells" (21 : Nat) "ActChains$Cells" "times" "[J") ∈ wA := wA_of 166 rfl rfl
set_option maxRecDepth 20000 in
theorem q_167 : (Cond.fieldLink "ActChains$Cells" (25 : Nat) "ActChains$Cells" "count" "I") ∈ wA := wA_of 167 rfl rfl
set_option maxRecDepth 20000 in
theorem q_168 : (Cond.fieldLink "ActChains" (202 : Nat) "ActChains$Cells" "count" "I") ∈ wA := wA_of 168 rfl rfl
set_option maxRecDepth 20000 in
theorem q_180 : (Cond.fieldLink "ActChains" (18 : Nat) "ActChains" "acts" "I") ∈ wA := wA_of 180 rfl rfl
set_option maxRecDepth 20000 in
theorem q_181 : (Cond.fieldLink "ActChains" (25 : Nat) "ActChains" "tracks" "LActChains$Tracks;") ∈ wA := wA_of 181 rfl rfl
set_option maxRecDepth 20000 in
theorem q_182 : (Cond.fieldLink "ActChains" (34 : Nat) "ActChains" "costs" "LActChains$Table;") ∈ wA := wA_of 182 rfl rfl
set_option maxRecDepth 20000 in
theorem q_183 : (Cond.fieldLink "ActChains" (38 : Nat) "ActChains" "fitted" "LActChains$Table;") ∈ wA := wA_of 183 rfl rfl
set_option maxRecDepth 20000 in
theorem q_184 : (Cond.fieldLink "ActChains" (41 : Nat) "ActChains" "counts" "LActChains$Table;") ∈ wA := wA_of 184 rfl rfl
set_option maxRecDepth 20000 in
theorem q_185 : (Cond.fieldLink "ActChains" (47 : Nat) "ActChains" "finder" "LActChains$LineFinder;") ∈ wA := wA_of 185 rfl rfl
set_option maxRecDepth 20000 in
theorem q_186 : (Cond.fieldLink "ActChains" (54 : Nat) "ActChains" "latest" "LActChains$LatestRun;") ∈ wA := wA_of 186 rfl rfl
set_option maxRecDepth 20000 in
theorem q_187 : (Cond.fieldLink "ActChains" (61 : Nat) "ActChains" "pages" "LActChains$Pages;") ∈ wA := wA_of 187 rfl rfl
set_option maxRecDepth 20000 in
theorem q_188 : (Cond.fieldLink "ActChains" (68 : Nat) "ActChains" "cells" "LActChains$Cells;") ∈ wA := wA_of 188 rfl rfl
set_option maxRecDepth 20000 in
theorem q_189 : (Cond.fieldLink "ActChains" (72 : Nat) "ActChains" "sums" "[J") ∈ wA := wA_of 189 rfl rfl
set_option maxRecDepth 20000 in
theorem q_190 : (Cond.fieldLink "ActChains" (76 : Nat) "ActChains" "keptRounds" "I") ∈ wA := wA_of 190 rfl rfl
set_option maxRecDepth 20000 in
theorem q_191 : (Cond.fieldLink "ActChains" (79 : Nat) "ActChains" "shipNow" "I") ∈ wA := wA_of 191 rfl rfl
set_option maxRecDepth 20000 in
theorem q_192 : (Cond.fieldLink "ActChains" (82 : Nat) "ActChains" "marginNow" "I") ∈ wA := wA_of 192 rfl rfl
set_option maxRecDepth 20000 in
theorem q_220 : (Cond.methodLink "ActChainsLaw" (21 : Nat) ({ cls := "ActChains", name := "move", desc := "(III)Z" } : Jvm.MethodName)) ∈ wA := wA_of 220 rfl rfl
set_option maxRecDepth 20000 in
theorem q_221 : (Cond.instanceMethod ({ cls := "ActChains", name := "move", desc := "(III)Z" } : Jvm.MethodName)) ∈ wA := wA_of 221 rfl rfl
set_option maxRecDepth 20000 in
theorem q_222 : (Cond.selects "ActChains" ({ cls := "ActChains", name := "move", desc := "(III)Z" } : Jvm.MethodName) ({ cls := "ActChains", name := "move", desc := "(III)Z" } : Jvm.MethodName)) ∈ wA := wA_of 222 rfl rfl
set_option maxRecDepth 20000 in
theorem q_223 : (Cond.code ({ cls := "ActChains", name := "move", desc := "(III)Z" } : Jvm.MethodName) prog_1_method_2_code (4 : Nat) (Option.some Jvm.ClassFile.FieldType.boolean)) ∈ wA := wA_of 223 rfl rfl
set_option maxRecDepth 20000 in
theorem q_224 : (Cond.methodLink "ActChains" (85 : Nat) ({ cls := "ActChains", name := "isAct", desc := "(I)Z" } : Jvm.MethodName)) ∈ wA := wA_of 224 rfl rfl
set_option maxRecDepth 20000 in
theorem q_226 : (Cond.instanceMethod ({ cls := "ActChains", name := "isAct", desc := "(I)Z" } : Jvm.MethodName)) ∈ wA := wA_of 226 rfl rfl
set_option maxRecDepth 20000 in
theorem q_227 : (Cond.code ({ cls := "ActChains", name := "isAct", desc := "(I)Z" } : Jvm.MethodName) prog_1_method_25_code (2 : Nat) (Option.some Jvm.ClassFile.FieldType.boolean)) ∈ wA := wA_of 227 rfl rfl
set_option maxRecDepth 20000 in
theorem q_228 : (Cond.methodLink "ActChains" (96 : Nat) ({ cls := "ActChains", name := "isBelow", desc := "(II)Z" } : Jvm.MethodName)) ∈ wA := wA_of 228 rfl rfl
set_option maxRecDepth 20000 in
theorem q_229 : (Cond.static ({ cls := "ActChains", name := "isBelow", desc := "(II)Z" } : Jvm.MethodName)) ∈ wA := wA_of 229 rfl rfl
set_option maxRecDepth 20000 in
theorem q_230 : (Cond.code ({ cls := "ActChains", name := "isBelow", desc := "(II)Z" } : Jvm.MethodName) prog_1_method_28_code (2 : Nat) (Option.some Jvm.ClassFile.FieldType.boolean)) ∈ wA := wA_of 230 rfl rfl
set_option maxRecDepth 20000 in
theorem q_231 : (Cond.methodLink "ActChains" (89 : Nat) ({ cls := "ActChains", name := "isCost", desc := "(I)Z" } : Jvm.MethodName)) ∈ wA := wA_of 231 rfl rfl
set_option maxRecDepth 20000 in
theorem q_232 : (Cond.static ({ cls := "ActChains", name := "isCost", desc := "(I)Z" } : Jvm.MethodName)) ∈ wA := wA_of 232 rfl rfl
set_option maxRecDepth 20000 in
theorem q_233 : (Cond.code ({ cls := "ActChains", name := "isCost", desc := "(I)Z" } : Jvm.MethodName) prog_1_method_26_code (1 : Nat) (Option.some Jvm.ClassFile.FieldType.boolean)) ∈ wA := wA_of 233 rfl rfl
set_option maxRecDepth 20000 in
theorem q_234 : (Cond.methodLink "ActChainsLaw" (26 : Nat) ({ cls := "ActChains", name := "speed", desc := "(III)Z" } : Jvm.MethodName)) ∈ wA := wA_of 234 rfl rfl
set_option maxRecDepth 20000 in
theorem q_235 : (Cond.instanceMethod ({ cls := "ActChains", name := "speed", desc := "(III)Z" } : Jvm.MethodName)) ∈ wA := wA_of 235 rfl rfl
set_option maxRecDepth 20000 in
theorem q_236 : (Cond.selects "ActChains" ({ cls := "ActChains", name := "speed", desc := "(III)Z" } : Jvm.MethodName) ({ cls := "ActChains", name := "speed", desc := "(III)Z" } : Jvm.MethodName)) ∈ wA := wA_of 236 rfl rfl
set_option maxRecDepth 20000 in
theorem q_237 : (Cond.code ({ cls := "ActChains", name := "speed", desc := "(III)Z" } : Jvm.MethodName) prog_1_method_3_code (4 : Nat) (Option.some Jvm.ClassFile.FieldType.boolean)) ∈ wA := wA_of 237 rfl rfl
set_option maxRecDepth 20000 in
theorem q_238 : (Cond.methodLink "ActChainsLaw" (32 : Nat) ({ cls := "ActChains", name := "row", desc := "(JII)Z" } : Jvm.MethodName)) ∈ wA := wA_of 238 rfl rfl
set_option maxRecDepth 20000 in
theorem q_239 : (Cond.instanceMethod ({ cls := "ActChains", name := "row", desc := "(JII)Z" } : Jvm.MethodName)) ∈ wA := wA_of 239 rfl rfl
set_option maxRecDepth 20000 in
theorem q_240 : (Cond.selects "ActChains" ({ cls := "ActChains", name := "row", desc := "(JII)Z" } : Jvm.MethodName) ({ cls := "ActChains", name := "row", desc := "(JII)Z" } : Jvm.MethodName)) ∈ wA := wA_of 240 rfl rfl
set_option maxRecDepth 20000 in
theorem q_241 : (Cond.code ({ cls := "ActChains", name := "row", desc := "(JII)Z" } : Jvm.MethodName) prog_1_method_4_code (5 : Nat) (Option.some Jvm.ClassFile.FieldType.boolean)) ∈ wA := wA_of 241 rfl rfl
set_option maxRecDepth 20000 in
theorem q_242 : (Cond.methodLink "ActChains" (103 : Nat) ({ cls := "ActChains$Tracks", name := "canFollow", desc := "(J)Z" } : Jvm.MethodName)) ∈ wA := wA_of 242 rfl rfl
set_option maxRecDepth 20000 in
theorem q_243 : (Cond.instanceMethod ({ cls := "ActChains$Tracks", name := "canFollow", desc := "(J)Z" } : Jvm.MethodName)) ∈ wA := wA_of 243 rfl rfl
set_option maxRecDepth 20000 in
theorem q_244 : (Cond.selects "ActChains$Tracks" ({ cls := "ActChains$Tracks", name := "canFollow", desc := "(J)Z" } : Jvm.MethodName) ({ cls := "ActChains$Tracks", name := "canFollow", desc := "(J)Z" } : Jvm.MethodName)) ∈ wA := wA_of 244 rfl rfl
set_option maxRecDepth 20000 in
theorem q_245 : (Cond.code ({ cls := "ActChains$Tracks", name := "canFollow", desc := "(J)Z" } : Jvm.MethodName) prog_7_method_2_code (3 : Nat) (Option.some Jvm.ClassFile.FieldType.boolean)) ∈ wA := wA_of 245 rfl rfl
set_option maxRecDepth 20000 in
theorem q_246 : (Cond.methodLink "ActChains" (107 : Nat) ({ cls := "ActChains$Tracks", name := "add", desc := "(JIII)V" } : Jvm.MethodName)) ∈ wA := wA_of 246 rfl rfl
set_option maxRecDepth 20000 in
theorem q_247 : (Cond.instanceMethod ({ cls := "ActChains$Tracks", name := "add", desc := "(JIII)V" } : Jvm.MethodName)) ∈ wA := wA_of 247 rfl rfl
set_option maxRecDepth 20000 in
theorem q_248 : (Cond.selects "ActChains$Tracks" ({ cls := "ActChains$Tracks", name := "add", desc := "(JIII)V" } : Jvm.MethodName) ({ cls := "ActChains$Tracks", name := "add", desc := "(JIII)V" } : Jvm.MethodName)) ∈ wA := wA_of 248 rfl rfl
set_option maxRecDepth 20000 in
theorem q_249 : (Cond.code ({ cls := "ActChains$Tracks", name := "add", desc := "(JIII)V" } : Jvm.MethodName) prog_7_method_3_code (6 : Nat) (Option.none : Option Jvm.ClassFile.FieldType)) ∈ wA := wA_of 249 rfl rfl
set_option maxRecDepth 20000 in
theorem q_250 : (Cond.methodLink "ActChainsLaw" (37 : Nat) ({ cls := "ActChains", name := "run", desc := "()I" } : Jvm.MethodName)) ∈ wA := wA_of 250 rfl rfl
set_option maxRecDepth 20000 in
theorem q_251 : (Cond.instanceMethod ({ cls := "ActChains", name := "run", desc := "()I" } : Jvm.MethodName)) ∈ wA := wA_of 251 rfl rfl
set_option maxRecDepth 20000 in
theorem q_252 : (Cond.selects "ActChains" ({ cls := "ActChains", name := "run", desc := "()I" } : Jvm.MethodName) ({ cls := "ActChains", name := "run", desc := "()I" } : Jvm.MethodName)) ∈ wA := wA_of 252 rfl rfl
set_option maxRecDepth 20000 in
theorem q_253 : (Cond.code ({ cls := "ActChains", name := "run", desc := "()I" } : Jvm.MethodName) prog_1_method_5_code (1 : Nat) (Option.some Jvm.ClassFile.FieldType.int)) ∈ wA := wA_of 253 rfl rfl
set_option maxRecDepth 20000 in
theorem q_254 : (Cond.methodLink "ActChains" (114 : Nat) ({ cls := "ActChains$LineFinder", name := "find", desc := "(LActChains$Tracks;LActChains$Table;I)V" } : Jvm.MethodName)) ∈ wA := wA_of 254 rfl rfl
set_option maxRecDepth 20000 in
theorem q_255 : (Cond.instanceMethod ({ cls := "ActChains$LineFinder", name := "find", desc := "(LActChains$Tracks;LActChains$Table;I)V" } : Jvm.MethodName)) ∈ wA := wA_of 255 rfl rfl
set_option maxRecDepth 20000 in
theorem q_256 : (Cond.selects "ActChains$LineFinder" ({ cls := "ActChains$LineFinder", name := "find", desc := "(LActChains$Tracks;LActChains$Table;I)V" } : Jvm.MethodName) ({ cls := "ActChains$LineFinder", name := "find", desc := "(LActChains$Tracks;LActChains$Table;I)V" } : Jvm.MethodName)) ∈ wA := wA_of 256 rfl rfl
set_option maxRecDepth 20000 in
theorem q_257 : (Cond.code ({ cls := "ActChains$LineFinder", name := "find", desc := "(LActChains$Tracks;LActChains$Table;I)V" } : Jvm.MethodName) prog_4_method_2_code (5 : Nat) (Option.none : Option Jvm.ClassFile.FieldType)) ∈ wA := wA_of 257 rfl rfl
set_option maxRecDepth 20000 in
theorem q_258 : (Cond.methodLink "ActChains$LineFinder" (41 : Nat) ({ cls := "ActChains$LineFinder", name := "fillToGo", desc := "(LActChains$Tracks;LActChains$Table;II)V" } : Jvm.MethodName)) ∈ wA := wA_of 258 rfl rfl
set_option maxRecDepth 20000 in
theorem q_260 : (Cond.instanceMethod ({ cls := "ActChains$LineFinder", name := "fillToGo", desc := "(LActChains$Tracks;LActChains$Table;II)V" } : Jvm.MethodName)) ∈ wA := wA_of 260 rfl rfl
set_option maxRecDepth 20000 in
theorem q_261 : (Cond.code ({ cls := "ActChains$LineFinder", name := "fillToGo", desc := "(LActChains$Tracks;LActChains$Table;II)V" } : Jvm.MethodName) prog_4_method_4_code (9 : Nat) (Option.none : Option Jvm.ClassFile.FieldType)) ∈ wA := wA_of 261 rfl rfl
set_option maxRecDepth 20000 in
theorem q_262 : (Cond.methodLink "ActChains$LineFinder" (74 : Nat) ({ cls := "ActChains$Tracks", name := "allows", desc := "(III)Z" } : Jvm.MethodName)) ∈ wA := wA_of 262 rfl rfl
set_option maxRecDepth 20000 in
theorem q_263 : (Cond.instanceMethod ({ cls := "ActChains$Tracks", name := "allows", desc := "(III)Z" } : Jvm.MethodName)) ∈ wA := wA_of 263 rfl rfl
set_option maxRecDepth 20000 in
theorem q_264 : (Cond.selects "ActChains$Tracks" ({ cls := "ActChains$Tracks", name := "allows", desc := "(III)Z" } : Jvm.MethodName) ({ cls := "ActChains$Tracks", name := "allows", desc := "(III)Z" } : Jvm.MethodName)) ∈ wA := wA_of 264 rfl rfl
set_option maxRecDepth 20000 in
theorem q_265 : (Cond.code ({ cls := "ActChains$Tracks", name := "allows", desc := "(III)Z" } : Jvm.MethodName) prog_7_method_4_code (4 : Nat) (Option.some Jvm.ClassFile.FieldType.boolean)) ∈ wA := wA_of 265 rfl rfl
set_option maxRecDepth 20000 in
theorem q_266 : (Cond.constant "ActChains$LineFinder" (78 : Nat) (1000000000 : Int32)) ∈ wA := wA_of 266 rfl rfl
set_option maxRecDepth 20000 in
theorem q_267 : (Cond.methodLink "ActChains$LineFinder" (45 : Nat) ({ cls := "ActChains$LineFinder", name := "cheapest", desc := "([I[I)I" } : Jvm.MethodName)) ∈ wA := wA_of 267 rfl rfl
set_option maxRecDepth 20000 in
theorem q_269 : (Cond.instanceMethod ({ cls := "ActChains$LineFinder", name := "cheapest", desc := "([I[I)I" } : Jvm.MethodName)) ∈ wA := wA_of 269 rfl rfl
set_option maxRecDepth 20000 in
theorem q_270 : (Cond.code ({ cls := "ActChains$LineFinder", name := "cheapest", desc := "([I[I)I" } : Jvm.MethodName) prog_4_method_5_code (7 : Nat) (Option.some Jvm.ClassFile.FieldType.int)) ∈ wA := wA_of 270 rfl rfl
set_option maxRecDepth 20000 in
theorem q_271 : (Cond.methodLink "ActChains" (118 : Nat) ({ cls := "ActChains$LatestRun", name := "takeOver", desc := "(LActChains$Tracks;LActChains$Table;LActChains$LineFinder;)V" } : Jvm.MethodName)) ∈ wA := wA_of 271 rfl rfl
set_option maxRecDepth 20000 in
theorem q_272 : (Cond.instanceMethod ({ cls := "ActChains$LatestRun", name := "takeOver", desc := "(LActChains$Tracks;LActChains$Table;LActChains$LineFinder;)V" } : Jvm.MethodName)) ∈ wA := wA_of 272 rfl rfl
set_option maxRecDepth 20000 in
theorem q_273 : (Cond.selects "ActChains$LatestRun" ({ cls := "ActChains$LatestRun", name := "takeOver", desc := "(LActChains$Tracks;LActChains$Table;LActChains$LineFinder;)V" } : Jvm.MethodName) ({ cls := "ActChains$LatestRun", name := "takeOver", desc := "(LActChains$Tracks;LActChains$Table;LActChains$LineFinder;)V" } : Jvm.MethodName)) ∈ wA := wA_of 273 rfl rfl
set_option maxRecDepth 20000 in
theorem q_274 : (Cond.code ({ cls := "ActChains$LatestRun", name := "takeOver", desc := "(LActChains$Tracks;LActChains$Table;LActChains$LineFinder;)V" } : Jvm.MethodName) prog_3_method_2_code (4 : Nat) (Option.none : Option Jvm.ClassFile.FieldType)) ∈ wA := wA_of 274 rfl rfl
set_option maxRecDepth 20000 in
theorem q_275 : (Cond.methodLink "ActChains$LatestRun" (32 : Nat) ({ cls := "java/lang/System", name := "arraycopy", desc := "(Ljava/lang/Object;ILjava/lang/Object;II)V" } : Jvm.MethodName)) ∈ wA := wA_of 275 rfl rfl
set_option maxRecDepth 20000 in
theorem q_276 : (Cond.static ({ cls := "java/lang/System", name := "arraycopy", desc := "(Ljava/lang/Object;ILjava/lang/Object;II)V" } : Jvm.MethodName)) ∈ wA := wA_of 276 rfl rfl
set_option maxRecDepth 20000 in
theorem q_277 : (Cond.native ({ cls := "java/lang/System", name := "arraycopy", desc := "(Ljava/lang/Object;ILjava/lang/Object;II)V" } : Jvm.MethodName)) ∈ wA := wA_of 277 rfl rfl
set_option maxRecDepth 20000 in
theorem q_278 : (Cond.methodLink "ActChains$LatestRun" (38 : Nat) ({ cls := "ActChains$LineFinder", name := "fillNextCosts", desc := "(LActChains$Tracks;LActChains$Table;[I)V" } : Jvm.MethodName)) ∈ wA := wA_of 278 rfl rfl
set_option maxRecDepth 20000 in
theorem q_279 : (Cond.instanceMethod ({ cls := "ActChains$LineFinder", name := "fillNextCosts", desc := "(LActChains$Tracks;LActChains$Table;[I)V" } : Jvm.MethodName)) ∈ wA := wA_of 279 rfl rfl
set_option maxRecDepth 20000 in
theorem q_280 : (Cond.selects "ActChains$LineFinder" ({ cls := "ActChains$LineFinder", name := "fillNextCosts", desc := "(LActChains$Tracks;LActChains$Table;[I)V" } : Jvm.MethodName) ({ cls := "ActChains$LineFinder", name := "fillNextCosts", desc := "(LActChains$Tracks;LActChains$Table;[I)V" } : Jvm.MethodName)) ∈ wA := wA_of 280 rfl rfl
set_option maxRecDepth 20000 in
theorem q_281 : (Cond.code ({ cls := "ActChains$LineFinder", name := "fillNextCosts", desc := "(LActChains$Tracks;LActChains$Table;[I)V" } : Jvm.MethodName) prog_4_method_3_code (6 : Nat) (Option.none : Option Jvm.ClassFile.FieldType)) ∈ wA := wA_of 281 rfl rfl
set_option maxRecDepth 20000 in
theorem q_282 : (Cond.methodLink "ActChains$LineFinder" (54 : Nat) ({ cls := "java/util/Arrays", name := "fill", desc := "([II)V" } : Jvm.MethodName)) ∈ wA := wA_of 282 rfl rfl
set_option maxRecDepth 20000 in
theorem q_283 : (Cond.static ({ cls := "java/util/Arrays", name := "fill", desc := "([II)V" } : Jvm.MethodName)) ∈ wA := wA_of 283 rfl rfl
set_option maxRecDepth 20000 in
theorem q_284 : (Cond.code ({ cls := "java/util/Arrays", name := "fill", desc := "([II)V" } : Jvm.MethodName) prog_12_method_103_code (4 : Nat) (Option.none : Option Jvm.ClassFile.FieldType)) ∈ wA := wA_of 284 rfl rfl
set_option maxRecDepth 20000 in
theorem q_285 : (Cond.methodLink "ActChains$LineFinder" (63 : Nat) ({ cls := "ActChains$LineFinder", name := "leastOther", desc := "(I[I)I" } : Jvm.MethodName)) ∈ wA := wA_of 285 rfl rfl
set_option maxRecDepth 20000 in
theorem q_287 : (Cond.instanceMethod ({ cls := "ActChains$LineFinder", name := "leastOther", desc := "(I[I)I" } : Jvm.MethodName)) ∈ wA := wA_of 287 rfl rfl
set_option maxRecDepth 20000 in
theorem q_288 : (Cond.code ({ cls := "ActChains$LineFinder", name := "leastOther", desc := "(I[I)I" } : Jvm.MethodName) prog_4_method_6_code (5 : Nat) (Option.some Jvm.ClassFile.FieldType.int)) ∈ wA := wA_of 288 rfl rfl
set_option maxRecDepth 20000 in
theorem q_289 : (Cond.methodLink "ActChains$LineFinder" (82 : Nat) ({ cls := "java/lang/Math", name := "min", desc := "(II)I" } : Jvm.MethodName)) ∈ wA := wA_of 289 rfl rfl
set_option maxRecDepth 20000 in
theorem q_290 : (Cond.methodLink "ActChains$LineFinder" (67 : Nat) ({ cls := "ActChains$LineFinder", name := "stepBefore", desc := "(LActChains$Tracks;LActChains$Table;I)V" } : Jvm.MethodName)) ∈ wA := wA_of 290 rfl rfl
set_option maxRecDepth 20000 in
theorem q_292 : (Cond.instanceMethod ({ cls := "ActChains$LineFinder", name := "stepBefore", desc := "(LActChains$Tracks;LActChains$Table;I)V" } : Jvm.MethodName)) ∈ wA := wA_of 292 rfl rfl
set_option maxRecDepth 20000 in
theorem q_293 : (Cond.code ({ cls := "ActChains$LineFinder", name := "stepBefore", desc := "(LActChains$Tracks;LActChains$Table;I)V" } : Jvm.MethodName) prog_4_method_7_code (8 : Nat) (Option.none : Option Jvm.ClassFile.FieldType)) ∈ wA := wA_of 293 rfl rfl
set_option maxRecDepth 20000 in
theorem q_294 : (Cond.methodLink "ActChainsLaw" (42 : Nat) ({ cls := "ActChains", name := "act", desc := "(I)I" } : Jvm.MethodName)) ∈ wA := wA_of 294 rfl rfl
set_option maxRecDepth 20000 in
theorem q_295 : (Cond.instanceMethod ({ cls := "ActChains", name := "act", desc := "(I)I" } : Jvm.MethodName)) ∈ wA := wA_of 295 rfl rfl
set_option maxRecDepth 20000 in
theorem q_296 : (Cond.selects "ActChains" ({ cls := "ActChains", name := "act", desc := "(I)I" } : Jvm.MethodName) ({ cls := "ActChains", name := "act", desc := "(I)I" } : Jvm.MethodName)) ∈ wA := wA_of 296 rfl rfl
set_option maxRecDepth 20000 in
theorem q_297 : (Cond.code ({ cls := "ActChains", name := "act", desc := "(I)I" } : Jvm.MethodName) prog_1_method_6_code (2 : Nat) (Option.some Jvm.ClassFile.FieldType.int)) ∈ wA := wA_of 297 rfl rfl
set_option maxRecDepth 20000 in
theorem q_298 : (Cond.methodLink "ActChains" (125 : Nat) ({ cls := "ActChains$LatestRun", name := "has", desc := "(I)Z" } : Jvm.MethodName)) ∈ wA := wA_of 298 rfl rfl
set_option maxRecDepth 20000 in
theorem q_299 : (Cond.instanceMethod ({ cls := "ActChains$LatestRun", name := "has", desc := "(I)Z" } : Jvm.MethodName)) ∈ wA := wA_of 299 rfl rfl
set_option maxRecDepth 20000 in
theorem q_300 : (Cond.selects "ActChains$LatestRun" ({ cls := "ActChains$LatestRun", name := "has", desc := "(I)Z" } : Jvm.MethodName) ({ cls := "ActChains$LatestRun", name := "has", desc := "(I)Z" } : Jvm.MethodName)) ∈ wA := wA_of 300 rfl rfl
set_option maxRecDepth 20000 in
theorem q_301 : (Cond.code ({ cls := "ActChains$LatestRun", name := "has", desc := "(I)Z" } : Jvm.MethodName) prog_3_method_4_code (2 : Nat) (Option.some Jvm.ClassFile.FieldType.boolean)) ∈ wA := wA_of 301 rfl rfl
set_option maxRecDepth 20000 in
theorem q_303 : (Cond.methodLink "ActChainsLaw" (47 : Nat) ({ cls := "ActChains", name := "greatest", desc := "()Z" } : Jvm.MethodName)) ∈ wA := wA_of 303 rfl rfl
set_option maxRecDepth 20000 in
theorem q_304 : (Cond.instanceMethod ({ cls := "ActChains", name := "greatest", desc := "()Z" } : Jvm.MethodName)) ∈ wA := wA_of 304 rfl rfl
set_option maxRecDepth 20000 in
theorem q_305 : (Cond.selects "ActChains" ({ cls := "ActChains", name := "greatest", desc := "()Z" } : Jvm.MethodName) ({ cls := "ActChains", name := "greatest", desc := "()Z" } : Jvm.MethodName)) ∈ wA := wA_of 305 rfl rfl
set_option maxRecDepth 20000 in
theorem q_306 : (Cond.code ({ cls := "ActChains", name := "greatest", desc := "()Z" } : Jvm.MethodName) prog_1_method_7_code (1 : Nat) (Option.some Jvm.ClassFile.FieldType.boolean)) ∈ wA := wA_of 306 rfl rfl
set_option maxRecDepth 20000 in
theorem q_307 : (Cond.methodLink "ActChains" (132 : Nat) ({ cls := "ActChains$LatestRun", name := "exists", desc := "()Z" } : Jvm.MethodName)) ∈ wA := wA_of 307 rfl rfl
set_option maxRecDepth 20000 in
theorem q_308 : (Cond.instanceMethod ({ cls := "ActChains$LatestRun", name := "exists", desc := "()Z" } : Jvm.MethodName)) ∈ wA := wA_of 308 rfl rfl
set_option maxRecDepth 20000 in
theorem q_309 : (Cond.selects "ActChains$LatestRun" ({ cls := "ActChains$LatestRun", name := "exists", desc := "()Z" } : Jvm.MethodName) ({ cls := "ActChains$LatestRun", name := "exists", desc := "()Z" } : Jvm.MethodName)) ∈ wA := wA_of 309 rfl rfl
set_option maxRecDepth 20000 in
theorem q_310 : (Cond.code ({ cls := "ActChains$LatestRun", name := "exists", desc := "()Z" } : Jvm.MethodName) prog_3_method_3_code (1 : Nat) (Option.some Jvm.ClassFile.FieldType.boolean)) ∈ wA := wA_of 310 rfl rfl
set_option maxRecDepth 20000 in
theorem q_311 : (Cond.methodLink "ActChainsLaw" (52 : Nat) ({ cls := "ActChains", name := "truth", desc := "(II)Z" } : Jvm.MethodName)) ∈ wA := wA_of 311 rfl rfl
set_option maxRecDepth 20000 in
theorem q_312 : (Cond.instanceMethod ({ cls := "ActChains", name := "truth", desc := "(II)Z" } : Jvm.MethodName)) ∈ wA := wA_of 312 rfl rfl
set_option maxRecDepth 20000 in
theorem q_313 : (Cond.selects "ActChains" ({ cls := "ActChains", name := "truth", desc := "(II)Z" } : Jvm.MethodName) ({ cls := "ActChains", name := "truth", desc := "(II)Z" } : Jvm.MethodName)) ∈ wA := wA_of 313 rfl rfl
set_option maxRecDepth 20000 in
theorem q_314 : (Cond.code ({ cls := "ActChains", name := "truth", desc := "(II)Z" } : Jvm.MethodName) prog_1_method_8_code (3 : Nat) (Option.some Jvm.ClassFile.FieldType.boolean)) ∈ wA := wA_of 314 rfl rfl
set_option maxRecDepth 20000 in
theorem q_315 : (Cond.methodLink "ActChainsLaw" (57 : Nat) ({ cls := "ActChains", name := "fit", desc := "(I)I" } : Jvm.MethodName)) ∈ wA := wA_of 315 rfl rfl
set_option maxRecDepth 20000 in
theorem q_316 : (Cond.instanceMethod ({ cls := "ActChains", name := "fit", desc := "(I)I" } : Jvm.MethodName)) ∈ wA := wA_of 316 rfl rfl
set_option maxRecDepth 20000 in
theorem q_317 : (Cond.selects "ActChains" ({ cls := "ActChains", name := "fit", desc := "(I)I" } : Jvm.MethodName) ({ cls := "ActChains", name := "fit", desc := "(I)I" } : Jvm.MethodName)) ∈ wA := wA_of 317 rfl rfl
set_option maxRecDepth 20000 in
theorem q_318 : (Cond.code ({ cls := "ActChains", name := "fit", desc := "(I)I" } : Jvm.MethodName) prog_1_method_9_code (3 : Nat) (Option.some Jvm.ClassFile.FieldType.int)) ∈ wA := wA_of 318 rfl rfl
set_option maxRecDepth 20000 in
theorem q_319 : (Cond.methodLink "ActChains" (139 : Nat) ({ cls := "ActChains", name := "run", desc := "()I" } : Jvm.MethodName)) ∈ wA := wA_of 319 rfl rfl
set_option maxRecDepth 20000 in
theorem q_320 : (Cond.methodLink "ActChains" (143 : Nat) ({ cls := "ActChains", name := "isRoundKept", desc := "()Z" } : Jvm.MethodName)) ∈ wA := wA_of 320 rfl rfl
set_option maxRecDepth 20000 in
theorem q_322 : (Cond.instanceMethod ({ cls := "ActChains", name := "isRoundKept", desc := "()Z" } : Jvm.MethodName)) ∈ wA := wA_of 322 rfl rfl
set_option maxRecDepth 20000 in
theorem q_323 : (Cond.code ({ cls := "ActChains", name := "isRoundKept", desc := "()Z" } : Jvm.MethodName) prog_1_method_29_code (1 : Nat) (Option.some Jvm.ClassFile.FieldType.boolean)) ∈ wA := wA_of 323 rfl rfl
set_option maxRecDepth 20000 in
theorem q_324 : (Cond.methodLink "ActChains" (216 : Nat) ({ cls := "ActChains$Table", name := "countLine", desc := "(LActChains$Tracks;[I)V" } : Jvm.MethodName)) ∈ wA := wA_of 324 rfl rfl
set_option maxRecDepth 20000 in
theorem q_325 : (Cond.instanceMethod ({ cls := "ActChains$Table", name := "countLine", desc := "(LActChains$Tracks;[I)V" } : Jvm.MethodName)) ∈ wA := wA_of 325 rfl rfl
set_option maxRecDepth 20000 in
theorem q_326 : (Cond.selects "ActChains$Table" ({ cls := "ActChains$Table", name := "countLine", desc := "(LActChains$Tracks;[I)V" } : Jvm.MethodName) ({ cls := "ActChains$Table", name := "countLine", desc := "(LActChains$Tracks;[I)V" } : Jvm.MethodName)) ∈ wA := wA_of 326 rfl rfl
set_option maxRecDepth 20000 in
theorem q_327 : (Cond.code ({ cls := "ActChains$Table", name := "countLine", desc := "(LActChains$Tracks;[I)V" } : Jvm.MethodName) prog_6_method_3_code (4 : Nat) (Option.none : Option Jvm.ClassFile.FieldType)) ∈ wA := wA_of 327 rfl rfl
set_option maxRecDepth 20000 in
theorem q_328 : (Cond.methodLink "ActChains$Table" (25 : Nat) ({ cls := "ActChains$Table", name := "clear", desc := "()V" } : Jvm.MethodName)) ∈ wA := wA_of 328 rfl rfl
set_option maxRecDepth 20000 in
theorem q_330 : (Cond.instanceMethod ({ cls := "ActChains$Table", name := "clear", desc := "()V" } : Jvm.MethodName)) ∈ wA := wA_of 330 rfl rfl
set_option maxRecDepth 20000 in
theorem q_331 : (Cond.code ({ cls := "ActChains$Table", name := "clear", desc := "()V" } : Jvm.MethodName) prog_6_method_5_code (2 : Nat) (Option.none : Option Jvm.ClassFile.FieldType)) ∈ wA := wA_of 331 rfl rfl
set_option maxRecDepth 20000 in
theorem q_332 : (Cond.methodLink "ActChains$Table" (42 : Nat) ({ cls := "java/util/Arrays", name := "fill", desc := "([II)V" } : Jvm.MethodName)) ∈ wA := wA_of 332 rfl rfl
set_option maxRecDepth 20000 in
theorem q_333 : (Cond.methodLink "ActChains" (220 : Nat) ({ cls := "ActChains$Table", name := "copyFrom", desc := "(LActChains$Table;)V" } : Jvm.MethodName)) ∈ wA := wA_of 333 rfl rfl
set_option maxRecDepth 20000 in
theorem q_334 : (Cond.instanceMethod ({ cls := "ActChains$Table", name := "copyFrom", desc := "(LActChains$Table;)V" } : Jvm.MethodName)) ∈ wA := wA_of 334 rfl rfl
set_option maxRecDepth 20000 in
theorem q_335 : (Cond.selects "ActChains$Table" ({ cls := "ActChains$Table", name := "copyFrom", desc := "(LActChains$Table;)V" } : Jvm.MethodName) ({ cls := "ActChains$Table", name := "copyFrom", desc := "(LActChains$Table;)V" } : Jvm.MethodName)) ∈ wA := wA_of 335 rfl rfl
set_option maxRecDepth 20000 in
theorem q_336 : (Cond.code ({ cls := "ActChains$Table", name := "copyFrom", desc := "(LActChains$Table;)V" } : Jvm.MethodName) prog_6_method_2_code (3 : Nat) (Option.none : Option Jvm.ClassFile.FieldType)) ∈ wA := wA_of 336 rfl rfl
set_option maxRecDepth 20000 in
theorem q_337 : (Cond.methodLink "ActChains$Table" (19 : Nat) ({ cls := "java/lang/System", name := "arraycopy", desc := "(Ljava/lang/Object;ILjava/lang/Object;II)V" } : Jvm.MethodName)) ∈ wA := wA_of 337 rfl rfl
set_option maxRecDepth 20000 in
theorem q_338 : (Cond.methodLink "ActChains" (224 : Nat) ({ cls := "ActChains$Table", name := "fitTo", desc := "(LActChains$Table;)V" } : Jvm.MethodName)) ∈ wA := wA_of 338 rfl rfl
set_option maxRecDepth 20000 in
theorem q_339 : (Cond.instanceMethod ({ cls := "ActChains$Table", name := "fitTo", desc := "(LActChains$Table;)V" } : Jvm.MethodName)) ∈ wA := wA_of 339 rfl rfl
set_option maxRecDepth 20000 in
theorem q_340 : (Cond.selects "ActChains$Table" ({ cls := "ActChains$Table", name := "fitTo", desc := "(LActChains$Table;)V" } : Jvm.MethodName) ({ cls := "ActChains$Table", name := "fitTo", desc := "(LActChains$Table;)V" } : Jvm.MethodName)) ∈ wA := wA_of 340 rfl rfl
set_option maxRecDepth 20000 in
theorem q_341 : (Cond.code ({ cls := "ActChains$Table", name := "fitTo", desc := "(LActChains$Table;)V" } : Jvm.MethodName) prog_6_method_4_code (3 : Nat) (Option.none : Option Jvm.ClassFile.FieldType)) ∈ wA := wA_of 341 rfl rfl
set_option maxRecDepth 20000 in
theorem q_342 : (Cond.methodLink "ActChains$Table" (38 : Nat) ({ cls := "ActChains$Table", name := "fitShares", desc := "([I[I)V" } : Jvm.MethodName)) ∈ wA := wA_of 342 rfl rfl
set_option maxRecDepth 20000 in
theorem q_343 : (Cond.static ({ cls := "ActChains$Table", name := "fitShares", desc := "([I[I)V" } : Jvm.MethodName)) ∈ wA := wA_of 343 rfl rfl
set_option maxRecDepth 20000 in
theorem q_344 : (Cond.code ({ cls := "ActChains$Table", name := "fitShares", desc := "([I[I)V" } : Jvm.MethodName) prog_6_method_6_code (4 : Nat) (Option.none : Option Jvm.ClassFile.FieldType)) ∈ wA := wA_of 344 rfl rfl
set_option maxRecDepth 20000 in
theorem q_345 : (Cond.methodLink "ActChainsLaw" (61 : Nat) ({ cls := "ActChains", name := "sum", desc := "(I)J" } : Jvm.MethodName)) ∈ wA := wA_of 345 rfl rfl
set_option maxRecDepth 20000 in
theorem q_346 : (Cond.instanceMethod ({ cls := "ActChains", name := "sum", desc := "(I)J" } : Jvm.MethodName)) ∈ wA := wA_of 346 rfl rfl
set_option maxRecDepth 20000 in
theorem q_347 : (Cond.selects "ActChains" ({ cls := "ActChains", name := "sum", desc := "(I)J" } : Jvm.MethodName) ({ cls := "ActChains", name := "sum", desc := "(I)J" } : Jvm.MethodName)) ∈ wA := wA_of 347 rfl rfl
set_option maxRecDepth 20000 in
theorem q_348 : (Cond.code ({ cls := "ActChains", name := "sum", desc := "(I)J" } : Jvm.MethodName) prog_1_method_10_code (2 : Nat) (Option.some Jvm.ClassFile.FieldType.long)) ∈ wA := wA_of 348 rfl rfl
set_option maxRecDepth 20000 in
theorem q_349 : (Cond.constantLong "ActChains" (146 : Nat) (-1 : Int64)) ∈ wA := wA_of 349 rfl rfl
set_option maxRecDepth 20000 in
theorem q_350 : (Cond.methodLink "ActChainsLaw" (66 : Nat) ({ cls := "ActChains", name := "leftOut", desc := "(I)I" } : Jvm.MethodName)) ∈ wA := wA_of 350 rfl rfl
set_option maxRecDepth 20000 in
theorem q_351 : (Cond.instanceMethod ({ cls := "ActChains", name := "leftOut", desc := "(I)I" } : Jvm.MethodName)) ∈ wA := wA_of 351 rfl rfl
set_option maxRecDepth 20000 in
theorem q_352 : (Cond.selects "ActChains" ({ cls := "ActChains", name := "leftOut", desc := "(I)I" } : Jvm.MethodName) ({ cls := "ActChains", name := "leftOut", desc := "(I)I" } : Jvm.MethodName)) ∈ wA := wA_of 352 rfl rfl
set_option maxRecDepth 20000 in
theorem q_353 : (Cond.code ({ cls := "ActChains", name := "leftOut", desc := "(I)I" } : Jvm.MethodName) prog_1_method_11_code (3 : Nat) (Option.some Jvm.ClassFile.FieldType.int)) ∈ wA := wA_of 353 rfl rfl
set_option maxRecDepth 20000 in
theorem q_354 : (Cond.methodLink "ActChains" (148 : Nat) ({ cls := "ActChains$Tracks", name := "truthsOf", desc := "(I)I" } : Jvm.MethodName)) ∈ wA := wA_of 354 rfl rfl
set_option maxRecDepth 20000 in
theorem q_355 : (Cond.instanceMethod ({ cls := "ActChains$Tracks", name := "truthsOf", desc := "(I)I" } : Jvm.MethodName)) ∈ wA := wA_of 355 rfl rfl
set_option maxRecDepth 20000 in
theorem q_356 : (Cond.selects "ActChains$Tracks" ({ cls := "ActChains$Tracks", name := "truthsOf", desc := "(I)I" } : Jvm.MethodName) ({ cls := "ActChains$Tracks", name := "truthsOf", desc := "(I)I" } : Jvm.MethodName)) ∈ wA := wA_of 356 rfl rfl
set_option maxRecDepth 20000 in
theorem q_357 : (Cond.code ({ cls := "ActChains$Tracks", name := "truthsOf", desc := "(I)I" } : Jvm.MethodName) prog_7_method_6_code (4 : Nat) (Option.some Jvm.ClassFile.FieldType.int)) ∈ wA := wA_of 357 rfl rfl
set_option maxRecDepth 20000 in
theorem q_358 : (Cond.methodLink "ActChains$Tracks" (32 : Nat) ({ cls := "ActChains$Tracks", name := "hasTruthOf", desc := "(II)Z" } : Jvm.MethodName)) ∈ wA := wA_of 358 rfl rfl
set_option maxRecDepth 20000 in
theorem q_359 : (Cond.instanceMethod ({ cls := "ActChains$Tracks", name := "hasTruthOf", desc := "(II)Z" } : Jvm.MethodName)) ∈ wA := wA_of 359 rfl rfl
set_option maxRecDepth 20000 in
theorem q_360 : (Cond.selects "ActChains$Tracks" ({ cls := "ActChains$Tracks", name := "hasTruthOf", desc := "(II)Z" } : Jvm.MethodName) ({ cls := "ActChains$Tracks", name := "hasTruthOf", desc := "(II)Z" } : Jvm.MethodName)) ∈ wA := wA_of 360 rfl rfl
set_option maxRecDepth 20000 in
theorem q_361 : (Cond.code ({ cls := "ActChains$Tracks", name := "hasTruthOf", desc := "(II)Z" } : Jvm.MethodName) prog_7_method_5_code (3 : Nat) (Option.some Jvm.ClassFile.FieldType.boolean)) ∈ wA := wA_of 361 rfl rfl
set_option maxRecDepth 20000 in
theorem q_362 : (Cond.methodLink "ActChains" (153 : Nat) ({ cls := "ActChains$Tracks", name := "truthsMissed", desc := "(I[I)I" } : Jvm.MethodName)) ∈ wA := wA_of 362 rfl rfl
set_option maxRecDepth 20000 in
theorem q_363 : (Cond.instanceMethod ({ cls := "ActChains$Tracks", name := "truthsMissed", desc := "(I[I)I" } : Jvm.MethodName)) ∈ wA := wA_of 363 rfl rfl
set_option maxRecDepth 20000 in
theorem q_364 : (Cond.selects "ActChains$Tracks" ({ cls := "ActChains$Tracks", name := "truthsMissed", desc := "(I[I)I" } : Jvm.MethodName) ({ cls := "ActChains$Tracks", name := "truthsMissed", desc := "(I[I)I" } : Jvm.MethodName)) ∈ wA := wA_of 364 rfl rfl
set_option maxRecDepth 20000 in
theorem q_365 : (Cond.code ({ cls := "ActChains$Tracks", name := "truthsMissed", desc := "(I[I)I" } : Jvm.MethodName) prog_7_method_7_code (5 : Nat) (Option.some Jvm.ClassFile.FieldType.int)) ∈ wA := wA_of 365 rfl rfl
set_option maxRecDepth 20000 in
theorem q_366 : (Cond.methodLink "ActChainsLaw" (70 : Nat) ({ cls := "ActChains", name := "hours", desc := "(I)J" } : Jvm.MethodName)) ∈ wA := wA_of 366 rfl rfl
set_option maxRecDepth 20000 in
theorem q_367 : (Cond.instanceMethod ({ cls := "ActChains", name := "hours", desc := "(I)J" } : Jvm.MethodName)) ∈ wA := wA_of 367 rfl rfl
set_option maxRecDepth 20000 in
theorem q_368 : (Cond.selects "ActChains" ({ cls := "ActChains", name := "hours", desc := "(I)J" } : Jvm.MethodName) ({ cls := "ActChains", name := "hours", desc := "(I)J" } : Jvm.MethodName)) ∈ wA := wA_of 368 rfl rfl
set_option maxRecDepth 20000 in
theorem q_369 : (Cond.code ({ cls := "ActChains", name := "hours", desc := "(I)J" } : Jvm.MethodName) prog_1_method_12_code (2 : Nat) (Option.some Jvm.ClassFile.FieldType.long)) ∈ wA := wA_of 369 rfl rfl
set_option maxRecDepth 20000 in
theorem q_370 : (Cond.methodLink "ActChains" (160 : Nat) ({ cls := "ActChains$LatestRun", name := "secondsOf", desc := "(I[J)J" } : Jvm.MethodName)) ∈ wA := wA_of 370 rfl rfl
set_option maxRecDepth 20000 in
theorem q_371 : (Cond.instanceMethod ({ cls := "ActChains$LatestRun", name := "secondsOf", desc := "(I[J)J" } : Jvm.MethodName)) ∈ wA := wA_of 371 rfl rfl
set_option maxRecDepth 20000 in
theorem q_372 : (Cond.selects "ActChains$LatestRun" ({ cls := "ActChains$LatestRun", name := "secondsOf", desc := "(I[J)J" } : Jvm.MethodName) ({ cls := "ActChains$LatestRun", name := "secondsOf", desc := "(I[J)J" } : Jvm.MethodName)) ∈ wA := wA_of 372 rfl rfl
set_option maxRecDepth 20000 in
theorem q_373 : (Cond.code ({ cls := "ActChains$LatestRun", name := "secondsOf", desc := "(I[J)J" } : Jvm.MethodName) prog_3_method_8_code (6 : Nat) (Option.some Jvm.ClassFile.FieldType.long)) ∈ wA := wA_of 373 rfl rfl
set_option maxRecDepth 20000 in
theorem q_374 : (Cond.methodLink "ActChains$LatestRun" (56 : Nat) ({ cls := "ActChains$LatestRun", name := "endOf", desc := "(I[J)J" } : Jvm.MethodName)) ∈ wA := wA_of 374 rfl rfl
set_option maxRecDepth 20000 in
theorem q_375 : (Cond.instanceMethod ({ cls := "ActChains$LatestRun", name := "endOf", desc := "(I[J)J" } : Jvm.MethodName)) ∈ wA := wA_of 375 rfl rfl
set_option maxRecDepth 20000 in
theorem q_376 : (Cond.selects "ActChains$LatestRun" ({ cls := "ActChains$LatestRun", name := "endOf", desc := "(I[J)J" } : Jvm.MethodName) ({ cls := "ActChains$LatestRun", name := "endOf", desc := "(I[J)J" } : Jvm.MethodName)) ∈ wA := wA_of 376 rfl rfl
set_option maxRecDepth 20000 in
theorem q_377 : (Cond.code ({ cls := "ActChains$LatestRun", name := "endOf", desc := "(I[J)J" } : Jvm.MethodName) prog_3_method_7_code (3 : Nat) (Option.some Jvm.ClassFile.FieldType.long)) ∈ wA := wA_of 377 rfl rfl
set_option maxRecDepth 20000 in
theorem q_378 : (Cond.methodLink "ActChains$LatestRun" (50 : Nat) ({ cls := "java/lang/Math", name := "min", desc := "(II)I" } : Jvm.MethodName)) ∈ wA := wA_of 378 rfl rfl
set_option maxRecDepth 20000 in
theorem q_379 : (Cond.methodLink "ActChainsLaw" (74 : Nat) ({ cls := "ActChains", name := "haul", desc := "(II)I" } : Jvm.MethodName)) ∈ wA := wA_of 379 rfl rfl
set_option maxRecDepth 20000 in
theorem q_380 : (Cond.instanceMethod ({ cls := "ActChains", name := "haul", desc := "(II)I" } : Jvm.MethodName)) ∈ wA := wA_of 380 rfl rfl
set_option maxRecDepth 20000 in
theorem q_381 : (Cond.selects "ActChains" ({ cls := "ActChains", name := "haul", desc := "(II)I" } : Jvm.MethodName) ({ cls := "ActChains", name := "haul", desc := "(II)I" } : Jvm.MethodName)) ∈ wA := wA_of 381 rfl rfl
set_option maxRecDepth 20000 in
theorem q_382 : (Cond.code ({ cls := "ActChains", name := "haul", desc := "(II)I" } : Jvm.MethodName) prog_1_method_13_code (6 : Nat) (Option.some Jvm.ClassFile.FieldType.int)) ∈ wA := wA_of 382 rfl rfl
set_option maxRecDepth 20000 in
theorem q_383 : (Cond.methodLink "ActChains" (164 : Nat) ({ cls := "ActChains$LatestRun", name := "haulStart", desc := "(I)I" } : Jvm.MethodName)) ∈ wA := wA_of 383 rfl rfl
set_option maxRecDepth 20000 in
theorem q_384 : (Cond.instanceMethod ({ cls := "ActChains$LatestRun", name := "haulStart", desc := "(I)I" } : Jvm.MethodName)) ∈ wA := wA_of 384 rfl rfl
set_option maxRecDepth 20000 in
theorem q_385 : (Cond.selects "ActChains$LatestRun" ({ cls := "ActChains$LatestRun", name := "haulStart", desc := "(I)I" } : Jvm.MethodName) ({ cls := "ActChains$LatestRun", name := "haulStart", desc := "(I)I" } : Jvm.MethodName)) ∈ wA := wA_of 385 rfl rfl
set_option maxRecDepth 20000 in
theorem q_386 : (Cond.code ({ cls := "ActChains$LatestRun", name := "haulStart", desc := "(I)I" } : Jvm.MethodName) prog_3_method_9_code (4 : Nat) (Option.some Jvm.ClassFile.FieldType.int)) ∈ wA := wA_of 386 rfl rfl
set_option maxRecDepth 20000 in
theorem q_387 : (Cond.methodLink "ActChains$LatestRun" (60 : Nat) ({ cls := "ActChains$LatestRun", name := "isHauling", desc := "(I)Z" } : Jvm.MethodName)) ∈ wA := wA_of 387 rfl rfl
set_option maxRecDepth 20000 in
theorem q_388 : (Cond.instanceMethod ({ cls := "ActChains$LatestRun", name := "isHauling", desc := "(I)Z" } : Jvm.MethodName)) ∈ wA := wA_of 388 rfl rfl
set_option maxRecDepth 20000 in
theorem q_389 : (Cond.selects "ActChains$LatestRun" ({ cls := "ActChains$LatestRun", name := "isHauling", desc := "(I)Z" } : Jvm.MethodName) ({ cls := "ActChains$LatestRun", name := "isHauling", desc := "(I)Z" } : Jvm.MethodName)) ∈ wA := wA_of 389 rfl rfl
set_option maxRecDepth 20000 in
theorem q_390 : (Cond.code ({ cls := "ActChains$LatestRun", name := "isHauling", desc := "(I)Z" } : Jvm.MethodName) prog_3_method_6_code (2 : Nat) (Option.some Jvm.ClassFile.FieldType.boolean)) ∈ wA := wA_of 390 rfl rfl
set_option maxRecDepth 20000 in
theorem q_391 : (Cond.methodLink "ActChains$LatestRun" (46 : Nat) ({ cls := "ActChains$LatestRun", name := "has", desc := "(I)Z" } : Jvm.MethodName)) ∈ wA := wA_of 391 rfl rfl
set_option maxRecDepth 20000 in
theorem q_392 : (Cond.methodLink "ActChains" (167 : Nat) ({ cls := "ActChains$LatestRun", name := "haulLast", desc := "(I)I" } : Jvm.MethodName)) ∈ wA := wA_of 392 rfl rfl
set_option maxRecDepth 20000 in
theorem q_393 : (Cond.instanceMethod ({ cls := "ActChains$LatestRun", name := "haulLast", desc := "(I)I" } : Jvm.MethodName)) ∈ wA := wA_of 393 rfl rfl
set_option maxRecDepth 20000 in
theorem q_394 : (Cond.selects "ActChains$LatestRun" ({ cls := "ActChains$LatestRun", name := "haulLast", desc := "(I)I" } : Jvm.MethodName) ({ cls := "ActChains$LatestRun", name := "haulLast", desc := "(I)I" } : Jvm.MethodName)) ∈ wA := wA_of 394 rfl rfl
set_option maxRecDepth 20000 in
theorem q_395 : (Cond.code ({ cls := "ActChains$LatestRun", name := "haulLast", desc := "(I)I" } : Jvm.MethodName) prog_3_method_10_code (4 : Nat) (Option.some Jvm.ClassFile.FieldType.int)) ∈ wA := wA_of 395 rfl rfl
set_option maxRecDepth 20000 in
theorem q_396 : (Cond.methodLink "ActChains" (170 : Nat) ({ cls := "ActChains$LatestRun", name := "endOf", desc := "(I[J)J" } : Jvm.MethodName)) ∈ wA := wA_of 396 rfl rfl
set_option maxRecDepth 20000 in
theorem q_397 : (Cond.constantLong "ActChains" (173 : Nat) (2147483647 : Int64)) ∈ wA := wA_of 397 rfl rfl
set_option maxRecDepth 20000 in
theorem q_398 : (Cond.methodLink "ActChainsLaw" (79 : Nat) ({ cls := "ActChains", name := "differs", desc := "(II)I" } : Jvm.MethodName)) ∈ wA := wA_of 398 rfl rfl
set_option maxRecDepth 20000 in
theorem q_399 : (Cond.instanceMethod ({ cls := "ActChains", name := "differs", desc := "(II)I" } : Jvm.MethodName)) ∈ wA := wA_of 399 rfl rfl
set_option maxRecDepth 20000 in
theorem q_400 : (Cond.selects "ActChains" ({ cls := "ActChains", name := "differs", desc := "(II)I" } : Jvm.MethodName) ({ cls := "ActChains", name := "differs", desc := "(II)I" } : Jvm.MethodName)) ∈ wA := wA_of 400 rfl rfl
set_option maxRecDepth 20000 in
theorem q_401 : (Cond.code ({ cls := "ActChains", name := "differs", desc := "(II)I" } : Jvm.MethodName) prog_1_method_14_code (4 : Nat) (Option.some Jvm.ClassFile.FieldType.int)) ∈ wA := wA_of 401 rfl rfl
set_option maxRecDepth 20000 in
theorem q_402 : (Cond.methodLink "ActChains" (175 : Nat) ({ cls := "ActChains", name := "differingRow", desc := "(I)I" } : Jvm.MethodName)) ∈ wA := wA_of 402 rfl rfl
set_option maxRecDepth 20000 in
theorem q_404 : (Cond.instanceMethod ({ cls := "ActChains", name := "differingRow", desc := "(I)I" } : Jvm.MethodName)) ∈ wA := wA_of 404 rfl rfl
set_option maxRecDepth 20000 in
theorem q_405 : (Cond.code ({ cls := "ActChains", name := "differingRow", desc := "(I)I" } : Jvm.MethodName) prog_1_method_30_code (5 : Nat) (Option.some Jvm.ClassFile.FieldType.int)) ∈ wA := wA_of 405 rfl rfl
set_option maxRecDepth 20000 in
theorem q_406 : (Cond.methodLink "ActChains" (178 : Nat) ({ cls := "ActChains$Pages", name := "actAt", desc := "(J)I" } : Jvm.MethodName)) ∈ wA := wA_of 406 rfl rfl
set_option maxRecDepth 20000 in
theorem q_407 : (Cond.instanceMethod ({ cls := "ActChains$Pages", name := "actAt", desc := "(J)I" } : Jvm.MethodName)) ∈ wA := wA_of 407 rfl rfl
set_option maxRecDepth 20000 in
theorem q_408 : (Cond.selects "ActChains$Pages" ({ cls := "ActChains$Pages", name := "actAt", desc := "(J)I" } : Jvm.MethodName) ({ cls := "ActChains$Pages", name := "actAt", desc := "(J)I" } : Jvm.MethodName)) ∈ wA := wA_of 408 rfl rfl
set_option maxRecDepth 20000 in
theorem q_409 : (Cond.code ({ cls := "ActChains$Pages", name := "actAt", desc := "(J)I" } : Jvm.MethodName) prog_5_method_3_code (4 : Nat) (Option.some Jvm.ClassFile.FieldType.int)) ∈ wA := wA_of 409 rfl rfl
set_option maxRecDepth 20000 in
theorem q_410 : (Cond.methodLink "ActChainsLaw" (83 : Nat) ({ cls := "ActChains", name := "page", desc := "(JJI)Z" } : Jvm.MethodName)) ∈ wA := wA_of 410 rfl rfl
set_option maxRecDepth 20000 in
theorem q_411 : (Cond.instanceMethod ({ cls := "ActChains", name := "page", desc := "(JJI)Z" } : Jvm.MethodName)) ∈ wA := wA_of 411 rfl rfl
set_option maxRecDepth 20000 in
theorem q_412 : (Cond.selects "ActChains" ({ cls := "ActChains", name := "page", desc := "(JJI)Z" } : Jvm.MethodName) ({ cls := "ActChains", name := "page", desc := "(JJI)Z" } : Jvm.MethodName)) ∈ wA := wA_of 412 rfl rfl
set_option maxRecDepth 20000 in
theorem q_413 : (Cond.code ({ cls := "ActChains", name := "page", desc := "(JJI)Z" } : Jvm.MethodName) prog_1_method_15_code (6 : Nat) (Option.some Jvm.ClassFile.FieldType.boolean)) ∈ wA := wA_of 413 rfl rfl
set_option maxRecDepth 20000 in
theorem q_414 : (Cond.methodLink "ActChains" (183 : Nat) ({ cls := "ActChains$Pages", name := "add", desc := "(JJI)V" } : Jvm.MethodName)) ∈ wA := wA_of 414 rfl rfl
set_option maxRecDepth 20000 in
theorem q_415 : (Cond.instanceMethod ({ cls := "ActChains$Pages", name := "add", desc := "(JJI)V" } : Jvm.MethodName)) ∈ wA := wA_of 415 rfl rfl
set_option maxRecDepth 20000 in
theorem q_416 : (Cond.selects "ActChains$Pages" ({ cls := "ActChains$Pages", name := "add", desc := "(JJI)V" } : Jvm.MethodName) ({ cls := "ActChains$Pages", name := "add", desc := "(JJI)V" } : Jvm.MethodName)) ∈ wA := wA_of 416 rfl rfl
set_option maxRecDepth 20000 in
theorem q_417 : (Cond.code ({ cls := "ActChains$Pages", name := "add", desc := "(JJI)V" } : Jvm.MethodName) prog_5_method_2_code (6 : Nat) (Option.none : Option Jvm.ClassFile.FieldType)) ∈ wA := wA_of 417 rfl rfl
set_option maxRecDepth 20000 in
theorem q_418 : (Cond.methodLink "ActChainsLaw" (88 : Nat) ({ cls := "ActChains", name := "unsure", desc := "(I)Z" } : Jvm.MethodName)) ∈ wA := wA_of 418 rfl rfl
set_option maxRecDepth 20000 in
theorem q_419 : (Cond.instanceMethod ({ cls := "ActChains", name := "unsure", desc := "(I)Z" } : Jvm.MethodName)) ∈ wA := wA_of 419 rfl rfl
set_option maxRecDepth 20000 in
theorem q_420 : (Cond.selects "ActChains" ({ cls := "ActChains", name := "unsure", desc := "(I)Z" } : Jvm.MethodName) ({ cls := "ActChains", name := "unsure", desc := "(I)Z" } : Jvm.MethodName)) ∈ wA := wA_of 420 rfl rfl
set_option maxRecDepth 20000 in
theorem q_421 : (Cond.code ({ cls := "ActChains", name := "unsure", desc := "(I)Z" } : Jvm.MethodName) prog_1_method_16_code (2 : Nat) (Option.some Jvm.ClassFile.FieldType.boolean)) ∈ wA := wA_of 421 rfl rfl
set_option maxRecDepth 20000 in
theorem q_422 : (Cond.methodLink "ActChains" (186 : Nat) ({ cls := "ActChains$LatestRun", name := "hasNextCost", desc := "(I)Z" } : Jvm.MethodName)) ∈ wA := wA_of 422 rfl rfl
set_option maxRecDepth 20000 in
theorem q_423 : (Cond.instanceMethod ({ cls := "ActChains$LatestRun", name := "hasNextCost", desc := "(I)Z" } : Jvm.MethodName)) ∈ wA := wA_of 423 rfl rfl
set_option maxRecDepth 20000 in
theorem q_424 : (Cond.selects "ActChains$LatestRun" ({ cls := "ActChains$LatestRun", name := "hasNextCost", desc := "(I)Z" } : Jvm.MethodName) ({ cls := "ActChains$LatestRun", name := "hasNextCost", desc := "(I)Z" } : Jvm.MethodName)) ∈ wA := wA_of 424 rfl rfl
set_option maxRecDepth 20000 in
theorem q_425 : (Cond.code ({ cls := "ActChains$LatestRun", name := "hasNextCost", desc := "(I)Z" } : Jvm.MethodName) prog_3_method_5_code (2 : Nat) (Option.some Jvm.ClassFile.FieldType.boolean)) ∈ wA := wA_of 425 rfl rfl
set_option maxRecDepth 20000 in
theorem q_426 : (Cond.methodLink "ActChainsLaw" (93 : Nat) ({ cls := "ActChains", name := "margin", desc := "(I)Z" } : Jvm.MethodName)) ∈ wA := wA_of 426 rfl rfl
set_option maxRecDepth 20000 in
theorem q_427 : (Cond.instanceMethod ({ cls := "ActChains", name := "margin", desc := "(I)Z" } : Jvm.MethodName)) ∈ wA := wA_of 427 rfl rfl
set_option maxRecDepth 20000 in
theorem q_428 : (Cond.selects "ActChains" ({ cls := "ActChains", name := "margin", desc := "(I)Z" } : Jvm.MethodName) ({ cls := "ActChains", name := "margin", desc := "(I)Z" } : Jvm.MethodName)) ∈ wA := wA_of 428 rfl rfl
set_option maxRecDepth 20000 in
theorem q_429 : (Cond.code ({ cls := "ActChains", name := "margin", desc := "(I)Z" } : Jvm.MethodName) prog_1_method_17_code (2 : Nat) (Option.some Jvm.ClassFile.FieldType.boolean)) ∈ wA := wA_of 429 rfl rfl
set_option maxRecDepth 20000 in
theorem q_430 : (Cond.constant "ActChains" (192 : Nat) (100000 : Int32)) ∈ wA := wA_of 430 rfl rfl
set_option maxRecDepth 20000 in
theorem q_431 : (Cond.methodLink "ActChainsLaw" (97 : Nat) ({ cls := "ActChains", name := "map", desc := "(II)J" } : Jvm.MethodName)) ∈ wA := wA_of 431 rfl rfl
set_option maxRecDepth 20000 in
theorem q_432 : (Cond.instanceMethod ({ cls := "ActChains", name := "map", desc := "(II)J" } : Jvm.MethodName)) ∈ wA := wA_of 432 rfl rfl
set_option maxRecDepth 20000 in
theorem q_433 : (Cond.selects "ActChains" ({ cls := "ActChains", name := "map", desc := "(II)J" } : Jvm.MethodName) ({ cls := "ActChains", name := "map", desc := "(II)J" } : Jvm.MethodName)) ∈ wA := wA_of 433 rfl rfl
set_option maxRecDepth 20000 in
theorem q_434 : (Cond.code ({ cls := "ActChains", name := "map", desc := "(II)J" } : Jvm.MethodName) prog_1_method_18_code (3 : Nat) (Option.some Jvm.ClassFile.FieldType.long)) ∈ wA := wA_of 434 rfl rfl
set_option maxRecDepth 20000 in
theorem q_435 : (Cond.methodLink "ActChains" (193 : Nat) ({ cls := "ActChains", name := "isOnMap", desc := "(II)Z" } : Jvm.MethodName)) ∈ wA := wA_of 435 rfl rfl
set_option maxRecDepth 20000 in
theorem q_436 : (Cond.static ({ cls := "ActChains", name := "isOnMap", desc := "(II)Z" } : Jvm.MethodName)) ∈ wA := wA_of 436 rfl rfl
set_option maxRecDepth 20000 in
theorem q_437 : (Cond.code ({ cls := "ActChains", name := "isOnMap", desc := "(II)Z" } : Jvm.MethodName) prog_1_method_27_code (2 : Nat) (Option.some Jvm.ClassFile.FieldType.boolean)) ∈ wA := wA_of 437 rfl rfl
set_option maxRecDepth 20000 in
theorem q_438 : (Cond.methodLink "ActChains" (196 : Nat) ({ cls := "ActChains$Cells", name := "haulingSeconds", desc := "(IILActChains$LatestRun;)J" } : Jvm.MethodName)) ∈ wA := wA_of 438 rfl rfl
set_option maxRecDepth 20000 in
theorem q_439 : (Cond.instanceMethod ({ cls := "ActChains$Cells", name := "haulingSeconds", desc := "(IILActChains$LatestRun;)J" } : Jvm.MethodName)) ∈ wA := wA_of 439 rfl rfl
set_option maxRecDepth 20000 in
theorem q_440 : (Cond.selects "ActChains$Cells" ({ cls := "ActChains$Cells", name := "haulingSeconds", desc := "(IILActChains$LatestRun;)J" } : Jvm.MethodName) ({ cls := "ActChains$Cells", name := "haulingSeconds", desc := "(IILActChains$LatestRun;)J" } : Jvm.MethodName)) ∈ wA := wA_of 440 rfl rfl
set_option maxRecDepth 20000 in
theorem q_441 : (Cond.code ({ cls := "ActChains$Cells", name := "haulingSeconds", desc := "(IILActChains$LatestRun;)J" } : Jvm.MethodName) prog_2_method_3_code (7 : Nat) (Option.some Jvm.ClassFile.FieldType.long)) ∈ wA := wA_of 441 rfl rfl
set_option maxRecDepth 20000 in
theorem q_442 : (Cond.methodLink "ActChains$Cells" (29 : Nat) ({ cls := "ActChains$LatestRun", name := "isHauling", desc := "(I)Z" } : Jvm.MethodName)) ∈ wA := wA_of 442 rfl rfl
set_option maxRecDepth 20000 in
theorem q_443 : (Cond.methodLink "ActChainsLaw" (102 : Nat) ({ cls := "ActChains", name := "cell", desc := "(IIIJ)Z" } : Jvm.MethodName)) ∈ wA := wA_of 443 rfl rfl
set_option maxRecDepth 20000 in
theorem q_444 : (Cond.instanceMethod ({ cls := "ActChains", name := "cell", desc := "(IIIJ)Z" } : Jvm.MethodName)) ∈ wA := wA_of 444 rfl rfl
set_option maxRecDepth 20000 in
theorem q_445 : (Cond.selects "ActChains" ({ cls := "ActChains", name := "cell", desc := "(IIIJ)Z" } : Jvm.MethodName) ({ cls := "ActChains", name := "cell", desc := "(IIIJ)Z" } : Jvm.MethodName)) ∈ wA := wA_of 445 rfl rfl
set_option maxRecDepth 20000 in
theorem q_446 : (Cond.code ({ cls := "ActChains", name := "cell", desc := "(IIIJ)Z" } : Jvm.MethodName) prog_1_method_19_code (6 : Nat) (Option.some Jvm.ClassFile.FieldType.boolean)) ∈ wA := wA_of 446 rfl rfl
set_option maxRecDepth 20000 in
theorem q_447 : (Cond.constantLong "ActChains" (200 : Nat) (1000000 : Int64)) ∈ wA := wA_of 447 rfl rfl
set_option maxRecDepth 20000 in
theorem q_448 : (Cond.methodLink "ActChains" (203 : Nat) ({ cls := "ActChains$Cells", name := "add", desc := "(IIIJ)V" } : Jvm.MethodName)) ∈ wA := wA_of 448 rfl rfl
set_option maxRecDepth 20000 in
theorem q_449 : (Cond.instanceMethod ({ cls := "ActChains$Cells", name := "add", desc := "(IIIJ)V" } : Jvm.MethodName)) ∈ wA := wA_of 449 rfl rfl
set_option maxRecDepth 20000 in
theorem q_450 : (Cond.selects "ActChains$Cells" ({ cls := "ActChains$Cells", name := "add", desc := "(IIIJ)V" } : Jvm.MethodName) ({ cls := "ActChains$Cells", name := "add", desc := "(IIIJ)V" } : Jvm.MethodName)) ∈ wA := wA_of 450 rfl rfl
set_option maxRecDepth 20000 in
theorem q_451 : (Cond.code ({ cls := "ActChains$Cells", name := "add", desc := "(IIIJ)V" } : Jvm.MethodName) prog_2_method_2_code (6 : Nat) (Option.none : Option Jvm.ClassFile.FieldType)) ∈ wA := wA_of 451 rfl rfl
set_option maxRecDepth 20000 in
theorem q_452 : (Cond.methodLink "ActChainsLaw" (106 : Nat) ({ cls := "ActChains", name := "gear", desc := "(I)I" } : Jvm.MethodName)) ∈ wA := wA_of 452 rfl rfl
set_option maxRecDepth 20000 in
theorem q_453 : (Cond.instanceMethod ({ cls := "ActChains", name := "gear", desc := "(I)I" } : Jvm.MethodName)) ∈ wA := wA_of 453 rfl rfl
set_option maxRecDepth 20000 in
theorem q_454 : (Cond.selects "ActChains" ({ cls := "ActChains", name := "gear", desc := "(I)I" } : Jvm.MethodName) ({ cls := "ActChains", name := "gear", desc := "(I)I" } : Jvm.MethodName)) ∈ wA := wA_of 454 rfl rfl
set_option maxRecDepth 20000 in
theorem q_455 : (Cond.code ({ cls := "ActChains", name := "gear", desc := "(I)I" } : Jvm.MethodName) prog_1_method_20_code (5 : Nat) (Option.some Jvm.ClassFile.FieldType.int)) ∈ wA := wA_of 455 rfl rfl
set_option maxRecDepth 20000 in
theorem q_456 : (Cond.methodLink "ActChains" (206 : Nat) ({ cls := "ActChains$Tracks", name := "turningRows", desc := "(II)I" } : Jvm.MethodName)) ∈ wA := wA_of 456 rfl rfl
set_option maxRecDepth 20000 in
theorem q_457 : (Cond.instanceMethod ({ cls := "ActChains$Tracks", name := "turningRows", desc := "(II)I" } : Jvm.MethodName)) ∈ wA := wA_of 457 rfl rfl
set_option maxRecDepth 20000 in
theorem q_458 : (Cond.selects "ActChains$Tracks" ({ cls := "ActChains$Tracks", name := "turningRows", desc := "(II)I" } : Jvm.MethodName) ({ cls := "ActChains$Tracks", name := "turningRows", desc := "(II)I" } : Jvm.MethodName)) ∈ wA := wA_of 458 rfl rfl
set_option maxRecDepth 20000 in
theorem q_459 : (Cond.code ({ cls := "ActChains$Tracks", name := "turningRows", desc := "(II)I" } : Jvm.MethodName) prog_7_method_8_code (5 : Nat) (Option.some Jvm.ClassFile.FieldType.int)) ∈ wA := wA_of 459 rfl rfl
set_option maxRecDepth 20000 in
theorem q_460 : (Cond.methodLink "ActChainsLaw" (110 : Nat) ({ cls := "ActChains", name := "ship", desc := "(I)Z" } : Jvm.MethodName)) ∈ wA := wA_of 460 rfl rfl
set_option maxRecDepth 20000 in
theorem q_461 : (Cond.instanceMethod ({ cls := "ActChains", name := "ship", desc := "(I)Z" } : Jvm.MethodName)) ∈ wA := wA_of 461 rfl rfl
set_option maxRecDepth 20000 in
theorem q_462 : (Cond.selects "ActChains" ({ cls := "ActChains", name := "ship", desc := "(I)Z" } : Jvm.MethodName) ({ cls := "ActChains", name := "ship", desc := "(I)Z" } : Jvm.MethodName)) ∈ wA := wA_of 462 rfl rfl
set_option maxRecDepth 20000 in
theorem q_463 : (Cond.code ({ cls := "ActChains", name := "ship", desc := "(I)Z" } : Jvm.MethodName) prog_1_method_21_code (2 : Nat) (Option.some Jvm.ClassFile.FieldType.boolean)) ∈ wA := wA_of 463 rfl rfl
set_option maxRecDepth 20000 in
theorem q_464 : (Cond.methodLink "ActChainsLaw" (114 : Nat) ({ cls := "ActChains", name := "total", desc := "()J" } : Jvm.MethodName)) ∈ wA := wA_of 464 rfl rfl
set_option maxRecDepth 20000 in
theorem q_465 : (Cond.instanceMethod ({ cls := "ActChains", name := "total", desc := "()J" } : Jvm.MethodName)) ∈ wA := wA_of 465 rfl rfl
set_option maxRecDepth 20000 in
theorem q_466 : (Cond.selects "ActChains" ({ cls := "ActChains", name := "total", desc := "()J" } : Jvm.MethodName) ({ cls := "ActChains", name := "total", desc := "()J" } : Jvm.MethodName)) ∈ wA := wA_of 466 rfl rfl
set_option maxRecDepth 20000 in
theorem q_467 : (Cond.code ({ cls := "ActChains", name := "total", desc := "()J" } : Jvm.MethodName) prog_1_method_22_code (1 : Nat) (Option.some Jvm.ClassFile.FieldType.long)) ∈ wA := wA_of 467 rfl rfl
set_option maxRecDepth 20000 in
theorem q_468 : (Cond.methodLink "ActChainsLaw" (119 : Nat) ({ cls := "ActChains", name := "tied", desc := "(I)Z" } : Jvm.MethodName)) ∈ wA := wA_of 468 rfl rfl
set_option maxRecDepth 20000 in
theorem q_469 : (Cond.instanceMethod ({ cls := "ActChains", name := "tied", desc := "(I)Z" } : Jvm.MethodName)) ∈ wA := wA_of 469 rfl rfl
set_option maxRecDepth 20000 in
theorem q_470 : (Cond.selects "ActChains" ({ cls := "ActChains", name := "tied", desc := "(I)Z" } : Jvm.MethodName) ({ cls := "ActChains", name := "tied", desc := "(I)Z" } : Jvm.MethodName)) ∈ wA := wA_of 470 rfl rfl
set_option maxRecDepth 20000 in
theorem q_471 : (Cond.code ({ cls := "ActChains", name := "tied", desc := "(I)Z" } : Jvm.MethodName) prog_1_method_23_code (2 : Nat) (Option.some Jvm.ClassFile.FieldType.boolean)) ∈ wA := wA_of 471 rfl rfl
set_option maxRecDepth 20000 in
theorem q_472 : (Cond.methodLink "ActChainsLaw" (123 : Nat) ({ cls := "ActChains", name := "night", desc := "(I)I" } : Jvm.MethodName)) ∈ wA := wA_of 472 rfl rfl
set_option maxRecDepth 20000 in
theorem q_473 : (Cond.instanceMethod ({ cls := "ActChains", name := "night", desc := "(I)I" } : Jvm.MethodName)) ∈ wA := wA_of 473 rfl rfl
set_option maxRecDepth 20000 in
theorem q_474 : (Cond.selects "ActChains" ({ cls := "ActChains", name := "night", desc := "(I)I" } : Jvm.MethodName) ({ cls := "ActChains", name := "night", desc := "(I)I" } : Jvm.MethodName)) ∈ wA := wA_of 474 rfl rfl
set_option maxRecDepth 20000 in
theorem q_475 : (Cond.code ({ cls := "ActChains", name := "night", desc := "(I)I" } : Jvm.MethodName) prog_1_method_24_code (4 : Nat) (Option.some Jvm.ClassFile.FieldType.int)) ∈ wA := wA_of 475 rfl rfl
set_option maxRecDepth 20000 in
theorem q_476 : (Cond.constantLong "ActChains" (210 : Nat) (86400 : Int64)) ∈ wA := wA_of 476 rfl rfl
set_option maxRecDepth 20000 in
theorem q_477 : (Cond.constantLong "ActChains" (212 : Nat) (21600 : Int64)) ∈ wA := wA_of 477 rfl rfl
set_option maxRecDepth 20000 in
theorem q_478 : (Cond.constantLong "ActChains" (214 : Nat) (64800 : Int64)) ∈ wA := wA_of 478 rfl rfl
set_option maxRecDepth 20000 in
theorem q_479 : (Cond.methodLink "ActChainsLaw" (9 : Nat) ({ cls := "ActChainsLaw", name := "cell", desc := "([II)I" } : Jvm.MethodName)) ∈ wA := wA_of 479 rfl rfl
set_option maxRecDepth 20000 in
theorem q_480 : (Cond.static ({ cls := "ActChainsLaw", name := "cell", desc := "([II)I" } : Jvm.MethodName)) ∈ wA := wA_of 480 rfl rfl
set_option maxRecDepth 20000 in
theorem q_481 : (Cond.code ({ cls := "ActChainsLaw", name := "cell", desc := "([II)I" } : Jvm.MethodName) method_2_code (2 : Nat) (Option.some Jvm.ClassFile.FieldType.int)) ∈ wA := wA_of 481 rfl rfl
set_option maxRecDepth 20000 in
theorem q_482 : (Cond.classLink "ActChainsLaw" (18 : Nat) "ActChainsModel") ∈ wA := wA_of 482 rfl rfl
set_option maxRecDepth 20000 in
theorem q_483 : (Cond.instantiable "ActChainsModel" (35 : Nat)) ∈ wA := wA_of 483 rfl rfl
set_option maxRecDepth 20000 in
theorem q_484 : (Cond.methodLink "ActChainsLaw" (20 : Nat) ({ cls := "ActChainsModel", name := "<init>", desc := "(I)V" } : Jvm.MethodName)) ∈ wA := wA_of 484 rfl rfl
set_option maxRecDepth 20000 in
theorem q_485 : (Cond.instanceMethod ({ cls := "ActChainsModel", name := "<init>", desc := "(I)V" } : Jvm.MethodName)) ∈ wA := wA_of 485 rfl rfl
set_option maxRecDepth 20000 in
theorem q_486 : (Cond.code ({ cls := "ActChainsModel", name := "<init>", desc := "(I)V" } : Jvm.MethodName) prog_9_method_1_code (2 : Nat) (Option.none : Option Jvm.ClassFile.FieldType)) ∈ wA := wA_of 486 rfl rfl
set_option maxRecDepth 20000 in
theorem q_487 : (Cond.methodLink "ActChainsModel" (1 : Nat) ({ cls := "java/lang/Object", name := "<init>", desc := "()V" } : Jvm.MethodName)) ∈ wA := wA_of 487 rfl rfl
set_option maxRecDepth 20000 in
theorem q_488 : (Cond.fieldLink "ActChainsModel" (89 : Nat) "ActChainsModel" "acts" "I") ∈ wA := wA_of 488 rfl rfl
set_option maxRecDepth 20000 in
theorem q_489 : (Cond.fieldLink "ActChainsModel" (7 : Nat) "ActChainsModel" "moves" "[I") ∈ wA := wA_of 489 rfl rfl
set_option maxRecDepth 20000 in
theorem q_490 : (Cond.fieldLink "ActChainsModel" (13 : Nat) "ActChainsModel" "speeds" "[I") ∈ wA := wA_of 490 rfl rfl
set_option maxRecDepth 20000 in
theorem q_491 : (Cond.fieldLink "ActChainsModel" (16 : Nat) "ActChainsModel" "oldMoves" "[I") ∈ wA := wA_of 491 rfl rfl
set_option maxRecDepth 20000 in
theorem q_492 : (Cond.fieldLink "ActChainsModel" (19 : Nat) "ActChainsModel" "oldSpeeds" "[I") ∈ wA := wA_of 492 rfl rfl
set_option maxRecDepth 20000 in
theorem q_493 : (Cond.fieldLink "ActChainsModel" (93 : Nat) "ActChainsModel" "rows" "I") ∈ wA := wA_of 493 rfl rfl
set_option maxRecDepth 20000 in
theorem q_494 : (Cond.fieldLink "ActChainsModel" (22 : Nat) "ActChainsModel" "seconds" "[J") ∈ wA := wA_of 494 rfl rfl
set_option maxRecDepth 20000 in
theorem q_495 : (Cond.fieldLink "ActChainsModel" (26 : Nat) "ActChainsModel" "classes" "[I") ∈ wA := wA_of 495 rfl rfl
set_option maxRecDepth 20000 in
theorem q_496 : (Cond.fieldLink "ActChainsModel" (29 : Nat) "ActChainsModel" "turns" "[I") ∈ wA := wA_of 496 rfl rfl
set_option maxRecDepth 20000 in
theorem q_497 : (Cond.fieldLink "ActChainsModel" (32 : Nat) "ActChainsModel" "ships" "[I") ∈ wA := wA_of 497 rfl rfl
set_option maxRecDepth 20000 in
theorem q_498 : (Cond.fieldLink "ActChainsModel" (35 : Nat) "ActChainsModel" "truths" "[I") ∈ wA := wA_of 498 rfl rfl
set_option maxRecDepth 20000 in
theorem q_499 : (Cond.fieldLink "ActChainsModel" (100 : Nat) "ActChainsModel" "ship" "I") ∈ wA := wA_of 499 rfl rfl
set_option maxRecDepth 20000 in
theorem q_500 : (Cond.fieldLink "ActChainsModel" (110 : Nat) "ActChainsModel" "pages" "I") ∈ wA := wA_of 500 rfl rfl
set_option maxRecDepth 20000 in
theorem q_501 : (Cond.fieldLink "ActChainsModel" (38 : Nat) "ActChainsModel" "pageFrom" "[J") ∈ wA := wA_of 501 rfl rfl
set_option maxRecDepth 20000 in
theorem q_502 : (Cond.fieldLink "ActChainsModel" (41 : Nat) "ActChainsModel" "pageTo" "[J") ∈ wA := wA_of 502 rfl rfl
set_option maxRecDepth 20000 in
theorem q_503 : (Cond.fieldLink "ActChainsModel" (44 : Nat) "ActChainsModel" "pageAct" "[I") ∈ wA := wA_of 503 rfl rfl
set_option maxRecDepth 20000 in
theorem q_504 : (Cond.fieldLink "ActChainsModel" (115 : Nat) "ActChainsModel" "cells" "I") ∈ wA := wA_of 504 rfl rfl
set_option maxRecDepth 20000 in
theorem q_505 : (Cond.fieldLink "ActChainsModel" (47 : Nat) "ActChainsModel" "cellRow" "[I") ∈ wA := wA_of 505 rfl rfl
set_option maxRecDepth 20000 in
theorem q_506 : (Cond.fieldLink "ActChainsModel" (50 : Nat) "ActChainsModel" "cellX" "[I") ∈ wA := wA_of 506 rfl rfl
set_option maxRecDepth 20000 in
theorem q_507 : (Cond.fieldLink "ActChainsModel" (53 : Nat) "ActChainsModel" "cellY" "[I") ∈ wA := wA_of 507 rfl rfl
set_option maxRecDepth 20000 in
theorem q_508 : (Cond.fieldLink "ActChainsModel" (56 : Nat) "ActChainsModel" "cellSeconds" "[J") ∈ wA := wA_of 508 rfl rfl
set_option maxRecDepth 20000 in
theorem q_509 : (Cond.fieldLink "ActChainsModel" (107 : Nat) "ActChainsModel" "margin" "I") ∈ wA := wA_of 509 rfl rfl
set_option maxRecDepth 20000 in
theorem q_510 : (Cond.fieldLink "ActChainsModel" (139 : Nat) "ActChainsModel" "known" "I") ∈ wA := wA_of 510 rfl rfl
set_option maxRecDepth 20000 in
theorem q_511 : (Cond.fieldLink "ActChainsModel" (59 : Nat) "ActChainsModel" "line" "[I") ∈ wA := wA_of 511 rfl rfl
set_option maxRecDepth 20000 in
theorem q_512 : (Cond.fieldLink "ActChainsModel" (136 : Nat) "ActChainsModel" "cost" "I") ∈ wA := wA_of 512 rfl rfl
set_option maxRecDepth 20000 in
theorem q_513 : (Cond.fieldLink "ActChainsModel" (62 : Nat) "ActChainsModel" "others" "[I") ∈ wA := wA_of 513 rfl rfl
set_option maxRecDepth 20000 in
theorem q_514 : (Cond.fieldLink "ActChainsModel" (150 : Nat) "ActChainsModel" "sums" "I") ∈ wA := wA_of 514 rfl rfl
set_option maxRecDepth 20000 in
theorem q_515 : (Cond.fieldLink "ActChainsModel" (65 : Nat) "ActChainsModel" "sum" "[J") ∈ wA := wA_of 515 rfl rfl
set_option maxRecDepth 20000 in
theorem q_516 : (Cond.fieldLink "ActChainsModel" (68 : Nat) "ActChainsModel" "so" "[I") ∈ wA := wA_of 516 rfl rfl
set_option maxRecDepth 20000 in
theorem q_517 : (Cond.fieldLink "ActChainsModel" (71 : Nat) "ActChainsModel" "longer" "[I") ∈ wA := wA_of 517 rfl rfl
set_option maxRecDepth 20000 in
theorem q_518 : (Cond.fieldLink "ActChainsModel" (74 : Nat) "ActChainsModel" "soCost" "[I") ∈ wA := wA_of 518 rfl rfl
set_option maxRecDepth 20000 in
theorem q_519 : (Cond.fieldLink "ActChainsModel" (77 : Nat) "ActChainsModel" "longerCost" "[I") ∈ wA := wA_of 519 rfl rfl
set_option maxRecDepth 20000 in
theorem q_520 : (Cond.fieldLink "ActChainsModel" (80 : Nat) "ActChainsModel" "before" "[I") ∈ wA := wA_of 520 rfl rfl
set_option maxRecDepth 20000 in
theorem q_521 : (Cond.fieldLink "ActChainsModel" (83 : Nat) "ActChainsModel" "behind" "[I") ∈ wA := wA_of 521 rfl rfl
set_option maxRecDepth 20000 in
theorem q_522 : (Cond.fieldLink "ActChainsModel" (86 : Nat) "ActChainsModel" "found" "[I") ∈ wA := wA_of 522 rfl rfl
set_option maxRecDepth 20000 in
theorem q_594 : (Cond.methodLink "ActChainsLaw" (25 : Nat) ({ cls := "ActChainsModel", name := "move", desc := "(III)Z" } : Jvm.MethodName)) ∈ wA := wA_of 594 rfl rfl
set_option maxRecDepth 20000 in
theorem q_595 : (Cond.instanceMethod ({ cls := "ActChainsModel", name := "move", desc := "(III)Z" } : Jvm.MethodName)) ∈ wA := wA_of 595 rfl rfl
set_option maxRecDepth 20000 in
theorem q_596 : (Cond.selects "ActChainsModel" ({ cls := "ActChainsModel", name := "move", desc := "(III)Z" } : Jvm.MethodName) ({ cls := "ActChainsModel", name := "move", desc := "(III)Z" } : Jvm.MethodName)) ∈ wA := wA_of 596 rfl rfl
set_option maxRecDepth 20000 in
theorem q_597 : (Cond.code ({ cls := "ActChainsModel", name := "move", desc := "(III)Z" } : Jvm.MethodName) prog_9_method_4_code (4 : Nat) (Option.some Jvm.ClassFile.FieldType.boolean)) ∈ wA := wA_of 597 rfl rfl
set_option maxRecDepth 20000 in
theorem q_598 : (Cond.methodLink "ActChainsModel" (96 : Nat) ({ cls := "ActChainsModel", name := "isAct", desc := "(I)Z" } : Jvm.MethodName)) ∈ wA := wA_of 598 rfl rfl
set_option maxRecDepth 20000 in
theorem q_600 : (Cond.instanceMethod ({ cls := "ActChainsModel", name := "isAct", desc := "(I)Z" } : Jvm.MethodName)) ∈ wA := wA_of 600 rfl rfl
set_option maxRecDepth 20000 in
theorem q_601 : (Cond.code ({ cls := "ActChainsModel", name := "isAct", desc := "(I)Z" } : Jvm.MethodName) prog_9_method_2_code (2 : Nat) (Option.some Jvm.ClassFile.FieldType.boolean)) ∈ wA := wA_of 601 rfl rfl
set_option maxRecDepth 20000 in
theorem q_602 : (Cond.methodLink "ActChainsLaw" (29 : Nat) ({ cls := "ActChainsModel", name := "speed", desc := "(III)Z" } : Jvm.MethodName)) ∈ wA := wA_of 602 rfl rfl
set_option maxRecDepth 20000 in
theorem q_603 : (Cond.instanceMethod ({ cls := "ActChainsModel", name := "speed", desc := "(III)Z" } : Jvm.MethodName)) ∈ wA := wA_of 603 rfl rfl
set_option maxRecDepth 20000 in
theorem q_604 : (Cond.selects "ActChainsModel" ({ cls := "ActChainsModel", name := "speed", desc := "(III)Z" } : Jvm.MethodName) ({ cls := "ActChainsModel", name := "speed", desc := "(III)Z" } : Jvm.MethodName)) ∈ wA := wA_of 604 rfl rfl
set_option maxRecDepth 20000 in
theorem q_605 : (Cond.code ({ cls := "ActChainsModel", name := "speed", desc := "(III)Z" } : Jvm.MethodName) prog_9_method_5_code (4 : Nat) (Option.some Jvm.ClassFile.FieldType.boolean)) ∈ wA := wA_of 605 rfl rfl
set_option maxRecDepth 20000 in
theorem q_606 : (Cond.methodLink "ActChainsLaw" (36 : Nat) ({ cls := "ActChainsModel", name := "row", desc := "(JII)Z" } : Jvm.MethodName)) ∈ wA := wA_of 606 rfl rfl
set_option maxRecDepth 20000 in
theorem q_607 : (Cond.instanceMethod ({ cls := "ActChainsModel", name := "row", desc := "(JII)Z" } : Jvm.MethodName)) ∈ wA := wA_of 607 rfl rfl
set_option maxRecDepth 20000 in
theorem q_608 : (Cond.selects "ActChainsModel" ({ cls := "ActChainsModel", name := "row", desc := "(JII)Z" } : Jvm.MethodName) ({ cls := "ActChainsModel", name := "row", desc := "(JII)Z" } : Jvm.MethodName)) ∈ wA := wA_of 608 rfl rfl
set_option maxRecDepth 20000 in
theorem q_609 : (Cond.code ({ cls := "ActChainsModel", name := "row", desc := "(JII)Z" } : Jvm.MethodName) prog_9_method_6_code (5 : Nat) (Option.some Jvm.ClassFile.FieldType.boolean)) ∈ wA := wA_of 609 rfl rfl
set_option maxRecDepth 20000 in
theorem q_610 : (Cond.methodLink "ActChainsLaw" (113 : Nat) ({ cls := "ActChainsModel", name := "ship", desc := "(I)Z" } : Jvm.MethodName)) ∈ wA := wA_of 610 rfl rfl
set_option maxRecDepth 20000 in
theorem q_611 : (Cond.instanceMethod ({ cls := "ActChainsModel", name := "ship", desc := "(I)Z" } : Jvm.MethodName)) ∈ wA := wA_of 611 rfl rfl
set_option maxRecDepth 20000 in
theorem q_612 : (Cond.selects "ActChainsModel" ({ cls := "ActChainsModel", name := "ship", desc := "(I)Z" } : Jvm.MethodName) ({ cls := "ActChainsModel", name := "ship", desc := "(I)Z" } : Jvm.MethodName)) ∈ wA := wA_of 612 rfl rfl
set_option maxRecDepth 20000 in
theorem q_613 : (Cond.code ({ cls := "ActChainsModel", name := "ship", desc := "(I)Z" } : Jvm.MethodName) prog_9_method_7_code (2 : Nat) (Option.some Jvm.ClassFile.FieldType.boolean)) ∈ wA := wA_of 613 rfl rfl
set_option maxRecDepth 20000 in
theorem q_614 : (Cond.methodLink "ActChainsLaw" (56 : Nat) ({ cls := "ActChainsModel", name := "truth", desc := "(II)Z" } : Jvm.MethodName)) ∈ wA := wA_of 614 rfl rfl
set_option maxRecDepth 20000 in
theorem q_615 : (Cond.instanceMethod ({ cls := "ActChainsModel", name := "truth", desc := "(II)Z" } : Jvm.MethodName)) ∈ wA := wA_of 615 rfl rfl
set_option maxRecDepth 20000 in
theorem q_616 : (Cond.selects "ActChainsModel" ({ cls := "ActChainsModel", name := "truth", desc := "(II)Z" } : Jvm.MethodName) ({ cls := "ActChainsModel", name := "truth", desc := "(II)Z" } : Jvm.MethodName)) ∈ wA := wA_of 616 rfl rfl
set_option maxRecDepth 20000 in
theorem q_617 : (Cond.code ({ cls := "ActChainsModel", name := "truth", desc := "(II)Z" } : Jvm.MethodName) prog_9_method_8_code (3 : Nat) (Option.some Jvm.ClassFile.FieldType.boolean)) ∈ wA := wA_of 617 rfl rfl
set_option maxRecDepth 20000 in
theorem q_618 : (Cond.methodLink "ActChainsModel" (103 : Nat) ({ cls := "ActChainsModel", name := "isRow", desc := "(I)Z" } : Jvm.MethodName)) ∈ wA := wA_of 618 rfl rfl
set_option maxRecDepth 20000 in
theorem q_620 : (Cond.instanceMethod ({ cls := "ActChainsModel", name := "isRow", desc := "(I)Z" } : Jvm.MethodName)) ∈ wA := wA_of 620 rfl rfl
set_option maxRecDepth 20000 in
theorem q_621 : (Cond.code ({ cls := "ActChainsModel", name := "isRow", desc := "(I)Z" } : Jvm.MethodName) prog_9_method_3_code (2 : Nat) (Option.some Jvm.ClassFile.FieldType.boolean)) ∈ wA := wA_of 621 rfl rfl
set_option maxRecDepth 20000 in
theorem q_622 : (Cond.methodLink "ActChainsLaw" (96 : Nat) ({ cls := "ActChainsModel", name := "margin", desc := "(I)Z" } : Jvm.MethodName)) ∈ wA := wA_of 622 rfl rfl
set_option maxRecDepth 20000 in
theorem q_623 : (Cond.instanceMethod ({ cls := "ActChainsModel", name := "margin", desc := "(I)Z" } : Jvm.MethodName)) ∈ wA := wA_of 623 rfl rfl
set_option maxRecDepth 20000 in
theorem q_624 : (Cond.selects "ActChainsModel" ({ cls := "ActChainsModel", name := "margin", desc := "(I)Z" } : Jvm.MethodName) ({ cls := "ActChainsModel", name := "margin", desc := "(I)Z" } : Jvm.MethodName)) ∈ wA := wA_of 624 rfl rfl
set_option maxRecDepth 20000 in
theorem q_625 : (Cond.code ({ cls := "ActChainsModel", name := "margin", desc := "(I)Z" } : Jvm.MethodName) prog_9_method_9_code (2 : Nat) (Option.some Jvm.ClassFile.FieldType.boolean)) ∈ wA := wA_of 625 rfl rfl
set_option maxRecDepth 20000 in
theorem q_626 : (Cond.constant "ActChainsModel" (106 : Nat) (100000 : Int32)) ∈ wA := wA_of 626 rfl rfl
set_option maxRecDepth 20000 in
theorem q_627 : (Cond.methodLink "ActChainsLaw" (87 : Nat) ({ cls := "ActChainsModel", name := "page", desc := "(JJI)Z" } : Jvm.MethodName)) ∈ wA := wA_of 627 rfl rfl
set_option maxRecDepth 20000 in
theorem q_628 : (Cond.instanceMethod ({ cls := "ActChainsModel", name := "page", desc := "(JJI)Z" } : Jvm.MethodName)) ∈ wA := wA_of 628 rfl rfl
set_option maxRecDepth 20000 in
theorem q_629 : (Cond.selects "ActChainsModel" ({ cls := "ActChainsModel", name := "page", desc := "(JJI)Z" } : Jvm.MethodName) ({ cls := "ActChainsModel", name := "page", desc := "(JJI)Z" } : Jvm.MethodName)) ∈ wA := wA_of 629 rfl rfl
set_option maxRecDepth 20000 in
theorem q_630 : (Cond.code ({ cls := "ActChainsModel", name := "page", desc := "(JJI)Z" } : Jvm.MethodName) prog_9_method_10_code (6 : Nat) (Option.some Jvm.ClassFile.FieldType.boolean)) ∈ wA := wA_of 630 rfl rfl
set_option maxRecDepth 20000 in
theorem q_631 : (Cond.methodLink "ActChainsLaw" (105 : Nat) ({ cls := "ActChainsModel", name := "cell", desc := "(IIIJ)Z" } : Jvm.MethodName)) ∈ wA := wA_of 631 rfl rfl
set_option maxRecDepth 20000 in
theorem q_632 : (Cond.instanceMethod ({ cls := "ActChainsModel", name := "cell", desc := "(IIIJ)Z" } : Jvm.MethodName)) ∈ wA := wA_of 632 rfl rfl
set_option maxRecDepth 20000 in
theorem q_633 : (Cond.selects "ActChainsModel" ({ cls := "ActChainsModel", name := "cell", desc := "(IIIJ)Z" } : Jvm.MethodName) ({ cls := "ActChainsModel", name := "cell", desc := "(IIIJ)Z" } : Jvm.MethodName)) ∈ wA := wA_of 633 rfl rfl
set_option maxRecDepth 20000 in
theorem q_634 : (Cond.code ({ cls := "ActChainsModel", name := "cell", desc := "(IIIJ)Z" } : Jvm.MethodName) prog_9_method_11_code (6 : Nat) (Option.some Jvm.ClassFile.FieldType.boolean)) ∈ wA := wA_of 634 rfl rfl
set_option maxRecDepth 20000 in
theorem q_635 : (Cond.constantLong "ActChainsModel" (113 : Nat) (1000000 : Int64)) ∈ wA := wA_of 635 rfl rfl
set_option maxRecDepth 20000 in
theorem q_636 : (Cond.methodLink "ActChainsLaw" (126 : Nat) ({ cls := "ActChainsModel", name := "night", desc := "(I)I" } : Jvm.MethodName)) ∈ wA := wA_of 636 rfl rfl
set_option maxRecDepth 20000 in
theorem q_637 : (Cond.instanceMethod ({ cls := "ActChainsModel", name := "night", desc := "(I)I" } : Jvm.MethodName)) ∈ wA := wA_of 637 rfl rfl
set_option maxRecDepth 20000 in
theorem q_638 : (Cond.selects "ActChainsModel" ({ cls := "ActChainsModel", name := "night", desc := "(I)I" } : Jvm.MethodName) ({ cls := "ActChainsModel", name := "night", desc := "(I)I" } : Jvm.MethodName)) ∈ wA := wA_of 638 rfl rfl
set_option maxRecDepth 20000 in
theorem q_639 : (Cond.code ({ cls := "ActChainsModel", name := "night", desc := "(I)I" } : Jvm.MethodName) prog_9_method_12_code (4 : Nat) (Option.some Jvm.ClassFile.FieldType.int)) ∈ wA := wA_of 639 rfl rfl
set_option maxRecDepth 20000 in
theorem q_640 : (Cond.constantLong "ActChainsModel" (118 : Nat) (86400 : Int64)) ∈ wA := wA_of 640 rfl rfl
set_option maxRecDepth 20000 in
theorem q_641 : (Cond.constantLong "ActChainsModel" (120 : Nat) (21600 : Int64)) ∈ wA := wA_of 641 rfl rfl
set_option maxRecDepth 20000 in
theorem q_642 : (Cond.constantLong "ActChainsModel" (122 : Nat) (64800 : Int64)) ∈ wA := wA_of 642 rfl rfl
set_option maxRecDepth 20000 in
theorem q_643 : (Cond.methodLink "ActChainsLaw" (41 : Nat) ({ cls := "ActChainsModel", name := "run", desc := "()I" } : Jvm.MethodName)) ∈ wA := wA_of 643 rfl rfl
set_option maxRecDepth 20000 in
theorem q_644 : (Cond.instanceMethod ({ cls := "ActChainsModel", name := "run", desc := "()I" } : Jvm.MethodName)) ∈ wA := wA_of 644 rfl rfl
set_option maxRecDepth 20000 in
theorem q_645 : (Cond.selects "ActChainsModel" ({ cls := "ActChainsModel", name := "run", desc := "()I" } : Jvm.MethodName) ({ cls := "ActChainsModel", name := "run", desc := "()I" } : Jvm.MethodName)) ∈ wA := wA_of 645 rfl rfl
set_option maxRecDepth 20000 in
theorem q_646 : (Cond.code ({ cls := "ActChainsModel", name := "run", desc := "()I" } : Jvm.MethodName) prog_9_method_18_code (1 : Nat) (Option.some Jvm.ClassFile.FieldType.int)) ∈ wA := wA_of 646 rfl rfl
set_option maxRecDepth 20000 in
theorem q_647 : (Cond.methodLink "ActChainsModel" (145 : Nat) ({ cls := "ActChainsModel", name := "keep", desc := "()V" } : Jvm.MethodName)) ∈ wA := wA_of 647 rfl rfl
set_option maxRecDepth 20000 in
theorem q_649 : (Cond.instanceMethod ({ cls := "ActChainsModel", name := "keep", desc := "()V" } : Jvm.MethodName)) ∈ wA := wA_of 649 rfl rfl
set_option maxRecDepth 20000 in
theorem q_650 : (Cond.code ({ cls := "ActChainsModel", name := "keep", desc := "()V" } : Jvm.MethodName) prog_9_method_17_code (6 : Nat) (Option.none : Option Jvm.ClassFile.FieldType)) ∈ wA := wA_of 650 rfl rfl
set_option maxRecDepth 20000 in
theorem q_651 : (Cond.methodLink "ActChainsModel" (132 : Nat) ({ cls := "ActChainsModel", name := "search", desc := "(I)I" } : Jvm.MethodName)) ∈ wA := wA_of 651 rfl rfl
set_option maxRecDepth 20000 in
theorem q_653 : (Cond.instanceMethod ({ cls := "ActChainsModel", name := "search", desc := "(I)I" } : Jvm.MethodName)) ∈ wA := wA_of 653 rfl rfl
set_option maxRecDepth 20000 in
theorem q_654 : (Cond.code ({ cls := "ActChainsModel", name := "search", desc := "(I)I" } : Jvm.MethodName) prog_9_method_15_code (8 : Nat) (Option.some Jvm.ClassFile.FieldType.int)) ∈ wA := wA_of 654 rfl rfl
set_option maxRecDepth 20000 in
theorem q_655 : (Cond.methodLink "ActChainsModel" (124 : Nat) ({ cls := "ActChainsModel", name := "may", desc := "(III)Z" } : Jvm.MethodName)) ∈ wA := wA_of 655 rfl rfl
set_option maxRecDepth 20000 in
theorem q_657 : (Cond.instanceMethod ({ cls := "ActChainsModel", name := "may", desc := "(III)Z" } : Jvm.MethodName)) ∈ wA := wA_of 657 rfl rfl
set_option maxRecDepth 20000 in
theorem q_658 : (Cond.code ({ cls := "ActChainsModel", name := "may", desc := "(III)Z" } : Jvm.MethodName) prog_9_method_13_code (4 : Nat) (Option.some Jvm.ClassFile.FieldType.boolean)) ∈ wA := wA_of 658 rfl rfl
set_option maxRecDepth 20000 in
theorem q_659 : (Cond.constant "ActChainsModel" (128 : Nat) (1000000000 : Int32)) ∈ wA := wA_of 659 rfl rfl
set_option maxRecDepth 20000 in
theorem q_660 : (Cond.methodLink "ActChainsModel" (129 : Nat) ({ cls := "ActChainsModel", name := "isFirst", desc := "(III)Z" } : Jvm.MethodName)) ∈ wA := wA_of 660 rfl rfl
set_option maxRecDepth 20000 in
theorem q_662 : (Cond.instanceMethod ({ cls := "ActChainsModel", name := "isFirst", desc := "(III)Z" } : Jvm.MethodName)) ∈ wA := wA_of 662 rfl rfl
set_option maxRecDepth 20000 in
theorem q_663 : (Cond.code ({ cls := "ActChainsModel", name := "isFirst", desc := "(III)Z" } : Jvm.MethodName) prog_9_method_14_code (5 : Nat) (Option.some Jvm.ClassFile.FieldType.boolean)) ∈ wA := wA_of 663 rfl rfl
set_option maxRecDepth 20000 in
theorem q_664 : (Cond.methodLink "ActChainsModel" (142 : Nat) ({ cls := "ActChainsModel", name := "bothEnds", desc := "()V" } : Jvm.MethodName)) ∈ wA := wA_of 664 rfl rfl
set_option maxRecDepth 20000 in
theorem q_666 : (Cond.instanceMethod ({ cls := "ActChainsModel", name := "bothEnds", desc := "()V" } : Jvm.MethodName)) ∈ wA := wA_of 666 rfl rfl
set_option maxRecDepth 20000 in
theorem q_667 : (Cond.code ({ cls := "ActChainsModel", name := "bothEnds", desc := "()V" } : Jvm.MethodName) prog_9_method_16_code (6 : Nat) (Option.none : Option Jvm.ClassFile.FieldType)) ∈ wA := wA_of 667 rfl rfl
set_option maxRecDepth 20000 in
theorem q_668 : (Cond.methodLink "ActChainsLaw" (60 : Nat) ({ cls := "ActChainsModel", name := "fit", desc := "(I)I" } : Jvm.MethodName)) ∈ wA := wA_of 668 rfl rfl
set_option maxRecDepth 20000 in
theorem q_669 : (Cond.instanceMethod ({ cls := "ActChainsModel", name := "fit", desc := "(I)I" } : Jvm.MethodName)) ∈ wA := wA_of 669 rfl rfl
set_option maxRecDepth 20000 in
theorem q_670 : (Cond.selects "ActChainsModel" ({ cls := "ActChainsModel", name := "fit", desc := "(I)I" } : Jvm.MethodName) ({ cls := "ActChainsModel", name := "fit", desc := "(I)I" } : Jvm.MethodName)) ∈ wA := wA_of 670 rfl rfl
set_option maxRecDepth 20000 in
theorem q_671 : (Cond.code ({ cls := "ActChainsModel", name := "fit", desc := "(I)I" } : Jvm.MethodName) prog_9_method_21_code (4 : Nat) (Option.some Jvm.ClassFile.FieldType.int)) ∈ wA := wA_of 671 rfl rfl
set_option maxRecDepth 20000 in
theorem q_672 : (Cond.methodLink "ActChainsModel" (153 : Nat) ({ cls := "ActChainsModel", name := "save", desc := "(Z)V" } : Jvm.MethodName)) ∈ wA := wA_of 672 rfl rfl
set_option maxRecDepth 20000 in
theorem q_674 : (Cond.instanceMethod ({ cls := "ActChainsModel", name := "save", desc := "(Z)V" } : Jvm.MethodName)) ∈ wA := wA_of 674 rfl rfl
set_option maxRecDepth 20000 in
theorem q_675 : (Cond.code ({ cls := "ActChainsModel", name := "save", desc := "(Z)V" } : Jvm.MethodName) prog_9_method_20_code (3 : Nat) (Option.none : Option Jvm.ClassFile.FieldType)) ∈ wA := wA_of 675 rfl rfl
set_option maxRecDepth 20000 in
theorem q_676 : (Cond.methodLink "ActChainsModel" (157 : Nat) ({ cls := "ActChainsModel", name := "count", desc := "()V" } : Jvm.MethodName)) ∈ wA := wA_of 676 rfl rfl
set_option maxRecDepth 20000 in
theorem q_678 : (Cond.instanceMethod ({ cls := "ActChainsModel", name := "count", desc := "()V" } : Jvm.MethodName)) ∈ wA := wA_of 678 rfl rfl
set_option maxRecDepth 20000 in
theorem q_679 : (Cond.code ({ cls := "ActChainsModel", name := "count", desc := "()V" } : Jvm.MethodName) prog_9_method_19_code (8 : Nat) (Option.none : Option Jvm.ClassFile.FieldType)) ∈ wA := wA_of 679 rfl rfl
set_option maxRecDepth 20000 in
theorem q_680 : (Cond.constantLong "ActChainsModel" (148 : Nat) (1000 : Int64)) ∈ wA := wA_of 680 rfl rfl
set_option maxRecDepth 20000 in
theorem q_681 : (Cond.methodLink "ActChainsLaw" (65 : Nat) ({ cls := "ActChainsModel", name := "sum", desc := "(I)J" } : Jvm.MethodName)) ∈ wA := wA_of 681 rfl rfl
set_option maxRecDepth 20000 in
theorem q_682 : (Cond.instanceMethod ({ cls := "ActChainsModel", name := "sum", desc := "(I)J" } : Jvm.MethodName)) ∈ wA := wA_of 682 rfl rfl
set_option maxRecDepth 20000 in
theorem q_683 : (Cond.selects "ActChainsModel" ({ cls := "ActChainsModel", name := "sum", desc := "(I)J" } : Jvm.MethodName) ({ cls := "ActChainsModel", name := "sum", desc := "(I)J" } : Jvm.MethodName)) ∈ wA := wA_of 683 rfl rfl
set_option maxRecDepth 20000 in
theorem q_684 : (Cond.code ({ cls := "ActChainsModel", name := "sum", desc := "(I)J" } : Jvm.MethodName) prog_9_method_22_code (2 : Nat) (Option.some Jvm.ClassFile.FieldType.long)) ∈ wA := wA_of 684 rfl rfl
set_option maxRecDepth 20000 in
theorem q_685 : (Cond.constantLong "ActChainsModel" (160 : Nat) (-1 : Int64)) ∈ wA := wA_of 685 rfl rfl
set_option maxRecDepth 20000 in
theorem q_686 : (Cond.methodLink "ActChainsLaw" (69 : Nat) ({ cls := "ActChainsModel", name := "leftOut", desc := "(I)I" } : Jvm.MethodName)) ∈ wA := wA_of 686 rfl rfl
set_option maxRecDepth 20000 in
theorem q_687 : (Cond.instanceMethod ({ cls := "ActChainsModel", name := "leftOut", desc := "(I)I" } : Jvm.MethodName)) ∈ wA := wA_of 687 rfl rfl
set_option maxRecDepth 20000 in
theorem q_688 : (Cond.selects "ActChainsModel" ({ cls := "ActChainsModel", name := "leftOut", desc := "(I)I" } : Jvm.MethodName) ({ cls := "ActChainsModel", name := "leftOut", desc := "(I)I" } : Jvm.MethodName)) ∈ wA := wA_of 688 rfl rfl
set_option maxRecDepth 20000 in
theorem q_689 : (Cond.code ({ cls := "ActChainsModel", name := "leftOut", desc := "(I)I" } : Jvm.MethodName) prog_9_method_23_code (6 : Nat) (Option.some Jvm.ClassFile.FieldType.int)) ∈ wA := wA_of 689 rfl rfl
set_option maxRecDepth 20000 in
theorem q_690 : (Cond.methodLink "ActChainsLaw" (46 : Nat) ({ cls := "ActChainsModel", name := "act", desc := "(I)I" } : Jvm.MethodName)) ∈ wA := wA_of 690 rfl rfl
set_option maxRecDepth 20000 in
theorem q_691 : (Cond.instanceMethod ({ cls := "ActChainsModel", name := "act", desc := "(I)I" } : Jvm.MethodName)) ∈ wA := wA_of 691 rfl rfl
set_option maxRecDepth 20000 in
theorem q_692 : (Cond.selects "ActChainsModel" ({ cls := "ActChainsModel", name := "act", desc := "(I)I" } : Jvm.MethodName) ({ cls := "ActChainsModel", name := "act", desc := "(I)I" } : Jvm.MethodName)) ∈ wA := wA_of 692 rfl rfl
set_option maxRecDepth 20000 in
theorem q_693 : (Cond.code ({ cls := "ActChainsModel", name := "act", desc := "(I)I" } : Jvm.MethodName) prog_9_method_25_code (2 : Nat) (Option.some Jvm.ClassFile.FieldType.int)) ∈ wA := wA_of 693 rfl rfl
set_option maxRecDepth 20000 in
theorem q_694 : (Cond.methodLink "ActChainsModel" (162 : Nat) ({ cls := "ActChainsModel", name := "isKnown", desc := "(I)Z" } : Jvm.MethodName)) ∈ wA := wA_of 694 rfl rfl
set_option maxRecDepth 20000 in
theorem q_696 : (Cond.instanceMethod ({ cls := "ActChainsModel", name := "isKnown", desc := "(I)Z" } : Jvm.MethodName)) ∈ wA := wA_of 696 rfl rfl
set_option maxRecDepth 20000 in
theorem q_697 : (Cond.code ({ cls := "ActChainsModel", name := "isKnown", desc := "(I)Z" } : Jvm.MethodName) prog_9_method_24_code (2 : Nat) (Option.some Jvm.ClassFile.FieldType.boolean)) ∈ wA := wA_of 697 rfl rfl
set_option maxRecDepth 20000 in
theorem q_698 : (Cond.methodLink "ActChainsLaw" (51 : Nat) ({ cls := "ActChainsModel", name := "greatest", desc := "()Z" } : Jvm.MethodName)) ∈ wA := wA_of 698 rfl rfl
set_option maxRecDepth 20000 in
theorem q_699 : (Cond.instanceMethod ({ cls := "ActChainsModel", name := "greatest", desc := "()Z" } : Jvm.MethodName)) ∈ wA := wA_of 699 rfl rfl
set_option maxRecDepth 20000 in
theorem q_700 : (Cond.selects "ActChainsModel" ({ cls := "ActChainsModel", name := "greatest", desc := "()Z" } : Jvm.MethodName) ({ cls := "ActChainsModel", name := "greatest", desc := "()Z" } : Jvm.MethodName)) ∈ wA := wA_of 700 rfl rfl
set_option maxRecDepth 20000 in
theorem q_701 : (Cond.code ({ cls := "ActChainsModel", name := "greatest", desc := "()Z" } : Jvm.MethodName) prog_9_method_26_code (1 : Nat) (Option.some Jvm.ClassFile.FieldType.boolean)) ∈ wA := wA_of 701 rfl rfl
set_option maxRecDepth 20000 in
theorem q_702 : (Cond.methodLink "ActChainsLaw" (73 : Nat) ({ cls := "ActChainsModel", name := "hours", desc := "(I)J" } : Jvm.MethodName)) ∈ wA := wA_of 702 rfl rfl
set_option maxRecDepth 20000 in
theorem q_703 : (Cond.instanceMethod ({ cls := "ActChainsModel", name := "hours", desc := "(I)J" } : Jvm.MethodName)) ∈ wA := wA_of 703 rfl rfl
set_option maxRecDepth 20000 in
theorem q_704 : (Cond.selects "ActChainsModel" ({ cls := "ActChainsModel", name := "hours", desc := "(I)J" } : Jvm.MethodName) ({ cls := "ActChainsModel", name := "hours", desc := "(I)J" } : Jvm.MethodName)) ∈ wA := wA_of 704 rfl rfl
set_option maxRecDepth 20000 in
theorem q_705 : (Cond.code ({ cls := "ActChainsModel", name := "hours", desc := "(I)J" } : Jvm.MethodName) prog_9_method_28_code (5 : Nat) (Option.some Jvm.ClassFile.FieldType.long)) ∈ wA := wA_of 705 rfl rfl
set_option maxRecDepth 20000 in
theorem q_706 : (Cond.methodLink "ActChainsModel" (165 : Nat) ({ cls := "ActChainsModel", name := "end", desc := "(I)J" } : Jvm.MethodName)) ∈ wA := wA_of 706 rfl rfl
set_option maxRecDepth 20000 in
theorem q_708 : (Cond.instanceMethod ({ cls := "ActChainsModel", name := "end", desc := "(I)J" } : Jvm.MethodName)) ∈ wA := wA_of 708 rfl rfl
set_option maxRecDepth 20000 in
theorem q_709 : (Cond.code ({ cls := "ActChainsModel", name := "end", desc := "(I)J" } : Jvm.MethodName) prog_9_method_27_code (2 : Nat) (Option.some Jvm.ClassFile.FieldType.long)) ∈ wA := wA_of 709 rfl rfl
set_option maxRecDepth 20000 in
theorem q_710 : (Cond.methodLink "ActChainsLaw" (118 : Nat) ({ cls := "ActChainsModel", name := "total", desc := "()J" } : Jvm.MethodName)) ∈ wA := wA_of 710 rfl rfl
set_option maxRecDepth 20000 in
theorem q_711 : (Cond.instanceMethod ({ cls := "ActChainsModel", name := "total", desc := "()J" } : Jvm.MethodName)) ∈ wA := wA_of 711 rfl rfl
set_option maxRecDepth 20000 in
theorem q_712 : (Cond.selects "ActChainsModel" ({ cls := "ActChainsModel", name := "total", desc := "()J" } : Jvm.MethodName) ({ cls := "ActChainsModel", name := "total", desc := "()J" } : Jvm.MethodName)) ∈ wA := wA_of 712 rfl rfl
set_option maxRecDepth 20000 in
theorem q_713 : (Cond.code ({ cls := "ActChainsModel", name := "total", desc := "()J" } : Jvm.MethodName) prog_9_method_29_code (1 : Nat) (Option.some Jvm.ClassFile.FieldType.long)) ∈ wA := wA_of 713 rfl rfl
set_option maxRecDepth 20000 in
theorem q_714 : (Cond.methodLink "ActChainsLaw" (78 : Nat) ({ cls := "ActChainsModel", name := "haul", desc := "(II)I" } : Jvm.MethodName)) ∈ wA := wA_of 714 rfl rfl
set_option maxRecDepth 20000 in
theorem q_715 : (Cond.instanceMethod ({ cls := "ActChainsModel", name := "haul", desc := "(II)I" } : Jvm.MethodName)) ∈ wA := wA_of 715 rfl rfl
set_option maxRecDepth 20000 in
theorem q_716 : (Cond.selects "ActChainsModel" ({ cls := "ActChainsModel", name := "haul", desc := "(II)I" } : Jvm.MethodName) ({ cls := "ActChainsModel", name := "haul", desc := "(II)I" } : Jvm.MethodName)) ∈ wA := wA_of 716 rfl rfl
set_option maxRecDepth 20000 in
theorem q_717 : (Cond.code ({ cls := "ActChainsModel", name := "haul", desc := "(II)I" } : Jvm.MethodName) prog_9_method_32_code (6 : Nat) (Option.some Jvm.ClassFile.FieldType.int)) ∈ wA := wA_of 717 rfl rfl
set_option maxRecDepth 20000 in
theorem q_718 : (Cond.methodLink "ActChainsModel" (169 : Nat) ({ cls := "ActChainsModel", name := "first", desc := "(I)I" } : Jvm.MethodName)) ∈ wA := wA_of 718 rfl rfl
set_option maxRecDepth 20000 in
theorem q_720 : (Cond.instanceMethod ({ cls := "ActChainsModel", name := "first", desc := "(I)I" } : Jvm.MethodName)) ∈ wA := wA_of 720 rfl rfl
set_option maxRecDepth 20000 in
theorem q_721 : (Cond.code ({ cls := "ActChainsModel", name := "first", desc := "(I)I" } : Jvm.MethodName) prog_9_method_30_code (4 : Nat) (Option.some Jvm.ClassFile.FieldType.int)) ∈ wA := wA_of 721 rfl rfl
set_option maxRecDepth 20000 in
theorem q_722 : (Cond.methodLink "ActChainsModel" (172 : Nat) ({ cls := "ActChainsModel", name := "last", desc := "(I)I" } : Jvm.MethodName)) ∈ wA := wA_of 722 rfl rfl
set_option maxRecDepth 20000 in
theorem q_724 : (Cond.instanceMethod ({ cls := "ActChainsModel", name := "last", desc := "(I)I" } : Jvm.MethodName)) ∈ wA := wA_of 724 rfl rfl
set_option maxRecDepth 20000 in
theorem q_725 : (Cond.code ({ cls := "ActChainsModel", name := "last", desc := "(I)I" } : Jvm.MethodName) prog_9_method_31_code (3 : Nat) (Option.some Jvm.ClassFile.FieldType.int)) ∈ wA := wA_of 725 rfl rfl
set_option maxRecDepth 20000 in
theorem q_726 : (Cond.constantLong "ActChainsModel" (175 : Nat) (2147483647 : Int64)) ∈ wA := wA_of 726 rfl rfl
set_option maxRecDepth 20000 in
theorem q_727 : (Cond.methodLink "ActChainsLaw" (109 : Nat) ({ cls := "ActChainsModel", name := "gear", desc := "(I)I" } : Jvm.MethodName)) ∈ wA := wA_of 727 rfl rfl
set_option maxRecDepth 20000 in
theorem q_728 : (Cond.instanceMethod ({ cls := "ActChainsModel", name := "gear", desc := "(I)I" } : Jvm.MethodName)) ∈ wA := wA_of 728 rfl rfl
set_option maxRecDepth 20000 in
theorem q_729 : (Cond.selects "ActChainsModel" ({ cls := "ActChainsModel", name := "gear", desc := "(I)I" } : Jvm.MethodName) ({ cls := "ActChainsModel", name := "gear", desc := "(I)I" } : Jvm.MethodName)) ∈ wA := wA_of 729 rfl rfl
set_option maxRecDepth 20000 in
theorem q_730 : (Cond.code ({ cls := "ActChainsModel", name := "gear", desc := "(I)I" } : Jvm.MethodName) prog_9_method_33_code (5 : Nat) (Option.some Jvm.ClassFile.FieldType.int)) ∈ wA := wA_of 730 rfl rfl
set_option maxRecDepth 20000 in
theorem q_731 : (Cond.methodLink "ActChainsLaw" (82 : Nat) ({ cls := "ActChainsModel", name := "differs", desc := "(II)I" } : Jvm.MethodName)) ∈ wA := wA_of 731 rfl rfl
set_option maxRecDepth 20000 in
theorem q_732 : (Cond.instanceMethod ({ cls := "ActChainsModel", name := "differs", desc := "(II)I" } : Jvm.MethodName)) ∈ wA := wA_of 732 rfl rfl
set_option maxRecDepth 20000 in
theorem q_733 : (Cond.selects "ActChainsModel" ({ cls := "ActChainsModel", name := "differs", desc := "(II)I" } : Jvm.MethodName) ({ cls := "ActChainsModel", name := "differs", desc := "(II)I" } : Jvm.MethodName)) ∈ wA := wA_of 733 rfl rfl
set_option maxRecDepth 20000 in
theorem q_734 : (Cond.code ({ cls := "ActChainsModel", name := "differs", desc := "(II)I" } : Jvm.MethodName) prog_9_method_35_code (6 : Nat) (Option.some Jvm.ClassFile.FieldType.int)) ∈ wA := wA_of 734 rfl rfl
set_option maxRecDepth 20000 in
theorem q_735 : (Cond.methodLink "ActChainsModel" (177 : Nat) ({ cls := "ActChainsModel", name := "told", desc := "(J)I" } : Jvm.MethodName)) ∈ wA := wA_of 735 rfl rfl
set_option maxRecDepth 20000 in
theorem q_737 : (Cond.instanceMethod ({ cls := "ActChainsModel", name := "told", desc := "(J)I" } : Jvm.MethodName)) ∈ wA := wA_of 737 rfl rfl
set_option maxRecDepth 20000 in
theorem q_738 : (Cond.code ({ cls := "ActChainsModel", name := "told", desc := "(J)I" } : Jvm.MethodName) prog_9_method_34_code (4 : Nat) (Option.some Jvm.ClassFile.FieldType.int)) ∈ wA := wA_of 738 rfl rfl
set_option maxRecDepth 20000 in
theorem q_739 : (Cond.methodLink "ActChainsLaw" (92 : Nat) ({ cls := "ActChainsModel", name := "unsure", desc := "(I)Z" } : Jvm.MethodName)) ∈ wA := wA_of 739 rfl rfl
set_option maxRecDepth 20000 in
theorem q_740 : (Cond.instanceMethod ({ cls := "ActChainsModel", name := "unsure", desc := "(I)Z" } : Jvm.MethodName)) ∈ wA := wA_of 740 rfl rfl
set_option maxRecDepth 20000 in
theorem q_741 : (Cond.selects "ActChainsModel" ({ cls := "ActChainsModel", name := "unsure", desc := "(I)Z" } : Jvm.MethodName) ({ cls := "ActChainsModel", name := "unsure", desc := "(I)Z" } : Jvm.MethodName)) ∈ wA := wA_of 741 rfl rfl
set_option maxRecDepth 20000 in
theorem q_742 : (Cond.code ({ cls := "ActChainsModel", name := "unsure", desc := "(I)Z" } : Jvm.MethodName) prog_9_method_36_code (2 : Nat) (Option.some Jvm.ClassFile.FieldType.boolean)) ∈ wA := wA_of 742 rfl rfl
set_option maxRecDepth 20000 in
theorem q_743 : (Cond.methodLink "ActChainsLaw" (122 : Nat) ({ cls := "ActChainsModel", name := "tied", desc := "(I)Z" } : Jvm.MethodName)) ∈ wA := wA_of 743 rfl rfl
set_option maxRecDepth 20000 in
theorem q_744 : (Cond.instanceMethod ({ cls := "ActChainsModel", name := "tied", desc := "(I)Z" } : Jvm.MethodName)) ∈ wA := wA_of 744 rfl rfl
set_option maxRecDepth 20000 in
theorem q_745 : (Cond.selects "ActChainsModel" ({ cls := "ActChainsModel", name := "tied", desc := "(I)Z" } : Jvm.MethodName) ({ cls := "ActChainsModel", name := "tied", desc := "(I)Z" } : Jvm.MethodName)) ∈ wA := wA_of 745 rfl rfl
set_option maxRecDepth 20000 in
theorem q_746 : (Cond.code ({ cls := "ActChainsModel", name := "tied", desc := "(I)Z" } : Jvm.MethodName) prog_9_method_37_code (2 : Nat) (Option.some Jvm.ClassFile.FieldType.boolean)) ∈ wA := wA_of 746 rfl rfl
set_option maxRecDepth 20000 in
theorem q_747 : (Cond.methodLink "ActChainsLaw" (101 : Nat) ({ cls := "ActChainsModel", name := "map", desc := "(II)J" } : Jvm.MethodName)) ∈ wA := wA_of 747 rfl rfl
set_option maxRecDepth 20000 in
theorem q_748 : (Cond.instanceMethod ({ cls := "ActChainsModel", name := "map", desc := "(II)J" } : Jvm.MethodName)) ∈ wA := wA_of 748 rfl rfl
set_option maxRecDepth 20000 in
theorem q_749 : (Cond.selects "ActChainsModel" ({ cls := "ActChainsModel", name := "map", desc := "(II)J" } : Jvm.MethodName) ({ cls := "ActChainsModel", name := "map", desc := "(II)J" } : Jvm.MethodName)) ∈ wA := wA_of 749 rfl rfl
set_option maxRecDepth 20000 in
theorem q_750 : (Cond.code ({ cls := "ActChainsModel", name := "map", desc := "(II)J" } : Jvm.MethodName) prog_9_method_38_code (6 : Nat) (Option.some Jvm.ClassFile.FieldType.long)) ∈ wA := wA_of 750 rfl rfl
set_option maxRecDepth 20000 in
theorem q_751 : (Cond.constantLong "ActChainsLaw" (30 : Nat) (4294967295 : Int64)) ∈ wA := wA_of 751 rfl rfl
theorem qs_0 : Cond.selects "ActChains" ⟨"ActChains", "isAct", "(I)Z"⟩ ⟨"ActChains", "isAct", "(I)Z"⟩ ∈ wA := wA_sel 0 rfl rfl
theorem qs_1 : Cond.selects "ActChains$LineFinder" ⟨"ActChains$LineFinder", "fillToGo", "(LActChains$Tracks;LActChains$Table;II)V"⟩ ⟨"ActChains$LineFinder", "fillToGo", "(LActChains$Tracks;LActChains$Table;II)V"⟩ ∈ wA := wA_sel 1 rfl rfl
theorem qs_2 : Cond.selects "ActChains$LineFinder" ⟨"ActChains$LineFinder", "cheapest", "([I[I)I"⟩ ⟨"ActChains$LineFinder", "cheapest", "([I[I)I"⟩ ∈ wA := wA_sel 2 rfl rfl
theorem qs_3 : Cond.selects "ActChains$LineFinder" ⟨"ActChains$LineFinder", "leastOther", "(I[I)I"⟩ ⟨"ActChains$LineFinder", "leastOther", "(I[I)I"⟩ ∈ wA := wA_sel 3 rfl rfl
theorem qs_4 : Cond.selects "ActChains$LineFinder" ⟨"ActChains$LineFinder", "stepBefore", "(LActChains$Tracks;LActChains$Table;I)V"⟩ ⟨"ActChains$LineFinder", "stepBefore", "(LActChains$Tracks;LActChains$Table;I)V"⟩ ∈ wA := wA_sel 4 rfl rfl
theorem qs_5 : Cond.selects "ActChains" ⟨"ActChains", "isRoundKept", "()Z"⟩ ⟨"ActChains", "isRoundKept", "()Z"⟩ ∈ wA := wA_sel 5 rfl rfl
theorem qs_6 : Cond.selects "ActChains$Table" ⟨"ActChains$Table", "clear", "()V"⟩ ⟨"ActChains$Table", "clear", "()V"⟩ ∈ wA := wA_sel 6 rfl rfl
theorem qs_7 : Cond.selects "ActChains" ⟨"ActChains", "differingRow", "(I)I"⟩ ⟨"ActChains", "differingRow", "(I)I"⟩ ∈ wA := wA_sel 7 rfl rfl
theorem qs_8 : Cond.selects "ActChainsModel" ⟨"ActChainsModel", "isAct", "(I)Z"⟩ ⟨"ActChainsModel", "isAct", "(I)Z"⟩ ∈ wA := wA_sel 8 rfl rfl
theorem qs_9 : Cond.selects "ActChainsModel" ⟨"ActChainsModel", "isRow", "(I)Z"⟩ ⟨"ActChainsModel", "isRow", "(I)Z"⟩ ∈ wA := wA_sel 9 rfl rfl
theorem qs_10 : Cond.selects "ActChainsModel" ⟨"ActChainsModel", "keep", "()V"⟩ ⟨"ActChainsModel", "keep", "()V"⟩ ∈ wA := wA_sel 10 rfl rfl
theorem qs_11 : Cond.selects "ActChainsModel" ⟨"ActChainsModel", "search", "(I)I"⟩ ⟨"ActChainsModel", "search", "(I)I"⟩ ∈ wA := wA_sel 11 rfl rfl
theorem qs_12 : Cond.selects "ActChainsModel" ⟨"ActChainsModel", "may", "(III)Z"⟩ ⟨"ActChainsModel", "may", "(III)Z"⟩ ∈ wA := wA_sel 12 rfl rfl
theorem qs_13 : Cond.selects "ActChainsModel" ⟨"ActChainsModel", "isFirst", "(III)Z"⟩ ⟨"ActChainsModel", "isFirst", "(III)Z"⟩ ∈ wA := wA_sel 13 rfl rfl
theorem qs_14 : Cond.selects "ActChainsModel" ⟨"ActChainsModel", "bothEnds", "()V"⟩ ⟨"ActChainsModel", "bothEnds", "()V"⟩ ∈ wA := wA_sel 14 rfl rfl
theorem qs_15 : Cond.selects "ActChainsModel" ⟨"ActChainsModel", "save", "(Z)V"⟩ ⟨"ActChainsModel", "save", "(Z)V"⟩ ∈ wA := wA_sel 15 rfl rfl
theorem qs_16 : Cond.selects "ActChainsModel" ⟨"ActChainsModel", "count", "()V"⟩ ⟨"ActChainsModel", "count", "()V"⟩ ∈ wA := wA_sel 16 rfl rfl
theorem qs_17 : Cond.selects "ActChainsModel" ⟨"ActChainsModel", "isKnown", "(I)Z"⟩ ⟨"ActChainsModel", "isKnown", "(I)Z"⟩ ∈ wA := wA_sel 17 rfl rfl
theorem qs_18 : Cond.selects "ActChainsModel" ⟨"ActChainsModel", "end", "(I)J"⟩ ⟨"ActChainsModel", "end", "(I)J"⟩ ∈ wA := wA_sel 18 rfl rfl
theorem qs_19 : Cond.selects "ActChainsModel" ⟨"ActChainsModel", "first", "(I)I"⟩ ⟨"ActChainsModel", "first", "(I)I"⟩ ∈ wA := wA_sel 19 rfl rfl
theorem qs_20 : Cond.selects "ActChainsModel" ⟨"ActChainsModel", "last", "(I)I"⟩ ⟨"ActChainsModel", "last", "(I)I"⟩ ∈ wA := wA_sel 20 rfl rfl
theorem qs_21 : Cond.selects "ActChainsModel" ⟨"ActChainsModel", "told", "(J)I"⟩ ⟨"ActChainsModel", "told", "(J)I"⟩ ∈ wA := wA_sel 21 rfl rfl
set_option maxRecDepth 100000 in
theorem i_C : ∀ w ∈ u_ws R_C F_C 5, w ∈ wA := fun w h => List.mem_filter.mpr ⟨List.mem_append_right _ ((show ∀ w ∈ u_ws R_C F_C 5, w ∈ tables_1 by decide +kernel) w h), (show ∀ w ∈ u_ws R_C F_C 5, goodWord w = true by decide +kernel) w h⟩
set_option maxRecDepth 100000 in
theorem i_N : ∀ w ∈ u_ws R_N F_N 4, w ∈ wA := fun w h => List.mem_filter.mpr ⟨List.mem_append_right _ ((show ∀ w ∈ u_ws R_N F_N 4, w ∈ tables_1 by decide +kernel) w h), (show ∀ w ∈ u_ws R_N F_N 4, goodWord w = true by decide +kernel) w h⟩
set_option maxRecDepth 100000 in
theorem i_F : ∀ w ∈ u_ws R_F F_F 7, w ∈ wA := fun w h => List.mem_filter.mpr ⟨List.mem_append_right _ ((show ∀ w ∈ u_ws R_F F_F 7, w ∈ tables_1 by decide +kernel) w h), (show ∀ w ∈ u_ws R_F F_F 7, goodWord w = true by decide +kernel) w h⟩
set_option maxRecDepth 100000 in
theorem i_P : ∀ w ∈ u_ws R_P F_P 4, w ∈ wA := fun w h => List.mem_filter.mpr ⟨List.mem_append_right _ ((show ∀ w ∈ u_ws R_P F_P 4, w ∈ tables_1 by decide +kernel) w h), (show ∀ w ∈ u_ws R_P F_P 4, goodWord w = true by decide +kernel) w h⟩
set_option maxRecDepth 100000 in
theorem i_B : ∀ w ∈ u_ws R_B F_B 2, w ∈ wA := fun w h => List.mem_filter.mpr ⟨List.mem_append_right _ ((show ∀ w ∈ u_ws R_B F_B 2, w ∈ tables_1 by decide +kernel) w h), (show ∀ w ∈ u_ws R_B F_B 2, goodWord w = true by decide +kernel) w h⟩
set_option maxRecDepth 100000 in
theorem i_T : ∀ w ∈ u_ws R_T F_T 6, w ∈ wA := fun w h => List.mem_filter.mpr ⟨List.mem_append_right _ ((show ∀ w ∈ u_ws R_T F_T 6, w ∈ tables_1 by decide +kernel) w h), (show ∀ w ∈ u_ws R_T F_T 6, goodWord w = true by decide +kernel) w h⟩
set_option maxRecDepth 100000 in
theorem i_K : ∀ w ∈ u_ws R_K F_K 13, w ∈ wA := fun w h => List.mem_filter.mpr ⟨List.mem_append_right _ ((show ∀ w ∈ u_ws R_K F_K 13, w ∈ tables_1 by decide +kernel) w h), (show ∀ w ∈ u_ws R_K F_K 13, goodWord w = true by decide +kernel) w h⟩
set_option maxRecDepth 100000 in
theorem i_M : ∀ w ∈ u_ws R_M F_M 35, w ∈ wA := fun w h => List.mem_filter.mpr ⟨List.mem_append_right _ ((show ∀ w ∈ u_ws R_M F_M 35, w ∈ tables_1 by decide +kernel) w h), (show ∀ w ∈ u_ws R_M F_M 35, goodWord w = true by decide +kernel) w h⟩
