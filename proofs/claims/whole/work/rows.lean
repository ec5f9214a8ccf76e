section
-- ===== PART A: goes FIRST, ahead of the names: the tables' words, and 'selects' of the private methods out of them =====
/-- a private method of a class that the tables say can be made, by its rows of tables_1 -/
def lw_okq (q : MethodName × Nat) : Prop := (q.1.cls ≠ "java/lang/invoke/MethodHandle" ∧ q.1.cls ≠ "java/lang/invoke/VarHandle") ∧ Cond.instantiable q.1.cls q.2 ∈ tables_1 ∧ Cond.privateMethod q.1 ∈ tables_1 ∧ Cond.instanceMethod q.1 ∈ tables_1
theorem lw_p0 : lw_okq (⟨"ActChains", "isAct", "(I)Z"⟩, 13) := ⟨⟨by decide +kernel, by decide +kernel⟩, List.mem_of_getElem? (i := 13) (by decide +kernel), List.mem_of_getElem? (i := 225) (by decide +kernel), List.mem_of_getElem? (i := 226) (by decide +kernel)⟩
theorem lw_p1 : lw_okq (⟨"ActChains$LineFinder", "fillToGo", "(LActChains$Tracks;LActChains$Table;II)V"⟩, 7) := ⟨⟨by decide +kernel, by decide +kernel⟩, List.mem_of_getElem? (i := 82) (by decide +kernel), List.mem_of_getElem? (i := 259) (by decide +kernel), List.mem_of_getElem? (i := 260) (by decide +kernel)⟩
theorem lw_p2 : lw_okq (⟨"ActChains$LineFinder", "cheapest", "([I[I)I"⟩, 7) := ⟨⟨by decide +kernel, by decide +kernel⟩, List.mem_of_getElem? (i := 82) (by decide +kernel), List.mem_of_getElem? (i := 268) (by decide +kernel), List.mem_of_getElem? (i := 269) (by decide +kernel)⟩
theorem lw_p3 : lw_okq (⟨"ActChains$LineFinder", "leastOther", "(I[I)I"⟩, 7) := ⟨⟨by decide +kernel, by decide +kernel⟩, List.mem_of_getElem? (i := 82) (by decide +kernel), List.mem_of_getElem? (i := 286) (by decide +kernel), List.mem_of_getElem? (i := 287) (by decide +kernel)⟩
theorem lw_p4 : lw_okq (⟨"ActChains$LineFinder", "stepBefore", "(LActChains$Tracks;LActChains$Table;I)V"⟩, 7) := ⟨⟨by decide +kernel, by decide +kernel⟩, List.mem_of_getElem? (i := 82) (by decide +kernel), List.mem_of_getElem? (i := 291) (by decide +kernel), List.mem_of_getElem? (i := 292) (by decide +kernel)⟩
theorem lw_p5 : lw_okq (⟨"ActChains", "isRoundKept", "()Z"⟩, 13) := ⟨⟨by decide +kernel, by decide +kernel⟩, List.mem_of_getElem? (i := 13) (by decide +kernel), List.mem_of_getElem? (i := 321) (by decide +kernel), List.mem_of_getElem? (i := 322) (by decide +kernel)⟩
theorem lw_p6 : lw_okq (⟨"ActChains$Table", "clear", "()V"⟩, 2) := ⟨⟨by decide +kernel, by decide +kernel⟩, List.mem_of_getElem? (i := 63) (by decide +kernel), List.mem_of_getElem? (i := 329) (by decide +kernel), List.mem_of_getElem? (i := 330) (by decide +kernel)⟩
theorem lw_p7 : lw_okq (⟨"ActChains", "differingRow", "(I)I"⟩, 13) := ⟨⟨by decide +kernel, by decide +kernel⟩, List.mem_of_getElem? (i := 13) (by decide +kernel), List.mem_of_getElem? (i := 403) (by decide +kernel), List.mem_of_getElem? (i := 404) (by decide +kernel)⟩
theorem lw_p8 : lw_okq (⟨"ActChainsModel", "isAct", "(I)Z"⟩, 35) := ⟨⟨by decide +kernel, by decide +kernel⟩, List.mem_of_getElem? (i := 483) (by decide +kernel), List.mem_of_getElem? (i := 599) (by decide +kernel), List.mem_of_getElem? (i := 600) (by decide +kernel)⟩
theorem lw_p9 : lw_okq (⟨"ActChainsModel", "isRow", "(I)Z"⟩, 35) := ⟨⟨by decide +kernel, by decide +kernel⟩, List.mem_of_getElem? (i := 483) (by decide +kernel), List.mem_of_getElem? (i := 619) (by decide +kernel), List.mem_of_getElem? (i := 620) (by decide +kernel)⟩
theorem lw_p10 : lw_okq (⟨"ActChainsModel", "keep", "()V"⟩, 35) := ⟨⟨by decide +kernel, by decide +kernel⟩, List.mem_of_getElem? (i := 483) (by decide +kernel), List.mem_of_getElem? (i := 648) (by decide +kernel), List.mem_of_getElem? (i := 649) (by decide +kernel)⟩
theorem lw_p11 : lw_okq (⟨"ActChainsModel", "search", "(I)I"⟩, 35) := ⟨⟨by decide +kernel, by decide +kernel⟩, List.mem_of_getElem? (i := 483) (by decide +kernel), List.mem_of_getElem? (i := 652) (by decide +kernel), List.mem_of_getElem? (i := 653) (by decide +kernel)⟩
theorem lw_p12 : lw_okq (⟨"ActChainsModel", "may", "(III)Z"⟩, 35) := ⟨⟨by decide +kernel, by decide +kernel⟩, List.mem_of_getElem? (i := 483) (by decide +kernel), List.mem_of_getElem? (i := 656) (by decide +kernel), List.mem_of_getElem? (i := 657) (by decide +kernel)⟩
theorem lw_p13 : lw_okq (⟨"ActChainsModel", "isFirst", "(III)Z"⟩, 35) := ⟨⟨by decide +kernel, by decide +kernel⟩, List.mem_of_getElem? (i := 483) (by decide +kernel), List.mem_of_getElem? (i := 661) (by decide +kernel), List.mem_of_getElem? (i := 662) (by decide +kernel)⟩
theorem lw_p14 : lw_okq (⟨"ActChainsModel", "bothEnds", "()V"⟩, 35) := ⟨⟨by decide +kernel, by decide +kernel⟩, List.mem_of_getElem? (i := 483) (by decide +kernel), List.mem_of_getElem? (i := 665) (by decide +kernel), List.mem_of_getElem? (i := 666) (by decide +kernel)⟩
theorem lw_p15 : lw_okq (⟨"ActChainsModel", "save", "(Z)V"⟩, 35) := ⟨⟨by decide +kernel, by decide +kernel⟩, List.mem_of_getElem? (i := 483) (by decide +kernel), List.mem_of_getElem? (i := 673) (by decide +kernel), List.mem_of_getElem? (i := 674) (by decide +kernel)⟩
def lw_privs_1 : List (MethodName × Nat) := [(⟨"ActChains", "isAct", "(I)Z"⟩, 13), (⟨"ActChains$LineFinder", "fillToGo", "(LActChains$Tracks;LActChains$Table;II)V"⟩, 7), (⟨"ActChains$LineFinder", "cheapest", "([I[I)I"⟩, 7), (⟨"ActChains$LineFinder", "leastOther", "(I[I)I"⟩, 7), (⟨"ActChains$LineFinder", "stepBefore", "(LActChains$Tracks;LActChains$Table;I)V"⟩, 7), (⟨"ActChains", "isRoundKept", "()Z"⟩, 13), (⟨"ActChains$Table", "clear", "()V"⟩, 2), (⟨"ActChains", "differingRow", "(I)I"⟩, 13), (⟨"ActChainsModel", "isAct", "(I)Z"⟩, 35), (⟨"ActChainsModel", "isRow", "(I)Z"⟩, 35), (⟨"ActChainsModel", "keep", "()V"⟩, 35), (⟨"ActChainsModel", "search", "(I)I"⟩, 35), (⟨"ActChainsModel", "may", "(III)Z"⟩, 35), (⟨"ActChainsModel", "isFirst", "(III)Z"⟩, 35), (⟨"ActChainsModel", "bothEnds", "()V"⟩, 35), (⟨"ActChainsModel", "save", "(Z)V"⟩, 35)]
theorem lw_r1 : ∀ q ∈ lw_privs_1, lw_okq q := List.forall_mem_cons.mpr ⟨lw_p0, List.forall_mem_cons.mpr ⟨lw_p1, List.forall_mem_cons.mpr ⟨lw_p2, List.forall_mem_cons.mpr ⟨lw_p3, List.forall_mem_cons.mpr ⟨lw_p4, List.forall_mem_cons.mpr ⟨lw_p5, List.forall_mem_cons.mpr ⟨lw_p6, List.forall_mem_cons.mpr ⟨lw_p7, List.forall_mem_cons.mpr ⟨lw_p8, List.forall_mem_cons.mpr ⟨lw_p9, List.forall_mem_cons.mpr ⟨lw_p10, List.forall_mem_cons.mpr ⟨lw_p11, List.forall_mem_cons.mpr ⟨lw_p12, List.forall_mem_cons.mpr ⟨lw_p13, List.forall_mem_cons.mpr ⟨lw_p14, List.forall_mem_cons.mpr ⟨lw_p15, fun _ h => absurd h List.not_mem_nil⟩⟩⟩⟩⟩⟩⟩⟩⟩⟩⟩⟩⟩⟩⟩⟩
theorem lw_p16 : lw_okq (⟨"ActChainsModel", "count", "()V"⟩, 35) := ⟨⟨by decide +kernel, by decide +kernel⟩, List.mem_of_getElem? (i := 483) (by decide +kernel), List.mem_of_getElem? (i := 677) (by decide +kernel), List.mem_of_getElem? (i := 678) (by decide +kernel)⟩
theorem lw_p17 : lw_okq (⟨"ActChainsModel", "isKnown", "(I)Z"⟩, 35) := ⟨⟨by decide +kernel, by decide +kernel⟩, List.mem_of_getElem? (i := 483) (by decide +kernel), List.mem_of_getElem? (i := 695) (by decide +kernel), List.mem_of_getElem? (i := 696) (by decide +kernel)⟩
theorem lw_p18 : lw_okq (⟨"ActChainsModel", "end", "(I)J"⟩, 35) := ⟨⟨by decide +kernel, by decide +kernel⟩, List.mem_of_getElem? (i := 483) (by decide +kernel), List.mem_of_getElem? (i := 707) (by decide +kernel), List.mem_of_getElem? (i := 708) (by decide +kernel)⟩
theorem lw_p19 : lw_okq (⟨"ActChainsModel", "first", "(I)I"⟩, 35) := ⟨⟨by decide +kernel, by decide +kernel⟩, List.mem_of_getElem? (i := 483) (by decide +kernel), List.mem_of_getElem? (i := 719) (by decide +kernel), List.mem_of_getElem? (i := 720) (by decide +kernel)⟩
theorem lw_p20 : lw_okq (⟨"ActChainsModel", "last", "(I)I"⟩, 35) := ⟨⟨by decide +kernel, by decide +kernel⟩, List.mem_of_getElem? (i := 483) (by decide +kernel), List.mem_of_getElem? (i := 723) (by decide +kernel), List.mem_of_getElem? (i := 724) (by decide +kernel)⟩
theorem lw_p21 : lw_okq (⟨"ActChainsModel", "told", "(J)I"⟩, 35) := ⟨⟨by decide +kernel, by decide +kernel⟩, List.mem_of_getElem? (i := 483) (by decide +kernel), List.mem_of_getElem? (i := 736) (by decide +kernel), List.mem_of_getElem? (i := 737) (by decide +kernel)⟩
def lw_privs_2 : List (MethodName × Nat) := [(⟨"ActChainsModel", "count", "()V"⟩, 35), (⟨"ActChainsModel", "isKnown", "(I)Z"⟩, 35), (⟨"ActChainsModel", "end", "(I)J"⟩, 35), (⟨"ActChainsModel", "first", "(I)I"⟩, 35), (⟨"ActChainsModel", "last", "(I)I"⟩, 35), (⟨"ActChainsModel", "told", "(J)I"⟩, 35)]
theorem lw_r2 : ∀ q ∈ lw_privs_2, lw_okq q := List.forall_mem_cons.mpr ⟨lw_p16, List.forall_mem_cons.mpr ⟨lw_p17, List.forall_mem_cons.mpr ⟨lw_p18, List.forall_mem_cons.mpr ⟨lw_p19, List.forall_mem_cons.mpr ⟨lw_p20, List.forall_mem_cons.mpr ⟨lw_p21, fun _ h => absurd h List.not_mem_nil⟩⟩⟩⟩⟩⟩
def lw_privs : List (MethodName × Nat) := lw_privs_1 ++ (lw_privs_2)
def lw_tbl : List Cond := k2_sels lw_privs ++ tables_1
theorem lw_privs_ok : ∀ q ∈ lw_privs, lw_okq q := by
  show ∀ q ∈ lw_privs_1 ++ (lw_privs_2), lw_okq q
  exact List.forall_mem_append.mpr ⟨lw_r1, lw_r2⟩
/-! NAMES, by program out of the listing and the tables -/
def R_K : String := "ActChains"
def R_C : String := "ActChains$Cells"
def R_N : String := "ActChains$LatestRun"
def R_F : String := "ActChains$LineFinder"
def R_P : String := "ActChains$Pages"
def R_B : String := "ActChains$Table"
def R_T : String := "ActChains$Tracks"
def R_M : String := "ActChainsModel"
def R_L : String := "ActChainsLaw"
def R_JM : String := "java/lang/Math"
def R_JA : String := "java/util/Arrays"
def R_JO : String := "java/lang/Object"
def R_JS : String := "java/lang/System"
def F_C : u_T := fun k => match k with
  | 0 => ("ActChains$Cells", "rows", "[I", true)
  | 1 => ("ActChains$Cells", "xs", "[I", true)
  | 2 => ("ActChains$Cells", "ys", "[I", true)
  | 3 => ("ActChains$Cells", "times", "[J", true)
  | _ => ("ActChains$Cells", "count", "I", false)
def fy_C : Nat → FieldType := fun k => match k with
  | 0 => .array .int
  | 1 => .array .int
  | 2 => .array .int
  | 3 => .array .long
  | _ => .int
theorem fn_C : ∀ a, a < 5 → ∀ b, b < 5 → a ≠ b → (F_C a).2.1 ≠ (F_C b).2.1 := by decide +kernel
theorem fy_C_ok : ∀ k, k < 5 → parseFieldDescriptor (F_C k).2.2.1 = some (fy_C k) := by decide +kernel
def F_N : u_T := fun k => match k with
  | 0 => ("ActChains$LatestRun", "line", "[I", true)
  | 1 => ("ActChains$LatestRun", "nextCosts", "[I", true)
  | 2 => ("ActChains$LatestRun", "count", "I", false)
  | _ => ("ActChains$LatestRun", "cost", "I", false)
def fy_N : Nat → FieldType := fun k => match k with
  | 0 => .array .int
  | 1 => .array .int
  | 2 => .int
  | _ => .int
theorem fn_N : ∀ a, a < 4 → ∀ b, b < 4 → a ≠ b → (F_N a).2.1 ≠ (F_N b).2.1 := by decide +kernel
theorem fy_N_ok : ∀ k, k < 4 → parseFieldDescriptor (F_N k).2.2.1 = some (fy_N k) := by decide +kernel
def F_F : u_T := fun k => match k with
  | 0 => ("ActChains$LineFinder", "line", "[I", true)
  | 1 => ("ActChains$LineFinder", "cost", "I", false)
  | 2 => ("ActChains$LineFinder", "acts", "I", true)
  | 3 => ("ActChains$LineFinder", "toGo", "[[I", true)
  | 4 => ("ActChains$LineFinder", "noChange", "[I", true)
  | 5 => ("ActChains$LineFinder", "before", "[I", false)
  | _ => ("ActChains$LineFinder", "after", "[I", false)
def fy_F : Nat → FieldType := fun k => match k with
  | 0 => .array .int
  | 1 => .int
  | 2 => .int
  | 3 => .array (.array .int)
  | 4 => .array .int
  | 5 => .array .int
  | _ => .array .int
theorem fn_F : ∀ a, a < 7 → ∀ b, b < 7 → a ≠ b → (F_F a).2.1 ≠ (F_F b).2.1 := by decide +kernel
theorem fy_F_ok : ∀ k, k < 7 → parseFieldDescriptor (F_F k).2.2.1 = some (fy_F k) := by decide +kernel
def F_P : u_T := fun k => match k with
  | 0 => ("ActChains$Pages", "from", "[J", true)
  | 1 => ("ActChains$Pages", "to", "[J", true)
  | 2 => ("ActChains$Pages", "told", "[I", true)
  | _ => ("ActChains$Pages", "count", "I", false)
def fy_P : Nat → FieldType := fun k => match k with
  | 0 => .array .long
  | 1 => .array .long
  | 2 => .array .int
  | _ => .int
theorem fn_P : ∀ a, a < 4 → ∀ b, b < 4 → a ≠ b → (F_P a).2.1 ≠ (F_P b).2.1 := by decide +kernel
theorem fy_P_ok : ∀ k, k < 4 → parseFieldDescriptor (F_P k).2.2.1 = some (fy_P k) := by decide +kernel
def F_B : u_T := fun k => match k with
  | 0 => ("ActChains$Table", "changes", "[[I", true)
  | _ => ("ActChains$Table", "speeds", "[[I", true)
def fy_B : Nat → FieldType := fun k => match k with
  | 0 => .array (.array .int)
  | _ => .array (.array .int)
theorem fn_B : ∀ a, a < 2 → ∀ b, b < 2 → a ≠ b → (F_B a).2.1 ≠ (F_B b).2.1 := by decide +kernel
theorem fy_B_ok : ∀ k, k < 2 → parseFieldDescriptor (F_B k).2.2.1 = some (fy_B k) := by decide +kernel
def F_T : u_T := fun k => match k with
  | 0 => ("ActChains$Tracks", "seconds", "[J", true)
  | 1 => ("ActChains$Tracks", "classes", "[I", true)
  | 2 => ("ActChains$Tracks", "turns", "[I", true)
  | 3 => ("ActChains$Tracks", "ships", "[I", true)
  | 4 => ("ActChains$Tracks", "truths", "[I", true)
  | _ => ("ActChains$Tracks", "count", "I", false)
def fy_T : Nat → FieldType := fun k => match k with
  | 0 => .array .long
  | 1 => .array .int
  | 2 => .array .int
  | 3 => .array .int
  | 4 => .array .int
  | _ => .int
theorem fn_T : ∀ a, a < 6 → ∀ b, b < 6 → a ≠ b → (F_T a).2.1 ≠ (F_T b).2.1 := by decide +kernel
theorem fy_T_ok : ∀ k, k < 6 → parseFieldDescriptor (F_T k).2.2.1 = some (fy_T k) := by decide +kernel
def F_K : u_T := fun k => match k with
  | 0 => ("ActChains", "acts", "I", true)
  | 1 => ("ActChains", "tracks", "LActChains$Tracks;", true)
  | 2 => ("ActChains", "costs", "LActChains$Table;", true)
  | 3 => ("ActChains", "fitted", "LActChains$Table;", true)
  | 4 => ("ActChains", "counts", "LActChains$Table;", true)
  | 5 => ("ActChains", "finder", "LActChains$LineFinder;", true)
  | 6 => ("ActChains", "latest", "LActChains$LatestRun;", true)
  | 7 => ("ActChains", "pages", "LActChains$Pages;", true)
  | 8 => ("ActChains", "cells", "LActChains$Cells;", true)
  | 9 => ("ActChains", "sums", "[J", true)
  | 10 => ("ActChains", "keptRounds", "I", false)
  | 11 => ("ActChains", "shipNow", "I", false)
  | _ => ("ActChains", "marginNow", "I", false)
def fy_K : Nat → FieldType := fun k => match k with
  | 0 => .int
  | 1 => .object "ActChains$Tracks"
  | 2 => .object "ActChains$Table"
  | 3 => .object "ActChains$Table"
  | 4 => .object "ActChains$Table"
  | 5 => .object "ActChains$LineFinder"
  | 6 => .object "ActChains$LatestRun"
  | 7 => .object "ActChains$Pages"
  | 8 => .object "ActChains$Cells"
  | 9 => .array .long
  | 10 => .int
  | 11 => .int
  | _ => .int
theorem fn_K : ∀ a, a < 13 → ∀ b, b < 13 → a ≠ b → (F_K a).2.1 ≠ (F_K b).2.1 := by decide +kernel
theorem fy_K_ok : ∀ k, k < 13 → parseFieldDescriptor (F_K k).2.2.1 = some (fy_K k) := by decide +kernel
def F_M : u_T := fun k => match k with
  | 0 => ("ActChainsModel", "acts", "I", true)
  | 1 => ("ActChainsModel", "moves", "[I", true)
  | 2 => ("ActChainsModel", "speeds", "[I", true)
  | 3 => ("ActChainsModel", "oldMoves", "[I", true)
  | 4 => ("ActChainsModel", "oldSpeeds", "[I", true)
  | 5 => ("ActChainsModel", "rows", "I", false)
  | 6 => ("ActChainsModel", "seconds", "[J", true)
  | 7 => ("ActChainsModel", "classes", "[I", true)
  | 8 => ("ActChainsModel", "turns", "[I", true)
  | 9 => ("ActChainsModel", "ships", "[I", true)
  | 10 => ("ActChainsModel", "truths", "[I", true)
  | 11 => ("ActChainsModel", "ship", "I", false)
  | 12 => ("ActChainsModel", "pages", "I", false)
  | 13 => ("ActChainsModel", "pageFrom", "[J", true)
  | 14 => ("ActChainsModel", "pageTo", "[J", true)
  | 15 => ("ActChainsModel", "pageAct", "[I", true)
  | 16 => ("ActChainsModel", "cells", "I", false)
  | 17 => ("ActChainsModel", "cellRow", "[I", true)
  | 18 => ("ActChainsModel", "cellX", "[I", true)
  | 19 => ("ActChainsModel", "cellY", "[I", true)
  | 20 => ("ActChainsModel", "cellSeconds", "[J", true)
  | 21 => ("ActChainsModel", "margin", "I", false)
  | 22 => ("ActChainsModel", "known", "I", false)
  | 23 => ("ActChainsModel", "line", "[I", true)
  | 24 => ("ActChainsModel", "cost", "I", false)
  | 25 => ("ActChainsModel", "others", "[I", true)
  | 26 => ("ActChainsModel", "sums", "I", false)
  | 27 => ("ActChainsModel", "sum", "[J", true)
  | 28 => ("ActChainsModel", "so", "[I", true)
  | 29 => ("ActChainsModel", "longer", "[I", true)
  | 30 => ("ActChainsModel", "soCost", "[I", true)
  | 31 => ("ActChainsModel", "longerCost", "[I", true)
  | 32 => ("ActChainsModel", "before", "[I", true)
  | 33 => ("ActChainsModel", "behind", "[I", true)
  | _ => ("ActChainsModel", "found", "[I", true)
def fy_M : Nat → FieldType := fun k => match k with
  | 0 => .int
  | 1 => .array .int
  | 2 => .array .int
  | 3 => .array .int
  | 4 => .array .int
  | 5 => .int
  | 6 => .array .long
  | 7 => .array .int
  | 8 => .array .int
  | 9 => .array .int
  | 10 => .array .int
  | 11 => .int
  | 12 => .int
  | 13 => .array .long
  | 14 => .array .long
  | 15 => .array .int
  | 16 => .int
  | 17 => .array .int
  | 18 => .array .int
  | 19 => .array .int
  | 20 => .array .long
  | 21 => .int
  | 22 => .int
  | 23 => .array .int
  | 24 => .int
  | 25 => .array .int
  | 26 => .int
  | 27 => .array .long
  | 28 => .array .int
  | 29 => .array .int
  | 30 => .array .int
  | 31 => .array .int
  | 32 => .array .int
  | 33 => .array .int
  | _ => .array .int
theorem fn_M : ∀ a, a < 35 → ∀ b, b < 35 → a ≠ b → (F_M a).2.1 ≠ (F_M b).2.1 := by decide +kernel
theorem fy_M_ok : ∀ k, k < 35 → parseFieldDescriptor (F_M k).2.2.1 = some (fy_M k) := by decide +kernel
abbrev gCl : List vw_C := [(R_C, F_C, 5), (R_N, F_N, 4), (R_F, F_F, 7), (R_P, F_P, 4), (R_B, F_B, 2), (R_T, F_T, 6), (R_K, F_K, 13), (R_M, F_M, 35)]
abbrev b_K_init : ByteArray := prog_1_method_1_code
def y_K_init : MethodName := ⟨R_K, "<init>", "(I)V"⟩
abbrev b_JO_init : ByteArray := object_method_1_code
def y_JO_init : MethodName := ⟨R_JO, "<init>", "()V"⟩
abbrev b_JM_min : ByteArray := prog_10_method_69_code
def y_JM_min : MethodName := ⟨R_JM, "min", "(II)I"⟩
abbrev b_JM_max : ByteArray := prog_10_method_65_code
def y_JM_max : MethodName := ⟨R_JM, "max", "(II)I"⟩
abbrev b_T_init : ByteArray := prog_7_method_1_code
def y_T_init : MethodName := ⟨R_T, "<init>", "()V"⟩
abbrev b_B_init : ByteArray := prog_6_method_1_code
def y_B_init : MethodName := ⟨R_B, "<init>", "(I)V"⟩
abbrev b_F_init : ByteArray := prog_4_method_1_code
def y_F_init : MethodName := ⟨R_F, "<init>", "(I)V"⟩
abbrev b_N_init : ByteArray := prog_3_method_1_code
def y_N_init : MethodName := ⟨R_N, "<init>", "()V"⟩
abbrev b_P_init : ByteArray := prog_5_method_1_code
def y_P_init : MethodName := ⟨R_P, "<init>", "()V"⟩
abbrev b_C_init : ByteArray := prog_2_method_1_code
def y_C_init : MethodName := ⟨R_C, "<init>", "()V"⟩
abbrev b_K_move : ByteArray := prog_1_method_2_code
def y_K_move : MethodName := ⟨R_K, "move", "(III)Z"⟩
abbrev b_K_isAct : ByteArray := prog_1_method_25_code
def y_K_isAct : MethodName := ⟨R_K, "isAct", "(I)Z"⟩
abbrev b_K_isBelow : ByteArray := prog_1_method_28_code
def y_K_isBelow : MethodName := ⟨R_K, "isBelow", "(II)Z"⟩
abbrev b_K_isCost : ByteArray := prog_1_method_26_code
def y_K_isCost : MethodName := ⟨R_K, "isCost", "(I)Z"⟩
abbrev b_K_speed : ByteArray := prog_1_method_3_code
def y_K_speed : MethodName := ⟨R_K, "speed", "(III)Z"⟩
abbrev b_K_row : ByteArray := prog_1_method_4_code
def y_K_row : MethodName := ⟨R_K, "row", "(JII)Z"⟩
abbrev b_T_canFollow : ByteArray := prog_7_method_2_code
def y_T_canFollow : MethodName := ⟨R_T, "canFollow", "(J)Z"⟩
abbrev b_T_add : ByteArray := prog_7_method_3_code
def y_T_add : MethodName := ⟨R_T, "add", "(JIII)V"⟩
abbrev b_K_run : ByteArray := prog_1_method_5_code
def y_K_run : MethodName := ⟨R_K, "run", "()I"⟩
abbrev b_F_find : ByteArray := prog_4_method_2_code
def y_F_find : MethodName := ⟨R_F, "find", "(LActChains$Tracks;LActChains$Table;I)V"⟩
abbrev b_F_fillToGo : ByteArray := prog_4_method_4_code
def y_F_fillToGo : MethodName := ⟨R_F, "fillToGo", "(LActChains$Tracks;LActChains$Table;II)V"⟩
abbrev b_T_allows : ByteArray := prog_7_method_4_code
def y_T_allows : MethodName := ⟨R_T, "allows", "(III)Z"⟩
abbrev b_F_cheapest : ByteArray := prog_4_method_5_code
def y_F_cheapest : MethodName := ⟨R_F, "cheapest", "([I[I)I"⟩
abbrev b_N_takeOver : ByteArray := prog_3_method_2_code
def y_N_takeOver : MethodName := ⟨R_N, "takeOver", "(LActChains$Tracks;LActChains$Table;LActChains$LineFinder;)V"⟩
abbrev b_F_fillNextCosts : ByteArray := prog_4_method_3_code
def y_F_fillNextCosts : MethodName := ⟨R_F, "fillNextCosts", "(LActChains$Tracks;LActChains$Table;[I)V"⟩
abbrev b_JA_fill : ByteArray := prog_12_method_103_code
def y_JA_fill : MethodName := ⟨R_JA, "fill", "([II)V"⟩
abbrev b_F_leastOther : ByteArray := prog_4_method_6_code
def y_F_leastOther : MethodName := ⟨R_F, "leastOther", "(I[I)I"⟩
abbrev b_F_stepBefore : ByteArray := prog_4_method_7_code
def y_F_stepBefore : MethodName := ⟨R_F, "stepBefore", "(LActChains$Tracks;LActChains$Table;I)V"⟩
abbrev b_K_act : ByteArray := prog_1_method_6_code
def y_K_act : MethodName := ⟨R_K, "act", "(I)I"⟩
abbrev b_N_has : ByteArray := prog_3_method_4_code
def y_N_has : MethodName := ⟨R_N, "has", "(I)Z"⟩
abbrev b_K_greatest : ByteArray := prog_1_method_7_code
def y_K_greatest : MethodName := ⟨R_K, "greatest", "()Z"⟩
abbrev b_N_exists : ByteArray := prog_3_method_3_code
def y_N_exists : MethodName := ⟨R_N, "exists", "()Z"⟩
abbrev b_K_truth : ByteArray := prog_1_method_8_code
def y_K_truth : MethodName := ⟨R_K, "truth", "(II)Z"⟩
abbrev b_K_fit : ByteArray := prog_1_method_9_code
def y_K_fit : MethodName := ⟨R_K, "fit", "(I)I"⟩
abbrev b_K_isRoundKept : ByteArray := prog_1_method_29_code
def y_K_isRoundKept : MethodName := ⟨R_K, "isRoundKept", "()Z"⟩
abbrev b_B_countLine : ByteArray := prog_6_method_3_code
def y_B_countLine : MethodName := ⟨R_B, "countLine", "(LActChains$Tracks;[I)V"⟩
abbrev b_B_clear : ByteArray := prog_6_method_5_code
def y_B_clear : MethodName := ⟨R_B, "clear", "()V"⟩
abbrev b_B_copyFrom : ByteArray := prog_6_method_2_code
def y_B_copyFrom : MethodName := ⟨R_B, "copyFrom", "(LActChains$Table;)V"⟩
abbrev b_B_fitTo : ByteArray := prog_6_method_4_code
def y_B_fitTo : MethodName := ⟨R_B, "fitTo", "(LActChains$Table;)V"⟩
abbrev b_B_fitShares : ByteArray := prog_6_method_6_code
def y_B_fitShares : MethodName := ⟨R_B, "fitShares", "([I[I)V"⟩
abbrev b_K_sum : ByteArray := prog_1_method_10_code
def y_K_sum : MethodName := ⟨R_K, "sum", "(I)J"⟩
abbrev b_K_leftOut : ByteArray := prog_1_method_11_code
def y_K_leftOut : MethodName := ⟨R_K, "leftOut", "(I)I"⟩
abbrev b_T_truthsOf : ByteArray := prog_7_method_6_code
def y_T_truthsOf : MethodName := ⟨R_T, "truthsOf", "(I)I"⟩
abbrev b_T_hasTruthOf : ByteArray := prog_7_method_5_code
def y_T_hasTruthOf : MethodName := ⟨R_T, "hasTruthOf", "(II)Z"⟩
abbrev b_T_truthsMissed : ByteArray := prog_7_method_7_code
def y_T_truthsMissed : MethodName := ⟨R_T, "truthsMissed", "(I[I)I"⟩
abbrev b_K_hours : ByteArray := prog_1_method_12_code
def y_K_hours : MethodName := ⟨R_K, "hours", "(I)J"⟩
abbrev b_N_secondsOf : ByteArray := prog_3_method_8_code
def y_N_secondsOf : MethodName := ⟨R_N, "secondsOf", "(I[J)J"⟩
abbrev b_N_endOf : ByteArray := prog_3_method_7_code
def y_N_endOf : MethodName := ⟨R_N, "endOf", "(I[J)J"⟩
abbrev b_K_haul : ByteArray := prog_1_method_13_code
def y_K_haul : MethodName := ⟨R_K, "haul", "(II)I"⟩
abbrev b_N_haulStart : ByteArray := prog_3_method_9_code
def y_N_haulStart : MethodName := ⟨R_N, "haulStart", "(I)I"⟩
abbrev b_N_isHauling : ByteArray := prog_3_method_6_code
def y_N_isHauling : MethodName := ⟨R_N, "isHauling", "(I)Z"⟩
abbrev b_N_haulLast : ByteArray := prog_3_method_10_code
def y_N_haulLast : MethodName := ⟨R_N, "haulLast", "(I)I"⟩
abbrev b_K_differs : ByteArray := prog_1_method_14_code
def y_K_differs : MethodName := ⟨R_K, "differs", "(II)I"⟩
abbrev b_K_differingRow : ByteArray := prog_1_method_30_code
def y_K_differingRow : MethodName := ⟨R_K, "differingRow", "(I)I"⟩
abbrev b_P_actAt : ByteArray := prog_5_method_3_code
def y_P_actAt : MethodName := ⟨R_P, "actAt", "(J)I"⟩
abbrev b_K_page : ByteArray := prog_1_method_15_code
def y_K_page : MethodName := ⟨R_K, "page", "(JJI)Z"⟩
abbrev b_P_add : ByteArray := prog_5_method_2_code
def y_P_add : MethodName := ⟨R_P, "add", "(JJI)V"⟩
abbrev b_K_unsure : ByteArray := prog_1_method_16_code
def y_K_unsure : MethodName := ⟨R_K, "unsure", "(I)Z"⟩
abbrev b_N_hasNextCost : ByteArray := prog_3_method_5_code
def y_N_hasNextCost : MethodName := ⟨R_N, "hasNextCost", "(I)Z"⟩
abbrev b_K_margin : ByteArray := prog_1_method_17_code
def y_K_margin : MethodName := ⟨R_K, "margin", "(I)Z"⟩
abbrev b_K_map : ByteArray := prog_1_method_18_code
def y_K_map : MethodName := ⟨R_K, "map", "(II)J"⟩
abbrev b_K_isOnMap : ByteArray := prog_1_method_27_code
def y_K_isOnMap : MethodName := ⟨R_K, "isOnMap", "(II)Z"⟩
abbrev b_C_haulingSeconds : ByteArray := prog_2_method_3_code
def y_C_haulingSeconds : MethodName := ⟨R_C, "haulingSeconds", "(IILActChains$LatestRun;)J"⟩
abbrev b_K_cell : ByteArray := prog_1_method_19_code
def y_K_cell : MethodName := ⟨R_K, "cell", "(IIIJ)Z"⟩
abbrev b_C_add : ByteArray := prog_2_method_2_code
def y_C_add : MethodName := ⟨R_C, "add", "(IIIJ)V"⟩
abbrev b_K_gear : ByteArray := prog_1_method_20_code
def y_K_gear : MethodName := ⟨R_K, "gear", "(I)I"⟩
abbrev b_T_turningRows : ByteArray := prog_7_method_8_code
def y_T_turningRows : MethodName := ⟨R_T, "turningRows", "(II)I"⟩
abbrev b_K_ship : ByteArray := prog_1_method_21_code
def y_K_ship : MethodName := ⟨R_K, "ship", "(I)Z"⟩
abbrev b_K_total : ByteArray := prog_1_method_22_code
def y_K_total : MethodName := ⟨R_K, "total", "()J"⟩
abbrev b_K_tied : ByteArray := prog_1_method_23_code
def y_K_tied : MethodName := ⟨R_K, "tied", "(I)Z"⟩
abbrev b_K_night : ByteArray := prog_1_method_24_code
def y_K_night : MethodName := ⟨R_K, "night", "(I)I"⟩
abbrev b_L_cell : ByteArray := method_2_code
def y_L_cell : MethodName := ⟨R_L, "cell", "([II)I"⟩
abbrev b_M_init : ByteArray := prog_9_method_1_code
def y_M_init : MethodName := ⟨R_M, "<init>", "(I)V"⟩
abbrev b_M_move : ByteArray := prog_9_method_4_code
def y_M_move : MethodName := ⟨R_M, "move", "(III)Z"⟩
abbrev b_M_isAct : ByteArray := prog_9_method_2_code
def y_M_isAct : MethodName := ⟨R_M, "isAct", "(I)Z"⟩
abbrev b_M_speed : ByteArray := prog_9_method_5_code
def y_M_speed : MethodName := ⟨R_M, "speed", "(III)Z"⟩
abbrev b_M_row : ByteArray := prog_9_method_6_code
def y_M_row : MethodName := ⟨R_M, "row", "(JII)Z"⟩
abbrev b_M_ship : ByteArray := prog_9_method_7_code
def y_M_ship : MethodName := ⟨R_M, "ship", "(I)Z"⟩
abbrev b_M_truth : ByteArray := prog_9_method_8_code
def y_M_truth : MethodName := ⟨R_M, "truth", "(II)Z"⟩
abbrev b_M_isRow : ByteArray := prog_9_method_3_code
def y_M_isRow : MethodName := ⟨R_M, "isRow", "(I)Z"⟩
abbrev b_M_margin : ByteArray := prog_9_method_9_code
def y_M_margin : MethodName := ⟨R_M, "margin", "(I)Z"⟩
abbrev b_M_page : ByteArray := prog_9_method_10_code
def y_M_page : MethodName := ⟨R_M, "page", "(JJI)Z"⟩
abbrev b_M_cell : ByteArray := prog_9_method_11_code
def y_M_cell : MethodName := ⟨R_M, "cell", "(IIIJ)Z"⟩
abbrev b_M_night : ByteArray := prog_9_method_12_code
def y_M_night : MethodName := ⟨R_M, "night", "(I)I"⟩
abbrev b_M_run : ByteArray := prog_9_method_18_code
def y_M_run : MethodName := ⟨R_M, "run", "()I"⟩
abbrev b_M_keep : ByteArray := prog_9_method_17_code
def y_M_keep : MethodName := ⟨R_M, "keep", "()V"⟩
abbrev b_M_search : ByteArray := prog_9_method_15_code
def y_M_search : MethodName := ⟨R_M, "search", "(I)I"⟩
abbrev b_M_may : ByteArray := prog_9_method_13_code
def y_M_may : MethodName := ⟨R_M, "may", "(III)Z"⟩
abbrev b_M_isFirst : ByteArray := prog_9_method_14_code
def y_M_isFirst : MethodName := ⟨R_M, "isFirst", "(III)Z"⟩
abbrev b_M_bothEnds : ByteArray := prog_9_method_16_code
def y_M_bothEnds : MethodName := ⟨R_M, "bothEnds", "()V"⟩
abbrev b_M_fit : ByteArray := prog_9_method_21_code
def y_M_fit : MethodName := ⟨R_M, "fit", "(I)I"⟩
abbrev b_M_save : ByteArray := prog_9_method_20_code
def y_M_save : MethodName := ⟨R_M, "save", "(Z)V"⟩
abbrev b_M_count : ByteArray := prog_9_method_19_code
def y_M_count : MethodName := ⟨R_M, "count", "()V"⟩
abbrev b_M_sum : ByteArray := prog_9_method_22_code
def y_M_sum : MethodName := ⟨R_M, "sum", "(I)J"⟩
abbrev b_M_leftOut : ByteArray := prog_9_method_23_code
def y_M_leftOut : MethodName := ⟨R_M, "leftOut", "(I)I"⟩
abbrev b_M_act : ByteArray := prog_9_method_25_code
def y_M_act : MethodName := ⟨R_M, "act", "(I)I"⟩
abbrev b_M_isKnown : ByteArray := prog_9_method_24_code
def y_M_isKnown : MethodName := ⟨R_M, "isKnown", "(I)Z"⟩
abbrev b_M_greatest : ByteArray := prog_9_method_26_code
def y_M_greatest : MethodName := ⟨R_M, "greatest", "()Z"⟩
abbrev b_M_hours : ByteArray := prog_9_method_28_code
def y_M_hours : MethodName := ⟨R_M, "hours", "(I)J"⟩
abbrev b_M_end : ByteArray := prog_9_method_27_code
def y_M_end : MethodName := ⟨R_M, "end", "(I)J"⟩
abbrev b_M_total : ByteArray := prog_9_method_29_code
def y_M_total : MethodName := ⟨R_M, "total", "()J"⟩
abbrev b_M_haul : ByteArray := prog_9_method_32_code
def y_M_haul : MethodName := ⟨R_M, "haul", "(II)I"⟩
abbrev b_M_first : ByteArray := prog_9_method_30_code
def y_M_first : MethodName := ⟨R_M, "first", "(I)I"⟩
abbrev b_M_last : ByteArray := prog_9_method_31_code
def y_M_last : MethodName := ⟨R_M, "last", "(I)I"⟩
abbrev b_M_gear : ByteArray := prog_9_method_33_code
def y_M_gear : MethodName := ⟨R_M, "gear", "(I)I"⟩
abbrev b_M_differs : ByteArray := prog_9_method_35_code
def y_M_differs : MethodName := ⟨R_M, "differs", "(II)I"⟩
abbrev b_M_told : ByteArray := prog_9_method_34_code
def y_M_told : MethodName := ⟨R_M, "told", "(J)I"⟩
abbrev b_M_unsure : ByteArray := prog_9_method_36_code
def y_M_unsure : MethodName := ⟨R_M, "unsure", "(I)Z"⟩
abbrev b_M_tied : ByteArray := prog_9_method_37_code
def y_M_tied : MethodName := ⟨R_M, "tied", "(I)Z"⟩
abbrev b_M_map : ByteArray := prog_9_method_38_code
def y_M_map : MethodName := ⟨R_M, "map", "(II)J"⟩
abbrev b_L_law : ByteArray := code
def y_L_law : MethodName := ⟨R_L, "law", "([I)Z"⟩
/-- the words that every method gets: all of the tables that a change of the state keeps -/
def wA : List Cond := lw_tbl.filter goodWord
def gNl : List Cond := tables_1.filter (fun w => match w with | .methodLinkNest _ _ _ _ => true | _ => false)
theorem wA_of {w : Cond} (i : Nat) (h : tables_1[i]? = some w) (hg : goodWord w = true) : w ∈ wA := List.mem_filter.mpr ⟨List.mem_append_right _ (List.mem_of_getElem? h), hg⟩
theorem wA_sel {w : Cond} (i : Nat) (h : (k2_sels lw_privs)[i]? = some w) (hg : goodWord w = true) : w ∈ wA := List.mem_filter.mpr ⟨List.mem_append_left _ (List.mem_of_getElem? h), hg⟩
set_option maxRecDepth 20000 in
theorem q_0 : (Cond.initialized "ActChainsLaw") ∈ wA := wA_of 0 rfl rfl
set_option maxRecDepth 20000 in
theorem q_1 : (Cond.initialized "ActChains") ∈ wA := wA_of 1 rfl rfl
set_option maxRecDepth 20000 in
theorem q_2 : (Cond.initialized "java/lang/Math") ∈ wA := wA_of 2 rfl rfl
set_option maxRecDepth 20000 in
theorem q_3 : (Cond.initialized "ActChains$Tracks") ∈ wA := wA_of 3 rfl rfl
set_option maxRecDepth 20000 in
theorem q_4 : (Cond.initialized "ActChains$Table") ∈ wA := wA_of 4 rfl rfl
set_option maxRecDepth 20000 in
theorem q_5 : (Cond.initialized "ActChains$LineFinder") ∈ wA := wA_of 5 rfl rfl
set_option maxRecDepth 20000 in
theorem q_6 : (Cond.initialized "ActChains$LatestRun") ∈ wA := wA_of 6 rfl rfl
set_option maxRecDepth 20000 in
theorem q_7 : (Cond.initialized "ActChains$Pages") ∈ wA := wA_of 7 rfl rfl
set_option maxRecDepth 20000 in
theorem q_8 : (Cond.initialized "ActChains$Cells") ∈ wA := wA_of 8 rfl rfl
set_option maxRecDepth 20000 in
theorem q_9 : (Cond.initialized "ActChainsModel") ∈ wA := wA_of 9 rfl rfl
set_option maxRecDepth 20000 in
theorem q_10 : (Cond.initialized "java/lang/System") ∈ wA := wA_of 10 rfl rfl
set_option maxRecDepth 20000 in
theorem q_11 : (Cond.initialized "java/util/Arrays") ∈ wA := wA_of 11 rfl rfl
set_option maxRecDepth 20000 in
theorem q_12 : (Cond.classLink "ActChainsLaw" (7 : Nat) "ActChains") ∈ wA := wA_of 12 rfl rfl
set_option maxRecDepth 20000 in
theorem q_13 : (Cond.instantiable "ActChains" (13 : Nat)) ∈ wA := wA_of 13 rfl rfl
set_option maxRecDepth 20000 in
theorem q_14 : (Cond.methodLink "ActChainsLaw" (15 : Nat) ({ cls := "ActChains", name := "<init>", desc := "(I)V" } : Jvm.MethodName)) ∈ wA := wA_of 14 rfl rfl
set_option maxRecDepth 20000 in
theorem q_15 : (Cond.instanceMethod ({ cls := "ActChains", name := "<init>", desc := "(I)V" } : Jvm.MethodName)) ∈ wA := wA_of 15 rfl rfl
set_option maxRecDepth 20000 in
theorem q_16 : (Cond.code ({ cls := "ActChains", name := "<init>", desc := "(I)V" } : Jvm.MethodName) prog_1_method_1_code (2 : Nat) (Option.none : Option Jvm.ClassFile.FieldType)) ∈ wA := wA_of 16 rfl rfl
set_option maxRecDepth 20000 in
theorem q_17 : (Cond.methodLink "ActChains" (1 : Nat) ({ cls := "java/lang/Object", name := "<init>", desc := "()V" } : Jvm.MethodName)) ∈ wA := wA_of 17 rfl rfl
set_option maxRecDepth 20000 in
theorem q_18 : (Cond.instanceMethod ({ cls := "java/lang/Object", name := "<init>", desc := "()V" } : Jvm.MethodName)) ∈ wA := wA_of 18 rfl rfl
set_option maxRecDepth 20000 in
theorem q_19 : (Cond.code ({ cls := "java/lang/Object", name := "<init>", desc := "()V" } : Jvm.MethodName) object_method_1_code (1 : Nat) (Option.none : Option Jvm.ClassFile.FieldType)) ∈ wA := wA_of 19 rfl rfl
set_option maxRecDepth 20000 in
theorem q_20 : (Cond.methodLink "ActChains" (9 : Nat) ({ cls := "java/lang/Math", name := "min", desc := "(II)I" } : Jvm.MethodName)) ∈ wA := wA_of 20 rfl rfl
set_option maxRecDepth 20000 in
theorem q_21 : (Cond.static ({ cls := "java/lang/Math", name := "min", desc := "(II)I" } : Jvm.MethodName)) ∈ wA := wA_of 21 rfl rfl
set_option maxRecDepth 20000 in
theorem q_22 : (Cond.code ({ cls := "java/lang/Math", name := "min", desc := "(II)I" } : Jvm.MethodName) prog_10_method_69_code (2 : Nat) (Option.some Jvm.ClassFile.FieldType.int)) ∈ wA := wA_of 22 rfl rfl
set_option maxRecDepth 20000 in
theorem q_23 : (Cond.methodLink "ActChains" (15 : Nat) ({ cls := "java/lang/Math", name := "max", desc := "(II)I" } : Jvm.MethodName)) ∈ wA := wA_of 23 rfl rfl
set_option maxRecDepth 20000 in
theorem q_24 : (Cond.static ({ cls := "java/lang/Math", name := "max", desc := "(II)I" } : Jvm.MethodName)) ∈ wA := wA_of 24 rfl rfl
set_option maxRecDepth 20000 in
theorem q_25 : (Cond.code ({ cls := "java/lang/Math", name := "max", desc := "(II)I" } : Jvm.MethodName) prog_10_method_65_code (2 : Nat) (Option.some Jvm.ClassFile.FieldType.int)) ∈ wA := wA_of 25 rfl rfl
set_option maxRecDepth 20000 in
theorem q_26 : (Cond.classLink "ActChains" (22 : Nat) "ActChains$Tracks") ∈ wA := wA_of 26 rfl rfl
set_option maxRecDepth 20000 in
theorem q_27 : (Cond.instantiable "ActChains$Tracks" (6 : Nat)) ∈ wA := wA_of 27 rfl rfl
set_option maxRecDepth 20000 in
theorem q_29 : (Cond.instanceMethod ({ cls := "ActChains$Tracks", name := "<init>", desc := "()V" } : Jvm.MethodName)) ∈ wA := wA_of 29 rfl rfl
set_option maxRecDepth 20000 in
theorem q_30 : (Cond.code ({ cls := "ActChains$Tracks", name := "<init>", desc := "()V" } : Jvm.MethodName) prog_7_method_1_code (1 : Nat) (Option.none : Option Jvm.ClassFile.FieldType)) ∈ wA := wA_of 30 rfl rfl
set_option maxRecDepth 20000 in
theorem q_31 : (Cond.methodLink "ActChains$Tracks" (3 : Nat) ({ cls := "java/lang/Object", name := "<init>", desc := "()V" } : Jvm.MethodName)) ∈ wA := wA_of 31 rfl rfl
set_option maxRecDepth 20000 in
theorem q_32 : (Cond.fieldLink "ActChains$Tracks" (9 : Nat) "ActChains$Tracks" "seconds" "[J") ∈ wA := wA_of 32 rfl rfl
set_option maxRecDepth 20000 in
theorem q_33 : (Cond.fieldLink "ActChains" (157 : Nat) "ActChains$Tracks" "seconds" "[J") ∈ wA := wA_of 33 rfl rfl
set_option maxRecDepth 20000 in
theorem q_34 : (Cond.fieldLink "ActChains$Tracks" (15 : Nat) "ActChains$Tracks" "classes" "[I") ∈ wA := wA_of 34 rfl rfl
set_option maxRecDepth 20000 in
theorem q_35 : (Cond.fieldLink "ActChains$Table" (34 : Nat) "ActChains$Tracks" "classes" "[I") ∈ wA := wA_of 35 rfl rfl
set_option maxRecDepth 20000 in
theorem q_36 : (Cond.fieldLink "ActChains$LineFinder" (71 : Nat) "ActChains$Tracks" "classes" "[I") ∈ wA := wA_of 36 rfl rfl
set_option maxRecDepth 20000 in
theorem q_37 : (Cond.fieldLink "ActChains$Tracks" (19 : Nat) "ActChains$Tracks" "turns" "[I") ∈ wA := wA_of 37 rfl rfl
set_option maxRecDepth 20000 in
theorem q_38 : (Cond.fieldLink "ActChains$Tracks" (22 : Nat) "ActChains$Tracks" "ships" "[I") ∈ wA := wA_of 38 rfl rfl
set_option maxRecDepth 20000 in
theorem q_39 : (Cond.fieldLink "ActChains$Tracks" (25 : Nat) "ActChains$Tracks" "truths" "[I") ∈ wA := wA_of 39 rfl rfl
set_option maxRecDepth 20000 in
theorem q_40 : (Cond.fieldLink "ActChains$LineFinder" (60 : Nat) "ActChains$Tracks" "truths" "[I") ∈ wA := wA_of 40 rfl rfl
set_option maxRecDepth 20000 in
theorem q_41 : (Cond.fieldLink "ActChains" (136 : Nat) "ActChains$Tracks" "truths" "[I") ∈ wA := wA_of 41 rfl rfl
set_option maxRecDepth 20000 in
theorem q_42 : (Cond.fieldLink "ActChains$Tracks" (28 : Nat) "ActChains$Tracks" "count" "I") ∈ wA := wA_of 42 rfl rfl
set_option maxRecDepth 20000 in
theorem q_43 : (Cond.fieldLink "ActChains$LineFinder" (36 : Nat) "ActChains$Tracks" "count" "I") ∈ wA := wA_of 43 rfl rfl
set_option maxRecDepth 20000 in
theorem q_44 : (Cond.fieldLink "ActChains$LatestRun" (25 : Nat) "ActChains$Tracks" "count" "I") ∈ wA := wA_of 44 rfl rfl
set_option maxRecDepth 20000 in
theorem q_45 : (Cond.fieldLink "ActChains$Table" (28 : Nat) "ActChains$Tracks" "count" "I") ∈ wA := wA_of 45 rfl rfl
set_option maxRecDepth 20000 in
theorem q_46 : (Cond.fieldLink "ActChains" (111 : Nat) "ActChains$Tracks" "count" "I") ∈ wA := wA_of 46 rfl rfl
set_option maxRecDepth 20000 in
theorem q_60 : (Cond.arrayClass Jvm.ClassFile.FieldType.long) ∈ wA := wA_of 60 rfl rfl
set_option maxRecDepth 20000 in
theorem q_61 : (Cond.arrayClass Jvm.ClassFile.FieldType.int) ∈ wA := wA_of 61 rfl rfl
set_option maxRecDepth 20000 in
theorem q_62 : (Cond.classLink "ActChains" (29 : Nat) "ActChains$Table") ∈ wA := wA_of 62 rfl rfl
set_option maxRecDepth 20000 in
theorem q_63 : (Cond.instantiable "ActChains$Table" (2 : Nat)) ∈ wA := wA_of 63 rfl rfl
set_option maxRecDepth 20000 in
theorem q_64 : (Cond.methodLink "ActChains" (31 : Nat) ({ cls := "ActChains$Table", name := "<init>", desc := "(I)V" } : Jvm.MethodName)) ∈ wA := wA_of 64 rfl rfl
set_option maxRecDepth 20000 in
theorem q_65 : (Cond.instanceMethod ({ cls := "ActChains$Table", name := "<init>", desc := "(I)V" } : Jvm.MethodName)) ∈ wA := wA_of 65 rfl rfl
set_option maxRecDepth 20000 in
theorem q_66 : (Cond.code ({ cls := "ActChains$Table", name := "<init>", desc := "(I)V" } : Jvm.MethodName) prog_6_method_1_code (2 : Nat) (Option.none : Option Jvm.ClassFile.FieldType)) ∈ wA := wA_of 66 rfl rfl
set_option maxRecDepth 20000 in
theorem q_67 : (Cond.methodLink "ActChains$Table" (3 : Nat) ({ cls := "java/lang/Object", name := "<init>", desc := "()V" } : Jvm.MethodName)) ∈ wA := wA_of 67 rfl rfl
set_option maxRecDepth 20000 in
theorem q_68 : (Cond.classLink "ActChains$Table" (9 : Nat) "[[I") ∈ wA := wA_of 68 rfl rfl
set_option maxRecDepth 20000 in
theorem q_70 : (Cond.fieldLink "ActChains$Table" (11 : Nat) "ActChains$Table" "changes" "[[I") ∈ wA := wA_of 70 rfl rfl
set_option maxRecDepth 20000 in
theorem q_71 : (Cond.fieldLink "ActChains" (92 : Nat) "ActChains$Table" "changes" "[[I") ∈ wA := wA_of 71 rfl rfl
set_option maxRecDepth 20000 in
theorem q_72 : (Cond.fieldLink "ActChains$LineFinder" (49 : Nat) "ActChains$Table" "changes" "[[I") ∈ wA := wA_of 72 rfl rfl
set_option maxRecDepth 20000 in
theorem q_73 : (Cond.fieldLink "ActChains$Table" (16 : Nat) "ActChains$Table" "speeds" "[[I") ∈ wA := wA_of 73 rfl rfl
set_option maxRecDepth 20000 in
theorem q_74 : (Cond.fieldLink "ActChains" (100 : Nat) "ActChains$Table" "speeds" "[[I") ∈ wA := wA_of 74 rfl rfl
set_option maxRecDepth 20000 in
theorem q_75 : (Cond.fieldLink "ActChains$LineFinder" (79 : Nat) "ActChains$Table" "speeds" "[[I") ∈ wA := wA_of 75 rfl rfl
set_option maxRecDepth 20000 in
theorem q_81 : (Cond.classLink "ActChains" (44 : Nat) "ActChains$LineFinder") ∈ wA := wA_of 81 rfl rfl
set_option maxRecDepth 20000 in
theorem q_82 : (Cond.instantiable "ActChains$LineFinder" (7 : Nat)) ∈ wA := wA_of 82 rfl rfl
set_option maxRecDepth 20000 in
theorem q_83 : (Cond.methodLink "ActChains" (46 : Nat) ({ cls := "ActChains$LineFinder", name := "<init>", desc := "(I)V" } : Jvm.MethodName)) ∈ wA := wA_of 83 rfl rfl
set_option maxRecDepth 20000 in
theorem q_84 : (Cond.instanceMethod ({ cls := "ActChains$LineFinder", name := "<init>", desc := "(I)V" } : Jvm.MethodName)) ∈ wA := wA_of 84 rfl rfl
set_option maxRecDepth 20000 in
theorem q_85 : (Cond.code ({ cls := "ActChains$LineFinder", name := "<init>", desc := "(I)V" } : Jvm.MethodName) prog_4_method_1_code (2 : Nat) (Option.none : Option Jvm.ClassFile.FieldType)) ∈ wA := wA_of 85 rfl rfl
set_option maxRecDepth 20000 in
theorem q_86 : (Cond.methodLink "ActChains$LineFinder" (3 : Nat) ({ cls := "java/lang/Object", name := "<init>", desc := "()V" } : Jvm.MethodName)) ∈ wA := wA_of 86 rfl rfl
set_option maxRecDepth 20000 in
theorem q_87 : (Cond.classLink "ActChains$LineFinder" (22 : Nat) "[[I") ∈ wA := wA_of 87 rfl rfl
set_option maxRecDepth 20000 in
theorem q_88 : (Cond.fieldLink "ActChains$LineFinder" (9 : Nat) "ActChains$LineFinder" "line" "[I") ∈ wA := wA_of 88 rfl rfl
set_option maxRecDepth 20000 in
theorem q_89 : (Cond.fieldLink "ActChains$LatestRun" (31 : Nat) "ActChains$LineFinder" "line" "[I") ∈ wA := wA_of 89 rfl rfl
set_option maxRecDepth 20000 in
theorem q_90 : (Cond.fieldLink "ActChains" (152 : Nat) "ActChains$LineFinder" "line" "[I") ∈ wA := wA_of 90 rfl rfl
set_option maxRecDepth 20000 in
theorem q_91 : (Cond.fieldLink "ActChains$LineFinder" (15 : Nat) "ActChains$LineFinder" "cost" "I") ∈ wA := wA_of 91 rfl rfl
set_option maxRecDepth 20000 in
theorem q_92 : (Cond.fieldLink "ActChains$LatestRun" (28 : Nat) "ActChains$LineFinder" "cost" "I") ∈ wA := wA_of 92 rfl rfl
set_option maxRecDepth 20000 in
theorem q_93 : (Cond.fieldLink "ActChains" (229 : Nat) "ActChains$LineFinder" "cost" "I") ∈ wA := wA_of 93 rfl rfl
set_option maxRecDepth 20000 in
theorem q_94 : (Cond.fieldLink "ActChains$LineFinder" (19 : Nat) "ActChains$LineFinder" "acts" "I") ∈ wA := wA_of 94 rfl rfl
set_option maxRecDepth 20000 in
theorem q_95 : (Cond.fieldLink "ActChains$LineFinder" (24 : Nat) "ActChains$LineFinder" "toGo" "[[I") ∈ wA := wA_of 95 rfl rfl
set_option maxRecDepth 20000 in
theorem q_96 : (Cond.fieldLink "ActChains$LineFinder" (27 : Nat) "ActChains$LineFinder" "noChange" "[I") ∈ wA := wA_of 96 rfl rfl
set_option maxRecDepth 20000 in
theorem q_97 : (Cond.fieldLink "ActChains$LineFinder" (30 : Nat) "ActChains$LineFinder" "before" "[I") ∈ wA := wA_of 97 rfl rfl
set_option maxRecDepth 20000 in
theorem q_98 : (Cond.fieldLink "ActChains$LineFinder" (33 : Nat) "ActChains$LineFinder" "after" "[I") ∈ wA := wA_of 98 rfl rfl
set_option maxRecDepth 20000 in
theorem q_114 : (Cond.classLink "ActChains" (51 : Nat) "ActChains$LatestRun") ∈ wA := wA_of 114 rfl rfl
set_option maxRecDepth 20000 in
theorem q_115 : (Cond.instantiable "ActChains$LatestRun" (4 : Nat)) ∈ wA := wA_of 115 rfl rfl
set_option maxRecDepth 20000 in
theorem q_117 : (Cond.instanceMethod ({ cls := "ActChains$LatestRun", name := "<init>", desc := "()V" } : Jvm.MethodName)) ∈ wA := wA_of 117 rfl rfl
set_option maxRecDepth 20000 in
theorem q_118 : (Cond.code ({ cls := "ActChains$LatestRun", name := "<init>", desc := "()V" } : Jvm.MethodName) prog_3_method_1_code (1 : Nat) (Option.none : Option Jvm.ClassFile.FieldType)) ∈ wA := wA_of 118 rfl rfl
set_option maxRecDepth 20000 in
theorem q_119 : (Cond.methodLink "ActChains$LatestRun" (3 : Nat) ({ cls := "java/lang/Object", name := "<init>", desc := "()V" } : Jvm.MethodName)) ∈ wA := wA_of 119 rfl rfl
set_option maxRecDepth 20000 in
theorem q_120 : (Cond.fieldLink "ActChains$LatestRun" (9 : Nat) "ActChains$LatestRun" "line" "[I") ∈ wA := wA_of 120 rfl rfl
set_option maxRecDepth 20000 in
theorem q_121 : (Cond.fieldLink "ActChains" (128 : Nat) "ActChains$LatestRun" "line" "[I") ∈ wA := wA_of 121 rfl rfl
set_option maxRecDepth 20000 in
theorem q_122 : (Cond.fieldLink "ActChains$LatestRun" (15 : Nat) "ActChains$LatestRun" "nextCosts" "[I") ∈ wA := wA_of 122 rfl rfl
set_option maxRecDepth 20000 in
theorem q_123 : (Cond.fieldLink "ActChains" (191 : Nat) "ActChains$LatestRun" "nextCosts" "[I") ∈ wA := wA_of 123 rfl rfl
set_option maxRecDepth 20000 in
theorem q_124 : (Cond.fieldLink "ActChains$LatestRun" (18 : Nat) "ActChains$LatestRun" "count" "I") ∈ wA := wA_of 124 rfl rfl
set_option maxRecDepth 20000 in
theorem q_125 : (Cond.fieldLink "ActChains" (211 : Nat) "ActChains$LatestRun" "count" "I") ∈ wA := wA_of 125 rfl rfl
set_option maxRecDepth 20000 in
theorem q_126 : (Cond.fieldLink "ActChains$LatestRun" (22 : Nat) "ActChains$LatestRun" "cost" "I") ∈ wA := wA_of 126 rfl rfl
set_option maxRecDepth 20000 in
theorem q_127 : (Cond.fieldLink "ActChains" (122 : Nat) "ActChains$LatestRun" "cost" "I") ∈ wA := wA_of 127 rfl rfl
set_option maxRecDepth 20000 in
theorem q_137 : (Cond.classLink "ActChains" (58 : Nat) "ActChains$Pages") ∈ wA := wA_of 137 rfl rfl
set_option maxRecDepth 20000 in
theorem q_138 : (Cond.instantiable "ActChains$Pages" (4 : Nat)) ∈ wA := wA_of 138 rfl rfl
set_option maxRecDepth 20000 in
theorem q_140 : (Cond.instanceMethod ({ cls := "ActChains$Pages", name := "<init>", desc := "()V" } : Jvm.MethodName)) ∈ wA := wA_of 140 rfl rfl
set_option maxRecDepth 20000 in
theorem q_141 : (Cond.code ({ cls := "ActChains$Pages", name := "<init>", desc := "()V" } : Jvm.MethodName) prog_5_method_1_code (1 : Nat) (Option.none : Option Jvm.ClassFile.FieldType)) ∈ wA := wA_of 141 rfl rfl
set_option maxRecDepth 20000 in
theorem q_142 : (Cond.methodLink "ActChains$Pages" (3 : Nat) ({ cls := "java/lang/Object", name := "<init>", desc := "()V" } : Jvm.MethodName)) ∈ wA := wA_of 142 rfl rfl
set_option maxRecDepth 20000 in
theorem q_143 : (Cond.fieldLink "ActChains$Pages" (9 : Nat) "ActChains$Pages" "from" "[J") ∈ wA := wA_of 143 rfl rfl
set_option maxRecDepth 20000 in
theorem q_144 : (Cond.fieldLink "ActChains$Pages" (15 : Nat) "ActChains$Pages" "to" "[J") ∈ wA := wA_of 144 rfl rfl
set_option maxRecDepth 20000 in
theorem q_145 : (Cond.fieldLink "ActChains$Pages" (18 : Nat) "ActChains$Pages" "told" "[I") ∈ wA := wA_of 145 rfl rfl
set_option maxRecDepth 20000 in
theorem q_146 : (Cond.fieldLink "ActChains$Pages" (22 : Nat) "ActChains$Pages" "count" "I") ∈ wA := wA_of 146 rfl rfl
set_option maxRecDepth 20000 in
theorem q_147 : (Cond.fieldLink "ActChains" (184 : Nat) "ActChains$Pages" "count" "I") ∈ wA := wA_of 147 rfl rfl
set_option maxRecDepth 20000 in
theorem q_157 : (Cond.classLink "ActChains" (65 : Nat) "ActChains$Cells") ∈ wA := wA_of 157 rfl rfl
set_option maxRecDepth 20000 in
theorem q_158 : (Cond.instantiable "ActChains$Cells" (5 : Nat)) ∈ wA := wA_of 158 rfl rfl
set_option maxRecDepth 20000 in
theorem q_160 : (Cond.instanceMethod ({ cls := "ActChains$Cells", name := "<init>", desc := "()V" } : Jvm.MethodName)) ∈ wA := wA_of 160 rfl rfl
set_option maxRecDepth 20000 in
theorem q_161 : (Cond.code ({ cls := "ActChains$Cells", name := "<init>", desc := "()V" } : Jvm.MethodName) prog_2_method_1_code (1 : Nat) (Option.none : Option Jvm.ClassFile.FieldType)) ∈ wA := wA_of 161 rfl rfl
set_option maxRecDepth 20000 in
theorem q_162 : (Cond.methodLink "ActChains$Cells" (3 : Nat) ({ cls := "java/lang/Object", name := "<init>", desc := "()V" } : Jvm.MethodName)) ∈ wA := wA_of 162 rfl rfl
set_option maxRecDepth 20000 in
theorem q_163 : (Cond.fieldLink "ActChains$Cells" (9 : Nat) "ActChains$Cells" "rows" "[I") ∈ wA := wA_of 163 rfl rfl
set_option maxRecDepth 20000 in
theorem q_164 : (Cond.fieldLink "ActChains$Cells" (15 : Nat) "ActChains$Cells" "xs" "[I") ∈ wA := wA_of 164 rfl rfl
set_option maxRecDepth 20000 in
theorem q_165 : (Cond.fieldLink "ActChains$Cells" (18 : Nat) "ActChains$Cells" "ys" "[I") ∈ wA := wA_of 165 rfl rfl
set_option maxRecDepth 20000 in
theorem q_166 : (Cond.fieldLink "ActChains$Cells" (21 : Nat) "ActChains$Cells" "times" "[J") ∈ wA := wA_of 166 rfl rfl
set_option maxRecDepth 20000 in
theorem q_167 : (Cond.fieldLink "ActChains$Cells" (25 : Nat) "ActChains$Cells" "count" "I") ∈ wA := wA_of 167 rfl rfl
set_option maxRecDepth 20000 in
theorem q_168 : (Cond.fieldLink "ActChains" (204 : Nat) "ActChains$Cells" "count" "I") ∈ wA := wA_of 168 rfl rfl
set_option maxRecDepth 20000 in
theorem q_180 : (Cond.fieldLink "ActChains" (18 : Nat) "ActChains" "acts" "I") ∈ wA := wA_of 180 rfl rfl
set_option maxRecDepth 20000 in
theorem q_181 : (Cond.fieldLink "ActChains" (25 : Nat) "ActChains" "tracks" "LActChains$Tracks;") ∈ wA := wA_of 181 rfl rfl
set_option maxRecDepth 20000 in
theorem q_182 : (Cond.fieldLink "ActChains" (34 : Nat) "ActChains" "costs" "LActChains$Table;") ∈ wA := wA_of 182 rfl rfl
set_option maxRecDepth 20000 in
theorem q_183 : (Cond.fieldLink "ActChains" (38 : Nat) "ActChains" "fitted" "LActChains$Table;") ∈ wA := wA_of 183 rfl rfl
set_option maxRecDepth 20000 in
theorem q_184 : (Cond.fieldLink "ActChains" (41 : Nat) "ActChains" "counts" "LActChains$Table;") ∈ wA := wA_of 184 rfl rfl
set_option maxRecDepth 20000 in
theorem q_185 : (Cond.fieldLink "ActChains" (47 : Nat) "ActChains" "finder" "LActChains$LineFinder;") ∈ wA := wA_of 185 rfl rfl
set_option maxRecDepth 20000 in
theorem q_186 : (Cond.fieldLink "ActChains" (54 : Nat) "ActChains" "latest" "LActChains$LatestRun;") ∈ wA := wA_of 186 rfl rfl
set_option maxRecDepth 20000 in
theorem q_187 : (Cond.fieldLink "ActChains" (61 : Nat) "ActChains" "pages" "LActChains$Pages;") ∈ wA := wA_of 187 rfl rfl
set_option maxRecDepth 20000 in
theorem q_188 : (Cond.fieldLink "ActChains" (68 : Nat) "ActChains" "cells" "LActChains$Cells;") ∈ wA := wA_of 188 rfl rfl
set_option maxRecDepth 20000 in
theorem q_189 : (Cond.fieldLink "ActChains" (72 : Nat) "ActChains" "sums" "[J") ∈ wA := wA_of 189 rfl rfl
set_option maxRecDepth 20000 in
theorem q_190 : (Cond.fieldLink "ActChains" (76 : Nat) "ActChains" "keptRounds" "I") ∈ wA := wA_of 190 rfl rfl
set_option maxRecDepth 20000 in
theorem q_191 : (Cond.fieldLink "ActChains" (79 : Nat) "ActChains" "shipNow" "I") ∈ wA := wA_of 191 rfl rfl
set_option maxRecDepth 20000 in
theorem q_192 : (Cond.fieldLink "ActChains" (82 : Nat) "ActChains" "marginNow" "I") ∈ wA := wA_of 192 rfl rfl
set_option maxRecDepth 20000 in
theorem q_220 : (Cond.methodLink "ActChainsLaw" (21 : Nat) ({ cls := "ActChains", name := "move", desc := "(III)Z" } : Jvm.MethodName)) ∈ wA := wA_of 220 rfl rfl
set_option maxRecDepth 20000 in
theorem q_221 : (Cond.instanceMethod ({ cls := "ActChains", name := "move", desc := "(III)Z" } : Jvm.MethodName)) ∈ wA := wA_of 221 rfl rfl
set_option maxRecDepth 20000 in
theorem q_222 : (Cond.selects "ActChains" ({ cls := "ActChains", name := "move", desc := "(III)Z" } : Jvm.MethodName) ({ cls := "ActChains", name := "move", desc := "(III)Z" } : Jvm.MethodName)) ∈ wA := wA_of 222 rfl rfl
set_option maxRecDepth 20000 in
theorem q_223 : (Cond.code ({ cls := "ActChains", name := "move", desc := "(III)Z" } : Jvm.MethodName) prog_1_method_2_code (4 : Nat) (Option.some Jvm.ClassFile.FieldType.boolean)) ∈ wA := wA_of 223 rfl rfl
set_option maxRecDepth 20000 in
theorem q_224 : (Cond.methodLink "ActChains" (85 : Nat) ({ cls := "ActChains", name := "isAct", desc := "(I)Z" } : Jvm.MethodName)) ∈ wA := wA_of 224 rfl rfl
set_option maxRecDepth 20000 in
theorem q_226 : (Cond.instanceMethod ({ cls := "ActChains", name := "isAct", desc := "(I)Z" } : Jvm.MethodName)) ∈ wA := wA_of 226 rfl rfl
set_option maxRecDepth 20000 in
theorem q_227 : (Cond.code ({ cls := "ActChains", name := "isAct", desc := "(I)Z" } : Jvm.MethodName) prog_1_method_25_code (2 : Nat) (Option.some Jvm.ClassFile.FieldType.boolean)) ∈ wA := wA_of 227 rfl rfl
set_option maxRecDepth 20000 in
theorem q_228 : (Cond.methodLink "ActChains" (96 : Nat) ({ cls := "ActChains", name := "isBelow", desc := "(II)Z" } : Jvm.MethodName)) ∈ wA := wA_of 228 rfl rfl
set_option maxRecDepth 20000 in
theorem q_229 : (Cond.static ({ cls := "ActChains", name := "isBelow", desc := "(II)Z" } : Jvm.MethodName)) ∈ wA := wA_of 229 rfl rfl
set_option maxRecDepth 20000 in
theorem q_230 : (Cond.code ({ cls := "ActChains", name := "isBelow", desc := "(II)Z" } : Jvm.MethodName) prog_1_method_28_code (2 : Nat) (Option.some Jvm.ClassFile.FieldType.boolean)) ∈ wA := wA_of 230 rfl rfl
set_option maxRecDepth 20000 in
theorem q_231 : (Cond.methodLink "ActChains" (89 : Nat) ({ cls := "ActChains", name := "isCost", desc := "(I)Z" } : Jvm.MethodName)) ∈ wA := wA_of 231 rfl rfl
set_option maxRecDepth 20000 in
theorem q_232 : (Cond.static ({ cls := "ActChains", name := "isCost", desc := "(I)Z" } : Jvm.MethodName)) ∈ wA := wA_of 232 rfl rfl
set_option maxRecDepth 20000 in
theorem q_233 : (Cond.code ({ cls := "ActChains", name := "isCost", desc := "(I)Z" } : Jvm.MethodName) prog_1_method_26_code (1 : Nat) (Option.some Jvm.ClassFile.FieldType.boolean)) ∈ wA := wA_of 233 rfl rfl
set_option maxRecDepth 20000 in
theorem q_234 : (Cond.methodLink "ActChainsLaw" (26 : Nat) ({ cls := "ActChains", name := "speed", desc := "(III)Z" } : Jvm.MethodName)) ∈ wA := wA_of 234 rfl rfl
set_option maxRecDepth 20000 in
theorem q_235 : (Cond.instanceMethod ({ cls := "ActChains", name := "speed", desc := "(III)Z" } : Jvm.MethodName)) ∈ wA := wA_of 235 rfl rfl
set_option maxRecDepth 20000 in
theorem q_236 : (Cond.selects "ActChains" ({ cls := "ActChains", name := "speed", desc := "(III)Z" } : Jvm.MethodName) ({ cls := "ActChains", name := "speed", desc := "(III)Z" } : Jvm.MethodName)) ∈ wA := wA_of 236 rfl rfl
set_option maxRecDepth 20000 in
theorem q_237 : (Cond.code ({ cls := "ActChains", name := "speed", desc := "(III)Z" } : Jvm.MethodName) prog_1_method_3_code (4 : Nat) (Option.some Jvm.ClassFile.FieldType.boolean)) ∈ wA := wA_of 237 rfl rfl
set_option maxRecDepth 20000 in
theorem q_238 : (Cond.methodLink "ActChainsLaw" (32 : Nat) ({ cls := "ActChains", name := "row", desc := "(JII)Z" } : Jvm.MethodName)) ∈ wA := wA_of 238 rfl rfl
set_option maxRecDepth 20000 in
theorem q_239 : (Cond.instanceMethod ({ cls := "ActChains", name := "row", desc := "(JII)Z" } : Jvm.MethodName)) ∈ wA := wA_of 239 rfl rfl
set_option maxRecDepth 20000 in
theorem q_240 : (Cond.selects "ActChains" ({ cls := "ActChains", name := "row", desc := "(JII)Z" } : Jvm.MethodName) ({ cls := "ActChains", name := "row", desc := "(JII)Z" } : Jvm.MethodName)) ∈ wA := wA_of 240 rfl rfl
set_option maxRecDepth 20000 in
theorem q_241 : (Cond.code ({ cls := "ActChains", name := "row", desc := "(JII)Z" } : Jvm.MethodName) prog_1_method_4_code (5 : Nat) (Option.some Jvm.ClassFile.FieldType.boolean)) ∈ wA := wA_of 241 rfl rfl
set_option maxRecDepth 20000 in
theorem q_242 : (Cond.methodLink "ActChains" (103 : Nat) ({ cls := "ActChains$Tracks", name := "canFollow", desc := "(J)Z" } : Jvm.MethodName)) ∈ wA := wA_of 242 rfl rfl
set_option maxRecDepth 20000 in
theorem q_243 : (Cond.instanceMethod ({ cls := "ActChains$Tracks", name := "canFollow", desc := "(J)Z" } : Jvm.MethodName)) ∈ wA := wA_of 243 rfl rfl
set_option maxRecDepth 20000 in
theorem q_244 : (Cond.selects "ActChains$Tracks" ({ cls := "ActChains$Tracks", name := "canFollow", desc := "(J)Z" } : Jvm.MethodName) ({ cls := "ActChains$Tracks", name := "canFollow", desc := "(J)Z" } : Jvm.MethodName)) ∈ wA := wA_of 244 rfl rfl
set_option maxRecDepth 20000 in
theorem q_245 : (Cond.code ({ cls := "ActChains$Tracks", name := "canFollow", desc := "(J)Z" } : Jvm.MethodName) prog_7_method_2_code (3 : Nat) (Option.some Jvm.ClassFile.FieldType.boolean)) ∈ wA := wA_of 245 rfl rfl
set_option maxRecDepth 20000 in
theorem q_246 : (Cond.methodLink "ActChains" (107 : Nat) ({ cls := "ActChains$Tracks", name := "add", desc := "(JIII)V" } : Jvm.MethodName)) ∈ wA := wA_of 246 rfl rfl
set_option maxRecDepth 20000 in
theorem q_247 : (Cond.instanceMethod ({ cls := "ActChains$Tracks", name := "add", desc := "(JIII)V" } : Jvm.MethodName)) ∈ wA := wA_of 247 rfl rfl
set_option maxRecDepth 20000 in
theorem q_248 : (Cond.selects "ActChains$Tracks" ({ cls := "ActChains$Tracks", name := "add", desc := "(JIII)V" } : Jvm.MethodName) ({ cls := "ActChains$Tracks", name := "add", desc := "(JIII)V" } : Jvm.MethodName)) ∈ wA := wA_of 248 rfl rfl
set_option maxRecDepth 20000 in
theorem q_249 : (Cond.code ({ cls := "ActChains$Tracks", name := "add", desc := "(JIII)V" } : Jvm.MethodName) prog_7_method_3_code (6 : Nat) (Option.none : Option Jvm.ClassFile.FieldType)) ∈ wA := wA_of 249 rfl rfl
set_option maxRecDepth 20000 in
theorem q_250 : (Cond.methodLink "ActChainsLaw" (37 : Nat) ({ cls := "ActChains", name := "run", desc := "()I" } : Jvm.MethodName)) ∈ wA := wA_of 250 rfl rfl
set_option maxRecDepth 20000 in
theorem q_251 : (Cond.instanceMethod ({ cls := "ActChains", name := "run", desc := "()I" } : Jvm.MethodName)) ∈ wA := wA_of 251 rfl rfl
set_option maxRecDepth 20000 in
theorem q_252 : (Cond.selects "ActChains" ({ cls := "ActChains", name := "run", desc := "()I" } : Jvm.MethodName) ({ cls := "ActChains", name := "run", desc := "()I" } : Jvm.MethodName)) ∈ wA := wA_of 252 rfl rfl
set_option maxRecDepth 20000 in
theorem q_253 : (Cond.code ({ cls := "ActChains", name := "run", desc := "()I" } : Jvm.MethodName) prog_1_method_5_code (1 : Nat) (Option.some Jvm.ClassFile.FieldType.int)) ∈ wA := wA_of 253 rfl rfl
set_option maxRecDepth 20000 in
theorem q_254 : (Cond.methodLink "ActChains" (114 : Nat) ({ cls := "ActChains$LineFinder", name := "find", desc := "(LActChains$Tracks;LActChains$Table;I)V" } : Jvm.MethodName)) ∈ wA := wA_of 254 rfl rfl
set_option maxRecDepth 20000 in
theorem q_255 : (Cond.instanceMethod ({ cls := "ActChains$LineFinder", name := "find", desc := "(LActChains$Tracks;LActChains$Table;I)V" } : Jvm.MethodName)) ∈ wA := wA_of 255 rfl rfl
set_option maxRecDepth 20000 in
theorem q_256 : (Cond.selects "ActChains$LineFinder" ({ cls := "ActChains$LineFinder", name := "find", desc := "(LActChains$Tracks;LActChains$Table;I)V" } : Jvm.MethodName) ({ cls := "ActChains$LineFinder", name := "find", desc := "(LActChains$Tracks;LActChains$Table;I)V" } : Jvm.MethodName)) ∈ wA := wA_of 256 rfl rfl
set_option maxRecDepth 20000 in
theorem q_257 : (Cond.code ({ cls := "ActChains$LineFinder", name := "find", desc := "(LActChains$Tracks;LActChains$Table;I)V" } : Jvm.MethodName) prog_4_method_2_code (5 : Nat) (Option.none : Option Jvm.ClassFile.FieldType)) ∈ wA := wA_of 257 rfl rfl
set_option maxRecDepth 20000 in
theorem q_258 : (Cond.methodLink "ActChains$LineFinder" (41 : Nat) ({ cls := "ActChains$LineFinder", name := "fillToGo", desc := "(LActChains$Tracks;LActChains$Table;II)V" } : Jvm.MethodName)) ∈ wA := wA_of 258 rfl rfl
set_option maxRecDepth 20000 in
theorem q_260 : (Cond.instanceMethod ({ cls := "ActChains$LineFinder", name := "fillToGo", desc := "(LActChains$Tracks;LActChains$Table;II)V" } : Jvm.MethodName)) ∈ wA := wA_of 260 rfl rfl
set_option maxRecDepth 20000 in
theorem q_261 : (Cond.code ({ cls := "ActChains$LineFinder", name := "fillToGo", desc := "(LActChains$Tracks;LActChains$Table;II)V" } : Jvm.MethodName) prog_4_method_4_code (9 : Nat) (Option.none : Option Jvm.ClassFile.FieldType)) ∈ wA := wA_of 261 rfl rfl
set_option maxRecDepth 20000 in
theorem q_262 : (Cond.methodLink "ActChains$LineFinder" (74 : Nat) ({ cls := "ActChains$Tracks", name := "allows", desc := "(III)Z" } : Jvm.MethodName)) ∈ wA := wA_of 262 rfl rfl
set_option maxRecDepth 20000 in
theorem q_263 : (Cond.instanceMethod ({ cls := "ActChains$Tracks", name := "allows", desc := "(III)Z" } : Jvm.MethodName)) ∈ wA := wA_of 263 rfl rfl
set_option maxRecDepth 20000 in
theorem q_264 : (Cond.selects "ActChains$Tracks" ({ cls := "ActChains$Tracks", name := "allows", desc := "(III)Z" } : Jvm.MethodName) ({ cls := "ActChains$Tracks", name := "allows", desc := "(III)Z" } : Jvm.MethodName)) ∈ wA := wA_of 264 rfl rfl
set_option maxRecDepth 20000 in
theorem q_265 : (Cond.code ({ cls := "ActChains$Tracks", name := "allows", desc := "(III)Z" } : Jvm.MethodName) prog_7_method_4_code (4 : Nat) (Option.some Jvm.ClassFile.FieldType.boolean)) ∈ wA := wA_of 265 rfl rfl
set_option maxRecDepth 20000 in
theorem q_266 : (Cond.constant "ActChains$LineFinder" (78 : Nat) (1000000000 : Int32)) ∈ wA := wA_of 266 rfl rfl
set_option maxRecDepth 20000 in
theorem q_267 : (Cond.methodLink "ActChains$LineFinder" (45 : Nat) ({ cls := "ActChains$LineFinder", name := "cheapest", desc := "([I[I)I" } : Jvm.MethodName)) ∈ wA := wA_of 267 rfl rfl
set_option maxRecDepth 20000 in
theorem q_269 : (Cond.instanceMethod ({ cls := "ActChains$LineFinder", name := "cheapest", desc := "([I[I)I" } : Jvm.MethodName)) ∈ wA := wA_of 269 rfl rfl
set_option maxRecDepth 20000 in
theorem q_270 : (Cond.code ({ cls := "ActChains$LineFinder", name := "cheapest", desc := "([I[I)I" } : Jvm.MethodName) prog_4_method_5_code (7 : Nat) (Option.some Jvm.ClassFile.FieldType.int)) ∈ wA := wA_of 270 rfl rfl
set_option maxRecDepth 20000 in
theorem q_271 : (Cond.methodLink "ActChains" (118 : Nat) ({ cls := "ActChains$LatestRun", name := "takeOver", desc := "(LActChains$Tracks;LActChains$Table;LActChains$LineFinder;)V" } : Jvm.MethodName)) ∈ wA := wA_of 271 rfl rfl
set_option maxRecDepth 20000 in
theorem q_272 : (Cond.instanceMethod ({ cls := "ActChains$LatestRun", name := "takeOver", desc := "(LActChains$Tracks;LActChains$Table;LActChains$LineFinder;)V" } : Jvm.MethodName)) ∈ wA := wA_of 272 rfl rfl
set_option maxRecDepth 20000 in
theorem q_273 : (Cond.selects "ActChains$LatestRun" ({ cls := "ActChains$LatestRun", name := "takeOver", desc := "(LActChains$Tracks;LActChains$Table;LActChains$LineFinder;)V" } : Jvm.MethodName) ({ cls := "ActChains$LatestRun", name := "takeOver", desc := "(LActChains$Tracks;LActChains$Table;LActChains$LineFinder;)V" } : Jvm.MethodName)) ∈ wA := wA_of 273 rfl rfl
set_option maxRecDepth 20000 in
theorem q_274 : (Cond.code ({ cls := "ActChains$LatestRun", name := "takeOver", desc := "(LActChains$Tracks;LActChains$Table;LActChains$LineFinder;)V" } : Jvm.MethodName) prog_3_method_2_code (4 : Nat) (Option.none : Option Jvm.ClassFile.FieldType)) ∈ wA := wA_of 274 rfl rfl
set_option maxRecDepth 20000 in
theorem q_275 : (Cond.methodLink "ActChains$LatestRun" (32 : Nat) ({ cls := "java/lang/System", name := "arraycopy", desc := "(Ljava/lang/Object;ILjava/lang/Object;II)V" } : Jvm.MethodName)) ∈ wA := wA_of 275 rfl rfl
set_option maxRecDepth 20000 in
theorem q_276 : (Cond.static ({ cls := "java/lang/System", name := "arraycopy", desc := "(Ljava/lang/Object;ILjava/lang/Object;II)V" } : Jvm.MethodName)) ∈ wA := wA_of 276 rfl rfl
set_option maxRecDepth 20000 in
theorem q_277 : (Cond.native ({ cls := "java/lang/System", name := "arraycopy", desc := "(Ljava/lang/Object;ILjava/lang/Object;II)V" } : Jvm.MethodName)) ∈ wA := wA_of 277 rfl rfl
set_option maxRecDepth 20000 in
theorem q_278 : (Cond.methodLink "ActChains$LatestRun" (38 : Nat) ({ cls := "ActChains$LineFinder", name := "fillNextCosts", desc := "(LActChains$Tracks;LActChains$Table;[I)V" } : Jvm.MethodName)) ∈ wA := wA_of 278 rfl rfl
set_option maxRecDepth 20000 in
theorem q_279 : (Cond.instanceMethod ({ cls := "ActChains$LineFinder", name := "fillNextCosts", desc := "(LActChains$Tracks;LActChains$Table;[I)V" } : Jvm.MethodName)) ∈ wA := wA_of 279 rfl rfl
set_option maxRecDepth 20000 in
theorem q_280 : (Cond.selects "ActChains$LineFinder" ({ cls := "ActChains$LineFinder", name := "fillNextCosts", desc := "(LActChains$Tracks;LActChains$Table;[I)V" } : Jvm.MethodName) ({ cls := "ActChains$LineFinder", name := "fillNextCosts", desc := "(LActChains$Tracks;LActChains$Table;[I)V" } : Jvm.MethodName)) ∈ wA := wA_of 280 rfl rfl
set_option maxRecDepth 20000 in
theorem q_281 : (Cond.code ({ cls := "ActChains$LineFinder", name := "fillNextCosts", desc := "(LActChains$Tracks;LActChains$Table;[I)V" } : Jvm.MethodName) prog_4_method_3_code (6 : Nat) (Option.none : Option Jvm.ClassFile.FieldType)) ∈ wA := wA_of 281 rfl rfl
set_option maxRecDepth 20000 in
theorem q_282 : (Cond.methodLink "ActChains$LineFinder" (54 : Nat) ({ cls := "java/util/Arrays", name := "fill", desc := "([II)V" } : Jvm.MethodName)) ∈ wA := wA_of 282 rfl rfl
set_option maxRecDepth 20000 in
theorem q_283 : (Cond.static ({ cls := "java/util/Arrays", name := "fill", desc := "([II)V" } : Jvm.MethodName)) ∈ wA := wA_of 283 rfl rfl
set_option maxRecDepth 20000 in
theorem q_284 : (Cond.code ({ cls := "java/util/Arrays", name := "fill", desc := "([II)V" } : Jvm.MethodName) prog_12_method_103_code (4 : Nat) (Option.none : Option Jvm.ClassFile.FieldType)) ∈ wA := wA_of 284 rfl rfl
set_option maxRecDepth 20000 in
theorem q_285 : (Cond.methodLink "ActChains$LineFinder" (63 : Nat) ({ cls := "ActChains$LineFinder", name := "leastOther", desc := "(I[I)I" } : Jvm.MethodName)) ∈ wA := wA_of 285 rfl rfl
set_option maxRecDepth 20000 in
theorem q_287 : (Cond.instanceMethod ({ cls := "ActChains$LineFinder", name := "leastOther", desc := "(I[I)I" } : Jvm.MethodName)) ∈ wA := wA_of 287 rfl rfl
set_option maxRecDepth 20000 in
theorem q_288 : (Cond.code ({ cls := "ActChains$LineFinder", name := "leastOther", desc := "(I[I)I" } : Jvm.MethodName) prog_4_method_6_code (5 : Nat) (Option.some Jvm.ClassFile.FieldType.int)) ∈ wA := wA_of 288 rfl rfl
set_option maxRecDepth 20000 in
theorem q_289 : (Cond.methodLink "ActChains$LineFinder" (82 : Nat) ({ cls := "java/lang/Math", name := "min", desc := "(II)I" } : Jvm.MethodName)) ∈ wA := wA_of 289 rfl rfl
set_option maxRecDepth 20000 in
theorem q_290 : (Cond.methodLink "ActChains$LineFinder" (67 : Nat) ({ cls := "ActChains$LineFinder", name := "stepBefore", desc := "(LActChains$Tracks;LActChains$Table;I)V" } : Jvm.MethodName)) ∈ wA := wA_of 290 rfl rfl
set_option maxRecDepth 20000 in
theorem q_292 : (Cond.instanceMethod ({ cls := "ActChains$LineFinder", name := "stepBefore", desc := "(LActChains$Tracks;LActChains$Table;I)V" } : Jvm.MethodName)) ∈ wA := wA_of 292 rfl rfl
set_option maxRecDepth 20000 in
theorem q_293 : (Cond.code ({ cls := "ActChains$LineFinder", name := "stepBefore", desc := "(LActChains$Tracks;LActChains$Table;I)V" } : Jvm.MethodName) prog_4_method_7_code (8 : Nat) (Option.none : Option Jvm.ClassFile.FieldType)) ∈ wA := wA_of 293 rfl rfl
set_option maxRecDepth 20000 in
theorem q_294 : (Cond.methodLink "ActChainsLaw" (42 : Nat) ({ cls := "ActChains", name := "act", desc := "(I)I" } : Jvm.MethodName)) ∈ wA := wA_of 294 rfl rfl
set_option maxRecDepth 20000 in
theorem q_295 : (Cond.instanceMethod ({ cls := "ActChains", name := "act", desc := "(I)I" } : Jvm.MethodName)) ∈ wA := wA_of 295 rfl rfl
set_option maxRecDepth 20000 in
theorem q_296 : (Cond.selects "ActChains" ({ cls := "ActChains", name := "act", desc := "(I)I" } : Jvm.MethodName) ({ cls := "ActChains", name := "act", desc := "(I)I" } : Jvm.MethodName)) ∈ wA := wA_of 296 rfl rfl
set_option maxRecDepth 20000 in
theorem q_297 : (Cond.code ({ cls := "ActChains", name := "act", desc := "(I)I" } : Jvm.MethodName) prog_1_method_6_code (2 : Nat) (Option.some Jvm.ClassFile.FieldType.int)) ∈ wA := wA_of 297 rfl rfl
set_option maxRecDepth 20000 in
theorem q_298 : (Cond.methodLink "ActChains" (125 : Nat) ({ cls := "ActChains$LatestRun", name := "has", desc := "(I)Z" } : Jvm.MethodName)) ∈ wA := wA_of 298 rfl rfl
set_option maxRecDepth 20000 in
theorem q_299 : (Cond.instanceMethod ({ cls := "ActChains$LatestRun", name := "has", desc := "(I)Z" } : Jvm.MethodName)) ∈ wA := wA_of 299 rfl rfl
set_option maxRecDepth 20000 in
theorem q_300 : (Cond.selects "ActChains$LatestRun" ({ cls := "ActChains$LatestRun", name := "has", desc := "(I)Z" } : Jvm.MethodName) ({ cls := "ActChains$LatestRun", name := "has", desc := "(I)Z" } : Jvm.MethodName)) ∈ wA := wA_of 300 rfl rfl
set_option maxRecDepth 20000 in
theorem q_301 : (Cond.code ({ cls := "ActChains$LatestRun", name := "has", desc := "(I)Z" } : Jvm.MethodName) prog_3_method_4_code (2 : Nat) (Option.some Jvm.ClassFile.FieldType.boolean)) ∈ wA := wA_of 301 rfl rfl
set_option maxRecDepth 20000 in
theorem q_303 : (Cond.methodLink "ActChainsLaw" (47 : Nat) ({ cls := "ActChains", name := "greatest", desc := "()Z" } : Jvm.MethodName)) ∈ wA := wA_of 303 rfl rfl
set_option maxRecDepth 20000 in
theorem q_304 : (Cond.instanceMethod ({ cls := "ActChains", name := "greatest", desc := "()Z" } : Jvm.MethodName)) ∈ wA := wA_of 304 rfl rfl
set_option maxRecDepth 20000 in
theorem q_305 : (Cond.selects "ActChains" ({ cls := "ActChains", name := "greatest", desc := "()Z" } : Jvm.MethodName) ({ cls := "ActChains", name := "greatest", desc := "()Z" } : Jvm.MethodName)) ∈ wA := wA_of 305 rfl rfl
set_option maxRecDepth 20000 in
theorem q_306 : (Cond.code ({ cls := "ActChains", name := "greatest", desc := "()Z" } : Jvm.MethodName) prog_1_method_7_code (1 : Nat) (Option.some Jvm.ClassFile.FieldType.boolean)) ∈ wA := wA_of 306 rfl rfl
set_option maxRecDepth 20000 in
theorem q_307 : (Cond.methodLink "ActChains" (132 : Nat) ({ cls := "ActChains$LatestRun", name := "exists", desc := "()Z" } : Jvm.MethodName)) ∈ wA := wA_of 307 rfl rfl
set_option maxRecDepth 20000 in
theorem q_308 : (Cond.instanceMethod ({ cls := "ActChains$LatestRun", name := "exists", desc := "()Z" } : Jvm.MethodName)) ∈ wA := wA_of 308 rfl rfl
set_option maxRecDepth 20000 in
theorem q_309 : (Cond.selects "ActChains$LatestRun" ({ cls := "ActChains$LatestRun", name := "exists", desc := "()Z" } : Jvm.MethodName) ({ cls := "ActChains$LatestRun", name := "exists", desc := "()Z" } : Jvm.MethodName)) ∈ wA := wA_of 309 rfl rfl
set_option maxRecDepth 20000 in
theorem q_310 : (Cond.code ({ cls := "ActChains$LatestRun", name := "exists", desc := "()Z" } : Jvm.MethodName) prog_3_method_3_code (1 : Nat) (Option.some Jvm.ClassFile.FieldType.boolean)) ∈ wA := wA_of 310 rfl rfl
set_option maxRecDepth 20000 in
theorem q_311 : (Cond.methodLink "ActChainsLaw" (52 : Nat) ({ cls := "ActChains", name := "truth", desc := "(II)Z" } : Jvm.MethodName)) ∈ wA := wA_of 311 rfl rfl
set_option maxRecDepth 20000 in
theorem q_312 : (Cond.instanceMethod ({ cls := "ActChains", name := "truth", desc := "(II)Z" } : Jvm.MethodName)) ∈ wA := wA_of 312 rfl rfl
set_option maxRecDepth 20000 in
theorem q_313 : (Cond.selects "ActChains" ({ cls := "ActChains", name := "truth", desc := "(II)Z" } : Jvm.MethodName) ({ cls := "ActChains", name := "truth", desc := "(II)Z" } : Jvm.MethodName)) ∈ wA := wA_of 313 rfl rfl
set_option maxRecDepth 20000 in
theorem q_314 : (Cond.code ({ cls := "ActChains", name := "truth", desc := "(II)Z" } : Jvm.MethodName) prog_1_method_8_code (3 : Nat) (Option.some Jvm.ClassFile.FieldType.boolean)) ∈ wA := wA_of 314 rfl rfl
set_option maxRecDepth 20000 in
theorem q_315 : (Cond.methodLink "ActChainsLaw" (57 : Nat) ({ cls := "ActChains", name := "fit", desc := "(I)I" } : Jvm.MethodName)) ∈ wA := wA_of 315 rfl rfl
set_option maxRecDepth 20000 in
theorem q_316 : (Cond.instanceMethod ({ cls := "ActChains", name := "fit", desc := "(I)I" } : Jvm.MethodName)) ∈ wA := wA_of 316 rfl rfl
set_option maxRecDepth 20000 in
theorem q_317 : (Cond.selects "ActChains" ({ cls := "ActChains", name := "fit", desc := "(I)I" } : Jvm.MethodName) ({ cls := "ActChains", name := "fit", desc := "(I)I" } : Jvm.MethodName)) ∈ wA := wA_of 317 rfl rfl
set_option maxRecDepth 20000 in
theorem q_318 : (Cond.code ({ cls := "ActChains", name := "fit", desc := "(I)I" } : Jvm.MethodName) prog_1_method_9_code (3 : Nat) (Option.some Jvm.ClassFile.FieldType.int)) ∈ wA := wA_of 318 rfl rfl
set_option maxRecDepth 20000 in
theorem q_319 : (Cond.methodLink "ActChains" (139 : Nat) ({ cls := "ActChains", name := "run", desc := "()I" } : Jvm.MethodName)) ∈ wA := wA_of 319 rfl rfl
set_option maxRecDepth 20000 in
theorem q_320 : (Cond.methodLink "ActChains" (143 : Nat) ({ cls := "ActChains", name := "isRoundKept", desc := "()Z" } : Jvm.MethodName)) ∈ wA := wA_of 320 rfl rfl
set_option maxRecDepth 20000 in
theorem q_322 : (Cond.instanceMethod ({ cls := "ActChains", name := "isRoundKept", desc := "()Z" } : Jvm.MethodName)) ∈ wA := wA_of 322 rfl rfl
set_option maxRecDepth 20000 in
theorem q_323 : (Cond.code ({ cls := "ActChains", name := "isRoundKept", desc := "()Z" } : Jvm.MethodName) prog_1_method_29_code (1 : Nat) (Option.some Jvm.ClassFile.FieldType.boolean)) ∈ wA := wA_of 323 rfl rfl
set_option maxRecDepth 20000 in
theorem q_324 : (Cond.methodLink "ActChains" (218 : Nat) ({ cls := "ActChains$Table", name := "countLine", desc := "(LActChains$Tracks;[I)V" } : Jvm.MethodName)) ∈ wA := wA_of 324 rfl rfl
set_option maxRecDepth 20000 in
theorem q_325 : (Cond.instanceMethod ({ cls := "ActChains$Table", name := "countLine", desc := "(LActChains$Tracks;[I)V" } : Jvm.MethodName)) ∈ wA := wA_of 325 rfl rfl
set_option maxRecDepth 20000 in
theorem q_326 : (Cond.selects "ActChains$Table" ({ cls := "ActChains$Table", name := "countLine", desc := "(LActChains$Tracks;[I)V" } : Jvm.MethodName) ({ cls := "ActChains$Table", name := "countLine", desc := "(LActChains$Tracks;[I)V" } : Jvm.MethodName)) ∈ wA := wA_of 326 rfl rfl
set_option maxRecDepth 20000 in
theorem q_327 : (Cond.code ({ cls := "ActChains$Table", name := "countLine", desc := "(LActChains$Tracks;[I)V" } : Jvm.MethodName) prog_6_method_3_code (4 : Nat) (Option.none : Option Jvm.ClassFile.FieldType)) ∈ wA := wA_of 327 rfl rfl
set_option maxRecDepth 20000 in
theorem q_328 : (Cond.methodLink "ActChains$Table" (25 : Nat) ({ cls := "ActChains$Table", name := "clear", desc := "()V" } : Jvm.MethodName)) ∈ wA := wA_of 328 rfl rfl
set_option maxRecDepth 20000 in
theorem q_330 : (Cond.instanceMethod ({ cls := "ActChains$Table", name := "clear", desc := "()V" } : Jvm.MethodName)) ∈ wA := wA_of 330 rfl rfl
set_option maxRecDepth 20000 in
theorem q_331 : (Cond.code ({ cls := "ActChains$Table", name := "clear", desc := "()V" } : Jvm.MethodName) prog_6_method_5_code (2 : Nat) (Option.none : Option Jvm.ClassFile.FieldType)) ∈ wA := wA_of 331 rfl rfl
set_option maxRecDepth 20000 in
theorem q_332 : (Cond.methodLink "ActChains$Table" (42 : Nat) ({ cls := "java/util/Arrays", name := "fill", desc := "([II)V" } : Jvm.MethodName)) ∈ wA := wA_of 332 rfl rfl
set_option maxRecDepth 20000 in
theorem q_333 : (Cond.methodLink "ActChains" (222 : Nat) ({ cls := "ActChains$Table", name := "copyFrom", desc := "(LActChains$Table;)V" } : Jvm.MethodName)) ∈ wA := wA_of 333 rfl rfl
set_option maxRecDepth 20000 in
theorem q_334 : (Cond.instanceMethod ({ cls := "ActChains$Table", name := "copyFrom", desc := "(LActChains$Table;)V" } : Jvm.MethodName)) ∈ wA := wA_of 334 rfl rfl
set_option maxRecDepth 20000 in
theorem q_335 : (Cond.selects "ActChains$Table" ({ cls := "ActChains$Table", name := "copyFrom", desc := "(LActChains$Table;)V" } : Jvm.MethodName) ({ cls := "ActChains$Table", name := "copyFrom", desc := "(LActChains$Table;)V" } : Jvm.MethodName)) ∈ wA := wA_of 335 rfl rfl
set_option maxRecDepth 20000 in
theorem q_336 : (Cond.code ({ cls := "ActChains$Table", name := "copyFrom", desc := "(LActChains$Table;)V" } : Jvm.MethodName) prog_6_method_2_code (3 : Nat) (Option.none : Option Jvm.ClassFile.FieldType)) ∈ wA := wA_of 336 rfl rfl
set_option maxRecDepth 20000 in
theorem q_337 : (Cond.methodLink "ActChains$Table" (19 : Nat) ({ cls := "java/lang/System", name := "arraycopy", desc := "(Ljava/lang/Object;ILjava/lang/Object;II)V" } : Jvm.MethodName)) ∈ wA := wA_of 337 rfl rfl
set_option maxRecDepth 20000 in
theorem q_338 : (Cond.methodLink "ActChains" (226 : Nat) ({ cls := "ActChains$Table", name := "fitTo", desc := "(LActChains$Table;)V" } : Jvm.MethodName)) ∈ wA := wA_of 338 rfl rfl
set_option maxRecDepth 20000 in
theorem q_339 : (Cond.instanceMethod ({ cls := "ActChains$Table", name := "fitTo", desc := "(LActChains$Table;)V" } : Jvm.MethodName)) ∈ wA := wA_of 339 rfl rfl
set_option maxRecDepth 20000 in
theorem q_340 : (Cond.selects "ActChains$Table" ({ cls := "ActChains$Table", name := "fitTo", desc := "(LActChains$Table;)V" } : Jvm.MethodName) ({ cls := "ActChains$Table", name := "fitTo", desc := "(LActChains$Table;)V" } : Jvm.MethodName)) ∈ wA := wA_of 340 rfl rfl
set_option maxRecDepth 20000 in
theorem q_341 : (Cond.code ({ cls := "ActChains$Table", name := "fitTo", desc := "(LActChains$Table;)V" } : Jvm.MethodName) prog_6_method_4_code (3 : Nat) (Option.none : Option Jvm.ClassFile.FieldType)) ∈ wA := wA_of 341 rfl rfl
set_option maxRecDepth 20000 in
theorem q_342 : (Cond.methodLink "ActChains$Table" (38 : Nat) ({ cls := "ActChains$Table", name := "fitShares", desc := "([I[I)V" } : Jvm.MethodName)) ∈ wA := wA_of 342 rfl rfl
set_option maxRecDepth 20000 in
theorem q_343 : (Cond.static ({ cls := "ActChains$Table", name := "fitShares", desc := "([I[I)V" } : Jvm.MethodName)) ∈ wA := wA_of 343 rfl rfl
set_option maxRecDepth 20000 in
theorem q_344 : (Cond.code ({ cls := "ActChains$Table", name := "fitShares", desc := "([I[I)V" } : Jvm.MethodName) prog_6_method_6_code (4 : Nat) (Option.none : Option Jvm.ClassFile.FieldType)) ∈ wA := wA_of 344 rfl rfl
set_option maxRecDepth 20000 in
theorem q_345 : (Cond.methodLink "ActChainsLaw" (61 : Nat) ({ cls := "ActChains", name := "sum", desc := "(I)J" } : Jvm.MethodName)) ∈ wA := wA_of 345 rfl rfl
set_option maxRecDepth 20000 in
theorem q_346 : (Cond.instanceMethod ({ cls := "ActChains", name := "sum", desc := "(I)J" } : Jvm.MethodName)) ∈ wA := wA_of 346 rfl rfl
set_option maxRecDepth 20000 in
theorem q_347 : (Cond.selects "ActChains" ({ cls := "ActChains", name := "sum", desc := "(I)J" } : Jvm.MethodName) ({ cls := "ActChains", name := "sum", desc := "(I)J" } : Jvm.MethodName)) ∈ wA := wA_of 347 rfl rfl
set_option maxRecDepth 20000 in
theorem q_348 : (Cond.code ({ cls := "ActChains", name := "sum", desc := "(I)J" } : Jvm.MethodName) prog_1_method_10_code (2 : Nat) (Option.some Jvm.ClassFile.FieldType.long)) ∈ wA := wA_of 348 rfl rfl
set_option maxRecDepth 20000 in
theorem q_349 : (Cond.constantLong "ActChains" (146 : Nat) (-1 : Int64)) ∈ wA := wA_of 349 rfl rfl
set_option maxRecDepth 20000 in
theorem q_350 : (Cond.methodLink "ActChainsLaw" (66 : Nat) ({ cls := "ActChains", name := "leftOut", desc := "(I)I" } : Jvm.MethodName)) ∈ wA := wA_of 350 rfl rfl
set_option maxRecDepth 20000 in
theorem q_351 : (Cond.instanceMethod ({ cls := "ActChains", name := "leftOut", desc := "(I)I" } : Jvm.MethodName)) ∈ wA := wA_of 351 rfl rfl
set_option maxRecDepth 20000 in
theorem q_352 : (Cond.selects "ActChains" ({ cls := "ActChains", name := "leftOut", desc := "(I)I" } : Jvm.MethodName) ({ cls := "ActChains", name := "leftOut", desc := "(I)I" } : Jvm.MethodName)) ∈ wA := wA_of 352 rfl rfl
set_option maxRecDepth 20000 in
theorem q_353 : (Cond.code ({ cls := "ActChains", name := "leftOut", desc := "(I)I" } : Jvm.MethodName) prog_1_method_11_code (3 : Nat) (Option.some Jvm.ClassFile.FieldType.int)) ∈ wA := wA_of 353 rfl rfl
set_option maxRecDepth 20000 in
theorem q_354 : (Cond.methodLink "ActChains" (148 : Nat) ({ cls := "ActChains$Tracks", name := "truthsOf", desc := "(I)I" } : Jvm.MethodName)) ∈ wA := wA_of 354 rfl rfl
set_option maxRecDepth 20000 in
theorem q_355 : (Cond.instanceMethod ({ cls := "ActChains$Tracks", name := "truthsOf", desc := "(I)I" } : Jvm.MethodName)) ∈ wA := wA_of 355 rfl rfl
set_option maxRecDepth 20000 in
theorem q_356 : (Cond.selects "ActChains$Tracks" ({ cls := "ActChains$Tracks", name := "truthsOf", desc := "(I)I" } : Jvm.MethodName) ({ cls := "ActChains$Tracks", name := "truthsOf", desc := "(I)I" } : Jvm.MethodName)) ∈ wA := wA_of 356 rfl rfl
set_option maxRecDepth 20000 in
theorem q_357 : (Cond.code ({ cls := "ActChains$Tracks", name := "truthsOf", desc := "(I)I" } : Jvm.MethodName) prog_7_method_6_code (4 : Nat) (Option.some Jvm.ClassFile.FieldType.int)) ∈ wA := wA_of 357 rfl rfl
set_option maxRecDepth 20000 in
theorem q_358 : (Cond.methodLink "ActChains$Tracks" (32 : Nat) ({ cls := "ActChains$Tracks", name := "hasTruthOf", desc := "(II)Z" } : Jvm.MethodName)) ∈ wA := wA_of 358 rfl rfl
set_option maxRecDepth 20000 in
theorem q_359 : (Cond.instanceMethod ({ cls := "ActChains$Tracks", name := "hasTruthOf", desc := "(II)Z" } : Jvm.MethodName)) ∈ wA := wA_of 359 rfl rfl
set_option maxRecDepth 20000 in
theorem q_360 : (Cond.selects "ActChains$Tracks" ({ cls := "ActChains$Tracks", name := "hasTruthOf", desc := "(II)Z" } : Jvm.MethodName) ({ cls := "ActChains$Tracks", name := "hasTruthOf", desc := "(II)Z" } : Jvm.MethodName)) ∈ wA := wA_of 360 rfl rfl
set_option maxRecDepth 20000 in
theorem q_361 : (Cond.code ({ cls := "ActChains$Tracks", name := "hasTruthOf", desc := "(II)Z" } : Jvm.MethodName) prog_7_method_5_code (3 : Nat) (Option.some Jvm.ClassFile.FieldType.boolean)) ∈ wA := wA_of 361 rfl rfl
set_option maxRecDepth 20000 in
theorem q_362 : (Cond.methodLink "ActChains" (153 : Nat) ({ cls := "ActChains$Tracks", name := "truthsMissed", desc := "(I[I)I" } : Jvm.MethodName)) ∈ wA := wA_of 362 rfl rfl
set_option maxRecDepth 20000 in
theorem q_363 : (Cond.instanceMethod ({ cls := "ActChains$Tracks", name := "truthsMissed", desc := "(I[I)I" } : Jvm.MethodName)) ∈ wA := wA_of 363 rfl rfl
set_option maxRecDepth 20000 in
theorem q_364 : (Cond.selects "ActChains$Tracks" ({ cls := "ActChains$Tracks", name := "truthsMissed", desc := "(I[I)I" } : Jvm.MethodName) ({ cls := "ActChains$Tracks", name := "truthsMissed", desc := "(I[I)I" } : Jvm.MethodName)) ∈ wA := wA_of 364 rfl rfl
set_option maxRecDepth 20000 in
theorem q_365 : (Cond.code ({ cls := "ActChains$Tracks", name := "truthsMissed", desc := "(I[I)I" } : Jvm.MethodName) prog_7_method_7_code (5 : Nat) (Option.some Jvm.ClassFile.FieldType.int)) ∈ wA := wA_of 365 rfl rfl
set_option maxRecDepth 20000 in
theorem q_366 : (Cond.methodLink "ActChainsLaw" (70 : Nat) ({ cls := "ActChains", name := "hours", desc := "(I)J" } : Jvm.MethodName)) ∈ wA := wA_of 366 rfl rfl
set_option maxRecDepth 20000 in
theorem q_367 : (Cond.instanceMethod ({ cls := "ActChains", name := "hours", desc := "(I)J" } : Jvm.MethodName)) ∈ wA := wA_of 367 rfl rfl
set_option maxRecDepth 20000 in
theorem q_368 : (Cond.selects "ActChains" ({ cls := "ActChains", name := "hours", desc := "(I)J" } : Jvm.MethodName) ({ cls := "ActChains", name := "hours", desc := "(I)J" } : Jvm.MethodName)) ∈ wA := wA_of 368 rfl rfl
set_option maxRecDepth 20000 in
theorem q_369 : (Cond.code ({ cls := "ActChains", name := "hours", desc := "(I)J" } : Jvm.MethodName) prog_1_method_12_code (2 : Nat) (Option.some Jvm.ClassFile.FieldType.long)) ∈ wA := wA_of 369 rfl rfl
set_option maxRecDepth 20000 in
theorem q_370 : (Cond.methodLink "ActChains" (160 : Nat) ({ cls := "ActChains$LatestRun", name := "secondsOf", desc := "(I[J)J" } : Jvm.MethodName)) ∈ wA := wA_of 370 rfl rfl
set_option maxRecDepth 20000 in
theorem q_371 : (Cond.instanceMethod ({ cls := "ActChains$LatestRun", name := "secondsOf", desc := "(I[J)J" } : Jvm.MethodName)) ∈ wA := wA_of 371 rfl rfl
set_option maxRecDepth 20000 in
theorem q_372 : (Cond.selects "ActChains$LatestRun" ({ cls := "ActChains$LatestRun", name := "secondsOf", desc := "(I[J)J" } : Jvm.MethodName) ({ cls := "ActChains$LatestRun", name := "secondsOf", desc := "(I[J)J" } : Jvm.MethodName)) ∈ wA := wA_of 372 rfl rfl
set_option maxRecDepth 20000 in
theorem q_373 : (Cond.code ({ cls := "ActChains$LatestRun", name := "secondsOf", desc := "(I[J)J" } : Jvm.MethodName) prog_3_method_8_code (6 : Nat) (Option.some Jvm.ClassFile.FieldType.long)) ∈ wA := wA_of 373 rfl rfl
set_option maxRecDepth 20000 in
theorem q_374 : (Cond.methodLink "ActChains$LatestRun" (56 : Nat) ({ cls := "ActChains$LatestRun", name := "endOf", desc := "(I[J)J" } : Jvm.MethodName)) ∈ wA := wA_of 374 rfl rfl
set_option maxRecDepth 20000 in
theorem q_375 : (Cond.instanceMethod ({ cls := "ActChains$LatestRun", name := "endOf", desc := "(I[J)J" } : Jvm.MethodName)) ∈ wA := wA_of 375 rfl rfl
set_option maxRecDepth 20000 in
theorem q_376 : (Cond.selects "ActChains$LatestRun" ({ cls := "ActChains$LatestRun", name := "endOf", desc := "(I[J)J" } : Jvm.MethodName) ({ cls := "ActChains$LatestRun", name := "endOf", desc := "(I[J)J" } : Jvm.MethodName)) ∈ wA := wA_of 376 rfl rfl
set_option maxRecDepth 20000 in
theorem q_377 : (Cond.code ({ cls := "ActChains$LatestRun", name := "endOf", desc := "(I[J)J" } : Jvm.MethodName) prog_3_method_7_code (3 : Nat) (Option.some Jvm.ClassFile.FieldType.long)) ∈ wA := wA_of 377 rfl rfl
set_option maxRecDepth 20000 in
theorem q_378 : (Cond.methodLink "ActChains$LatestRun" (50 : Nat) ({ cls := "java/lang/Math", name := "min", desc := "(II)I" } : Jvm.MethodName)) ∈ wA := wA_of 378 rfl rfl
set_option maxRecDepth 20000 in
theorem q_379 : (Cond.methodLink "ActChainsLaw" (74 : Nat) ({ cls := "ActChains", name := "haul", desc := "(II)I" } : Jvm.MethodName)) ∈ wA := wA_of 379 rfl rfl
set_option maxRecDepth 20000 in
theorem q_380 : (Cond.instanceMethod ({ cls := "ActChains", name := "haul", desc := "(II)I" } : Jvm.MethodName)) ∈ wA := wA_of 380 rfl rfl
set_option maxRecDepth 20000 in
theorem q_381 : (Cond.selects "ActChains" ({ cls := "ActChains", name := "haul", desc := "(II)I" } : Jvm.MethodName) ({ cls := "ActChains", name := "haul", desc := "(II)I" } : Jvm.MethodName)) ∈ wA := wA_of 381 rfl rfl
set_option maxRecDepth 20000 in
theorem q_382 : (Cond.code ({ cls := "ActChains", name := "haul", desc := "(II)I" } : Jvm.MethodName) prog_1_method_13_code (6 : Nat) (Option.some Jvm.ClassFile.FieldType.int)) ∈ wA := wA_of 382 rfl rfl
set_option maxRecDepth 20000 in
theorem q_383 : (Cond.methodLink "ActChains" (164 : Nat) ({ cls := "ActChains$LatestRun", name := "haulStart", desc := "(I)I" } : Jvm.MethodName)) ∈ wA := wA_of 383 rfl rfl
set_option maxRecDepth 20000 in
theorem q_384 : (Cond.instanceMethod ({ cls := "ActChains$LatestRun", name := "haulStart", desc := "(I)I" } : Jvm.MethodName)) ∈ wA := wA_of 384 rfl rfl
set_option maxRecDepth 20000 in
theorem q_385 : (Cond.selects "ActChains$LatestRun" ({ cls := "ActChains$LatestRun", name := "haulStart", desc := "(I)I" } : Jvm.MethodName) ({ cls := "ActChains$LatestRun", name := "haulStart", desc := "(I)I" } : Jvm.MethodName)) ∈ wA := wA_of 385 rfl rfl
set_option maxRecDepth 20000 in
theorem q_386 : (Cond.code ({ cls := "ActChains$LatestRun", name := "haulStart", desc := "(I)I" } : Jvm.MethodName) prog_3_method_9_code (4 : Nat) (Option.some Jvm.ClassFile.FieldType.int)) ∈ wA := wA_of 386 rfl rfl
set_option maxRecDepth 20000 in
theorem q_387 : (Cond.methodLink "ActChains$LatestRun" (60 : Nat) ({ cls := "ActChains$LatestRun", name := "isHauling", desc := "(I)Z" } : Jvm.MethodName)) ∈ wA := wA_of 387 rfl rfl
set_option maxRecDepth 20000 in
theorem q_388 : (Cond.instanceMethod ({ cls := "ActChains$LatestRun", name := "isHauling", desc := "(I)Z" } : Jvm.MethodName)) ∈ wA := wA_of 388 rfl rfl
set_option maxRecDepth 20000 in
theorem q_389 : (Cond.selects "ActChains$LatestRun" ({ cls := "ActChains$LatestRun", name := "isHauling", desc := "(I)Z" } : Jvm.MethodName) ({ cls := "ActChains$LatestRun", name := "isHauling", desc := "(I)Z" } : Jvm.MethodName)) ∈ wA := wA_of 389 rfl rfl
set_option maxRecDepth 20000 in
theorem q_390 : (Cond.code ({ cls := "ActChains$LatestRun", name := "isHauling", desc := "(I)Z" } : Jvm.MethodName) prog_3_method_6_code (2 : Nat) (Option.some Jvm.ClassFile.FieldType.boolean)) ∈ wA := wA_of 390 rfl rfl
set_option maxRecDepth 20000 in
theorem q_391 : (Cond.methodLink "ActChains$LatestRun" (46 : Nat) ({ cls := "ActChains$LatestRun", name := "has", desc := "(I)Z" } : Jvm.MethodName)) ∈ wA := wA_of 391 rfl rfl
set_option maxRecDepth 20000 in
theorem q_392 : (Cond.methodLink "ActChains" (167 : Nat) ({ cls := "ActChains$LatestRun", name := "haulLast", desc := "(I)I" } : Jvm.MethodName)) ∈ wA := wA_of 392 rfl rfl
set_option maxRecDepth 20000 in
theorem q_393 : (Cond.instanceMethod ({ cls := "ActChains$LatestRun", name := "haulLast", desc := "(I)I" } : Jvm.MethodName)) ∈ wA := wA_of 393 rfl rfl
set_option maxRecDepth 20000 in
theorem q_394 : (Cond.selects "ActChains$LatestRun" ({ cls := "ActChains$LatestRun", name := "haulLast", desc := "(I)I" } : Jvm.MethodName) ({ cls := "ActChains$LatestRun", name := "haulLast", desc := "(I)I" } : Jvm.MethodName)) ∈ wA := wA_of 394 rfl rfl
set_option maxRecDepth 20000 in
theorem q_395 : (Cond.code ({ cls := "ActChains$LatestRun", name := "haulLast", desc := "(I)I" } : Jvm.MethodName) prog_3_method_10_code (4 : Nat) (Option.some Jvm.ClassFile.FieldType.int)) ∈ wA := wA_of 395 rfl rfl
set_option maxRecDepth 20000 in
theorem q_396 : (Cond.methodLink "ActChains" (170 : Nat) ({ cls := "ActChains$LatestRun", name := "endOf", desc := "(I[J)J" } : Jvm.MethodName)) ∈ wA := wA_of 396 rfl rfl
set_option maxRecDepth 20000 in
theorem q_397 : (Cond.constantLong "ActChains" (175 : Nat) (2147483647 : Int64)) ∈ wA := wA_of 397 rfl rfl
set_option maxRecDepth 20000 in
theorem q_398 : (Cond.methodLink "ActChainsLaw" (79 : Nat) ({ cls := "ActChains", name := "differs", desc := "(II)I" } : Jvm.MethodName)) ∈ wA := wA_of 398 rfl rfl
set_option maxRecDepth 20000 in
theorem q_399 : (Cond.instanceMethod ({ cls := "ActChains", name := "differs", desc := "(II)I" } : Jvm.MethodName)) ∈ wA := wA_of 399 rfl rfl
set_option maxRecDepth 20000 in
theorem q_400 : (Cond.selects "ActChains" ({ cls := "ActChains", name := "differs", desc := "(II)I" } : Jvm.MethodName) ({ cls := "ActChains", name := "differs", desc := "(II)I" } : Jvm.MethodName)) ∈ wA := wA_of 400 rfl rfl
set_option maxRecDepth 20000 in
theorem q_401 : (Cond.code ({ cls := "ActChains", name := "differs", desc := "(II)I" } : Jvm.MethodName) prog_1_method_14_code (4 : Nat) (Option.some Jvm.ClassFile.FieldType.int)) ∈ wA := wA_of 401 rfl rfl
set_option maxRecDepth 20000 in
theorem q_402 : (Cond.methodLink "ActChains" (177 : Nat) ({ cls := "ActChains", name := "differingRow", desc := "(I)I" } : Jvm.MethodName)) ∈ wA := wA_of 402 rfl rfl
set_option maxRecDepth 20000 in
theorem q_404 : (Cond.instanceMethod ({ cls := "ActChains", name := "differingRow", desc := "(I)I" } : Jvm.MethodName)) ∈ wA := wA_of 404 rfl rfl
set_option maxRecDepth 20000 in
theorem q_405 : (Cond.code ({ cls := "ActChains", name := "differingRow", desc := "(I)I" } : Jvm.MethodName) prog_1_method_30_code (5 : Nat) (Option.some Jvm.ClassFile.FieldType.int)) ∈ wA := wA_of 405 rfl rfl
set_option maxRecDepth 20000 in
theorem q_406 : (Cond.methodLink "ActChains" (180 : Nat) ({ cls := "ActChains$Pages", name := "actAt", desc := "(J)I" } : Jvm.MethodName)) ∈ wA := wA_of 406 rfl rfl
set_option maxRecDepth 20000 in
theorem q_407 : (Cond.instanceMethod ({ cls := "ActChains$Pages", name := "actAt", desc := "(J)I" } : Jvm.MethodName)) ∈ wA := wA_of 407 rfl rfl
set_option maxRecDepth 20000 in
theorem q_408 : (Cond.selects "ActChains$Pages" ({ cls := "ActChains$Pages", name := "actAt", desc := "(J)I" } : Jvm.MethodName) ({ cls := "ActChains$Pages", name := "actAt", desc := "(J)I" } : Jvm.MethodName)) ∈ wA := wA_of 408 rfl rfl
set_option maxRecDepth 20000 in
theorem q_409 : (Cond.code ({ cls := "ActChains$Pages", name := "actAt", desc := "(J)I" } : Jvm.MethodName) prog_5_method_3_code (4 : Nat) (Option.some Jvm.ClassFile.FieldType.int)) ∈ wA := wA_of 409 rfl rfl
set_option maxRecDepth 20000 in
theorem q_410 : (Cond.methodLink "ActChainsLaw" (83 : Nat) ({ cls := "ActChains", name := "page", desc := "(JJI)Z" } : Jvm.MethodName)) ∈ wA := wA_of 410 rfl rfl
set_option maxRecDepth 20000 in
theorem q_411 : (Cond.instanceMethod ({ cls := "ActChains", name := "page", desc := "(JJI)Z" } : Jvm.MethodName)) ∈ wA := wA_of 411 rfl rfl
set_option maxRecDepth 20000 in
theorem q_412 : (Cond.selects "ActChains" ({ cls := "ActChains", name := "page", desc := "(JJI)Z" } : Jvm.MethodName) ({ cls := "ActChains", name := "page", desc := "(JJI)Z" } : Jvm.MethodName)) ∈ wA := wA_of 412 rfl rfl
set_option maxRecDepth 20000 in
theorem q_413 : (Cond.code ({ cls := "ActChains", name := "page", desc := "(JJI)Z" } : Jvm.MethodName) prog_1_method_15_code (6 : Nat) (Option.some Jvm.ClassFile.FieldType.boolean)) ∈ wA := wA_of 413 rfl rfl
set_option maxRecDepth 20000 in
theorem q_414 : (Cond.methodLink "ActChains" (185 : Nat) ({ cls := "ActChains$Pages", name := "add", desc := "(JJI)V" } : Jvm.MethodName)) ∈ wA := wA_of 414 rfl rfl
set_option maxRecDepth 20000 in
theorem q_415 : (Cond.instanceMethod ({ cls := "ActChains$Pages", name := "add", desc := "(JJI)V" } : Jvm.MethodName)) ∈ wA := wA_of 415 rfl rfl
set_option maxRecDepth 20000 in
theorem q_416 : (Cond.selects "ActChains$Pages" ({ cls := "ActChains$Pages", name := "add", desc := "(JJI)V" } : Jvm.MethodName) ({ cls := "ActChains$Pages", name := "add", desc := "(JJI)V" } : Jvm.MethodName)) ∈ wA := wA_of 416 rfl rfl
set_option maxRecDepth 20000 in
theorem q_417 : (Cond.code ({ cls := "ActChains$Pages", name := "add", desc := "(JJI)V" } : Jvm.MethodName) prog_5_method_2_code (6 : Nat) (Option.none : Option Jvm.ClassFile.FieldType)) ∈ wA := wA_of 417 rfl rfl
set_option maxRecDepth 20000 in
theorem q_418 : (Cond.methodLink "ActChainsLaw" (88 : Nat) ({ cls := "ActChains", name := "unsure", desc := "(I)Z" } : Jvm.MethodName)) ∈ wA := wA_of 418 rfl rfl
set_option maxRecDepth 20000 in
theorem q_419 : (Cond.instanceMethod ({ cls := "ActChains", name := "unsure", desc := "(I)Z" } : Jvm.MethodName)) ∈ wA := wA_of 419 rfl rfl
set_option maxRecDepth 20000 in
theorem q_420 : (Cond.selects "ActChains" ({ cls := "ActChains", name := "unsure", desc := "(I)Z" } : Jvm.MethodName) ({ cls := "ActChains", name := "unsure", desc := "(I)Z" } : Jvm.MethodName)) ∈ wA := wA_of 420 rfl rfl
set_option maxRecDepth 20000 in
theorem q_421 : (Cond.code ({ cls := "ActChains", name := "unsure", desc := "(I)Z" } : Jvm.MethodName) prog_1_method_16_code (2 : Nat) (Option.some Jvm.ClassFile.FieldType.boolean)) ∈ wA := wA_of 421 rfl rfl
set_option maxRecDepth 20000 in
theorem q_422 : (Cond.methodLink "ActChains" (188 : Nat) ({ cls := "ActChains$LatestRun", name := "hasNextCost", desc := "(I)Z" } : Jvm.MethodName)) ∈ wA := wA_of 422 rfl rfl
set_option maxRecDepth 20000 in
theorem q_423 : (Cond.instanceMethod ({ cls := "ActChains$LatestRun", name := "hasNextCost", desc := "(I)Z" } : Jvm.MethodName)) ∈ wA := wA_of 423 rfl rfl
set_option maxRecDepth 20000 in
theorem q_424 : (Cond.selects "ActChains$LatestRun" ({ cls := "ActChains$LatestRun", name := "hasNextCost", desc := "(I)Z" } : Jvm.MethodName) ({ cls := "ActChains$LatestRun", name := "hasNextCost", desc := "(I)Z" } : Jvm.MethodName)) ∈ wA := wA_of 424 rfl rfl
set_option maxRecDepth 20000 in
theorem q_425 : (Cond.code ({ cls := "ActChains$LatestRun", name := "hasNextCost", desc := "(I)Z" } : Jvm.MethodName) prog_3_method_5_code (2 : Nat) (Option.some Jvm.ClassFile.FieldType.boolean)) ∈ wA := wA_of 425 rfl rfl
set_option maxRecDepth 20000 in
theorem q_426 : (Cond.methodLink "ActChainsLaw" (93 : Nat) ({ cls := "ActChains", name := "margin", desc := "(I)Z" } : Jvm.MethodName)) ∈ wA := wA_of 426 rfl rfl
set_option maxRecDepth 20000 in
theorem q_427 : (Cond.instanceMethod ({ cls := "ActChains", name := "margin", desc := "(I)Z" } : Jvm.MethodName)) ∈ wA := wA_of 427 rfl rfl
set_option maxRecDepth 20000 in
theorem q_428 : (Cond.selects "ActChains" ({ cls := "ActChains", name := "margin", desc := "(I)Z" } : Jvm.MethodName) ({ cls := "ActChains", name := "margin", desc := "(I)Z" } : Jvm.MethodName)) ∈ wA := wA_of 428 rfl rfl
set_option maxRecDepth 20000 in
theorem q_429 : (Cond.code ({ cls := "ActChains", name := "margin", desc := "(I)Z" } : Jvm.MethodName) prog_1_method_17_code (2 : Nat) (Option.some Jvm.ClassFile.FieldType.boolean)) ∈ wA := wA_of 429 rfl rfl
set_option maxRecDepth 20000 in
theorem q_430 : (Cond.constant "ActChains" (194 : Nat) (100000 : Int32)) ∈ wA := wA_of 430 rfl rfl
set_option maxRecDepth 20000 in
theorem q_431 : (Cond.methodLink "ActChainsLaw" (97 : Nat) ({ cls := "ActChains", name := "map", desc := "(II)J" } : Jvm.MethodName)) ∈ wA := wA_of 431 rfl rfl
set_option maxRecDepth 20000 in
theorem q_432 : (Cond.instanceMethod ({ cls := "ActChains", name := "map", desc := "(II)J" } : Jvm.MethodName)) ∈ wA := wA_of 432 rfl rfl
set_option maxRecDepth 20000 in
theorem q_433 : (Cond.selects "ActChains" ({ cls := "ActChains", name := "map", desc := "(II)J" } : Jvm.MethodName) ({ cls := "ActChains", name := "map", desc := "(II)J" } : Jvm.MethodName)) ∈ wA := wA_of 433 rfl rfl
set_option maxRecDepth 20000 in
theorem q_434 : (Cond.code ({ cls := "ActChains", name := "map", desc := "(II)J" } : Jvm.MethodName) prog_1_method_18_code (3 : Nat) (Option.some Jvm.ClassFile.FieldType.long)) ∈ wA := wA_of 434 rfl rfl
set_option maxRecDepth 20000 in
theorem q_435 : (Cond.methodLink "ActChains" (195 : Nat) ({ cls := "ActChains", name := "isOnMap", desc := "(II)Z" } : Jvm.MethodName)) ∈ wA := wA_of 435 rfl rfl
set_option maxRecDepth 20000 in
theorem q_436 : (Cond.static ({ cls := "ActChains", name := "isOnMap", desc := "(II)Z" } : Jvm.MethodName)) ∈ wA := wA_of 436 rfl rfl
set_option maxRecDepth 20000 in
theorem q_437 : (Cond.code ({ cls := "ActChains", name := "isOnMap", desc := "(II)Z" } : Jvm.MethodName) prog_1_method_27_code (2 : Nat) (Option.some Jvm.ClassFile.FieldType.boolean)) ∈ wA := wA_of 437 rfl rfl
set_option maxRecDepth 20000 in
theorem q_438 : (Cond.methodLink "ActChains" (198 : Nat) ({ cls := "ActChains$Cells", name := "haulingSeconds", desc := "(IILActChains$LatestRun;)J" } : Jvm.MethodName)) ∈ wA := wA_of 438 rfl rfl
set_option maxRecDepth 20000 in
theorem q_439 : (Cond.instanceMethod ({ cls := "ActChains$Cells", name := "haulingSeconds", desc := "(IILActChains$LatestRun;)J" } : Jvm.MethodName)) ∈ wA := wA_of 439 rfl rfl
set_option maxRecDepth 20000 in
theorem q_440 : (Cond.selects "ActChains$Cells" ({ cls := "ActChains$Cells", name := "haulingSeconds", desc := "(IILActChains$LatestRun;)J" } : Jvm.MethodName) ({ cls := "ActChains$Cells", name := "haulingSeconds", desc := "(IILActChains$LatestRun;)J" } : Jvm.MethodName)) ∈ wA := wA_of 440 rfl rfl
set_option maxRecDepth 20000 in
theorem q_441 : (Cond.code ({ cls := "ActChains$Cells", name := "haulingSeconds", desc := "(IILActChains$LatestRun;)J" } : Jvm.MethodName) prog_2_method_3_code (7 : Nat) (Option.some Jvm.ClassFile.FieldType.long)) ∈ wA := wA_of 441 rfl rfl
set_option maxRecDepth 20000 in
theorem q_442 : (Cond.methodLink "ActChains$Cells" (29 : Nat) ({ cls := "ActChains$LatestRun", name := "isHauling", desc := "(I)Z" } : Jvm.MethodName)) ∈ wA := wA_of 442 rfl rfl
set_option maxRecDepth 20000 in
theorem q_443 : (Cond.methodLink "ActChainsLaw" (102 : Nat) ({ cls := "ActChains", name := "cell", desc := "(IIIJ)Z" } : Jvm.MethodName)) ∈ wA := wA_of 443 rfl rfl
set_option maxRecDepth 20000 in
theorem q_444 : (Cond.instanceMethod ({ cls := "ActChains", name := "cell", desc := "(IIIJ)Z" } : Jvm.MethodName)) ∈ wA := wA_of 444 rfl rfl
set_option maxRecDepth 20000 in
theorem q_445 : (Cond.selects "ActChains" ({ cls := "ActChains", name := "cell", desc := "(IIIJ)Z" } : Jvm.MethodName) ({ cls := "ActChains", name := "cell", desc := "(IIIJ)Z" } : Jvm.MethodName)) ∈ wA := wA_of 445 rfl rfl
set_option maxRecDepth 20000 in
theorem q_446 : (Cond.code ({ cls := "ActChains", name := "cell", desc := "(IIIJ)Z" } : Jvm.MethodName) prog_1_method_19_code (6 : Nat) (Option.some Jvm.ClassFile.FieldType.boolean)) ∈ wA := wA_of 446 rfl rfl
set_option maxRecDepth 20000 in
theorem q_447 : (Cond.constantLong "ActChains" (202 : Nat) (1000000 : Int64)) ∈ wA := wA_of 447 rfl rfl
set_option maxRecDepth 20000 in
theorem q_448 : (Cond.methodLink "ActChains" (205 : Nat) ({ cls := "ActChains$Cells", name := "add", desc := "(IIIJ)V" } : Jvm.MethodName)) ∈ wA := wA_of 448 rfl rfl
set_option maxRecDepth 20000 in
theorem q_449 : (Cond.instanceMethod ({ cls := "ActChains$Cells", name := "add", desc := "(IIIJ)V" } : Jvm.MethodName)) ∈ wA := wA_of 449 rfl rfl
set_option maxRecDepth 20000 in
theorem q_450 : (Cond.selects "ActChains$Cells" ({ cls := "ActChains$Cells", name := "add", desc := "(IIIJ)V" } : Jvm.MethodName) ({ cls := "ActChains$Cells", name := "add", desc := "(IIIJ)V" } : Jvm.MethodName)) ∈ wA := wA_of 450 rfl rfl
set_option maxRecDepth 20000 in
theorem q_451 : (Cond.code ({ cls := "ActChains$Cells", name := "add", desc := "(IIIJ)V" } : Jvm.MethodName) prog_2_method_2_code (6 : Nat) (Option.none : Option Jvm.ClassFile.FieldType)) ∈ wA := wA_of 451 rfl rfl
set_option maxRecDepth 20000 in
theorem q_452 : (Cond.methodLink "ActChainsLaw" (106 : Nat) ({ cls := "ActChains", name := "gear", desc := "(I)I" } : Jvm.MethodName)) ∈ wA := wA_of 452 rfl rfl
set_option maxRecDepth 20000 in
theorem q_453 : (Cond.instanceMethod ({ cls := "ActChains", name := "gear", desc := "(I)I" } : Jvm.MethodName)) ∈ wA := wA_of 453 rfl rfl
set_option maxRecDepth 20000 in
theorem q_454 : (Cond.selects "ActChains" ({ cls := "ActChains", name := "gear", desc := "(I)I" } : Jvm.MethodName) ({ cls := "ActChains", name := "gear", desc := "(I)I" } : Jvm.MethodName)) ∈ wA := wA_of 454 rfl rfl
set_option maxRecDepth 20000 in
theorem q_455 : (Cond.code ({ cls := "ActChains", name := "gear", desc := "(I)I" } : Jvm.MethodName) prog_1_method_20_code (5 : Nat) (Option.some Jvm.ClassFile.FieldType.int)) ∈ wA := wA_of 455 rfl rfl
set_option maxRecDepth 20000 in
theorem q_456 : (Cond.methodLink "ActChains" (208 : Nat) ({ cls := "ActChains$Tracks", name := "turningRows", desc := "(II)I" } : Jvm.MethodName)) ∈ wA := wA_of 456 rfl rfl
set_option maxRecDepth 20000 in
theorem q_457 : (Cond.instanceMethod ({ cls := "ActChains$Tracks", name := "turningRows", desc := "(II)I" } : Jvm.MethodName)) ∈ wA := wA_of 457 rfl rfl
set_option maxRecDepth 20000 in
theorem q_458 : (Cond.selects "ActChains$Tracks" ({ cls := "ActChains$Tracks", name := "turningRows", desc := "(II)I" } : Jvm.MethodName) ({ cls := "ActChains$Tracks", name := "turningRows", desc := "(II)I" } : Jvm.MethodName)) ∈ wA := wA_of 458 rfl rfl
set_option maxRecDepth 20000 in
theorem q_459 : (Cond.code ({ cls := "ActChains$Tracks", name := "turningRows", desc := "(II)I" } : Jvm.MethodName) prog_7_method_8_code (5 : Nat) (Option.some Jvm.ClassFile.FieldType.int)) ∈ wA := wA_of 459 rfl rfl
set_option maxRecDepth 20000 in
theorem q_460 : (Cond.methodLink "ActChainsLaw" (110 : Nat) ({ cls := "ActChains", name := "ship", desc := "(I)Z" } : Jvm.MethodName)) ∈ wA := wA_of 460 rfl rfl
set_option maxRecDepth 20000 in
theorem q_461 : (Cond.instanceMethod ({ cls := "ActChains", name := "ship", desc := "(I)Z" } : Jvm.MethodName)) ∈ wA := wA_of 461 rfl rfl
set_option maxRecDepth 20000 in
theorem q_462 : (Cond.selects "ActChains" ({ cls := "ActChains", name := "ship", desc := "(I)Z" } : Jvm.MethodName) ({ cls := "ActChains", name := "ship", desc := "(I)Z" } : Jvm.MethodName)) ∈ wA := wA_of 462 rfl rfl
set_option maxRecDepth 20000 in
theorem q_463 : (Cond.code ({ cls := "ActChains", name := "ship", desc := "(I)Z" } : Jvm.MethodName) prog_1_method_21_code (2 : Nat) (Option.some Jvm.ClassFile.FieldType.boolean)) ∈ wA := wA_of 463 rfl rfl
set_option maxRecDepth 20000 in
theorem q_464 : (Cond.methodLink "ActChainsLaw" (114 : Nat) ({ cls := "ActChains", name := "total", desc := "()J" } : Jvm.MethodName)) ∈ wA := wA_of 464 rfl rfl
set_option maxRecDepth 20000 in
theorem q_465 : (Cond.instanceMethod ({ cls := "ActChains", name := "total", desc := "()J" } : Jvm.MethodName)) ∈ wA := wA_of 465 rfl rfl
set_option maxRecDepth 20000 in
theorem q_466 : (Cond.selects "ActChains" ({ cls := "ActChains", name := "total", desc := "()J" } : Jvm.MethodName) ({ cls := "ActChains", name := "total", desc := "()J" } : Jvm.MethodName)) ∈ wA := wA_of 466 rfl rfl
set_option maxRecDepth 20000 in
theorem q_467 : (Cond.code ({ cls := "ActChains", name := "total", desc := "()J" } : Jvm.MethodName) prog_1_method_22_code (1 : Nat) (Option.some Jvm.ClassFile.FieldType.long)) ∈ wA := wA_of 467 rfl rfl
set_option maxRecDepth 20000 in
theorem q_468 : (Cond.methodLink "ActChainsLaw" (119 : Nat) ({ cls := "ActChains", name := "tied", desc := "(I)Z" } : Jvm.MethodName)) ∈ wA := wA_of 468 rfl rfl
set_option maxRecDepth 20000 in
theorem q_469 : (Cond.instanceMethod ({ cls := "ActChains", name := "tied", desc := "(I)Z" } : Jvm.MethodName)) ∈ wA := wA_of 469 rfl rfl
set_option maxRecDepth 20000 in
theorem q_470 : (Cond.selects "ActChains" ({ cls := "ActChains", name := "tied", desc := "(I)Z" } : Jvm.MethodName) ({ cls := "ActChains", name := "tied", desc := "(I)Z" } : Jvm.MethodName)) ∈ wA := wA_of 470 rfl rfl
set_option maxRecDepth 20000 in
theorem q_471 : (Cond.code ({ cls := "ActChains", name := "tied", desc := "(I)Z" } : Jvm.MethodName) prog_1_method_23_code (2 : Nat) (Option.some Jvm.ClassFile.FieldType.boolean)) ∈ wA := wA_of 471 rfl rfl
set_option maxRecDepth 20000 in
theorem q_472 : (Cond.methodLink "ActChainsLaw" (123 : Nat) ({ cls := "ActChains", name := "night", desc := "(I)I" } : Jvm.MethodName)) ∈ wA := wA_of 472 rfl rfl
set_option maxRecDepth 20000 in
theorem q_473 : (Cond.instanceMethod ({ cls := "ActChains", name := "night", desc := "(I)I" } : Jvm.MethodName)) ∈ wA := wA_of 473 rfl rfl
set_option maxRecDepth 20000 in
theorem q_474 : (Cond.selects "ActChains" ({ cls := "ActChains", name := "night", desc := "(I)I" } : Jvm.MethodName) ({ cls := "ActChains", name := "night", desc := "(I)I" } : Jvm.MethodName)) ∈ wA := wA_of 474 rfl rfl
set_option maxRecDepth 20000 in
theorem q_475 : (Cond.code ({ cls := "ActChains", name := "night", desc := "(I)I" } : Jvm.MethodName) prog_1_method_24_code (4 : Nat) (Option.some Jvm.ClassFile.FieldType.int)) ∈ wA := wA_of 475 rfl rfl
set_option maxRecDepth 20000 in
theorem q_476 : (Cond.constantLong "ActChains" (212 : Nat) (86400 : Int64)) ∈ wA := wA_of 476 rfl rfl
set_option maxRecDepth 20000 in
theorem q_477 : (Cond.constantLong "ActChains" (214 : Nat) (21600 : Int64)) ∈ wA := wA_of 477 rfl rfl
set_option maxRecDepth 20000 in
theorem q_478 : (Cond.constantLong "ActChains" (216 : Nat) (64800 : Int64)) ∈ wA := wA_of 478 rfl rfl
set_option maxRecDepth 20000 in
theorem q_479 : (Cond.methodLink "ActChainsLaw" (9 : Nat) ({ cls := "ActChainsLaw", name := "cell", desc := "([II)I" } : Jvm.MethodName)) ∈ wA := wA_of 479 rfl rfl
set_option maxRecDepth 20000 in
theorem q_480 : (Cond.static ({ cls := "ActChainsLaw", name := "cell", desc := "([II)I" } : Jvm.MethodName)) ∈ wA := wA_of 480 rfl rfl
set_option maxRecDepth 20000 in
theorem q_481 : (Cond.code ({ cls := "ActChainsLaw", name := "cell", desc := "([II)I" } : Jvm.MethodName) method_2_code (2 : Nat) (Option.some Jvm.ClassFile.FieldType.int)) ∈ wA := wA_of 481 rfl rfl
set_option maxRecDepth 20000 in
theorem q_482 : (Cond.classLink "ActChainsLaw" (18 : Nat) "ActChainsModel") ∈ wA := wA_of 482 rfl rfl
set_option maxRecDepth 20000 in
theorem q_483 : (Cond.instantiable "ActChainsModel" (35 : Nat)) ∈ wA := wA_of 483 rfl rfl
set_option maxRecDepth 20000 in
theorem q_484 : (Cond.methodLink "ActChainsLaw" (20 : Nat) ({ cls := "ActChainsModel", name := "<init>", desc := "(I)V" } : Jvm.MethodName)) ∈ wA := wA_of 484 rfl rfl
set_option maxRecDepth 20000 in
theorem q_485 : (Cond.instanceMethod ({ cls := "ActChainsModel", name := "<init>", desc := "(I)V" } : Jvm.MethodName)) ∈ wA := wA_of 485 rfl rfl
set_option maxRecDepth 20000 in
theorem q_486 : (Cond.code ({ cls := "ActChainsModel", name := "<init>", desc := "(I)V" } : Jvm.MethodName) prog_9_method_1_code (2 : Nat) (Option.none : Option Jvm.ClassFile.FieldType)) ∈ wA := wA_of 486 rfl rfl
set_option maxRecDepth 20000 in
theorem q_487 : (Cond.methodLink "ActChainsModel" (1 : Nat) ({ cls := "java/lang/Object", name := "<init>", desc := "()V" } : Jvm.MethodName)) ∈ wA := wA_of 487 rfl rfl
set_option maxRecDepth 20000 in
theorem q_488 : (Cond.fieldLink "ActChainsModel" (89 : Nat) "ActChainsModel" "acts" "I") ∈ wA := wA_of 488 rfl rfl
set_option maxRecDepth 20000 in
theorem q_489 : (Cond.fieldLink "ActChainsModel" (7 : Nat) "ActChainsModel" "moves" "[I") ∈ wA := wA_of 489 rfl rfl
set_option maxRecDepth 20000 in
theorem q_490 : (Cond.fieldLink "ActChainsModel" (13 : Nat) "ActChainsModel" "speeds" "[I") ∈ wA := wA_of 490 rfl rfl
set_option maxRecDepth 20000 in
theorem q_491 : (Cond.fieldLink "ActChainsModel" (16 : Nat) "ActChainsModel" "oldMoves" "[I") ∈ wA := wA_of 491 rfl rfl
set_option maxRecDepth 20000 in
theorem q_492 : (Cond.fieldLink "ActChainsModel" (19 : Nat) "ActChainsModel" "oldSpeeds" "[I") ∈ wA := wA_of 492 rfl rfl
set_option maxRecDepth 20000 in
theorem q_493 : (Cond.fieldLink "ActChainsModel" (93 : Nat) "ActChainsModel" "rows" "I") ∈ wA := wA_of 493 rfl rfl
set_option maxRecDepth 20000 in
theorem q_494 : (Cond.fieldLink "ActChainsModel" (22 : Nat) "ActChainsModel" "seconds" "[J") ∈ wA := wA_of 494 rfl rfl
set_option maxRecDepth 20000 in
theorem q_495 : (Cond.fieldLink "ActChainsModel" (26 : Nat) "ActChainsModel" "classes" "[I") ∈ wA := wA_of 495 rfl rfl
set_option maxRecDepth 20000 in
theorem q_496 : (Cond.fieldLink "ActChainsModel" (29 : Nat) "ActChainsModel" "turns" "[I") ∈ wA := wA_of 496 rfl rfl
set_option maxRecDepth 20000 in
theorem q_497 : (Cond.fieldLink "ActChainsModel" (32 : Nat) "ActChainsModel" "ships" "[I") ∈ wA := wA_of 497 rfl rfl
set_option maxRecDepth 20000 in
theorem q_498 : (Cond.fieldLink "ActChainsModel" (35 : Nat) "ActChainsModel" "truths" "[I") ∈ wA := wA_of 498 rfl rfl
set_option maxRecDepth 20000 in
theorem q_499 : (Cond.fieldLink "ActChainsModel" (100 : Nat) "ActChainsModel" "ship" "I") ∈ wA := wA_of 499 rfl rfl
set_option maxRecDepth 20000 in
theorem q_500 : (Cond.fieldLink "ActChainsModel" (110 : Nat) "ActChainsModel" "pages" "I") ∈ wA := wA_of 500 rfl rfl
set_option maxRecDepth 20000 in
theorem q_501 : (Cond.fieldLink "ActChainsModel" (38 : Nat) "ActChainsModel" "pageFrom" "[J") ∈ wA := wA_of 501 rfl rfl
set_option maxRecDepth 20000 in
theorem q_502 : (Cond.fieldLink "ActChainsModel" (41 : Nat) "ActChainsModel" "pageTo" "[J") ∈ wA := wA_of 502 rfl rfl
set_option maxRecDepth 20000 in
theorem q_503 : (Cond.fieldLink "ActChainsModel" (44 : Nat) "ActChainsModel" "pageAct" "[I") ∈ wA := wA_of 503 rfl rfl
set_option maxRecDepth 20000 in
theorem q_504 : (Cond.fieldLink "ActChainsModel" (115 : Nat) "ActChainsModel" "cells" "I") ∈ wA := wA_of 504 rfl rfl
set_option maxRecDepth 20000 in
theorem q_505 : (Cond.fieldLink "ActChainsModel" (47 : Nat) "ActChainsModel" "cellRow" "[I") ∈ wA := wA_of 505 rfl rfl
set_option maxRecDepth 20000 in
theorem q_506 : (Cond.fieldLink "ActChainsModel" (50 : Nat) "ActChainsModel" "cellX" "[I") ∈ wA := wA_of 506 rfl rfl
set_option maxRecDepth 20000 in
theorem q_507 : (Cond.fieldLink "ActChainsModel" (53 : Nat) "ActChainsModel" "cellY" "[I") ∈ wA := wA_of 507 rfl rfl
set_option maxRecDepth 20000 in
theorem q_508 : (Cond.fieldLink "ActChainsModel" (56 : Nat) "ActChainsModel" "cellSeconds" "[J") ∈ wA := wA_of 508 rfl rfl
set_option maxRecDepth 20000 in
theorem q_509 : (Cond.fieldLink "ActChainsModel" (107 : Nat) "ActChainsModel" "margin" "I") ∈ wA := wA_of 509 rfl rfl
set_option maxRecDepth 20000 in
theorem q_510 : (Cond.fieldLink "ActChainsModel" (139 : Nat) "ActChainsModel" "known" "I") ∈ wA := wA_of 510 rfl rfl
set_option maxRecDepth 20000 in
theorem q_511 : (Cond.fieldLink "ActChainsModel" (59 : Nat) "ActChainsModel" "line" "[I") ∈ wA := wA_of 511 rfl rfl
set_option maxRecDepth 20000 in
theorem q_512 : (Cond.fieldLink "ActChainsModel" (136 : Nat) "ActChainsModel" "cost" "I") ∈ wA := wA_of 512 rfl rfl
set_option maxRecDepth 20000 in
theorem q_513 : (Cond.fieldLink "ActChainsModel" (62 : Nat) "ActChainsModel" "others" "[I") ∈ wA := wA_of 513 rfl rfl
set_option maxRecDepth 20000 in
theorem q_514 : (Cond.fieldLink "ActChainsModel" (150 : Nat) "ActChainsModel" "sums" "I") ∈ wA := wA_of 514 rfl rfl
set_option maxRecDepth 20000 in
theorem q_515 : (Cond.fieldLink "ActChainsModel" (65 : Nat) "ActChainsModel" "sum" "[J") ∈ wA := wA_of 515 rfl rfl
set_option maxRecDepth 20000 in
theorem q_516 : (Cond.fieldLink "ActChainsModel" (68 : Nat) "ActChainsModel" "so" "[I") ∈ wA := wA_of 516 rfl rfl
set_option maxRecDepth 20000 in
theorem q_517 : (Cond.fieldLink "ActChainsModel" (71 : Nat) "ActChainsModel" "longer" "[I") ∈ wA := wA_of 517 rfl rfl
set_option maxRecDepth 20000 in
theorem q_518 : (Cond.fieldLink "ActChainsModel" (74 : Nat) "ActChainsModel" "soCost" "[I") ∈ wA := wA_of 518 rfl rfl
set_option maxRecDepth 20000 in
theorem q_519 : (Cond.fieldLink "ActChainsModel" (77 : Nat) "ActChainsModel" "longerCost" "[I") ∈ wA := wA_of 519 rfl rfl
set_option maxRecDepth 20000 in
theorem q_520 : (Cond.fieldLink "ActChainsModel" (80 : Nat) "ActChainsModel" "before" "[I") ∈ wA := wA_of 520 rfl rfl
set_option maxRecDepth 20000 in
theorem q_521 : (Cond.fieldLink "ActChainsModel" (83 : Nat) "ActChainsModel" "behind" "[I") ∈ wA := wA_of 521 rfl rfl
set_option maxRecDepth 20000 in
theorem q_522 : (Cond.fieldLink "ActChainsModel" (86 : Nat) "ActChainsModel" "found" "[I") ∈ wA := wA_of 522 rfl rfl
set_option maxRecDepth 20000 in
theorem q_594 : (Cond.methodLink "ActChainsLaw" (25 : Nat) ({ cls := "ActChainsModel", name := "move", desc := "(III)Z" } : Jvm.MethodName)) ∈ wA := wA_of 594 rfl rfl
set_option maxRecDepth 20000 in
theorem q_595 : (Cond.instanceMethod ({ cls := "ActChainsModel", name := "move", desc := "(III)Z" } : Jvm.MethodName)) ∈ wA := wA_of 595 rfl rfl
set_option maxRecDepth 20000 in
theorem q_596 : (Cond.selects "ActChainsModel" ({ cls := "ActChainsModel", name := "move", desc := "(III)Z" } : Jvm.MethodName) ({ cls := "ActChainsModel", name := "move", desc := "(III)Z" } : Jvm.MethodName)) ∈ wA := wA_of 596 rfl rfl
set_option maxRecDepth 20000 in
theorem q_597 : (Cond.code ({ cls := "ActChainsModel", name := "move", desc := "(III)Z" } : Jvm.MethodName) prog_9_method_4_code (4 : Nat) (Option.some Jvm.ClassFile.FieldType.boolean)) ∈ wA := wA_of 597 rfl rfl
set_option maxRecDepth 20000 in
theorem q_598 : (Cond.methodLink "ActChainsModel" (96 : Nat) ({ cls := "ActChainsModel", name := "isAct", desc := "(I)Z" } : Jvm.MethodName)) ∈ wA := wA_of 598 rfl rfl
set_option maxRecDepth 20000 in
theorem q_600 : (Cond.instanceMethod ({ cls := "ActChainsModel", name := "isAct", desc := "(I)Z" } : Jvm.MethodName)) ∈ wA := wA_of 600 rfl rfl
set_option maxRecDepth 20000 in
theorem q_601 : (Cond.code ({ cls := "ActChainsModel", name := "isAct", desc := "(I)Z" } : Jvm.MethodName) prog_9_method_2_code (2 : Nat) (Option.some Jvm.ClassFile.FieldType.boolean)) ∈ wA := wA_of 601 rfl rfl
set_option maxRecDepth 20000 in
theorem q_602 : (Cond.methodLink "ActChainsLaw" (29 : Nat) ({ cls := "ActChainsModel", name := "speed", desc := "(III)Z" } : Jvm.MethodName)) ∈ wA := wA_of 602 rfl rfl
set_option maxRecDepth 20000 in
theorem q_603 : (Cond.instanceMethod ({ cls := "ActChainsModel", name := "speed", desc := "(III)Z" } : Jvm.MethodName)) ∈ wA := wA_of 603 rfl rfl
set_option maxRecDepth 20000 in
theorem q_604 : (Cond.selects "ActChainsModel" ({ cls := "ActChainsModel", name := "speed", desc := "(III)Z" } : Jvm.MethodName) ({ cls := "ActChainsModel", name := "speed", desc := "(III)Z" } : Jvm.MethodName)) ∈ wA := wA_of 604 rfl rfl
set_option maxRecDepth 20000 in
theorem q_605 : (Cond.code ({ cls := "ActChainsModel", name := "speed", desc := "(III)Z" } : Jvm.MethodName) prog_9_method_5_code (4 : Nat) (Option.some Jvm.ClassFile.FieldType.boolean)) ∈ wA := wA_of 605 rfl rfl
set_option maxRecDepth 20000 in
theorem q_606 : (Cond.methodLink "ActChainsLaw" (36 : Nat) ({ cls := "ActChainsModel", name := "row", desc := "(JII)Z" } : Jvm.MethodName)) ∈ wA := wA_of 606 rfl rfl
set_option maxRecDepth 20000 in
theorem q_607 : (Cond.instanceMethod ({ cls := "ActChainsModel", name := "row", desc := "(JII)Z" } : Jvm.MethodName)) ∈ wA := wA_of 607 rfl rfl
set_option maxRecDepth 20000 in
theorem q_608 : (Cond.selects "ActChainsModel" ({ cls := "ActChainsModel", name := "row", desc := "(JII)Z" } : Jvm.MethodName) ({ cls := "ActChainsModel", name := "row", desc := "(JII)Z" } : Jvm.MethodName)) ∈ wA := wA_of 608 rfl rfl
set_option maxRecDepth 20000 in
theorem q_609 : (Cond.code ({ cls := "ActChainsModel", name := "row", desc := "(JII)Z" } : Jvm.MethodName) prog_9_method_6_code (5 : Nat) (Option.some Jvm.ClassFile.FieldType.boolean)) ∈ wA := wA_of 609 rfl rfl
set_option maxRecDepth 20000 in
theorem q_610 : (Cond.methodLink "ActChainsLaw" (113 : Nat) ({ cls := "ActChainsModel", name := "ship", desc := "(I)Z" } : Jvm.MethodName)) ∈ wA := wA_of 610 rfl rfl
set_option maxRecDepth 20000 in
theorem q_611 : (Cond.instanceMethod ({ cls := "ActChainsModel", name := "ship", desc := "(I)Z" } : Jvm.MethodName)) ∈ wA := wA_of 611 rfl rfl
set_option maxRecDepth 20000 in
theorem q_612 : (Cond.selects "ActChainsModel" ({ cls := "ActChainsModel", name := "ship", desc := "(I)Z" } : Jvm.MethodName) ({ cls := "ActChainsModel", name := "ship", desc := "(I)Z" } : Jvm.MethodName)) ∈ wA := wA_of 612 rfl rfl
set_option maxRecDepth 20000 in
theorem q_613 : (Cond.code ({ cls := "ActChainsModel", name := "ship", desc := "(I)Z" } : Jvm.MethodName) prog_9_method_7_code (2 : Nat) (Option.some Jvm.ClassFile.FieldType.boolean)) ∈ wA := wA_of 613 rfl rfl
set_option maxRecDepth 20000 in
theorem q_614 : (Cond.methodLink "ActChainsLaw" (56 : Nat) ({ cls := "ActChainsModel", name := "truth", desc := "(II)Z" } : Jvm.MethodName)) ∈ wA := wA_of 614 rfl rfl
set_option maxRecDepth 20000 in
theorem q_615 : (Cond.instanceMethod ({ cls := "ActChainsModel", name := "truth", desc := "(II)Z" } : Jvm.MethodName)) ∈ wA := wA_of 615 rfl rfl
set_option maxRecDepth 20000 in
theorem q_616 : (Cond.selects "ActChainsModel" ({ cls := "ActChainsModel", name := "truth", desc := "(II)Z" } : Jvm.MethodName) ({ cls := "ActChainsModel", name := "truth", desc := "(II)Z" } : Jvm.MethodName)) ∈ wA := wA_of 616 rfl rfl
set_option maxRecDepth 20000 in
theorem q_617 : (Cond.code ({ cls := "ActChainsModel", name := "truth", desc := "(II)Z" } : Jvm.MethodName) prog_9_method_8_code (3 : Nat) (Option.some Jvm.ClassFile.FieldType.boolean)) ∈ wA := wA_of 617 rfl rfl
set_option maxRecDepth 20000 in
theorem q_618 : (Cond.methodLink "ActChainsModel" (103 : Nat) ({ cls := "ActChainsModel", name := "isRow", desc := "(I)Z" } : Jvm.MethodName)) ∈ wA := wA_of 618 rfl rfl
set_option maxRecDepth 20000 in
theorem q_620 : (Cond.instanceMethod ({ cls := "ActChainsModel", name := "isRow", desc := "(I)Z" } : Jvm.MethodName)) ∈ wA := wA_of 620 rfl rfl
set_option maxRecDepth 20000 in
theorem q_621 : (Cond.code ({ cls := "ActChainsModel", name := "isRow", desc := "(I)Z" } : Jvm.MethodName) prog_9_method_3_code (2 : Nat) (Option.some Jvm.ClassFile.FieldType.boolean)) ∈ wA := wA_of 621 rfl rfl
set_option maxRecDepth 20000 in
theorem q_622 : (Cond.methodLink "ActChainsLaw" (96 : Nat) ({ cls := "ActChainsModel", name := "margin", desc := "(I)Z" } : Jvm.MethodName)) ∈ wA := wA_of 622 rfl rfl
set_option maxRecDepth 20000 in
theorem q_623 : (Cond.instanceMethod ({ cls := "ActChainsModel", name := "margin", desc := "(I)Z" } : Jvm.MethodName)) ∈ wA := wA_of 623 rfl rfl
set_option maxRecDepth 20000 in
theorem q_624 : (Cond.selects "ActChainsModel" ({ cls := "ActChainsModel", name := "margin", desc := "(I)Z" } : Jvm.MethodName) ({ cls := "ActChainsModel", name := "margin", desc := "(I)Z" } : Jvm.MethodName)) ∈ wA := wA_of 624 rfl rfl
set_option maxRecDepth 20000 in
theorem q_625 : (Cond.code ({ cls := "ActChainsModel", name := "margin", desc := "(I)Z" } : Jvm.MethodName) prog_9_method_9_code (2 : Nat) (Option.some Jvm.ClassFile.FieldType.boolean)) ∈ wA := wA_of 625 rfl rfl
set_option maxRecDepth 20000 in
theorem q_626 : (Cond.constant "ActChainsModel" (106 : Nat) (100000 : Int32)) ∈ wA := wA_of 626 rfl rfl
set_option maxRecDepth 20000 in
theorem q_627 : (Cond.methodLink "ActChainsLaw" (87 : Nat) ({ cls := "ActChainsModel", name := "page", desc := "(JJI)Z" } : Jvm.MethodName)) ∈ wA := wA_of 627 rfl rfl
set_option maxRecDepth 20000 in
theorem q_628 : (Cond.instanceMethod ({ cls := "ActChainsModel", name := "page", desc := "(JJI)Z" } : Jvm.MethodName)) ∈ wA := wA_of 628 rfl rfl
set_option maxRecDepth 20000 in
theorem q_629 : (Cond.selects "ActChainsModel" ({ cls := "ActChainsModel", name := "page", desc := "(JJI)Z" } : Jvm.MethodName) ({ cls := "ActChainsModel", name := "page", desc := "(JJI)Z" } : Jvm.MethodName)) ∈ wA := wA_of 629 rfl rfl
set_option maxRecDepth 20000 in
theorem q_630 : (Cond.code ({ cls := "ActChainsModel", name := "page", desc := "(JJI)Z" } : Jvm.MethodName) prog_9_method_10_code (6 : Nat) (Option.some Jvm.ClassFile.FieldType.boolean)) ∈ wA := wA_of 630 rfl rfl
set_option maxRecDepth 20000 in
theorem q_631 : (Cond.methodLink "ActChainsLaw" (105 : Nat) ({ cls := "ActChainsModel", name := "cell", desc := "(IIIJ)Z" } : Jvm.MethodName)) ∈ wA := wA_of 631 rfl rfl
set_option maxRecDepth 20000 in
theorem q_632 : (Cond.instanceMethod ({ cls := "ActChainsModel", name := "cell", desc := "(IIIJ)Z" } : Jvm.MethodName)) ∈ wA := wA_of 632 rfl rfl
set_option maxRecDepth 20000 in
theorem q_633 : (Cond.selects "ActChainsModel" ({ cls := "ActChainsModel", name := "cell", desc := "(IIIJ)Z" } : Jvm.MethodName) ({ cls := "ActChainsModel", name := "cell", desc := "(IIIJ)Z" } : Jvm.MethodName)) ∈ wA := wA_of 633 rfl rfl
set_option maxRecDepth 20000 in
theorem q_634 : (Cond.code ({ cls := "ActChainsModel", name := "cell", desc := "(IIIJ)Z" } : Jvm.MethodName) prog_9_method_11_code (6 : Nat) (Option.some Jvm.ClassFile.FieldType.boolean)) ∈ wA := wA_of 634 rfl rfl
set_option maxRecDepth 20000 in
theorem q_635 : (Cond.constantLong "ActChainsModel" (113 : Nat) (1000000 : Int64)) ∈ wA := wA_of 635 rfl rfl
set_option maxRecDepth 20000 in
theorem q_636 : (Cond.methodLink "ActChainsLaw" (126 : Nat) ({ cls := "ActChainsModel", name := "night", desc := "(I)I" } : Jvm.MethodName)) ∈ wA := wA_of 636 rfl rfl
set_option maxRecDepth 20000 in
theorem q_637 : (Cond.instanceMethod ({ cls := "ActChainsModel", name := "night", desc := "(I)I" } : Jvm.MethodName)) ∈ wA := wA_of 637 rfl rfl
set_option maxRecDepth 20000 in
theorem q_638 : (Cond.selects "ActChainsModel" ({ cls := "ActChainsModel", name := "night", desc := "(I)I" } : Jvm.MethodName) ({ cls := "ActChainsModel", name := "night", desc := "(I)I" } : Jvm.MethodName)) ∈ wA := wA_of 638 rfl rfl
set_option maxRecDepth 20000 in
theorem q_639 : (Cond.code ({ cls := "ActChainsModel", name := "night", desc := "(I)I" } : Jvm.MethodName) prog_9_method_12_code (4 : Nat) (Option.some Jvm.ClassFile.FieldType.int)) ∈ wA := wA_of 639 rfl rfl
set_option maxRecDepth 20000 in
theorem q_640 : (Cond.constantLong "ActChainsModel" (118 : Nat) (86400 : Int64)) ∈ wA := wA_of 640 rfl rfl
set_option maxRecDepth 20000 in
theorem q_641 : (Cond.constantLong "ActChainsModel" (120 : Nat) (21600 : Int64)) ∈ wA := wA_of 641 rfl rfl
set_option maxRecDepth 20000 in
theorem q_642 : (Cond.constantLong "ActChainsModel" (122 : Nat) (64800 : Int64)) ∈ wA := wA_of 642 rfl rfl
set_option maxRecDepth 20000 in
theorem q_643 : (Cond.methodLink "ActChainsLaw" (41 : Nat) ({ cls := "ActChainsModel", name := "run", desc := "()I" } : Jvm.MethodName)) ∈ wA := wA_of 643 rfl rfl
set_option maxRecDepth 20000 in
theorem q_644 : (Cond.instanceMethod ({ cls := "ActChainsModel", name := "run", desc := "()I" } : Jvm.MethodName)) ∈ wA := wA_of 644 rfl rfl
set_option maxRecDepth 20000 in
theorem q_645 : (Cond.selects "ActChainsModel" ({ cls := "ActChainsModel", name := "run", desc := "()I" } : Jvm.MethodName) ({ cls := "ActChainsModel", name := "run", desc := "()I" } : Jvm.MethodName)) ∈ wA := wA_of 645 rfl rfl
set_option maxRecDepth 20000 in
theorem q_646 : (Cond.code ({ cls := "ActChainsModel", name := "run", desc := "()I" } : Jvm.MethodName) prog_9_method_18_code (1 : Nat) (Option.some Jvm.ClassFile.FieldType.int)) ∈ wA := wA_of 646 rfl rfl
set_option maxRecDepth 20000 in
theorem q_647 : (Cond.methodLink "ActChainsModel" (145 : Nat) ({ cls := "ActChainsModel", name := "keep", desc := "()V" } : Jvm.MethodName)) ∈ wA := wA_of 647 rfl rfl
set_option maxRecDepth 20000 in
theorem q_649 : (Cond.instanceMethod ({ cls := "ActChainsModel", name := "keep", desc := "()V" } : Jvm.MethodName)) ∈ wA := wA_of 649 rfl rfl
set_option maxRecDepth 20000 in
theorem q_650 : (Cond.code ({ cls := "ActChainsModel", name := "keep", desc := "()V" } : Jvm.MethodName) prog_9_method_17_code (6 : Nat) (Option.none : Option Jvm.ClassFile.FieldType)) ∈ wA := wA_of 650 rfl rfl
set_option maxRecDepth 20000 in
theorem q_651 : (Cond.methodLink "ActChainsModel" (132 : Nat) ({ cls := "ActChainsModel", name := "search", desc := "(I)I" } : Jvm.MethodName)) ∈ wA := wA_of 651 rfl rfl
set_option maxRecDepth 20000 in
theorem q_653 : (Cond.instanceMethod ({ cls := "ActChainsModel", name := "search", desc := "(I)I" } : Jvm.MethodName)) ∈ wA := wA_of 653 rfl rfl
set_option maxRecDepth 20000 in
theorem q_654 : (Cond.code ({ cls := "ActChainsModel", name := "search", desc := "(I)I" } : Jvm.MethodName) prog_9_method_15_code (8 : Nat) (Option.some Jvm.ClassFile.FieldType.int)) ∈ wA := wA_of 654 rfl rfl
set_option maxRecDepth 20000 in
theorem q_655 : (Cond.methodLink "ActChainsModel" (124 : Nat) ({ cls := "ActChainsModel", name := "may", desc := "(III)Z" } : Jvm.MethodName)) ∈ wA := wA_of 655 rfl rfl
set_option maxRecDepth 20000 in
theorem q_657 : (Cond.instanceMethod ({ cls := "ActChainsModel", name := "may", desc := "(III)Z" } : Jvm.MethodName)) ∈ wA := wA_of 657 rfl rfl
set_option maxRecDepth 20000 in
theorem q_658 : (Cond.code ({ cls := "ActChainsModel", name := "may", desc := "(III)Z" } : Jvm.MethodName) prog_9_method_13_code (4 : Nat) (Option.some Jvm.ClassFile.FieldType.boolean)) ∈ wA := wA_of 658 rfl rfl
set_option maxRecDepth 20000 in
theorem q_659 : (Cond.constant "ActChainsModel" (128 : Nat) (1000000000 : Int32)) ∈ wA := wA_of 659 rfl rfl
set_option maxRecDepth 20000 in
theorem q_660 : (Cond.methodLink "ActChainsModel" (129 : Nat) ({ cls := "ActChainsModel", name := "isFirst", desc := "(III)Z" } : Jvm.MethodName)) ∈ wA := wA_of 660 rfl rfl
set_option maxRecDepth 20000 in
theorem q_662 : (Cond.instanceMethod ({ cls := "ActChainsModel", name := "isFirst", desc := "(III)Z" } : Jvm.MethodName)) ∈ wA := wA_of 662 rfl rfl
set_option maxRecDepth 20000 in
theorem q_663 : (Cond.code ({ cls := "ActChainsModel", name := "isFirst", desc := "(III)Z" } : Jvm.MethodName) prog_9_method_14_code (5 : Nat) (Option.some Jvm.ClassFile.FieldType.boolean)) ∈ wA := wA_of 663 rfl rfl
set_option maxRecDepth 20000 in
theorem q_664 : (Cond.methodLink "ActChainsModel" (142 : Nat) ({ cls := "ActChainsModel", name := "bothEnds", desc := "()V" } : Jvm.MethodName)) ∈ wA := wA_of 664 rfl rfl
set_option maxRecDepth 20000 in
theorem q_666 : (Cond.instanceMethod ({ cls := "ActChainsModel", name := "bothEnds", desc := "()V" } : Jvm.MethodName)) ∈ wA := wA_of 666 rfl rfl
set_option maxRecDepth 20000 in
theorem q_667 : (Cond.code ({ cls := "ActChainsModel", name := "bothEnds", desc := "()V" } : Jvm.MethodName) prog_9_method_16_code (6 : Nat) (Option.none : Option Jvm.ClassFile.FieldType)) ∈ wA := wA_of 667 rfl rfl
set_option maxRecDepth 20000 in
theorem q_668 : (Cond.methodLink "ActChainsLaw" (60 : Nat) ({ cls := "ActChainsModel", name := "fit", desc := "(I)I" } : Jvm.MethodName)) ∈ wA := wA_of 668 rfl rfl
set_option maxRecDepth 20000 in
theorem q_669 : (Cond.instanceMethod ({ cls := "ActChainsModel", name := "fit", desc := "(I)I" } : Jvm.MethodName)) ∈ wA := wA_of 669 rfl rfl
set_option maxRecDepth 20000 in
theorem q_670 : (Cond.selects "ActChainsModel" ({ cls := "ActChainsModel", name := "fit", desc := "(I)I" } : Jvm.MethodName) ({ cls := "ActChainsModel", name := "fit", desc := "(I)I" } : Jvm.MethodName)) ∈ wA := wA_of 670 rfl rfl
set_option maxRecDepth 20000 in
theorem q_671 : (Cond.code ({ cls := "ActChainsModel", name := "fit", desc := "(I)I" } : Jvm.MethodName) prog_9_method_21_code (4 : Nat) (Option.some Jvm.ClassFile.FieldType.int)) ∈ wA := wA_of 671 rfl rfl
set_option maxRecDepth 20000 in
theorem q_672 : (Cond.methodLink "ActChainsModel" (153 : Nat) ({ cls := "ActChainsModel", name := "save", desc := "(Z)V" } : Jvm.MethodName)) ∈ wA := wA_of 672 rfl rfl
set_option maxRecDepth 20000 in
theorem q_674 : (Cond.instanceMethod ({ cls := "ActChainsModel", name := "save", desc := "(Z)V" } : Jvm.MethodName)) ∈ wA := wA_of 674 rfl rfl
set_option maxRecDepth 20000 in
theorem q_675 : (Cond.code ({ cls := "ActChainsModel", name := "save", desc := "(Z)V" } : Jvm.MethodName) prog_9_method_20_code (3 : Nat) (Option.none : Option Jvm.ClassFile.FieldType)) ∈ wA := wA_of 675 rfl rfl
set_option maxRecDepth 20000 in
theorem q_676 : (Cond.methodLink "ActChainsModel" (157 : Nat) ({ cls := "ActChainsModel", name := "count", desc := "()V" } : Jvm.MethodName)) ∈ wA := wA_of 676 rfl rfl
set_option maxRecDepth 20000 in
theorem q_678 : (Cond.instanceMethod ({ cls := "ActChainsModel", name := "count", desc := "()V" } : Jvm.MethodName)) ∈ wA := wA_of 678 rfl rfl
set_option maxRecDepth 20000 in
theorem q_679 : (Cond.code ({ cls := "ActChainsModel", name := "count", desc := "()V" } : Jvm.MethodName) prog_9_method_19_code (8 : Nat) (Option.none : Option Jvm.ClassFile.FieldType)) ∈ wA := wA_of 679 rfl rfl
set_option maxRecDepth 20000 in
theorem q_680 : (Cond.constantLong "ActChainsModel" (148 : Nat) (1000 : Int64)) ∈ wA := wA_of 680 rfl rfl
set_option maxRecDepth 20000 in
theorem q_681 : (Cond.methodLink "ActChainsLaw" (65 : Nat) ({ cls := "ActChainsModel", name := "sum", desc := "(I)J" } : Jvm.MethodName)) ∈ wA := wA_of 681 rfl rfl
set_option maxRecDepth 20000 in
theorem q_682 : (Cond.instanceMethod ({ cls := "ActChainsModel", name := "sum", desc := "(I)J" } : Jvm.MethodName)) ∈ wA := wA_of 682 rfl rfl
set_option maxRecDepth 20000 in
theorem q_683 : (Cond.selects "ActChainsModel" ({ cls := "ActChainsModel", name := "sum", desc := "(I)J" } : Jvm.MethodName) ({ cls := "ActChainsModel", name := "sum", desc := "(I)J" } : Jvm.MethodName)) ∈ wA := wA_of 683 rfl rfl
set_option maxRecDepth 20000 in
theorem q_684 : (Cond.code ({ cls := "ActChainsModel", name := "sum", desc := "(I)J" } : Jvm.MethodName) prog_9_method_22_code (2 : Nat) (Option.some Jvm.ClassFile.FieldType.long)) ∈ wA := wA_of 684 rfl rfl
set_option maxRecDepth 20000 in
theorem q_685 : (Cond.constantLong "ActChainsModel" (160 : Nat) (-1 : Int64)) ∈ wA := wA_of 685 rfl rfl
set_option maxRecDepth 20000 in
theorem q_686 : (Cond.methodLink "ActChainsLaw" (69 : Nat) ({ cls := "ActChainsModel", name := "leftOut", desc := "(I)I" } : Jvm.MethodName)) ∈ wA := wA_of 686 rfl rfl
set_option maxRecDepth 20000 in
theorem q_687 : (Cond.instanceMethod ({ cls := "ActChainsModel", name := "leftOut", desc := "(I)I" } : Jvm.MethodName)) ∈ wA := wA_of 687 rfl rfl
set_option maxRecDepth 20000 in
theorem q_688 : (Cond.selects "ActChainsModel" ({ cls := "ActChainsModel", name := "leftOut", desc := "(I)I" } : Jvm.MethodName) ({ cls := "ActChainsModel", name := "leftOut", desc := "(I)I" } : Jvm.MethodName)) ∈ wA := wA_of 688 rfl rfl
set_option maxRecDepth 20000 in
theorem q_689 : (Cond.code ({ cls := "ActChainsModel", name := "leftOut", desc := "(I)I" } : Jvm.MethodName) prog_9_method_23_code (6 : Nat) (Option.some Jvm.ClassFile.FieldType.int)) ∈ wA := wA_of 689 rfl rfl
set_option maxRecDepth 20000 in
theorem q_690 : (Cond.methodLink "ActChainsLaw" (46 : Nat) ({ cls := "ActChainsModel", name := "act", desc := "(I)I" } : Jvm.MethodName)) ∈ wA := wA_of 690 rfl rfl
set_option maxRecDepth 20000 in
theorem q_691 : (Cond.instanceMethod ({ cls := "ActChainsModel", name := "act", desc := "(I)I" } : Jvm.MethodName)) ∈ wA := wA_of 691 rfl rfl
set_option maxRecDepth 20000 in
theorem q_692 : (Cond.selects "ActChainsModel" ({ cls := "ActChainsModel", name := "act", desc := "(I)I" } : Jvm.MethodName) ({ cls := "ActChainsModel", name := "act", desc := "(I)I" } : Jvm.MethodName)) ∈ wA := wA_of 692 rfl rfl
set_option maxRecDepth 20000 in
theorem q_693 : (Cond.code ({ cls := "ActChainsModel", name := "act", desc := "(I)I" } : Jvm.MethodName) prog_9_method_25_code (2 : Nat) (Option.some Jvm.ClassFile.FieldType.int)) ∈ wA := wA_of 693 rfl rfl
set_option maxRecDepth 20000 in
theorem q_694 : (Cond.methodLink "ActChainsModel" (162 : Nat) ({ cls := "ActChainsModel", name := "isKnown", desc := "(I)Z" } : Jvm.MethodName)) ∈ wA := wA_of 694 rfl rfl
set_option maxRecDepth 20000 in
theorem q_696 : (Cond.instanceMethod ({ cls := "ActChainsModel", name := "isKnown", desc := "(I)Z" } : Jvm.MethodName)) ∈ wA := wA_of 696 rfl rfl
set_option maxRecDepth 20000 in
theorem q_697 : (Cond.code ({ cls := "ActChainsModel", name := "isKnown", desc := "(I)Z" } : Jvm.MethodName) prog_9_method_24_code (2 : Nat) (Option.some Jvm.ClassFile.FieldType.boolean)) ∈ wA := wA_of 697 rfl rfl
set_option maxRecDepth 20000 in
theorem q_698 : (Cond.methodLink "ActChainsLaw" (51 : Nat) ({ cls := "ActChainsModel", name := "greatest", desc := "()Z" } : Jvm.MethodName)) ∈ wA := wA_of 698 rfl rfl
set_option maxRecDepth 20000 in
theorem q_699 : (Cond.instanceMethod ({ cls := "ActChainsModel", name := "greatest", desc := "()Z" } : Jvm.MethodName)) ∈ wA := wA_of 699 rfl rfl
set_option maxRecDepth 20000 in
theorem q_700 : (Cond.selects "ActChainsModel" ({ cls := "ActChainsModel", name := "greatest", desc := "()Z" } : Jvm.MethodName) ({ cls := "ActChainsModel", name := "greatest", desc := "()Z" } : Jvm.MethodName)) ∈ wA := wA_of 700 rfl rfl
set_option maxRecDepth 20000 in
theorem q_701 : (Cond.code ({ cls := "ActChainsModel", name := "greatest", desc := "()Z" } : Jvm.MethodName) prog_9_method_26_code (1 : Nat) (Option.some Jvm.ClassFile.FieldType.boolean)) ∈ wA := wA_of 701 rfl rfl
set_option maxRecDepth 20000 in
theorem q_702 : (Cond.methodLink "ActChainsLaw" (73 : Nat) ({ cls := "ActChainsModel", name := "hours", desc := "(I)J" } : Jvm.MethodName)) ∈ wA := wA_of 702 rfl rfl
set_option maxRecDepth 20000 in
theorem q_703 : (Cond.instanceMethod ({ cls := "ActChainsModel", name := "hours", desc := "(I)J" } : Jvm.MethodName)) ∈ wA := wA_of 703 rfl rfl
set_option maxRecDepth 20000 in
theorem q_704 : (Cond.selects "ActChainsModel" ({ cls := "ActChainsModel", name := "hours", desc := "(I)J" } : Jvm.MethodName) ({ cls := "ActChainsModel", name := "hours", desc := "(I)J" } : Jvm.MethodName)) ∈ wA := wA_of 704 rfl rfl
set_option maxRecDepth 20000 in
theorem q_705 : (Cond.code ({ cls := "ActChainsModel", name := "hours", desc := "(I)J" } : Jvm.MethodName) prog_9_method_28_code (5 : Nat) (Option.some Jvm.ClassFile.FieldType.long)) ∈ wA := wA_of 705 rfl rfl
set_option maxRecDepth 20000 in
theorem q_706 : (Cond.methodLink "ActChainsModel" (165 : Nat) ({ cls := "ActChainsModel", name := "end", desc := "(I)J" } : Jvm.MethodName)) ∈ wA := wA_of 706 rfl rfl
set_option maxRecDepth 20000 in
theorem q_708 : (Cond.instanceMethod ({ cls := "ActChainsModel", name := "end", desc := "(I)J" } : Jvm.MethodName)) ∈ wA := wA_of 708 rfl rfl
set_option maxRecDepth 20000 in
theorem q_709 : (Cond.code ({ cls := "ActChainsModel", name := "end", desc := "(I)J" } : Jvm.MethodName) prog_9_method_27_code (2 : Nat) (Option.some Jvm.ClassFile.FieldType.long)) ∈ wA := wA_of 709 rfl rfl
set_option maxRecDepth 20000 in
theorem q_710 : (Cond.methodLink "ActChainsLaw" (118 : Nat) ({ cls := "ActChainsModel", name := "total", desc := "()J" } : Jvm.MethodName)) ∈ wA := wA_of 710 rfl rfl
set_option maxRecDepth 20000 in
theorem q_711 : (Cond.instanceMethod ({ cls := "ActChainsModel", name := "total", desc := "()J" } : Jvm.MethodName)) ∈ wA := wA_of 711 rfl rfl
set_option maxRecDepth 20000 in
theorem q_712 : (Cond.selects "ActChainsModel" ({ cls := "ActChainsModel", name := "total", desc := "()J" } : Jvm.MethodName) ({ cls := "ActChainsModel", name := "total", desc := "()J" } : Jvm.MethodName)) ∈ wA := wA_of 712 rfl rfl
set_option maxRecDepth 20000 in
theorem q_713 : (Cond.code ({ cls := "ActChainsModel", name := "total", desc := "()J" } : Jvm.MethodName) prog_9_method_29_code (1 : Nat) (Option.some Jvm.ClassFile.FieldType.long)) ∈ wA := wA_of 713 rfl rfl
set_option maxRecDepth 20000 in
theorem q_714 : (Cond.methodLink "ActChainsLaw" (78 : Nat) ({ cls := "ActChainsModel", name := "haul", desc := "(II)I" } : Jvm.MethodName)) ∈ wA := wA_of 714 rfl rfl
set_option maxRecDepth 20000 in
theorem q_715 : (Cond.instanceMethod ({ cls := "ActChainsModel", name := "haul", desc := "(II)I" } : Jvm.MethodName)) ∈ wA := wA_of 715 rfl rfl
set_option maxRecDepth 20000 in
theorem q_716 : (Cond.selects "ActChainsModel" ({ cls := "ActChainsModel", name := "haul", desc := "(II)I" } : Jvm.MethodName) ({ cls := "ActChainsModel", name := "haul", desc := "(II)I" } : Jvm.MethodName)) ∈ wA := wA_of 716 rfl rfl
set_option maxRecDepth 20000 in
theorem q_717 : (Cond.code ({ cls := "ActChainsModel", name := "haul", desc := "(II)I" } : Jvm.MethodName) prog_9_method_32_code (6 : Nat) (Option.some Jvm.ClassFile.FieldType.int)) ∈ wA := wA_of 717 rfl rfl
set_option maxRecDepth 20000 in
theorem q_718 : (Cond.methodLink "ActChainsModel" (169 : Nat) ({ cls := "ActChainsModel", name := "first", desc := "(I)I" } : Jvm.MethodName)) ∈ wA := wA_of 718 rfl rfl
set_option maxRecDepth 20000 in
theorem q_720 : (Cond.instanceMethod ({ cls := "ActChainsModel", name := "first", desc := "(I)I" } : Jvm.MethodName)) ∈ wA := wA_of 720 rfl rfl
set_option maxRecDepth 20000 in
theorem q_721 : (Cond.code ({ cls := "ActChainsModel", name := "first", desc := "(I)I" } : Jvm.MethodName) prog_9_method_30_code (4 : Nat) (Option.some Jvm.ClassFile.FieldType.int)) ∈ wA := wA_of 721 rfl rfl
set_option maxRecDepth 20000 in
theorem q_722 : (Cond.methodLink "ActChainsModel" (172 : Nat) ({ cls := "ActChainsModel", name := "last", desc := "(I)I" } : Jvm.MethodName)) ∈ wA := wA_of 722 rfl rfl
set_option maxRecDepth 20000 in
theorem q_724 : (Cond.instanceMethod ({ cls := "ActChainsModel", name := "last", desc := "(I)I" } : Jvm.MethodName)) ∈ wA := wA_of 724 rfl rfl
set_option maxRecDepth 20000 in
theorem q_725 : (Cond.code ({ cls := "ActChainsModel", name := "last", desc := "(I)I" } : Jvm.MethodName) prog_9_method_31_code (3 : Nat) (Option.some Jvm.ClassFile.FieldType.int)) ∈ wA := wA_of 725 rfl rfl
set_option maxRecDepth 20000 in
theorem q_726 : (Cond.constantLong "ActChainsModel" (175 : Nat) (2147483647 : Int64)) ∈ wA := wA_of 726 rfl rfl
set_option maxRecDepth 20000 in
theorem q_727 : (Cond.methodLink "ActChainsLaw" (109 : Nat) ({ cls := "ActChainsModel", name := "gear", desc := "(I)I" } : Jvm.MethodName)) ∈ wA := wA_of 727 rfl rfl
set_option maxRecDepth 20000 in
theorem q_728 : (Cond.instanceMethod ({ cls := "ActChainsModel", name := "gear", desc := "(I)I" } : Jvm.MethodName)) ∈ wA := wA_of 728 rfl rfl
set_option maxRecDepth 20000 in
theorem q_729 : (Cond.selects "ActChainsModel" ({ cls := "ActChainsModel", name := "gear", desc := "(I)I" } : Jvm.MethodName) ({ cls := "ActChainsModel", name := "gear", desc := "(I)I" } : Jvm.MethodName)) ∈ wA := wA_of 729 rfl rfl
set_option maxRecDepth 20000 in
theorem q_730 : (Cond.code ({ cls := "ActChainsModel", name := "gear", desc := "(I)I" } : Jvm.MethodName) prog_9_method_33_code (5 : Nat) (Option.some Jvm.ClassFile.FieldType.int)) ∈ wA := wA_of 730 rfl rfl
set_option maxRecDepth 20000 in
theorem q_731 : (Cond.methodLink "ActChainsLaw" (82 : Nat) ({ cls := "ActChainsModel", name := "differs", desc := "(II)I" } : Jvm.MethodName)) ∈ wA := wA_of 731 rfl rfl
set_option maxRecDepth 20000 in
theorem q_732 : (Cond.instanceMethod ({ cls := "ActChainsModel", name := "differs", desc := "(II)I" } : Jvm.MethodName)) ∈ wA := wA_of 732 rfl rfl
set_option maxRecDepth 20000 in
theorem q_733 : (Cond.selects "ActChainsModel" ({ cls := "ActChainsModel", name := "differs", desc := "(II)I" } : Jvm.MethodName) ({ cls := "ActChainsModel", name := "differs", desc := "(II)I" } : Jvm.MethodName)) ∈ wA := wA_of 733 rfl rfl
set_option maxRecDepth 20000 in
theorem q_734 : (Cond.code ({ cls := "ActChainsModel", name := "differs", desc := "(II)I" } : Jvm.MethodName) prog_9_method_35_code (6 : Nat) (Option.some Jvm.ClassFile.FieldType.int)) ∈ wA := wA_of 734 rfl rfl
set_option maxRecDepth 20000 in
theorem q_735 : (Cond.methodLink "ActChainsModel" (177 : Nat) ({ cls := "ActChainsModel", name := "told", desc := "(J)I" } : Jvm.MethodName)) ∈ wA := wA_of 735 rfl rfl
set_option maxRecDepth 20000 in
theorem q_737 : (Cond.instanceMethod ({ cls := "ActChainsModel", name := "told", desc := "(J)I" } : Jvm.MethodName)) ∈ wA := wA_of 737 rfl rfl
set_option maxRecDepth 20000 in
theorem q_738 : (Cond.code ({ cls := "ActChainsModel", name := "told", desc := "(J)I" } : Jvm.MethodName) prog_9_method_34_code (4 : Nat) (Option.some Jvm.ClassFile.FieldType.int)) ∈ wA := wA_of 738 rfl rfl
set_option maxRecDepth 20000 in
theorem q_739 : (Cond.methodLink "ActChainsLaw" (92 : Nat) ({ cls := "ActChainsModel", name := "unsure", desc := "(I)Z" } : Jvm.MethodName)) ∈ wA := wA_of 739 rfl rfl
set_option maxRecDepth 20000 in
theorem q_740 : (Cond.instanceMethod ({ cls := "ActChainsModel", name := "unsure", desc := "(I)Z" } : Jvm.MethodName)) ∈ wA := wA_of 740 rfl rfl
set_option maxRecDepth 20000 in
theorem q_741 : (Cond.selects "ActChainsModel" ({ cls := "ActChainsModel", name := "unsure", desc := "(I)Z" } : Jvm.MethodName) ({ cls := "ActChainsModel", name := "unsure", desc := "(I)Z" } : Jvm.MethodName)) ∈ wA := wA_of 741 rfl rfl
set_option maxRecDepth 20000 in
theorem q_742 : (Cond.code ({ cls := "ActChainsModel", name := "unsure", desc := "(I)Z" } : Jvm.MethodName) prog_9_method_36_code (2 : Nat) (Option.some Jvm.ClassFile.FieldType.boolean)) ∈ wA := wA_of 742 rfl rfl
set_option maxRecDepth 20000 in
theorem q_743 : (Cond.methodLink "ActChainsLaw" (122 : Nat) ({ cls := "ActChainsModel", name := "tied", desc := "(I)Z" } : Jvm.MethodName)) ∈ wA := wA_of 743 rfl rfl
set_option maxRecDepth 20000 in
theorem q_744 : (Cond.instanceMethod ({ cls := "ActChainsModel", name := "tied", desc := "(I)Z" } : Jvm.MethodName)) ∈ wA := wA_of 744 rfl rfl
set_option maxRecDepth 20000 in
theorem q_745 : (Cond.selects "ActChainsModel" ({ cls := "ActChainsModel", name := "tied", desc := "(I)Z" } : Jvm.MethodName) ({ cls := "ActChainsModel", name := "tied", desc := "(I)Z" } : Jvm.MethodName)) ∈ wA := wA_of 745 rfl rfl
set_option maxRecDepth 20000 in
theorem q_746 : (Cond.code ({ cls := "ActChainsModel", name := "tied", desc := "(I)Z" } : Jvm.MethodName) prog_9_method_37_code (2 : Nat) (Option.some Jvm.ClassFile.FieldType.boolean)) ∈ wA := wA_of 746 rfl rfl
set_option maxRecDepth 20000 in
theorem q_747 : (Cond.methodLink "ActChainsLaw" (101 : Nat) ({ cls := "ActChainsModel", name := "map", desc := "(II)J" } : Jvm.MethodName)) ∈ wA := wA_of 747 rfl rfl
set_option maxRecDepth 20000 in
theorem q_748 : (Cond.instanceMethod ({ cls := "ActChainsModel", name := "map", desc := "(II)J" } : Jvm.MethodName)) ∈ wA := wA_of 748 rfl rfl
set_option maxRecDepth 20000 in
theorem q_749 : (Cond.selects "ActChainsModel" ({ cls := "ActChainsModel", name := "map", desc := "(II)J" } : Jvm.MethodName) ({ cls := "ActChainsModel", name := "map", desc := "(II)J" } : Jvm.MethodName)) ∈ wA := wA_of 749 rfl rfl
set_option maxRecDepth 20000 in
theorem q_750 : (Cond.code ({ cls := "ActChainsModel", name := "map", desc := "(II)J" } : Jvm.MethodName) prog_9_method_38_code (6 : Nat) (Option.some Jvm.ClassFile.FieldType.long)) ∈ wA := wA_of 750 rfl rfl
set_option maxRecDepth 20000 in
theorem q_751 : (Cond.constantLong "ActChainsLaw" (30 : Nat) (4294967295 : Int64)) ∈ wA := wA_of 751 rfl rfl
theorem qs_0 : Cond.selects "ActChains" ⟨"ActChains", "isAct", "(I)Z"⟩ ⟨"ActChains", "isAct", "(I)Z"⟩ ∈ wA := wA_sel 0 rfl rfl
theorem qs_1 : Cond.selects "ActChains$LineFinder" ⟨"ActChains$LineFinder", "fillToGo", "(LActChains$Tracks;LActChains$Table;II)V"⟩ ⟨"ActChains$LineFinder", "fillToGo", "(LActChains$Tracks;LActChains$Table;II)V"⟩ ∈ wA := wA_sel 1 rfl rfl
theorem qs_2 : Cond.selects "ActChains$LineFinder" ⟨"ActChains$LineFinder", "cheapest", "([I[I)I"⟩ ⟨"ActChains$LineFinder", "cheapest", "([I[I)I"⟩ ∈ wA := wA_sel 2 rfl rfl
theorem qs_3 : Cond.selects "ActChains$LineFinder" ⟨"ActChains$LineFinder", "leastOther", "(I[I)I"⟩ ⟨"ActChains$LineFinder", "leastOther", "(I[I)I"⟩ ∈ wA := wA_sel 3 rfl rfl
theorem qs_4 : Cond.selects "ActChains$LineFinder" ⟨"ActChains$LineFinder", "stepBefore", "(LActChains$Tracks;LActChains$Table;I)V"⟩ ⟨"ActChains$LineFinder", "stepBefore", "(LActChains$Tracks;LActChains$Table;I)V"⟩ ∈ wA := wA_sel 4 rfl rfl
theorem qs_5 : Cond.selects "ActChains" ⟨"ActChains", "isRoundKept", "()Z"⟩ ⟨"ActChains", "isRoundKept", "()Z"⟩ ∈ wA := wA_sel 5 rfl rfl
theorem qs_6 : Cond.selects "ActChains$Table" ⟨"ActChains$Table", "clear", "()V"⟩ ⟨"ActChains$Table", "clear", "()V"⟩ ∈ wA := wA_sel 6 rfl rfl
theorem qs_7 : Cond.selects "ActChains" ⟨"ActChains", "differingRow", "(I)I"⟩ ⟨"ActChains", "differingRow", "(I)I"⟩ ∈ wA := wA_sel 7 rfl rfl
theorem qs_8 : Cond.selects "ActChainsModel" ⟨"ActChainsModel", "isAct", "(I)Z"⟩ ⟨"ActChainsModel", "isAct", "(I)Z"⟩ ∈ wA := wA_sel 8 rfl rfl
theorem qs_9 : Cond.selects "ActChainsModel" ⟨"ActChainsModel", "isRow", "(I)Z"⟩ ⟨"ActChainsModel", "isRow", "(I)Z"⟩ ∈ wA := wA_sel 9 rfl rfl
theorem qs_10 : Cond.selects "ActChainsModel" ⟨"ActChainsModel", "keep", "()V"⟩ ⟨"ActChainsModel", "keep", "()V"⟩ ∈ wA := wA_sel 10 rfl rfl
theorem qs_11 : Cond.selects "ActChainsModel" ⟨"ActChainsModel", "search", "(I)I"⟩ ⟨"ActChainsModel", "search", "(I)I"⟩ ∈ wA := wA_sel 11 rfl rfl
theorem qs_12 : Cond.selects "ActChainsModel" ⟨"ActChainsModel", "may", "(III)Z"⟩ ⟨"ActChainsModel", "may", "(III)Z"⟩ ∈ wA := wA_sel 12 rfl rfl
theorem qs_13 : Cond.selects "ActChainsModel" ⟨"ActChainsModel", "isFirst", "(III)Z"⟩ ⟨"ActChainsModel", "isFirst", "(III)Z"⟩ ∈ wA := wA_sel 13 rfl rfl
theorem qs_14 : Cond.selects "ActChainsModel" ⟨"ActChainsModel", "bothEnds", "()V"⟩ ⟨"ActChainsModel", "bothEnds", "()V"⟩ ∈ wA := wA_sel 14 rfl rfl
theorem qs_15 : Cond.selects "ActChainsModel" ⟨"ActChainsModel", "save", "(Z)V"⟩ ⟨"ActChainsModel", "save", "(Z)V"⟩ ∈ wA := wA_sel 15 rfl rfl
theorem qs_16 : Cond.selects "ActChainsModel" ⟨"ActChainsModel", "count", "()V"⟩ ⟨"ActChainsModel", "count", "()V"⟩ ∈ wA := wA_sel 16 rfl rfl
theorem qs_17 : Cond.selects "ActChainsModel" ⟨"ActChainsModel", "isKnown", "(I)Z"⟩ ⟨"ActChainsModel", "isKnown", "(I)Z"⟩ ∈ wA := wA_sel 17 rfl rfl
theorem qs_18 : Cond.selects "ActChainsModel" ⟨"ActChainsModel", "end", "(I)J"⟩ ⟨"ActChainsModel", "end", "(I)J"⟩ ∈ wA := wA_sel 18 rfl rfl
theorem qs_19 : Cond.selects "ActChainsModel" ⟨"ActChainsModel", "first", "(I)I"⟩ ⟨"ActChainsModel", "first", "(I)I"⟩ ∈ wA := wA_sel 19 rfl rfl
theorem qs_20 : Cond.selects "ActChainsModel" ⟨"ActChainsModel", "last", "(I)I"⟩ ⟨"ActChainsModel", "last", "(I)I"⟩ ∈ wA := wA_sel 20 rfl rfl
theorem qs_21 : Cond.selects "ActChainsModel" ⟨"ActChainsModel", "told", "(J)I"⟩ ⟨"ActChainsModel", "told", "(J)I"⟩ ∈ wA := wA_sel 21 rfl rfl
set_option maxRecDepth 100000 in
theorem i_C : ∀ w ∈ u_ws R_C F_C 5, w ∈ wA := fun w h => List.mem_filter.mpr ⟨List.mem_append_right _ ((show ∀ w ∈ u_ws R_C F_C 5, w ∈ tables_1 by decide +kernel) w h), (show ∀ w ∈ u_ws R_C F_C 5, goodWord w = true by decide +kernel) w h⟩
set_option maxRecDepth 100000 in
theorem i_N : ∀ w ∈ u_ws R_N F_N 4, w ∈ wA := fun w h => List.mem_filter.mpr ⟨List.mem_append_right _ ((show ∀ w ∈ u_ws R_N F_N 4, w ∈ tables_1 by decide +kernel) w h), (show ∀ w ∈ u_ws R_N F_N 4, goodWord w = true by decide +kernel) w h⟩
set_option maxRecDepth 100000 in
theorem i_F : ∀ w ∈ u_ws R_F F_F 7, w ∈ wA := fun w h => List.mem_filter.mpr ⟨List.mem_append_right _ ((show ∀ w ∈ u_ws R_F F_F 7, w ∈ tables_1 by decide +kernel) w h), (show ∀ w ∈ u_ws R_F F_F 7, goodWord w = true by decide +kernel) w h⟩
set_option maxRecDepth 100000 in
theorem i_P : ∀ w ∈ u_ws R_P F_P 4, w ∈ wA := fun w h => List.mem_filter.mpr ⟨List.mem_append_right _ ((show ∀ w ∈ u_ws R_P F_P 4, w ∈ tables_1 by decide +kernel) w h), (show ∀ w ∈ u_ws R_P F_P 4, goodWord w = true by decide +kernel) w h⟩
set_option maxRecDepth 100000 in
theorem i_B : ∀ w ∈ u_ws R_B F_B 2, w ∈ wA := fun w h => List.mem_filter.mpr ⟨List.mem_append_right _ ((show ∀ w ∈ u_ws R_B F_B 2, w ∈ tables_1 by decide +kernel) w h), (show ∀ w ∈ u_ws R_B F_B 2, goodWord w = true by decide +kernel) w h⟩
set_option maxRecDepth 100000 in
theorem i_T : ∀ w ∈ u_ws R_T F_T 6, w ∈ wA := fun w h => List.mem_filter.mpr ⟨List.mem_append_right _ ((show ∀ w ∈ u_ws R_T F_T 6, w ∈ tables_1 by decide +kernel) w h), (show ∀ w ∈ u_ws R_T F_T 6, goodWord w = true by decide +kernel) w h⟩
set_option maxRecDepth 100000 in
theorem i_K : ∀ w ∈ u_ws R_K F_K 13, w ∈ wA := fun w h => List.mem_filter.mpr ⟨List.mem_append_right _ ((show ∀ w ∈ u_ws R_K F_K 13, w ∈ tables_1 by decide +kernel) w h), (show ∀ w ∈ u_ws R_K F_K 13, goodWord w = true by decide +kernel) w h⟩
set_option maxRecDepth 100000 in
theorem i_M : ∀ w ∈ u_ws R_M F_M 35, w ∈ wA := fun w h => List.mem_filter.mpr ⟨List.mem_append_right _ ((show ∀ w ∈ u_ws R_M F_M 35, w ∈ tables_1 by decide +kernel) w h), (show ∀ w ∈ u_ws R_M F_M 35, goodWord w = true by decide +kernel) w h⟩
end
section
/-! INDEXED WORLDS. Cell number i (i among dl) lies at the address ad i and holds co i. A method's world is all that the system has; what a method changes is said by cell numbers. -/
def gw (ad : Nat → Nat) (co : Nat → va_E) (dl : List Nat) : va_W := dl.map (fun i => (ad i, co i))
def gW (D : va_G) (cl : List vw_C) (A : Nat → Prop) (ad : Nat → Nat) (co : Nat → va_E) (dl : List Nat) (H : Heap) : Prop := va_P D cl (gw ad co dl) H ∧ va_D A (gw ad co dl)
/-- the links between nest mates, as the state has them -/
def gN (nl : List Cond) (U : State) : Prop := ∀ w ∈ nl, va_Nw w U
def gNk (w : Cond) : Prop := (∃ a i b n d h, w = .fieldLinkNest a i b n d h) ∨ (∃ a i x h, w = .methodLinkNest a i x h)
theorem gN_warm {nl : List Cond} (hk : ∀ w ∈ nl, gNk w) {s U : State} (hW : s.WarmedH U.vm) (h : gN nl s) : gN nl U := by
  intro w hw
  rcases hk w hw with ⟨a, i, b, n, d, h1, rfl⟩ | ⟨a, i, x, h1, rfl⟩
  · exact va_Nw.warmF hW (h _ hw)
  · exact va_Nw.warmM hW (h _ hw)
theorem gN_same {nl : List Cond} (hk : ∀ w ∈ nl, gNk w) {u U : State} (hv : u.vm = U.vm) (h : gN nl u) : gN nl U := by
  intro w hw
  rcases hk w hw with ⟨a, i, b, n, d, h1, rfl⟩ | ⟨a, i, x, h1, rfl⟩
  · exact va_Nw.same rfl hv (h _ hw)
  · exact va_Nw.same rfl hv (h _ hw)
theorem gw_at {ad : Nat → Nat} {co : Nat → va_E} {dl : List Nat} {k i : Nat} (h : dl[k]? = some i) : (gw ad co dl)[k]? = some (ad i, co i) := by
  unfold gw
  rw [List.getElem?_map, h]
  rfl
theorem gw_of {ad : Nat → Nat} {co : Nat → va_E} {dl : List Nat} {k : Nat} {q : Nat × va_E} (h : (gw ad co dl)[k]? = some q) : ∃ i, dl[k]? = some i ∧ q = (ad i, co i) := by
  unfold gw at h
  rw [List.getElem?_map] at h
  cases hd : dl[k]? with
  | none => rw [hd] at h; cases h
  | some i => rw [hd] at h; exact ⟨i, rfl, (Option.some.inj h).symm⟩
theorem gw_len {ad : Nat → Nat} {co : Nat → va_E} {dl : List Nat} : (gw ad co dl).length = dl.length := by
  unfold gw
  rw [List.length_map]
theorem gw_set {A : Nat → Prop} {ad : Nat → Nat} {co : Nat → va_E} {dl : List Nat} {k i : Nat} {e : va_E} (hD : va_D A (gw ad co dl)) (h : dl[k]? = some i) : (gw ad co dl).set k (ad i, e) = gw ad (va_up co i e) dl := by
  have hk : k < dl.length := (List.getElem?_eq_some_iff.mp h).1
  apply List.ext_getElem?
  intro j
  by_cases hj : j = k
  · subst hj
    rw [List.getElem?_set_self (by rw [gw_len]; exact hk), gw_at h, va_up_self]
  · rw [List.getElem?_set_ne (Ne.symm hj)]
    cases hd : dl[j]? with
    | none => unfold gw; rw [List.getElem?_map, List.getElem?_map, hd]; rfl
    | some b =>
      have hb : b ≠ i := fun q => hj (hD.1 j k _ _ (gw_at hd) (gw_at h) (by rw [q]))
      rw [gw_at hd, gw_at hd, va_up_ne _ _ hb]
theorem gw_push {ad : Nat → Nat} {co : Nat → va_E} {dl : List Nat} {i q : Nat} {e : va_E} (h : i ∉ dl) : gw ad co dl ++ [(q, e)] = gw (va_up ad i q) (va_up co i e) (dl ++ [i]) := by
  unfold gw
  rw [List.map_append, List.map_cons, List.map_nil, va_up_self, va_up_self]
  congr 1
  apply List.map_congr_left
  intro b hb
  have hne : b ≠ i := fun q => h (q ▸ hb)
  rw [va_up_ne _ _ hne, va_up_ne _ _ hne]
theorem gw_congr {ad : Nat → Nat} {co co' : Nat → va_E} {dl : List Nat} (h : ∀ i, i ∈ dl → co i = co' i) : gw ad co dl = gw ad co' dl := by
  unfold gw
  apply List.map_congr_left
  intro b hb
  rw [h b hb]
/-- which addresses a method of the world may write -/
abbrev gA (ad : Nat → Nat) (co : Nat → va_E) (dl : List Nat) (sz : Nat) : Nat → Prop := va_A (gw ad co dl) sz
theorem gA_co {ad : Nat → Nat} {co co' : Nat → va_E} {dl : List Nat} {sz q : Nat} (h : gA ad co dl sz q) : gA ad co' dl sz q := by
  rcases h with ⟨k, e, h⟩ | h
  · obtain ⟨i, h1, h2⟩ := gw_of h
    cases h2
    exact Or.inl ⟨k, co' i, gw_at h1⟩
  · exact Or.inr h
def gPre (D : va_G) (cl : List vw_C) (tys : List (ClassId × FieldType)) (nl : List Cond) (av : List Value) (sz : Nat) (ad : Nat → Nat) (co : Nat → va_E) (dl : List Nat) : Array Value → State → Prop :=
  va_Pc av (fun U => U.heap.size = sz ∧ va_P D cl (gw ad co dl) U.heap ∧ va_K D cl tys U ∧ va_D (fun _ => True) (gw ad co dl) ∧ gN nl U)
def gB (D : va_G) (cl : List vw_C) (A : Nat → Prop) (ad : Nat → Nat) (dl : List Nat) (co : Nat → va_E) (t : State) : Prop := va_P D cl (gw ad co dl) t.heap ∧ va_D A (gw ad co dl)
/-- contracts of methods that make nothing: an int (long, nothing) comes back, the cells hold co' -/
def gMi (l : Launch) (y : MethodName) (ws : List Cond) (rm : Room) (D : va_G) (cl : List vw_C) (tys : List (ClassId × FieldType)) (nl : List Cond) (av : List Value) (ad : Nat → Nat) (co : Nat → va_E) (dl : List Nat) (post : Int32 → (Nat → va_E) → Prop) : Prop :=
  ∀ sz : Nat, Met l y ws rm (gPre D cl tys nl av sz ad co dl) (va_Qi post (gB D cl (gA ad co dl sz) ad dl) (gA ad co dl sz)) 0 0 (gA ad co dl sz)
def gMl (l : Launch) (y : MethodName) (ws : List Cond) (rm : Room) (D : va_G) (cl : List vw_C) (tys : List (ClassId × FieldType)) (nl : List Cond) (av : List Value) (ad : Nat → Nat) (co : Nat → va_E) (dl : List Nat) (post : Int64 → (Nat → va_E) → Prop) : Prop :=
  ∀ sz : Nat, Met l y ws rm (gPre D cl tys nl av sz ad co dl) (va_Ql post (gB D cl (gA ad co dl sz) ad dl) (gA ad co dl sz)) 0 0 (gA ad co dl sz)
def gMv (l : Launch) (y : MethodName) (ws : List Cond) (rm : Room) (D : va_G) (cl : List vw_C) (tys : List (ClassId × FieldType)) (nl : List Cond) (av : List Value) (ad : Nat → Nat) (co : Nat → va_E) (dl : List Nat) (post : (Nat → va_E) → Prop) : Prop :=
  ∀ sz : Nat, Met l y ws rm (gPre D cl tys nl av sz ad co dl) (va_Qv post (gB D cl (gA ad co dl sz) ad dl) (gA ad co dl sz)) 0 0 (gA ad co dl sz)
theorem gPre_blind {D : va_G} {cl : List vw_C} {tys : List (ClassId × FieldType)} {nl : List Cond} (hk : ∀ w ∈ nl, gNk w) {av : List Value} {sz : Nat} {ad : Nat → Nat} {co : Nat → va_E} {dl : List Nat} : FrameBlind (gPre D cl tys nl av sz ad co dl) := by
  intro a U g mk q
  obtain ⟨q0, q1, qP, qK, qD, qN⟩ := q
  exact ⟨q0, q1, qP, va_K.moved (u := U) (U := U.calling g mk a) (Vm.Alike.refl U.vm) qK, qD, gN_same (u := U) (U := U.calling g mk a) hk rfl qN⟩
theorem gPre_at {D : va_G} {cl : List vw_C} {A : Nat → Prop} {tys : List (ClassId × FieldType)} {nl : List Cond} (hk : ∀ w ∈ nl, gNk w) {av : List Value} {ad : Nat → Nat} {co : Nat → va_E} {dl : List Nat} {s : State} {H : Heap} (hK : va_K D cl tys s) (hN : gN nl s) (hW : gW D cl A ad co dl H) (U : State) (hU : U.heap = H) (hw : s.WarmedH U.vm) : gPre D cl tys nl av H.size ad co dl av.toArray U :=
  ⟨rfl, by rw [hU], by rw [hU]; exact hW.1, va_K.moved hw.alike hK, hW.2.weaken (fun _ _ _ _ => trivial), gN_warm hk hw hN⟩
theorem gfree {D : va_G} {cl : List vw_C} {A : Nat → Prop} {ad : Nat → Nat} {co : Nat → va_E} {dl : List Nat} {H0 H : Heap} {locs : List Loc} (hW : gW D cl A ad co dl H) (hS : va_S A H0 H locs) (hA : ∀ q, H0.size ≤ q → A q) : ∀ q, gA ad co dl H.size q → A q := by
  intro q h
  rcases h with ⟨k, e, h⟩ | h
  · exact hW.2.2 k (q, e) h
  · exact hA q (Nat.le_trans hS.1 h)
end
section
section GWR
variable {p : Program} {l : Launch} {e : Env} {R : Room} {s : State} {m : MethodId} {args : Array Value} {below : List Frame} {meth : Method} {c : Code} {H : Heap} {locs : List Loc} {cells slots : Nat} {Q : State → Prop}
variable {cc : ByteArray} {pc : Nat} {ls : Array Slot} {rest : List Value} {D : va_G} {cl : List vw_C} {A : Nat → Prop} {tys : List (ClassId × FieldType)} {H0 : Heap} {ad : Nat → Nat} {co : Nat → va_E} {dl : List Nat}
theorem g_get (hexec : p.tables.exec = Jvm.exec) (hb : c.code = cc) {own ref C : String} {T : u_T} {N ci index : Nat} {Ts : List Cond} (hts : ∀ w ∈ Ts, w.before args s = true) (hin : ∀ w ∈ u_ws C T N, w ∈ Ts) (hown : s.vm.findClass own = some m.cls) (hK : va_K D cl tys s) (hW : gW D cl A ad co dl H) {i : Nat} (hi : i ∈ dl) {fs : List Value} (he : co i = .inr (ci, fs)) (hc : cl[ci]? = some (C, T, N)) (k : Nat) (hk : k < N) (hlink : (Cond.fieldLink own index ref (T k).2.1 (T k).2.2.1).before args s = true) (hsame : ∀ x, s.fieldFound? (T k).1 (T k).2.1 (T k).2.2.1 = some x → s.fieldFound? ref (T k).2.1 (T k).2.2.1 = some x) {v : Value} (hv : fs[k]? = some v) (hdg : decode cc pc = .ok (.getfield index, 3))
    (kk : W p l e R s m args below meth c H locs cells slots Q (F0 m (pc + 3) ls (v :: rest))) : W p l e R s m args below meth c H locs cells slots Q (F0 m pc ls (.ref (ad i) :: rest)) := by
  obtain ⟨j, hj⟩ := List.getElem?_of_mem hi
  exact va_get hexec hb hts hin hown hK hW.1 j (by rw [gw_at hj, he]) hc k hk hlink hsame hv hdg kk
theorem g_getN (hexec : p.tables.exec = Jvm.exec) (hb : c.code = cc) {own ref C host : String} {T : u_T} {N ci index : Nat} {Ts : List Cond} (hts : ∀ w ∈ Ts, w.before args s = true) (hin : ∀ w ∈ u_ws C T N, w ∈ Ts) (hown : s.vm.findClass own = some m.cls) (hK : va_K D cl tys s) (hW : gW D cl A ad co dl H) {i : Nat} (hi : i ∈ dl) {fs : List Value} (he : co i = .inr (ci, fs)) (hc : cl[ci]? = some (C, T, N)) (k : Nat) (hk : k < N) (hlink : (Cond.fieldLinkNest own index ref (T k).2.1 (T k).2.2.1 host).before args s = true) (hsame : ∀ x, s.fieldFound? (T k).1 (T k).2.1 (T k).2.2.1 = some x → s.fieldFound? ref (T k).2.1 (T k).2.2.1 = some x) {v : Value} (hv : fs[k]? = some v) (hdg : decode cc pc = .ok (.getfield index, 3))
    (kk : W p l e R s m args below meth c H locs cells slots Q (F0 m (pc + 3) ls (v :: rest))) : W p l e R s m args below meth c H locs cells slots Q (F0 m pc ls (.ref (ad i) :: rest)) := by
  obtain ⟨j, hj⟩ := List.getElem?_of_mem hi
  exact va_getN hexec hb hts hin hown hK hW.1 j (by rw [gw_at hj, he]) hc k hk hlink hsame hv hdg kk
theorem g_put (hexec : p.tables.exec = Jvm.exec) (hb : c.code = cc) {own ref C : String} {T : u_T} {N ci index : Nat} {Ts : List Cond} (hts : ∀ w ∈ Ts, w.before args s = true) (hin : ∀ w ∈ u_ws C T N, w ∈ Ts) (ty0 : Nat → FieldType) (hty : ∀ k, k < N → parseFieldDescriptor (T k).2.2.1 = some (ty0 k)) (hnm : ∀ a, a < N → ∀ b, b < N → a ≠ b → (T a).2.1 ≠ (T b).2.1) (hown : s.vm.findClass own = some m.cls) (hK : va_K D cl tys s) (hW : gW D cl A ad co dl H) (hS0 : va_S A H0 H locs) {i : Nat} (hi : i ∈ dl) {fs : List Value} (he : co i = .inr (ci, fs)) (hc : cl[ci]? = some (C, T, N)) (k : Nat) (hk : k < N) (hlink : (Cond.fieldLink own index ref (T k).2.1 (T k).2.2.1).before args s = true) (hsame : ∀ x, s.fieldFound? (T k).1 (T k).2.1 (T k).2.2.1 = some x → s.fieldFound? ref (T k).2.1 (T k).2.2.1 = some x) (hfin : (T k).2.2.2 = false) {ty : FieldType} {v : Value} (hd : parseFieldDescriptor (T k).2.2.1 = some ty) (hn : narrow ty v = v) (hfit : fits ty v = true) (hl : k < fs.length) (hdg : decode cc pc = .ok (.putfield index, 3))
    (kk : ∀ (H1 : Heap) (locs1 : List Loc), gW D cl A ad (va_up co i (.inr (ci, fs.set k v))) dl H1 → va_S A H0 H1 locs1 → W p l e R s m args below meth c H1 locs1 cells slots Q (F0 m (pc + 3) ls rest)) : W p l e R s m args below meth c H locs cells slots Q (F0 m pc ls (v :: .ref (ad i) :: rest)) := by
  obtain ⟨j, hj⟩ := List.getElem?_of_mem hi
  refine va_put hexec hb hts hin ty0 hty hnm hown hK hW.1 hW.2 hS0 j (by rw [gw_at hj, he]) hc k hk hlink hsame hfin hd hn hfit hl hdg (fun H1 locs1 h1 h2 h3 => kk H1 locs1 ⟨?_, ?_⟩ h3)
  · rw [gw_set hW.2 hj] at h1; exact h1
  · rw [gw_set hW.2 hj] at h2; exact h2
theorem g_putN (hexec : p.tables.exec = Jvm.exec) (hb : c.code = cc) {own ref C host : String} {T : u_T} {N ci index : Nat} {Ts : List Cond} (hts : ∀ w ∈ Ts, w.before args s = true) (hin : ∀ w ∈ u_ws C T N, w ∈ Ts) (ty0 : Nat → FieldType) (hty : ∀ k, k < N → parseFieldDescriptor (T k).2.2.1 = some (ty0 k)) (hnm : ∀ a, a < N → ∀ b, b < N → a ≠ b → (T a).2.1 ≠ (T b).2.1) (hown : s.vm.findClass own = some m.cls) (hK : va_K D cl tys s) (hW : gW D cl A ad co dl H) (hS0 : va_S A H0 H locs) {i : Nat} (hi : i ∈ dl) {fs : List Value} (he : co i = .inr (ci, fs)) (hc : cl[ci]? = some (C, T, N)) (k : Nat) (hk : k < N) (hlink : (Cond.fieldLinkNest own index ref (T k).2.1 (T k).2.2.1 host).before args s = true) (hsame : ∀ x, s.fieldFound? (T k).1 (T k).2.1 (T k).2.2.1 = some x → s.fieldFound? ref (T k).2.1 (T k).2.2.1 = some x) (hfin : (T k).2.2.2 = false) {ty : FieldType} {v : Value} (hd : parseFieldDescriptor (T k).2.2.1 = some ty) (hn : narrow ty v = v) (hfit : fits ty v = true) (hl : k < fs.length) (hdg : decode cc pc = .ok (.putfield index, 3))
    (kk : ∀ (H1 : Heap) (locs1 : List Loc), gW D cl A ad (va_up co i (.inr (ci, fs.set k v))) dl H1 → va_S A H0 H1 locs1 → W p l e R s m args below meth c H1 locs1 cells slots Q (F0 m (pc + 3) ls rest)) : W p l e R s m args below meth c H locs cells slots Q (F0 m pc ls (v :: .ref (ad i) :: rest)) := by
  obtain ⟨j, hj⟩ := List.getElem?_of_mem hi
  refine va_putN hexec hb hts hin ty0 hty hnm hown hK hW.1 hW.2 hS0 j (by rw [gw_at hj, he]) hc k hk hlink hsame hfin hd hn hfit hl hdg (fun H1 locs1 h1 h2 h3 => kk H1 locs1 ⟨?_, ?_⟩ h3)
  · rw [gw_set hW.2 hj] at h1; exact h1
  · rw [gw_set hW.2 hj] at h2; exact h2
theorem g_putF (hexec : p.tables.exec = Jvm.exec) (hb : c.code = cc) {own ref C : String} {T : u_T} {N ci index : Nat} {Ts : List Cond} (hts : ∀ w ∈ Ts, w.before args s = true) (hin : ∀ w ∈ u_ws C T N, w ∈ Ts) (ty0 : Nat → FieldType) (hty : ∀ k, k < N → parseFieldDescriptor (T k).2.2.1 = some (ty0 k)) (hnm : ∀ a, a < N → ∀ b, b < N → a ≠ b → (T a).2.1 ≠ (T b).2.1) (hown : s.vm.findClass own = some m.cls) (hK : va_K D cl tys s) (hW : gW D cl A ad co dl H) (hS0 : va_S A H0 H locs) {i : Nat} (hi : i ∈ dl) {fs : List Value} (he : co i = .inr (ci, fs)) (hc : cl[ci]? = some (C, T, N)) (k : Nat) (hk : k < N) (hlink : (Cond.fieldLink own index ref (T k).2.1 (T k).2.2.1).before args s = true) (hsame : ∀ x, s.fieldFound? (T k).1 (T k).2.1 (T k).2.2.1 = some x → s.fieldFound? ref (T k).2.1 (T k).2.2.1 = some x) (hfin : (T k).2.2.2 = true) (hin2 : meth.name = "<init>") (hdecl : (T k).1 = own) {ty : FieldType} {v : Value} (hd : parseFieldDescriptor (T k).2.2.1 = some ty) (hn : narrow ty v = v) (hfit : fits ty v = true) (hl : k < fs.length) (hdg : decode cc pc = .ok (.putfield index, 3))
    (kk : ∀ (H1 : Heap) (locs1 : List Loc), gW D cl A ad (va_up co i (.inr (ci, fs.set k v))) dl H1 → va_S A H0 H1 locs1 → W p l e R s m args below meth c H1 locs1 cells slots Q (F0 m (pc + 3) ls rest)) : W p l e R s m args below meth c H locs cells slots Q (F0 m pc ls (v :: .ref (ad i) :: rest)) := by
  obtain ⟨j, hj⟩ := List.getElem?_of_mem hi
  refine va_putF hexec hb hts hin ty0 hty hnm hown hK hW.1 hW.2 hS0 j (by rw [gw_at hj, he]) hc k hk hlink hsame hfin hin2 hdecl hd hn hfit hl hdg (fun H1 locs1 h1 h2 h3 => kk H1 locs1 ⟨?_, ?_⟩ h3)
  · rw [gw_set hW.2 hj] at h1; exact h1
  · rw [gw_set hW.2 hj] at h2; exact h2
theorem g_iald (hexec : p.tables.exec = Jvm.exec) (hb : c.code = cc) (hK : va_K D cl tys s) (hW : gW D cl A ad co dl H) (t0 : Nat) {q : Nat} (hq : q ∈ dl) {cA : ClassId} {n : Nat} {f : Nat → Int32} (ha : co q = .inl (cA, n, .inl f)) (ht : tys[t0]? = some (cA, .int)) {i : Int32} (hin : vp_in i n) (hdg : decode cc pc = .ok (.iaload, 1))
    (kk : W p l e R s m args below meth c H locs cells slots Q (F0 m (pc + 1) ls (.int (f i.toNatClampNeg) :: rest))) : W p l e R s m args below meth c H locs cells slots Q (F0 m pc ls (.int i :: .ref (ad q) :: rest)) := by
  obtain ⟨j, hj⟩ := List.getElem?_of_mem hq
  exact va_iald hexec hb hK hW.1 j t0 (by rw [gw_at hj, ha]) ht hin hdg kk
theorem g_lald (hexec : p.tables.exec = Jvm.exec) (hb : c.code = cc) (hK : va_K D cl tys s) (hW : gW D cl A ad co dl H) (t0 : Nat) {q : Nat} (hq : q ∈ dl) {cA : ClassId} {n : Nat} {f : Nat → Int64} (ha : co q = .inl (cA, n, .inr (.inl f))) (ht : tys[t0]? = some (cA, .long)) {i : Int32} (hin : vp_in i n) (hdg : decode cc pc = .ok (.laload, 1))
    (kk : W p l e R s m args below meth c H locs cells slots Q (F0 m (pc + 1) ls (.long (f i.toNatClampNeg) :: rest))) : W p l e R s m args below meth c H locs cells slots Q (F0 m pc ls (.int i :: .ref (ad q) :: rest)) := by
  obtain ⟨j, hj⟩ := List.getElem?_of_mem hq
  exact va_lald hexec hb hK hW.1 j t0 (by rw [gw_at hj, ha]) ht hin hdg kk
theorem g_aald (hexec : p.tables.exec = Jvm.exec) (hb : c.code = cc) (hK : va_K D cl tys s) (hW : gW D cl A ad co dl H) (t0 : Nat) {q : Nat} (hq : q ∈ dl) {cA : ClassId} {n : Nat} {f : Nat → Option Nat} {ty : FieldType} (ha : co q = .inl (cA, n, .inr (.inr (.inr (.inr f))))) (ht : tys[t0]? = some (cA, ty)) (hty : ty.isReference = true) {i : Int32} (hin : vp_in i n) {b : Nat} (hv : f i.toNatClampNeg = some b) (hdg : decode cc pc = .ok (.aaload, 1))
    (kk : W p l e R s m args below meth c H locs cells slots Q (F0 m (pc + 1) ls (.ref b :: rest))) : W p l e R s m args below meth c H locs cells slots Q (F0 m pc ls (.int i :: .ref (ad q) :: rest)) := by
  obtain ⟨j, hj⟩ := List.getElem?_of_mem hq
  have hlt : i.toNatClampNeg < n := Nat.not_le.mp fun q => hin (Or.inr q)
  have h0 : H[ad q]? = some (vp_cell cA (n, .inr (.inr (.inr (.inr f))))) := by
    have h1 := hW.1 j _ (gw_at hj)
    rw [ha] at h1
    exact h1
  have hr : (Value.ref b) = va_rf (f i.toNatClampNeg) := by rw [hv]; rfl
  rw [hr] at kk
  exact W.aald (v := va_rf (f i.toNatClampNeg)) (ty := ty) hexec hb h0 ((hK.2 t0 _ ht).1 n (fun j => va_rf (f j))) hty (fun q => by cases q) (by show ¬ (i < 0 ∨ (arrV _ _ _).slots.size ≤ _); rw [arrV_size]; exact hin) (by show (arrV _ _ _).slots[_]? = _; rw [arrV_read _ _ hlt]) rfl rfl hdg kk
theorem g_iast (hexec : p.tables.exec = Jvm.exec) (hb : c.code = cc) (hK : va_K D cl tys s) (hW : gW D cl A ad co dl H) (hS : va_S A H0 H locs) (t0 : Nat) {q : Nat} (hq : q ∈ dl) {cA : ClassId} {n : Nat} {f : Nat → Int32} (ha : co q = .inl (cA, n, .inl f)) (ht : tys[t0]? = some (cA, .int)) {i : Int32} {x : Int32} (hin : vp_in i n) (hdg : decode cc pc = .ok (.iastore, 1))
    (kk : ∀ (H1 : Heap) (locs1 : List Loc), gW D cl A ad (va_up co q (.inl (cA, n, .inl (upd f i.toNatClampNeg x)))) dl H1 → va_S A H0 H1 locs1 → W p l e R s m args below meth c H1 locs1 cells slots Q (F0 m (pc + 1) ls rest)) : W p l e R s m args below meth c H locs cells slots Q (F0 m pc ls (.int x :: .int i :: .ref (ad q) :: rest)) := by
  obtain ⟨j, hj⟩ := List.getElem?_of_mem hq
  refine va_iast hexec hb hK hW.1 hW.2 hS j t0 (by rw [gw_at hj, ha]) ht hin hdg (fun H1 locs1 h1 h2 h3 => kk H1 locs1 ⟨?_, ?_⟩ h3)
  · rw [gw_set hW.2 hj] at h1; exact h1
  · rw [gw_set hW.2 hj] at h2; exact h2
theorem g_last (hexec : p.tables.exec = Jvm.exec) (hb : c.code = cc) (hK : va_K D cl tys s) (hW : gW D cl A ad co dl H) (hS : va_S A H0 H locs) (t0 : Nat) {q : Nat} (hq : q ∈ dl) {cA : ClassId} {n : Nat} {f : Nat → Int64} (ha : co q = .inl (cA, n, .inr (.inl f))) (ht : tys[t0]? = some (cA, .long)) {i : Int32} {x : Int64} (hin : vp_in i n) (hdg : decode cc pc = .ok (.lastore, 1))
    (kk : ∀ (H1 : Heap) (locs1 : List Loc), gW D cl A ad (va_up co q (.inl (cA, n, .inr (.inl (vp_updL f i.toNatClampNeg x))))) dl H1 → va_S A H0 H1 locs1 → W p l e R s m args below meth c H1 locs1 cells slots Q (F0 m (pc + 1) ls rest)) : W p l e R s m args below meth c H locs cells slots Q (F0 m pc ls (.long x :: .int i :: .ref (ad q) :: rest)) := by
  obtain ⟨j, hj⟩ := List.getElem?_of_mem hq
  refine va_last hexec hb hK hW.1 hW.2 hS j t0 (by rw [gw_at hj, ha]) ht hin hdg (fun H1 locs1 h1 h2 h3 => kk H1 locs1 ⟨?_, ?_⟩ h3)
  · rw [gw_set hW.2 hj] at h1; exact h1
  · rw [gw_set hW.2 hj] at h2; exact h2
theorem g_alen (hexec : p.tables.exec = Jvm.exec) (hb : c.code = cc) (hK : va_K D cl tys s) (hW : gW D cl A ad co dl H) (t0 : Nat) {q : Nat} (hq : q ∈ dl) {cA : ClassId} {x : vp_A} (ha : co q = .inl (cA, x)) {ty : FieldType} (ht : tys[t0]? = some (cA, ty)) {v : Int32} (hv : Int32.ofNat x.1 = v) (hdg : decode cc pc = .ok (.arraylength, 1))
    (kk : W p l e R s m args below meth c H locs cells slots Q (F0 m (pc + 1) ls (.int v :: rest))) : W p l e R s m args below meth c H locs cells slots Q (F0 m pc ls (.ref (ad q) :: rest)) := by
  obtain ⟨j, hj⟩ := List.getElem?_of_mem hq
  exact va_alen hexec hb hK hW.1 j t0 (by rw [gw_at hj, ha]) ht hv hdg kk
end GWR
section GWE
variable {p : Program} {l : Launch} {e : Env} {R : Room} {s : State} {m : MethodId} {args : Array Value} {below : List Frame} {meth : Method} {c : Code} {H : Heap} {locs : List Loc} {cells slots : Nat} {Q : State → Prop}
variable {cc : ByteArray} {pc : Nat} {ls : Array Slot} {rest : List Value} {D : va_G} {cl : List vw_C} {A : Nat → Prop} {tys : List (ClassId × FieldType)} {H0 : Heap} {ad : Nat → Nat} {co : Nat → va_E} {dl : List Nat}
theorem g_iret (hexec : p.tables.exec = Jvm.exec) (hb : c.code = cc) {post : Int32 → (Nat → va_E) → Prop} {co' : Nat → va_E} {v : Int32} (hr : meth.sig.returnType = some .int) (hlocks : meth.locks = false) (hW : gW D cl (gA ad co dl s.heap.size) ad co' dl H) (hS : va_S (gA ad co dl s.heap.size) s.heap H locs) (hp : post v co') (hdg : decode cc pc = .ok (.ireturn, 1)) : W p l e R s m args below meth c H locs cells slots (MQ below (va_Qi post (gB D cl (gA ad co dl s.heap.size) ad dl) (gA ad co dl s.heap.size)) args s cells slots (gA ad co dl s.heap.size)) (F0 m pc ls [.int v]) :=
  W.iret hexec hb hr (fun t ht _ => ⟨⟨v, co', rfl, hp, by rw [ht]; exact hW.1, hW.2⟩, hS.F ht⟩) hS.2.2 hdg hlocks
theorem g_lret (hexec : p.tables.exec = Jvm.exec) (hb : c.code = cc) {post : Int64 → (Nat → va_E) → Prop} {co' : Nat → va_E} {v : Int64} (hr : meth.sig.returnType = some .long) (hlocks : meth.locks = false) (hW : gW D cl (gA ad co dl s.heap.size) ad co' dl H) (hS : va_S (gA ad co dl s.heap.size) s.heap H locs) (hp : post v co') (hdg : decode cc pc = .ok (.lreturn, 1)) : W p l e R s m args below meth c H locs cells slots (MQ below (va_Ql post (gB D cl (gA ad co dl s.heap.size) ad dl) (gA ad co dl s.heap.size)) args s cells slots (gA ad co dl s.heap.size)) (F0 m pc ls [.long v]) :=
  W.lret hexec hb hr (fun t ht _ => ⟨⟨v, co', rfl, hp, by rw [ht]; exact hW.1, hW.2⟩, hS.F ht⟩) hS.2.2 hdg hlocks
theorem g_zret (hexec : p.tables.exec = Jvm.exec) (hb : c.code = cc) {post : Int32 → (Nat → va_E) → Prop} {co' : Nat → va_E} {v : Int32} {ty : FieldType} (hr : meth.sig.returnType = some ty) (hn : narrow ty (.int v) = .int v) (hlocks : meth.locks = false) (hW : gW D cl (gA ad co dl s.heap.size) ad co' dl H) (hS : va_S (gA ad co dl s.heap.size) s.heap H locs) (hp : post v co') (hdg : decode cc pc = .ok (.ireturn, 1)) : W p l e R s m args below meth c H locs cells slots (MQ below (va_Qi post (gB D cl (gA ad co dl s.heap.size) ad dl) (gA ad co dl s.heap.size)) args s cells slots (gA ad co dl s.heap.size)) (F0 m pc ls [.int v]) :=
  W.zret hexec hb hr hn (fun t ht _ => ⟨⟨v, co', rfl, hp, by rw [ht]; exact hW.1, hW.2⟩, hS.F ht⟩) hS.2.2 hdg hlocks
theorem g_vret (hexec : p.tables.exec = Jvm.exec) (hb : c.code = cc) {post : (Nat → va_E) → Prop} {co' : Nat → va_E} (hr : meth.sig.returnType = none) (hlocks : meth.locks = false) (hW : gW D cl (gA ad co dl s.heap.size) ad co' dl H) (hS : va_S (gA ad co dl s.heap.size) s.heap H locs) (hp : post co') (hdg : decode cc pc = .ok (.return_, 1)) : W p l e R s m args below meth c H locs cells slots (MQ below (va_Qv post (gB D cl (gA ad co dl s.heap.size) ad dl) (gA ad co dl s.heap.size)) args s cells slots (gA ad co dl s.heap.size)) (F0 m pc ls []) :=
  W.vret hexec hb hr (fun t ht _ => ⟨⟨co', rfl, hp, by rw [ht]; exact hW.1, hW.2⟩, hS.F ht⟩) hS.2.2 hdg hlocks
end GWE
section GWB
variable {l : Launch} {y : MethodName} {ws ws' : List Cond} {rm : Room} {D : va_G} {cl : List vw_C} {tys : List (ClassId × FieldType)} {nl : List Cond} {av : List Value} {ad : Nat → Nat} {co : Nat → va_E} {dl : List Nat} {cc : ByteArray} {maxL : Nat} {ret : Option FieldType}
/-- what holds in a method's body -/
def gC (p : Program) (s : State) (m : MethodId) (meth : Method) (c : Code) (cc : ByteArray) (maxL : Nat) (ret : Option FieldType) (ws : List Cond) (own : String) (av : List Value) (D : va_G) (cl : List vw_C) (tys : List (ClassId × FieldType)) (nl : List Cond) : Prop :=
  p.tables.exec = Jvm.exec ∧ c.code = cc ∧ meth.sig.returnType = ret ∧ (∀ w ∈ ws, w.before av.toArray s = true) ∧ s.vm.findClass own = some m.cls ∧ meth.locks = false ∧ c.maxLocals = maxL ∧ va_K D cl tys s ∧ gN nl s
theorem gMi_of {post : Int32 → (Nat → va_E) → Prop} (hy : plainName y.cls = true) (hw : ws = Cond.code y cc maxL ret :: ws') (hlen : (lg_sl av).length ≤ maxL)
    (body : ∀ (p : Program) (e : Env) (s : State) (m : MethodId) (below : List Frame) (meth : Method) (c : Code) (ls : Array Slot), gC p s m meth c cc maxL ret ws y.cls av D cl tys nl → gW D cl (gA ad co dl s.heap.size) ad co dl s.heap → va_S (gA ad co dl s.heap.size) s.heap s.heap [] → lv_has ls maxL (lv_args 0 av) →
      W p l e rm s m av.toArray below meth c s.heap [] 0 0 (MQ below (va_Qi post (gB D cl (gA ad co dl s.heap.size) ad dl) (gA ad co dl s.heap.size)) av.toArray s 0 0 (gA ad co dl s.heap.size)) (F0 m 0 ls [])) : gMi l y ws rm D cl tys nl av ad co dl post := by
  intro sz
  refine Met.ofW (cc := cc) (maxL := maxL) (ret := ret) hy hw ?_
  intro p e s m args below meth c s₁ B hml hv
  obtain ⟨rfl, hsz, hP, hK, hD0, hN⟩ := hv
  subst hsz
  rw [lg_entry_eq]
  exact body p e s m below meth c _ ⟨B.exec, B.bytes, B.returns, atoms_spec (ws := ws) B.pre, findClass_of_methodNamed B.named, B.notSynchronized, hml, hK, hN⟩ ⟨hP, hD0.self (sz := s.heap.size)⟩ va_S.rf (lv_entry av hlen)
theorem gMl_of {post : Int64 → (Nat → va_E) → Prop} (hy : plainName y.cls = true) (hw : ws = Cond.code y cc maxL ret :: ws') (hlen : (lg_sl av).length ≤ maxL)
    (body : ∀ (p : Program) (e : Env) (s : State) (m : MethodId) (below : List Frame) (meth : Method) (c : Code) (ls : Array Slot), gC p s m meth c cc maxL ret ws y.cls av D cl tys nl → gW D cl (gA ad co dl s.heap.size) ad co dl s.heap → va_S (gA ad co dl s.heap.size) s.heap s.heap [] → lv_has ls maxL (lv_args 0 av) →
      W p l e rm s m av.toArray below meth c s.heap [] 0 0 (MQ below (va_Ql post (gB D cl (gA ad co dl s.heap.size) ad dl) (gA ad co dl s.heap.size)) av.toArray s 0 0 (gA ad co dl s.heap.size)) (F0 m 0 ls [])) : gMl l y ws rm D cl tys nl av ad co dl post := by
  intro sz
  refine Met.ofW (cc := cc) (maxL := maxL) (ret := ret) hy hw ?_
  intro p e s m args below meth c s₁ B hml hv
  obtain ⟨rfl, hsz, hP, hK, hD0, hN⟩ := hv
  subst hsz
  rw [lg_entry_eq]
  exact body p e s m below meth c _ ⟨B.exec, B.bytes, B.returns, atoms_spec (ws := ws) B.pre, findClass_of_methodNamed B.named, B.notSynchronized, hml, hK, hN⟩ ⟨hP, hD0.self (sz := s.heap.size)⟩ va_S.rf (lv_entry av hlen)
theorem gMv_of {post : (Nat → va_E) → Prop} (hy : plainName y.cls = true) (hw : ws = Cond.code y cc maxL ret :: ws') (hlen : (lg_sl av).length ≤ maxL)
    (body : ∀ (p : Program) (e : Env) (s : State) (m : MethodId) (below : List Frame) (meth : Method) (c : Code) (ls : Array Slot), gC p s m meth c cc maxL ret ws y.cls av D cl tys nl → gW D cl (gA ad co dl s.heap.size) ad co dl s.heap → va_S (gA ad co dl s.heap.size) s.heap s.heap [] → lv_has ls maxL (lv_args 0 av) →
      W p l e rm s m av.toArray below meth c s.heap [] 0 0 (MQ below (va_Qv post (gB D cl (gA ad co dl s.heap.size) ad dl) (gA ad co dl s.heap.size)) av.toArray s 0 0 (gA ad co dl s.heap.size)) (F0 m 0 ls [])) : gMv l y ws rm D cl tys nl av ad co dl post := by
  intro sz
  refine Met.ofW (cc := cc) (maxL := maxL) (ret := ret) hy hw ?_
  intro p e s m args below meth c s₁ B hml hv
  obtain ⟨rfl, hsz, hP, hK, hD0, hN⟩ := hv
  subst hsz
  rw [lg_entry_eq]
  exact body p e s m below meth c _ ⟨B.exec, B.bytes, B.returns, atoms_spec (ws := ws) B.pre, findClass_of_methodNamed B.named, B.notSynchronized, hml, hK, hN⟩ ⟨hP, hD0.self (sz := s.heap.size)⟩ va_S.rf (lv_entry av hlen)
end GWB
section GWC
variable {p : Program} {l : Launch} {e : Env} {R : Room} {s : State} {m : MethodId} {args : Array Value} {below : List Frame} {meth : Method} {c : Code} {H : Heap} {locs : List Loc} {cells slots : Nat} {Q : State → Prop}
variable {cc : ByteArray} {pc : Nat} {ls : Array Slot} {rest : List Value} {D : va_G} {cl : List vw_C} {A : Nat → Prop} {tys : List (ClassId × FieldType)} {H0 : Heap} {ad : Nat → Nat} {co : Nat → va_E} {dl : List Nat}
variable {nl : List Cond} {y : MethodName} {bytes : ByteArray} {maxL nL n index ci N i : Nat} {ret : Option FieldType} {ws Ts : List Cond} {rm : Room} {own C host : String} {As st0 : List Value} {T : u_T} {fs : List Value}
theorem g_cVi {post : Int32 → (Nat → va_E) → Prop} (S : CallFix p m c cc nL s args Ts own) (hM : gMi l y ws rm D cl tys nl (.ref (ad i) :: As) ad co dl post) (cw : CallW R s args own C index y bytes maxL ret ws rm 0 0 n) (hk : ∀ w ∈ nl, gNk w) (hN : gN nl s) (hK : va_K D cl tys s) (hW : gW D cl A ad co dl H) (hS : va_S A H0 H locs) (hA : ∀ q, H0.size ≤ q → A q) (hi : i ∈ dl) (he : co i = .inr (ci, fs)) (hc : cl[ci]? = some (C, T, N)) (hn : As.length = n) (hsize : ls.size = nL) (hstack : st0 = As.reverse ++ .ref (ad i) :: rest) (hr : (rest.map fun v => v.category).sum ≤ 8) (hdg : decode cc pc = .ok (.invokevirtual index, 3)) (hf : cells ≤ R.cells ∧ slots ≤ R.slots)
    (kk : ∀ (r : Int32) (co' : Nat → va_E) (H1 : Heap) (locs1 : List Loc), post r co' → gW D cl A ad co' dl H1 → va_S A H0 H1 locs1 → W p l e R s m args below meth c H1 locs1 cells slots Q (F0 m (pc + 3) ls (.int r :: rest))) : W p l e R s m args below meth c H locs cells slots Q (F0 m pc ls st0) := by
  have hFc := gfree hW hS hA
  have hrecv : ∃ cell : Cell, H[ad i]? = some cell ∧ cell.vm.isStatics = false ∧ s.vm.findClass C = some cell.cls := by
    obtain ⟨j, hj⟩ := List.getElem?_of_mem hi
    exact va_recv hK hW.1 hc (by rw [gw_at hj, he])
  exact va_calli (va_runV (As := As) (rest := rest) S (hM H.size) cw ⟨gPre_blind hk, hrecv, gPre_at hk hK hN hW⟩ rfl hn hsize hstack (lv_room hr) hdg hf) hS (fun q _ h => hFc q h) hFc (fun r u t H1 locs1 ht hvm hp hB hz1 hk1 hS1 => kk r u H1 locs1 hp ⟨by rw [← ht]; exact hB.1, hB.2.weaken (fun _ _ _ h => hFc _ h)⟩ hS1)
theorem g_cVNi {post : Int32 → (Nat → va_E) → Prop} (S : CallFix p m c cc nL s args Ts own) (hM : gMi l y ws rm D cl tys nl (.ref (ad i) :: As) ad co dl post) (cw : va_CN R s args own index y host bytes maxL ret ws rm 0 0 n ∧ (Cond.instanceMethod y).before args s = true ∧ (Cond.selects C y y).before args s = true) (hk : ∀ w ∈ nl, gNk w) (hN : gN nl s) (hK : va_K D cl tys s) (hW : gW D cl A ad co dl H) (hS : va_S A H0 H locs) (hA : ∀ q, H0.size ≤ q → A q) (hi : i ∈ dl) (he : co i = .inr (ci, fs)) (hc : cl[ci]? = some (C, T, N)) (hn : As.length = n) (hsize : ls.size = nL) (hstack : st0 = As.reverse ++ .ref (ad i) :: rest) (hr : (rest.map fun v => v.category).sum ≤ 8) (hdg : decode cc pc = .ok (.invokevirtual index, 3)) (hf : cells ≤ R.cells ∧ slots ≤ R.slots)
    (kk : ∀ (r : Int32) (co' : Nat → va_E) (H1 : Heap) (locs1 : List Loc), post r co' → gW D cl A ad co' dl H1 → va_S A H0 H1 locs1 → W p l e R s m args below meth c H1 locs1 cells slots Q (F0 m (pc + 3) ls (.int r :: rest))) : W p l e R s m args below meth c H locs cells slots Q (F0 m pc ls st0) := by
  have hFc := gfree hW hS hA
  have hrecv : ∃ cell : Cell, H[ad i]? = some cell ∧ cell.vm.isStatics = false ∧ s.vm.findClass C = some cell.cls := by
    obtain ⟨j, hj⟩ := List.getElem?_of_mem hi
    exact va_recv hK hW.1 hc (by rw [gw_at hj, he])
  exact va_calli (va_runVN (As := As) (rest := rest) S (hM H.size) cw ⟨gPre_blind hk, hrecv, gPre_at hk hK hN hW⟩ rfl hn hsize hstack (lv_room hr) hdg hf) hS (fun q _ h => hFc q h) hFc (fun r u t H1 locs1 ht hvm hp hB hz1 hk1 hS1 => kk r u H1 locs1 hp ⟨by rw [← ht]; exact hB.1, hB.2.weaken (fun _ _ _ h => hFc _ h)⟩ hS1)
theorem g_cSi {post : Int32 → (Nat → va_E) → Prop} (S : CallFix p m c cc nL s args Ts own) (hM : gMi l y ws rm D cl tys nl (As) ad co dl post) (cw : CallB R s args own index y bytes maxL ret ws rm 0 0 n ∧ (Cond.static y).before args s = true) (hk : ∀ w ∈ nl, gNk w) (hN : gN nl s) (hK : va_K D cl tys s) (hW : gW D cl A ad co dl H) (hS : va_S A H0 H locs) (hA : ∀ q, H0.size ≤ q → A q) (hn : As.length = n) (hsize : ls.size = nL) (hstack : st0 = As.reverse ++ rest) (hr : (rest.map fun v => v.category).sum ≤ 8) (hdg : decode cc pc = .ok (.invokestatic index, 3)) (hf : cells ≤ R.cells ∧ slots ≤ R.slots)
    (kk : ∀ (r : Int32) (co' : Nat → va_E) (H1 : Heap) (locs1 : List Loc), post r co' → gW D cl A ad co' dl H1 → va_S A H0 H1 locs1 → W p l e R s m args below meth c H1 locs1 cells slots Q (F0 m (pc + 3) ls (.int r :: rest))) : W p l e R s m args below meth c H locs cells slots Q (F0 m pc ls st0) := by
  have hFc := gfree hW hS hA
  exact va_calli (va_runS (As := As) (rest := rest) S (hM H.size) cw ⟨gPre_blind hk, gPre_at hk hK hN hW⟩ rfl hn hsize hstack (lv_room hr) hdg hf) hS (fun q _ h => hFc q h) hFc (fun r u t H1 locs1 ht hvm hp hB hz1 hk1 hS1 => kk r u H1 locs1 hp ⟨by rw [← ht]; exact hB.1, hB.2.weaken (fun _ _ _ h => hFc _ h)⟩ hS1)
theorem g_cSNi {post : Int32 → (Nat → va_E) → Prop} (S : CallFix p m c cc nL s args Ts own) (hM : gMi l y ws rm D cl tys nl (As) ad co dl post) (cw : va_CN R s args own index y host bytes maxL ret ws rm 0 0 n ∧ (Cond.static y).before args s = true ∧ True) (hk : ∀ w ∈ nl, gNk w) (hN : gN nl s) (hK : va_K D cl tys s) (hW : gW D cl A ad co dl H) (hS : va_S A H0 H locs) (hA : ∀ q, H0.size ≤ q → A q) (hn : As.length = n) (hsize : ls.size = nL) (hstack : st0 = As.reverse ++ rest) (hr : (rest.map fun v => v.category).sum ≤ 8) (hdg : decode cc pc = .ok (.invokestatic index, 3)) (hf : cells ≤ R.cells ∧ slots ≤ R.slots)
    (kk : ∀ (r : Int32) (co' : Nat → va_E) (H1 : Heap) (locs1 : List Loc), post r co' → gW D cl A ad co' dl H1 → va_S A H0 H1 locs1 → W p l e R s m args below meth c H1 locs1 cells slots Q (F0 m (pc + 3) ls (.int r :: rest))) : W p l e R s m args below meth c H locs cells slots Q (F0 m pc ls st0) := by
  have hFc := gfree hW hS hA
  exact va_calli (va_runSN (As := As) (rest := rest) S (hM H.size) cw ⟨gPre_blind hk, gPre_at hk hK hN hW⟩ rfl hn hsize hstack (lv_room hr) hdg hf) hS (fun q _ h => hFc q h) hFc (fun r u t H1 locs1 ht hvm hp hB hz1 hk1 hS1 => kk r u H1 locs1 hp ⟨by rw [← ht]; exact hB.1, hB.2.weaken (fun _ _ _ h => hFc _ h)⟩ hS1)
theorem g_cVl {post : Int64 → (Nat → va_E) → Prop} (S : CallFix p m c cc nL s args Ts own) (hM : gMl l y ws rm D cl tys nl (.ref (ad i) :: As) ad co dl post) (cw : CallW R s args own C index y bytes maxL ret ws rm 0 0 n) (hk : ∀ w ∈ nl, gNk w) (hN : gN nl s) (hK : va_K D cl tys s) (hW : gW D cl A ad co dl H) (hS : va_S A H0 H locs) (hA : ∀ q, H0.size ≤ q → A q) (hi : i ∈ dl) (he : co i = .inr (ci, fs)) (hc : cl[ci]? = some (C, T, N)) (hn : As.length = n) (hsize : ls.size = nL) (hstack : st0 = As.reverse ++ .ref (ad i) :: rest) (hr : (rest.map fun v => v.category).sum ≤ 8) (hdg : decode cc pc = .ok (.invokevirtual index, 3)) (hf : cells ≤ R.cells ∧ slots ≤ R.slots)
    (kk : ∀ (r : Int64) (co' : Nat → va_E) (H1 : Heap) (locs1 : List Loc), post r co' → gW D cl A ad co' dl H1 → va_S A H0 H1 locs1 → W p l e R s m args below meth c H1 locs1 cells slots Q (F0 m (pc + 3) ls (.long r :: rest))) : W p l e R s m args below meth c H locs cells slots Q (F0 m pc ls st0) := by
  have hFc := gfree hW hS hA
  have hrecv : ∃ cell : Cell, H[ad i]? = some cell ∧ cell.vm.isStatics = false ∧ s.vm.findClass C = some cell.cls := by
    obtain ⟨j, hj⟩ := List.getElem?_of_mem hi
    exact va_recv hK hW.1 hc (by rw [gw_at hj, he])
  exact va_calll (va_runV (As := As) (rest := rest) S (hM H.size) cw ⟨gPre_blind hk, hrecv, gPre_at hk hK hN hW⟩ rfl hn hsize hstack (lv_room hr) hdg hf) hS (fun q _ h => hFc q h) hFc (fun r u t H1 locs1 ht hvm hp hB hz1 hk1 hS1 => kk r u H1 locs1 hp ⟨by rw [← ht]; exact hB.1, hB.2.weaken (fun _ _ _ h => hFc _ h)⟩ hS1)
theorem g_cVNl {post : Int64 → (Nat → va_E) → Prop} (S : CallFix p m c cc nL s args Ts own) (hM : gMl l y ws rm D cl tys nl (.ref (ad i) :: As) ad co dl post) (cw : va_CN R s args own index y host bytes maxL ret ws rm 0 0 n ∧ (Cond.instanceMethod y).before args s = true ∧ (Cond.selects C y y).before args s = true) (hk : ∀ w ∈ nl, gNk w) (hN : gN nl s) (hK : va_K D cl tys s) (hW : gW D cl A ad co dl H) (hS : va_S A H0 H locs) (hA : ∀ q, H0.size ≤ q → A q) (hi : i ∈ dl) (he : co i = .inr (ci, fs)) (hc : cl[ci]? = some (C, T, N)) (hn : As.length = n) (hsize : ls.size = nL) (hstack : st0 = As.reverse ++ .ref (ad i) :: rest) (hr : (rest.map fun v => v.category).sum ≤ 8) (hdg : decode cc pc = .ok (.invokevirtual index, 3)) (hf : cells ≤ R.cells ∧ slots ≤ R.slots)
    (kk : ∀ (r : Int64) (co' : Nat → va_E) (H1 : Heap) (locs1 : List Loc), post r co' → gW D cl A ad co' dl H1 → va_S A H0 H1 locs1 → W p l e R s m args below meth c H1 locs1 cells slots Q (F0 m (pc + 3) ls (.long r :: rest))) : W p l e R s m args below meth c H locs cells slots Q (F0 m pc ls st0) := by
  have hFc := gfree hW hS hA
  have hrecv : ∃ cell : Cell, H[ad i]? = some cell ∧ cell.vm.isStatics = false ∧ s.vm.findClass C = some cell.cls := by
    obtain ⟨j, hj⟩ := List.getElem?_of_mem hi
    exact va_recv hK hW.1 hc (by rw [gw_at hj, he])
  exact va_calll (va_runVN (As := As) (rest := rest) S (hM H.size) cw ⟨gPre_blind hk, hrecv, gPre_at hk hK hN hW⟩ rfl hn hsize hstack (lv_room hr) hdg hf) hS (fun q _ h => hFc q h) hFc (fun r u t H1 locs1 ht hvm hp hB hz1 hk1 hS1 => kk r u H1 locs1 hp ⟨by rw [← ht]; exact hB.1, hB.2.weaken (fun _ _ _ h => hFc _ h)⟩ hS1)
theorem g_cSl {post : Int64 → (Nat → va_E) → Prop} (S : CallFix p m c cc nL s args Ts own) (hM : gMl l y ws rm D cl tys nl (As) ad co dl post) (cw : CallB R s args own index y bytes maxL ret ws rm 0 0 n ∧ (Cond.static y).before args s = true) (hk : ∀ w ∈ nl, gNk w) (hN : gN nl s) (hK : va_K D cl tys s) (hW : gW D cl A ad co dl H) (hS : va_S A H0 H locs) (hA : ∀ q, H0.size ≤ q → A q) (hn : As.length = n) (hsize : ls.size = nL) (hstack : st0 = As.reverse ++ rest) (hr : (rest.map fun v => v.category).sum ≤ 8) (hdg : decode cc pc = .ok (.invokestatic index, 3)) (hf : cells ≤ R.cells ∧ slots ≤ R.slots)
    (kk : ∀ (r : Int64) (co' : Nat → va_E) (H1 : Heap) (locs1 : List Loc), post r co' → gW D cl A ad co' dl H1 → va_S A H0 H1 locs1 → W p l e R s m args below meth c H1 locs1 cells slots Q (F0 m (pc + 3) ls (.long r :: rest))) : W p l e R s m args below meth c H locs cells slots Q (F0 m pc ls st0) := by
  have hFc := gfree hW hS hA
  exact va_calll (va_runS (As := As) (rest := rest) S (hM H.size) cw ⟨gPre_blind hk, gPre_at hk hK hN hW⟩ rfl hn hsize hstack (lv_room hr) hdg hf) hS (fun q _ h => hFc q h) hFc (fun r u t H1 locs1 ht hvm hp hB hz1 hk1 hS1 => kk r u H1 locs1 hp ⟨by rw [← ht]; exact hB.1, hB.2.weaken (fun _ _ _ h => hFc _ h)⟩ hS1)
theorem g_cSNl {post : Int64 → (Nat → va_E) → Prop} (S : CallFix p m c cc nL s args Ts own) (hM : gMl l y ws rm D cl tys nl (As) ad co dl post) (cw : va_CN R s args own index y host bytes maxL ret ws rm 0 0 n ∧ (Cond.static y).before args s = true ∧ True) (hk : ∀ w ∈ nl, gNk w) (hN : gN nl s) (hK : va_K D cl tys s) (hW : gW D cl A ad co dl H) (hS : va_S A H0 H locs) (hA : ∀ q, H0.size ≤ q → A q) (hn : As.length = n) (hsize : ls.size = nL) (hstack : st0 = As.reverse ++ rest) (hr : (rest.map fun v => v.category).sum ≤ 8) (hdg : decode cc pc = .ok (.invokestatic index, 3)) (hf : cells ≤ R.cells ∧ slots ≤ R.slots)
    (kk : ∀ (r : Int64) (co' : Nat → va_E) (H1 : Heap) (locs1 : List Loc), post r co' → gW D cl A ad co' dl H1 → va_S A H0 H1 locs1 → W p l e R s m args below meth c H1 locs1 cells slots Q (F0 m (pc + 3) ls (.long r :: rest))) : W p l e R s m args below meth c H locs cells slots Q (F0 m pc ls st0) := by
  have hFc := gfree hW hS hA
  exact va_calll (va_runSN (As := As) (rest := rest) S (hM H.size) cw ⟨gPre_blind hk, gPre_at hk hK hN hW⟩ rfl hn hsize hstack (lv_room hr) hdg hf) hS (fun q _ h => hFc q h) hFc (fun r u t H1 locs1 ht hvm hp hB hz1 hk1 hS1 => kk r u H1 locs1 hp ⟨by rw [← ht]; exact hB.1, hB.2.weaken (fun _ _ _ h => hFc _ h)⟩ hS1)
theorem g_cVv {post : (Nat → va_E) → Prop} (S : CallFix p m c cc nL s args Ts own) (hM : gMv l y ws rm D cl tys nl (.ref (ad i) :: As) ad co dl post) (cw : CallW R s args own C index y bytes maxL ret ws rm 0 0 n) (hk : ∀ w ∈ nl, gNk w) (hN : gN nl s) (hK : va_K D cl tys s) (hW : gW D cl A ad co dl H) (hS : va_S A H0 H locs) (hA : ∀ q, H0.size ≤ q → A q) (hi : i ∈ dl) (he : co i = .inr (ci, fs)) (hc : cl[ci]? = some (C, T, N)) (hn : As.length = n) (hsize : ls.size = nL) (hstack : st0 = As.reverse ++ .ref (ad i) :: rest) (hr : (rest.map fun v => v.category).sum ≤ 8) (hdg : decode cc pc = .ok (.invokevirtual index, 3)) (hf : cells ≤ R.cells ∧ slots ≤ R.slots)
    (kk : ∀ (co' : Nat → va_E) (H1 : Heap) (locs1 : List Loc), post co' → gW D cl A ad co' dl H1 → va_S A H0 H1 locs1 → W p l e R s m args below meth c H1 locs1 cells slots Q (F0 m (pc + 3) ls (rest))) : W p l e R s m args below meth c H locs cells slots Q (F0 m pc ls st0) := by
  have hFc := gfree hW hS hA
  have hrecv : ∃ cell : Cell, H[ad i]? = some cell ∧ cell.vm.isStatics = false ∧ s.vm.findClass C = some cell.cls := by
    obtain ⟨j, hj⟩ := List.getElem?_of_mem hi
    exact va_recv hK hW.1 hc (by rw [gw_at hj, he])
  exact va_callv (va_runV (As := As) (rest := rest) S (hM H.size) cw ⟨gPre_blind hk, hrecv, gPre_at hk hK hN hW⟩ rfl hn hsize hstack (lv_room hr) hdg hf) hS (fun q _ h => hFc q h) hFc (fun u t H1 locs1 ht hvm hp hB hz1 hk1 hS1 => kk u H1 locs1 hp ⟨by rw [← ht]; exact hB.1, hB.2.weaken (fun _ _ _ h => hFc _ h)⟩ hS1)
theorem g_cVNv {post : (Nat → va_E) → Prop} (S : CallFix p m c cc nL s args Ts own) (hM : gMv l y ws rm D cl tys nl (.ref (ad i) :: As) ad co dl post) (cw : va_CN R s args own index y host bytes maxL ret ws rm 0 0 n ∧ (Cond.instanceMethod y).before args s = true ∧ (Cond.selects C y y).before args s = true) (hk : ∀ w ∈ nl, gNk w) (hN : gN nl s) (hK : va_K D cl tys s) (hW : gW D cl A ad co dl H) (hS : va_S A H0 H locs) (hA : ∀ q, H0.size ≤ q → A q) (hi : i ∈ dl) (he : co i = .inr (ci, fs)) (hc : cl[ci]? = some (C, T, N)) (hn : As.length = n) (hsize : ls.size = nL) (hstack : st0 = As.reverse ++ .ref (ad i) :: rest) (hr : (rest.map fun v => v.category).sum ≤ 8) (hdg : decode cc pc = .ok (.invokevirtual index, 3)) (hf : cells ≤ R.cells ∧ slots ≤ R.slots)
    (kk : ∀ (co' : Nat → va_E) (H1 : Heap) (locs1 : List Loc), post co' → gW D cl A ad co' dl H1 → va_S A H0 H1 locs1 → W p l e R s m args below meth c H1 locs1 cells slots Q (F0 m (pc + 3) ls (rest))) : W p l e R s m args below meth c H locs cells slots Q (F0 m pc ls st0) := by
  have hFc := gfree hW hS hA
  have hrecv : ∃ cell : Cell, H[ad i]? = some cell ∧ cell.vm.isStatics = false ∧ s.vm.findClass C = some cell.cls := by
    obtain ⟨j, hj⟩ := List.getElem?_of_mem hi
    exact va_recv hK hW.1 hc (by rw [gw_at hj, he])
  exact va_callv (va_runVN (As := As) (rest := rest) S (hM H.size) cw ⟨gPre_blind hk, hrecv, gPre_at hk hK hN hW⟩ rfl hn hsize hstack (lv_room hr) hdg hf) hS (fun q _ h => hFc q h) hFc (fun u t H1 locs1 ht hvm hp hB hz1 hk1 hS1 => kk u H1 locs1 hp ⟨by rw [← ht]; exact hB.1, hB.2.weaken (fun _ _ _ h => hFc _ h)⟩ hS1)
theorem g_cSv {post : (Nat → va_E) → Prop} (S : CallFix p m c cc nL s args Ts own) (hM : gMv l y ws rm D cl tys nl (As) ad co dl post) (cw : CallB R s args own index y bytes maxL ret ws rm 0 0 n ∧ (Cond.static y).before args s = true) (hk : ∀ w ∈ nl, gNk w) (hN : gN nl s) (hK : va_K D cl tys s) (hW : gW D cl A ad co dl H) (hS : va_S A H0 H locs) (hA : ∀ q, H0.size ≤ q → A q) (hn : As.length = n) (hsize : ls.size = nL) (hstack : st0 = As.reverse ++ rest) (hr : (rest.map fun v => v.category).sum ≤ 8) (hdg : decode cc pc = .ok (.invokestatic index, 3)) (hf : cells ≤ R.cells ∧ slots ≤ R.slots)
    (kk : ∀ (co' : Nat → va_E) (H1 : Heap) (locs1 : List Loc), post co' → gW D cl A ad co' dl H1 → va_S A H0 H1 locs1 → W p l e R s m args below meth c H1 locs1 cells slots Q (F0 m (pc + 3) ls (rest))) : W p l e R s m args below meth c H locs cells slots Q (F0 m pc ls st0) := by
  have hFc := gfree hW hS hA
  exact va_callv (va_runS (As := As) (rest := rest) S (hM H.size) cw ⟨gPre_blind hk, gPre_at hk hK hN hW⟩ rfl hn hsize hstack (lv_room hr) hdg hf) hS (fun q _ h => hFc q h) hFc (fun u t H1 locs1 ht hvm hp hB hz1 hk1 hS1 => kk u H1 locs1 hp ⟨by rw [← ht]; exact hB.1, hB.2.weaken (fun _ _ _ h => hFc _ h)⟩ hS1)
theorem g_cSNv {post : (Nat → va_E) → Prop} (S : CallFix p m c cc nL s args Ts own) (hM : gMv l y ws rm D cl tys nl (As) ad co dl post) (cw : va_CN R s args own index y host bytes maxL ret ws rm 0 0 n ∧ (Cond.static y).before args s = true ∧ True) (hk : ∀ w ∈ nl, gNk w) (hN : gN nl s) (hK : va_K D cl tys s) (hW : gW D cl A ad co dl H) (hS : va_S A H0 H locs) (hA : ∀ q, H0.size ≤ q → A q) (hn : As.length = n) (hsize : ls.size = nL) (hstack : st0 = As.reverse ++ rest) (hr : (rest.map fun v => v.category).sum ≤ 8) (hdg : decode cc pc = .ok (.invokestatic index, 3)) (hf : cells ≤ R.cells ∧ slots ≤ R.slots)
    (kk : ∀ (co' : Nat → va_E) (H1 : Heap) (locs1 : List Loc), post co' → gW D cl A ad co' dl H1 → va_S A H0 H1 locs1 → W p l e R s m args below meth c H1 locs1 cells slots Q (F0 m (pc + 3) ls (rest))) : W p l e R s m args below meth c H locs cells slots Q (F0 m pc ls st0) := by
  have hFc := gfree hW hS hA
  exact va_callv (va_runSN (As := As) (rest := rest) S (hM H.size) cw ⟨gPre_blind hk, gPre_at hk hK hN hW⟩ rfl hn hsize hstack (lv_room hr) hdg hf) hS (fun q _ h => hFc q h) hFc (fun u t H1 locs1 ht hvm hp hB hz1 hk1 hS1 => kk u H1 locs1 hp ⟨by rw [← ht]; exact hB.1, hB.2.weaken (fun _ _ _ h => hFc _ h)⟩ hS1)
end GWC
end
section
/-! Rows for numbers that are natural: nI j -/
section NATR
variable {p : Program} {l : Launch} {e : Env} {R : Room} {s : State} {m : MethodId} {args : Array Value} {below : List Frame} {meth : Method} {c : Code} {H : Heap} {locs : List Loc} {cells slots : Nat} {Q : State → Prop}
variable {cc : ByteArray} {pc : Nat} {ls : Array Slot} {rest : List Value} {D : va_G} {cl : List vw_C} {A : Nat → Prop} {tys : List (ClassId × FieldType)} {H0 : Heap} {ad : Nat → Nat} {co : Nat → va_E} {dl : List Nat}
theorem n_topi {x x' : Int32} (h : x = x') (k : W p l e R s m args below meth c H locs cells slots Q (F0 m pc ls (.int x' :: rest))) : W p l e R s m args below meth c H locs cells slots Q (F0 m pc ls (.int x :: rest)) := by
  rw [h]
  exact k
theorem n_topl {x x' : Int64} (h : x = x') (k : W p l e R s m args below meth c H locs cells slots Q (F0 m pc ls (.long x' :: rest))) : W p l e R s m args below meth c H locs cells slots Q (F0 m pc ls (.long x :: rest)) := by
  rw [h]
  exact k
theorem n_add (hexec : p.tables.exec = Jvm.exec) (hb : c.code = cc) {a b : Nat} (hdg : decode cc pc = .ok (.iadd, 1)) (k : W p l e R s m args below meth c H locs cells slots Q (F0 m (pc + 1) ls (.int (nI (a + b)) :: rest))) : W p l e R s m args below meth c H locs cells slots Q (F0 m pc ls (.int (nI b) :: .int (nI a) :: rest)) := by
  refine lv_iadd hexec hb hdg ?_
  rw [nI_add]
  exact k
theorem n_sub (hexec : p.tables.exec = Jvm.exec) (hb : c.code = cc) {a b : Nat} (h : b ≤ a) (hdg : decode cc pc = .ok (.isub, 1)) (k : W p l e R s m args below meth c H locs cells slots Q (F0 m (pc + 1) ls (.int (nI (a - b)) :: rest))) : W p l e R s m args below meth c H locs cells slots Q (F0 m pc ls (.int (nI b) :: .int (nI a) :: rest)) := by
  refine lv_isub hexec hb hdg ?_
  rw [pk_sub h]
  exact k
theorem n_mul (hexec : p.tables.exec = Jvm.exec) (hb : c.code = cc) {a b : Nat} (hdg : decode cc pc = .ok (.imul, 1)) (k : W p l e R s m args below meth c H locs cells slots Q (F0 m (pc + 1) ls (.int (nI (a * b)) :: rest))) : W p l e R s m args below meth c H locs cells slots Q (F0 m pc ls (.int (nI b) :: .int (nI a) :: rest)) := by
  refine lv_imul hexec hb hdg ?_
  rw [pk_mul]
  exact k
theorem n_div (hexec : p.tables.exec = Jvm.exec) (hb : c.code = cc) {a b : Nat} (ha : a < 2 ^ 31) (h0 : 0 < b) (hb1 : b < 2 ^ 31) (hdg : decode cc pc = .ok (.idiv, 1)) (k : W p l e R s m args below meth c H locs cells slots Q (F0 m (pc + 1) ls (.int (nI (a / b)) :: rest))) : W p l e R s m args below meth c H locs cells slots Q (F0 m pc ls (.int (nI b) :: .int (nI a) :: rest)) := by
  refine lv_idiv hexec hb hdg (nI_ne0 h0 hb1) ?_
  rw [pk_div ha h0 hb1]
  exact k
theorem n_iinc (hexec : p.tables.exec = Jvm.exec) (hb : c.code = cc) {i nL k j : Nat} {lv lv' : List (Nat × Value)} (hdg : decode cc pc = .ok (.iinc i 1, 3)) (h : lv_has ls nL lv) (hk : lv[k]? = some (i, .int (nI j))) (hn : i < nL) (hl : (i, Value.int (nI (j + 1))) :: lv.filter (fun q => !(q.1 == i) && !(q.1 + 1 == i && q.2.category == 2)) = lv')
    (kk : ∀ ls' : Array Slot, lv_has ls' nL lv' → W p l e R s m args below meth c H locs cells slots Q (F0 m (pc + 3) ls' rest)) : W p l e R s m args below meth c H locs cells slots Q (F0 m pc ls rest) :=
  lv_iinc hexec hb hdg h hk (show nI j + Int32.ofInt 1 = nI (j + 1) from nI_1 j) hn hl kk
theorem n_idec (hexec : p.tables.exec = Jvm.exec) (hb : c.code = cc) {i nL k j : Nat} {lv lv' : List (Nat × Value)} (hdg : decode cc pc = .ok (.iinc i (-1), 3)) (h : lv_has ls nL lv) (hk : lv[k]? = some (i, .int (nI (j + 1)))) (hn : i < nL) (hl : (i, Value.int (nI j)) :: lv.filter (fun q => !(q.1 == i) && !(q.1 + 1 == i && q.2.category == 2)) = lv')
    (kk : ∀ ls' : Array Slot, lv_has ls' nL lv' → W p l e R s m args below meth c H locs cells slots Q (F0 m (pc + 3) ls' rest)) : W p l e R s m args below meth c H locs cells slots Q (F0 m pc ls rest) :=
  lv_iinc hexec hb hdg h hk (show nI (j + 1) + Int32.ofInt (-1) = nI j from pk_m1 j) hn hl kk
theorem n_icmp_eq (hexec : p.tables.exec = Jvm.exec) (hb : c.code = cc) {a b : Nat} (ha : a < 2 ^ 31) (hb1 : b < 2 ^ 31) {off : Int} {tgt : Nat} (hdg : decode cc pc = .ok (.if_icmp .eq off, 3)) (ht : (pc : Int) + off = (tgt : Int)) (kt : a = b → W p l e R s m args below meth c H locs cells slots Q (F0 m tgt ls rest)) (kf : ¬ a = b → W p l e R s m args below meth c H locs cells slots Q (F0 m (pc + 3) ls rest)) : W p l e R s m args below meth c H locs cells slots Q (F0 m pc ls (.int (nI b) :: .int (nI a) :: rest)) :=
  lv_icmp_eq hexec hb hdg ht (fun h => kt ((nI_eq ha hb1).mp h)) (fun h => kf (fun q => h ((nI_eq ha hb1).mpr q)))
theorem n_icmp_ne (hexec : p.tables.exec = Jvm.exec) (hb : c.code = cc) {a b : Nat} (ha : a < 2 ^ 31) (hb1 : b < 2 ^ 31) {off : Int} {tgt : Nat} (hdg : decode cc pc = .ok (.if_icmp .ne off, 3)) (ht : (pc : Int) + off = (tgt : Int)) (kt : ¬ a = b → W p l e R s m args below meth c H locs cells slots Q (F0 m tgt ls rest)) (kf : a = b → W p l e R s m args below meth c H locs cells slots Q (F0 m (pc + 3) ls rest)) : W p l e R s m args below meth c H locs cells slots Q (F0 m pc ls (.int (nI b) :: .int (nI a) :: rest)) :=
  lv_icmp_ne hexec hb hdg ht (fun h => kt (fun q => h ((nI_eq ha hb1).mpr q))) (fun h => kf ((nI_eq ha hb1).mp h))
theorem n_icmp_lt (hexec : p.tables.exec = Jvm.exec) (hb : c.code = cc) {a b : Nat} (ha : a < 2 ^ 31) (hb1 : b < 2 ^ 31) {off : Int} {tgt : Nat} (hdg : decode cc pc = .ok (.if_icmp .lt off, 3)) (ht : (pc : Int) + off = (tgt : Int)) (kt : a < b → W p l e R s m args below meth c H locs cells slots Q (F0 m tgt ls rest)) (kf : b ≤ a → W p l e R s m args below meth c H locs cells slots Q (F0 m (pc + 3) ls rest)) : W p l e R s m args below meth c H locs cells slots Q (F0 m pc ls (.int (nI b) :: .int (nI a) :: rest)) :=
  lv_icmp_lt hexec hb hdg ht (fun h => kt ((nI_ltI ha hb1).mp h)) (fun h => kf (Nat.not_lt.mp (fun q => h ((nI_ltI ha hb1).mpr q))))
theorem n_icmp_ge (hexec : p.tables.exec = Jvm.exec) (hb : c.code = cc) {a b : Nat} (ha : a < 2 ^ 31) (hb1 : b < 2 ^ 31) {off : Int} {tgt : Nat} (hdg : decode cc pc = .ok (.if_icmp .ge off, 3)) (ht : (pc : Int) + off = (tgt : Int)) (kt : b ≤ a → W p l e R s m args below meth c H locs cells slots Q (F0 m tgt ls rest)) (kf : a < b → W p l e R s m args below meth c H locs cells slots Q (F0 m (pc + 3) ls rest)) : W p l e R s m args below meth c H locs cells slots Q (F0 m pc ls (.int (nI b) :: .int (nI a) :: rest)) :=
  lv_icmp_ge hexec hb hdg ht (fun h => kt ((nI_leI hb1 ha).mp h)) (fun h => kf (Nat.not_le.mp (fun q => h ((nI_leI hb1 ha).mpr q))))
theorem n_icmp_gt (hexec : p.tables.exec = Jvm.exec) (hb : c.code = cc) {a b : Nat} (ha : a < 2 ^ 31) (hb1 : b < 2 ^ 31) {off : Int} {tgt : Nat} (hdg : decode cc pc = .ok (.if_icmp .gt off, 3)) (ht : (pc : Int) + off = (tgt : Int)) (kt : b < a → W p l e R s m args below meth c H locs cells slots Q (F0 m tgt ls rest)) (kf : a ≤ b → W p l e R s m args below meth c H locs cells slots Q (F0 m (pc + 3) ls rest)) : W p l e R s m args below meth c H locs cells slots Q (F0 m pc ls (.int (nI b) :: .int (nI a) :: rest)) :=
  lv_icmp_gt hexec hb hdg ht (fun h => kt ((nI_ltI hb1 ha).mp h)) (fun h => kf (Nat.not_lt.mp (fun q => h ((nI_ltI hb1 ha).mpr q))))
theorem n_icmp_le (hexec : p.tables.exec = Jvm.exec) (hb : c.code = cc) {a b : Nat} (ha : a < 2 ^ 31) (hb1 : b < 2 ^ 31) {off : Int} {tgt : Nat} (hdg : decode cc pc = .ok (.if_icmp .le off, 3)) (ht : (pc : Int) + off = (tgt : Int)) (kt : a ≤ b → W p l e R s m args below meth c H locs cells slots Q (F0 m tgt ls rest)) (kf : b < a → W p l e R s m args below meth c H locs cells slots Q (F0 m (pc + 3) ls rest)) : W p l e R s m args below meth c H locs cells slots Q (F0 m pc ls (.int (nI b) :: .int (nI a) :: rest)) :=
  lv_icmp_le hexec hb hdg ht (fun h => kt ((nI_leI ha hb1).mp h)) (fun h => kf (Nat.not_le.mp (fun q => h ((nI_leI ha hb1).mpr q))))
theorem n_if_eq (hexec : p.tables.exec = Jvm.exec) (hb : c.code = cc) {a : Nat} (ha : a < 2 ^ 31) {off : Int} {tgt : Nat} (hdg : decode cc pc = .ok (.ifCond .eq off, 3)) (ht : (pc : Int) + off = (tgt : Int)) (kt : a = 0 → W p l e R s m args below meth c H locs cells slots Q (F0 m tgt ls rest)) (kf : 0 < a → W p l e R s m args below meth c H locs cells slots Q (F0 m (pc + 3) ls rest)) : W p l e R s m args below meth c H locs cells slots Q (F0 m pc ls (.int (nI a) :: rest)) :=
  lv_if_eq hexec hb hdg ht (fun h => kt ((nI_eq ha (by omega)).mp (h.trans nI_0.symm))) (fun h => kf (Nat.pos_of_ne_zero (fun q => h (by rw [q]; exact nI_0))))
theorem n_if_ne (hexec : p.tables.exec = Jvm.exec) (hb : c.code = cc) {a : Nat} (ha : a < 2 ^ 31) {off : Int} {tgt : Nat} (hdg : decode cc pc = .ok (.ifCond .ne off, 3)) (ht : (pc : Int) + off = (tgt : Int)) (kt : 0 < a → W p l e R s m args below meth c H locs cells slots Q (F0 m tgt ls rest)) (kf : a = 0 → W p l e R s m args below meth c H locs cells slots Q (F0 m (pc + 3) ls rest)) : W p l e R s m args below meth c H locs cells slots Q (F0 m pc ls (.int (nI a) :: rest)) :=
  lv_if_ne hexec hb hdg ht (fun h => kt (Nat.pos_of_ne_zero (fun q => h (by rw [q]; exact nI_0)))) (fun h => kf ((nI_eq ha (by omega)).mp (h.trans nI_0.symm)))
theorem n_if_gt (hexec : p.tables.exec = Jvm.exec) (hb : c.code = cc) {a : Nat} (ha : a < 2 ^ 31) {off : Int} {tgt : Nat} (hdg : decode cc pc = .ok (.ifCond .gt off, 3)) (ht : (pc : Int) + off = (tgt : Int)) (kt : 0 < a → W p l e R s m args below meth c H locs cells slots Q (F0 m tgt ls rest)) (kf : a = 0 → W p l e R s m args below meth c H locs cells slots Q (F0 m (pc + 3) ls rest)) : W p l e R s m args below meth c H locs cells slots Q (F0 m pc ls (.int (nI a) :: rest)) :=
  lv_if_gt hexec hb hdg ht (fun h => kt (Nat.pos_of_ne_zero (fun q => by rw [q, nI_0] at h; exact absurd h (by decide)))) (fun h => kf (Nat.eq_zero_of_not_pos (fun q => h (by have := nI_lt q ha; rw [nI_0] at this; exact this))))
theorem n_if_le (hexec : p.tables.exec = Jvm.exec) (hb : c.code = cc) {a : Nat} (ha : a < 2 ^ 31) {off : Int} {tgt : Nat} (hdg : decode cc pc = .ok (.ifCond .le off, 3)) (ht : (pc : Int) + off = (tgt : Int)) (kt : a = 0 → W p l e R s m args below meth c H locs cells slots Q (F0 m tgt ls rest)) (kf : 0 < a → W p l e R s m args below meth c H locs cells slots Q (F0 m (pc + 3) ls rest)) : W p l e R s m args below meth c H locs cells slots Q (F0 m pc ls (.int (nI a) :: rest)) :=
  lv_if_le hexec hb hdg ht (fun h => kt (Nat.eq_zero_of_not_pos (fun q => nI_nle q ha h))) (fun h => kf (Nat.pos_of_ne_zero (fun q => h (by rw [q, nI_0]; decide))))
theorem n_if_ge (hexec : p.tables.exec = Jvm.exec) (hb : c.code = cc) {a : Nat} (ha : a < 2 ^ 31) {off : Int} {tgt : Nat} (hdg : decode cc pc = .ok (.ifCond .ge off, 3)) (ht : (pc : Int) + off = (tgt : Int)) (kt : W p l e R s m args below meth c H locs cells slots Q (F0 m tgt ls rest)) : W p l e R s m args below meth c H locs cells slots Q (F0 m pc ls (.int (nI a) :: rest)) :=
  lv_if_ge hexec hb hdg ht (fun _ => kt) (fun h => absurd (nI_pos' ha) h)
theorem n_if_lt (hexec : p.tables.exec = Jvm.exec) (hb : c.code = cc) {a : Nat} (ha : a < 2 ^ 31) {off : Int} {tgt : Nat} (hdg : decode cc pc = .ok (.ifCond .lt off, 3)) (ht : (pc : Int) + off = (tgt : Int)) (kf : W p l e R s m args below meth c H locs cells slots Q (F0 m (pc + 3) ls rest)) : W p l e R s m args below meth c H locs cells slots Q (F0 m pc ls (.int (nI a) :: rest)) :=
  lv_if_lt hexec hb hdg ht (fun h => absurd h (nI_pos ha)) (fun _ => kf)
/-- a truth value on the stack -/
def bI (b : Bool) : Int32 := if b then 1 else 0
theorem n_ifz_eq (hexec : p.tables.exec = Jvm.exec) (hb : c.code = cc) {b : Bool} {off : Int} {tgt : Nat} (hdg : decode cc pc = .ok (.ifCond .eq off, 3)) (ht : (pc : Int) + off = (tgt : Int)) (kt : b = false → W p l e R s m args below meth c H locs cells slots Q (F0 m tgt ls rest)) (kf : b = true → W p l e R s m args below meth c H locs cells slots Q (F0 m (pc + 3) ls rest)) : W p l e R s m args below meth c H locs cells slots Q (F0 m pc ls (.int (bI b) :: rest)) := by
  cases b with
  | false => exact lv_if_eq hexec hb hdg ht (fun _ => kt rfl) (fun h => absurd rfl h)
  | true => exact lv_if_eq hexec hb hdg ht (fun h => absurd h (by decide)) (fun _ => kf rfl)
theorem n_ifz_ne (hexec : p.tables.exec = Jvm.exec) (hb : c.code = cc) {b : Bool} {off : Int} {tgt : Nat} (hdg : decode cc pc = .ok (.ifCond .ne off, 3)) (ht : (pc : Int) + off = (tgt : Int)) (kt : b = true → W p l e R s m args below meth c H locs cells slots Q (F0 m tgt ls rest)) (kf : b = false → W p l e R s m args below meth c H locs cells slots Q (F0 m (pc + 3) ls rest)) : W p l e R s m args below meth c H locs cells slots Q (F0 m pc ls (.int (bI b) :: rest)) := by
  cases b with
  | false => exact lv_if_ne hexec hb hdg ht (fun h => absurd rfl h) (fun _ => kf rfl)
  | true => exact lv_if_ne hexec hb hdg ht (fun _ => kt rfl) (fun h => absurd h (by decide))
theorem n_iald (hexec : p.tables.exec = Jvm.exec) (hb : c.code = cc) (hK : va_K D cl tys s) (hW : gW D cl A ad co dl H) (t0 : Nat) {q : Nat} (hq : q ∈ dl) {cA : ClassId} {n : Nat} {f : Nat → Int32} (ha : co q = .inl (cA, n, .inl f)) (ht : tys[t0]? = some (cA, .int)) {j : Nat} (hj : j < n) (hn : n < 2 ^ 31) (hdg : decode cc pc = .ok (.iaload, 1))
    (kk : W p l e R s m args below meth c H locs cells slots Q (F0 m (pc + 1) ls (.int (f j) :: rest))) : W p l e R s m args below meth c H locs cells slots Q (F0 m pc ls (.int (nI j) :: .ref (ad q) :: rest)) :=
  g_iald hexec hb hK hW t0 hq ha ht (vp_in_nI hj hn) hdg (by rw [nI_clamp (Nat.lt_trans hj hn)]; exact kk)
theorem n_lald (hexec : p.tables.exec = Jvm.exec) (hb : c.code = cc) (hK : va_K D cl tys s) (hW : gW D cl A ad co dl H) (t0 : Nat) {q : Nat} (hq : q ∈ dl) {cA : ClassId} {n : Nat} {f : Nat → Int64} (ha : co q = .inl (cA, n, .inr (.inl f))) (ht : tys[t0]? = some (cA, .long)) {j : Nat} (hj : j < n) (hn : n < 2 ^ 31) (hdg : decode cc pc = .ok (.laload, 1))
    (kk : W p l e R s m args below meth c H locs cells slots Q (F0 m (pc + 1) ls (.long (f j) :: rest))) : W p l e R s m args below meth c H locs cells slots Q (F0 m pc ls (.int (nI j) :: .ref (ad q) :: rest)) :=
  g_lald hexec hb hK hW t0 hq ha ht (vp_in_nI hj hn) hdg (by rw [nI_clamp (Nat.lt_trans hj hn)]; exact kk)
theorem n_aald (hexec : p.tables.exec = Jvm.exec) (hb : c.code = cc) (hK : va_K D cl tys s) (hW : gW D cl A ad co dl H) (t0 : Nat) {q : Nat} (hq : q ∈ dl) {cA : ClassId} {n : Nat} {f : Nat → Option Nat} {ty : FieldType} (ha : co q = .inl (cA, n, .inr (.inr (.inr (.inr f))))) (ht : tys[t0]? = some (cA, ty)) (hty : ty.isReference = true) {j : Nat} (hj : j < n) (hn : n < 2 ^ 31) {b : Nat} (hv : f j = some b) (hdg : decode cc pc = .ok (.aaload, 1))
    (kk : W p l e R s m args below meth c H locs cells slots Q (F0 m (pc + 1) ls (.ref b :: rest))) : W p l e R s m args below meth c H locs cells slots Q (F0 m pc ls (.int (nI j) :: .ref (ad q) :: rest)) :=
  g_aald hexec hb hK hW t0 hq ha ht hty (vp_in_nI hj hn) (by rw [nI_clamp (Nat.lt_trans hj hn)]; exact hv) hdg kk
theorem n_iast (hexec : p.tables.exec = Jvm.exec) (hb : c.code = cc) (hK : va_K D cl tys s) (hW : gW D cl A ad co dl H) (hS : va_S A H0 H locs) (t0 : Nat) {q : Nat} (hq : q ∈ dl) {cA : ClassId} {n : Nat} {f : Nat → Int32} (ha : co q = .inl (cA, n, .inl f)) (ht : tys[t0]? = some (cA, .int)) {j : Nat} {x : Int32} (hj : j < n) (hn : n < 2 ^ 31) (hdg : decode cc pc = .ok (.iastore, 1))
    (kk : ∀ (H1 : Heap) (locs1 : List Loc), gW D cl A ad (va_up co q (.inl (cA, n, .inl (upd f j x)))) dl H1 → va_S A H0 H1 locs1 → W p l e R s m args below meth c H1 locs1 cells slots Q (F0 m (pc + 1) ls rest)) : W p l e R s m args below meth c H locs cells slots Q (F0 m pc ls (.int x :: .int (nI j) :: .ref (ad q) :: rest)) :=
  g_iast hexec hb hK hW hS t0 hq ha ht (vp_in_nI hj hn) hdg (fun H1 locs1 h1 h2 => kk H1 locs1 (by rw [nI_clamp (Nat.lt_trans hj hn)] at h1; exact h1) h2)
theorem n_last (hexec : p.tables.exec = Jvm.exec) (hb : c.code = cc) (hK : va_K D cl tys s) (hW : gW D cl A ad co dl H) (hS : va_S A H0 H locs) (t0 : Nat) {q : Nat} (hq : q ∈ dl) {cA : ClassId} {n : Nat} {f : Nat → Int64} (ha : co q = .inl (cA, n, .inr (.inl f))) (ht : tys[t0]? = some (cA, .long)) {j : Nat} {x : Int64} (hj : j < n) (hn : n < 2 ^ 31) (hdg : decode cc pc = .ok (.lastore, 1))
    (kk : ∀ (H1 : Heap) (locs1 : List Loc), gW D cl A ad (va_up co q (.inl (cA, n, .inr (.inl (vp_updL f j x))))) dl H1 → va_S A H0 H1 locs1 → W p l e R s m args below meth c H1 locs1 cells slots Q (F0 m (pc + 1) ls rest)) : W p l e R s m args below meth c H locs cells slots Q (F0 m pc ls (.long x :: .int (nI j) :: .ref (ad q) :: rest)) :=
  g_last hexec hb hK hW hS t0 hq ha ht (vp_in_nI hj hn) hdg (fun H1 locs1 h1 h2 => kk H1 locs1 (by rw [nI_clamp (Nat.lt_trans hj hn)] at h1; exact h1) h2)
end NATR
end
section
/-! The first least place of f among 0 .. k -/
def amin (f : Nat → Nat) : Nat → Nat
  | 0 => 0
  | k + 1 => if f (k + 1) < f (amin f k) then k + 1 else amin f k
theorem amin_le (f : Nat → Nat) : ∀ k, amin f k ≤ k
  | 0 => Nat.le_refl 0
  | k + 1 => by
    have h := amin_le f k
    unfold amin
    split
    · exact Nat.le_refl _
    · omega
theorem amin_min (f : Nat → Nat) : ∀ k j, j ≤ k → f (amin f k) ≤ f j
  | 0, j, h => by
    rw [Nat.le_zero.mp h]
    exact Nat.le_refl _
  | k + 1, j, h => by
    have ih := amin_min f k
    unfold amin
    split
    · rename_i hlt
      by_cases hj : j = k + 1
      · rw [hj]; exact Nat.le_refl _
      · have := ih j (by omega)
        omega
    · rename_i hlt
      by_cases hj : j = k + 1
      · rw [hj]; omega
      · exact ih j (by omega)
theorem amin_first (f : Nat → Nat) : ∀ k j, j < amin f k → f (amin f k) < f j
  | 0, j, h => absurd h (Nat.not_lt_zero j)
  | k + 1, j, h => by
    have ih := amin_first f k
    have hm := amin_min f k
    unfold amin at h ⊢
    split
    · rename_i hlt
      rw [if_pos hlt] at h
      have := hm j (by omega)
      omega
    · rename_i hlt
      rw [if_neg hlt] at h
      exact ih j h
theorem amin_uniq {f : Nat → Nat} {k b : Nat} (h1 : b ≤ k) (h2 : ∀ j, j ≤ k → f b ≤ f j) (h3 : ∀ j, j < b → f b < f j) : amin f k = b := by
  have l1 := amin_min f k b h1
  have l2 := h2 _ (amin_le f k)
  rcases Nat.lt_trichotomy (amin f k) b with h | h | h
  · have := h3 _ h
    omega
  · exact h
  · have := amin_first f k b h
    omega
theorem amin_congr {f g : Nat → Nat} : ∀ {k : Nat}, (∀ j, j ≤ k → f j = g j) → amin f k = amin g k
  | 0, _ => rfl
  | k + 1, h => by
    have ih : amin f k = amin g k := amin_congr (fun j hj => h j (by omega))
    have hk := amin_le g k
    unfold amin
    rw [ih, h (k + 1) (Nat.le_refl _), h (amin g k) (by omega)]
/-! A number that is a place below n -/
def inB (x : Int32) (n : Nat) : Bool := decide (0 ≤ x.toInt ∧ x.toInt < (n : Int))
theorem inB_vp {x : Int32} {n : Nat} : inB x n = true ↔ vp_in x n := by
  unfold inB
  rw [decide_eq_true_eq, vp_in_iff]
theorem inB_of {x : Int32} {n : Nat} (hn : n < 2 ^ 31) (h : inB x n = true) : ∃ j : Nat, j < n ∧ x = nI j := vp_in_of (inB_vp.mp h) hn
theorem inB_nI {j n : Nat} (hj : j < 2 ^ 31) : inB (nI j) n = decide (j < n) := by
  unfold inB
  rw [nI_toInt hj]
  congr 1
  apply propext
  constructor
  · intro h; omega
  · intro h; omega
end
section
theorem d_K_init_0 : decode b_K_init 0 = .ok (.aload_n 0, 1) := by decide +kernel
theorem d_K_init_1 : decode b_K_init 1 = .ok (.invokespecial 1, 3) := by decide +kernel
theorem d_K_init_4 : decode b_K_init 4 = .ok (.aload_n 0, 1) := by decide +kernel
theorem d_K_init_5 : decode b_K_init 5 = .ok (.iconst 1, 1) := by decide +kernel
theorem d_K_init_6 : decode b_K_init 6 = .ok (.iload_n 1, 1) := by decide +kernel
theorem d_K_init_7 : decode b_K_init 7 = .ok (.bipush 12, 2) := by decide +kernel
theorem d_K_init_9 : decode b_K_init 9 = .ok (.invokestatic 9, 3) := by decide +kernel
theorem d_K_init_12 : decode b_K_init 12 = .ok (.invokestatic 15, 3) := by decide +kernel
theorem d_K_init_15 : decode b_K_init 15 = .ok (.putfield 18, 3) := by decide +kernel
theorem d_K_init_18 : decode b_K_init 18 = .ok (.aload_n 0, 1) := by decide +kernel
theorem d_K_init_19 : decode b_K_init 19 = .ok (.new 22, 3) := by decide +kernel
theorem d_K_init_22 : decode b_K_init 22 = .ok (.dup, 1) := by decide +kernel
theorem d_K_init_23 : decode b_K_init 23 = .ok (.invokespecial 24, 3) := by decide +kernel
theorem d_K_init_26 : decode b_K_init 26 = .ok (.putfield 25, 3) := by decide +kernel
theorem d_K_init_29 : decode b_K_init 29 = .ok (.aload_n 0, 1) := by decide +kernel
theorem d_K_init_30 : decode b_K_init 30 = .ok (.new 29, 3) := by decide +kernel
theorem d_K_init_33 : decode b_K_init 33 = .ok (.dup, 1) := by decide +kernel
theorem d_K_init_34 : decode b_K_init 34 = .ok (.aload_n 0, 1) := by decide +kernel
theorem d_K_init_35 : decode b_K_init 35 = .ok (.getfield 18, 3) := by decide +kernel
theorem d_K_init_38 : decode b_K_init 38 = .ok (.invokespecial 31, 3) := by decide +kernel
theorem d_K_init_41 : decode b_K_init 41 = .ok (.putfield 34, 3) := by decide +kernel
theorem d_K_init_44 : decode b_K_init 44 = .ok (.aload_n 0, 1) := by decide +kernel
theorem d_K_init_45 : decode b_K_init 45 = .ok (.new 29, 3) := by decide +kernel
theorem d_K_init_48 : decode b_K_init 48 = .ok (.dup, 1) := by decide +kernel
theorem d_K_init_49 : decode b_K_init 49 = .ok (.aload_n 0, 1) := by decide +kernel
theorem d_K_init_50 : decode b_K_init 50 = .ok (.getfield 18, 3) := by decide +kernel
theorem d_K_init_53 : decode b_K_init 53 = .ok (.invokespecial 31, 3) := by decide +kernel
theorem d_K_init_56 : decode b_K_init 56 = .ok (.putfield 38, 3) := by decide +kernel
theorem d_K_init_59 : decode b_K_init 59 = .ok (.aload_n 0, 1) := by decide +kernel
theorem d_K_init_60 : decode b_K_init 60 = .ok (.new 29, 3) := by decide +kernel
theorem d_K_init_63 : decode b_K_init 63 = .ok (.dup, 1) := by decide +kernel
theorem d_K_init_64 : decode b_K_init 64 = .ok (.aload_n 0, 1) := by decide +kernel
theorem d_K_init_65 : decode b_K_init 65 = .ok (.getfield 18, 3) := by decide +kernel
theorem d_K_init_68 : decode b_K_init 68 = .ok (.invokespecial 31, 3) := by decide +kernel
theorem d_K_init_71 : decode b_K_init 71 = .ok (.putfield 41, 3) := by decide +kernel
theorem d_K_init_74 : decode b_K_init 74 = .ok (.aload_n 0, 1) := by decide +kernel
theorem d_K_init_75 : decode b_K_init 75 = .ok (.new 44, 3) := by decide +kernel
theorem d_K_init_78 : decode b_K_init 78 = .ok (.dup, 1) := by decide +kernel
theorem d_K_init_79 : decode b_K_init 79 = .ok (.aload_n 0, 1) := by decide +kernel
theorem d_K_init_80 : decode b_K_init 80 = .ok (.getfield 18, 3) := by decide +kernel
theorem d_K_init_83 : decode b_K_init 83 = .ok (.invokespecial 46, 3) := by decide +kernel
theorem d_K_init_86 : decode b_K_init 86 = .ok (.putfield 47, 3) := by decide +kernel
theorem d_K_init_89 : decode b_K_init 89 = .ok (.aload_n 0, 1) := by decide +kernel
theorem d_K_init_90 : decode b_K_init 90 = .ok (.new 51, 3) := by decide +kernel
theorem d_K_init_93 : decode b_K_init 93 = .ok (.dup, 1) := by decide +kernel
theorem d_K_init_94 : decode b_K_init 94 = .ok (.invokespecial 53, 3) := by decide +kernel
theorem d_K_init_97 : decode b_K_init 97 = .ok (.putfield 54, 3) := by decide +kernel
theorem d_K_init_100 : decode b_K_init 100 = .ok (.aload_n 0, 1) := by decide +kernel
theorem d_K_init_101 : decode b_K_init 101 = .ok (.new 58, 3) := by decide +kernel
theorem d_K_init_104 : decode b_K_init 104 = .ok (.dup, 1) := by decide +kernel
theorem d_K_init_105 : decode b_K_init 105 = .ok (.invokespecial 60, 3) := by decide +kernel
theorem d_K_init_108 : decode b_K_init 108 = .ok (.putfield 61, 3) := by decide +kernel
theorem d_K_init_111 : decode b_K_init 111 = .ok (.aload_n 0, 1) := by decide +kernel
theorem d_K_init_112 : decode b_K_init 112 = .ok (.new 65, 3) := by decide +kernel
theorem d_K_init_115 : decode b_K_init 115 = .ok (.dup, 1) := by decide +kernel
theorem d_K_init_116 : decode b_K_init 116 = .ok (.invokespecial 67, 3) := by decide +kernel
theorem d_K_init_119 : decode b_K_init 119 = .ok (.putfield 68, 3) := by decide +kernel
theorem d_K_init_122 : decode b_K_init 122 = .ok (.aload_n 0, 1) := by decide +kernel
theorem d_K_init_123 : decode b_K_init 123 = .ok (.bipush 21, 2) := by decide +kernel
theorem d_K_init_125 : decode b_K_init 125 = .ok (.newarray .long, 2) := by decide +kernel
theorem d_K_init_127 : decode b_K_init 127 = .ok (.putfield 72, 3) := by decide +kernel
theorem d_K_init_130 : decode b_K_init 130 = .ok (.aload_n 0, 1) := by decide +kernel
theorem d_K_init_131 : decode b_K_init 131 = .ok (.iconst (-1), 1) := by decide +kernel
theorem d_K_init_132 : decode b_K_init 132 = .ok (.putfield 76, 3) := by decide +kernel
theorem d_K_init_135 : decode b_K_init 135 = .ok (.aload_n 0, 1) := by decide +kernel
theorem d_K_init_136 : decode b_K_init 136 = .ok (.iconst 0, 1) := by decide +kernel
theorem d_K_init_137 : decode b_K_init 137 = .ok (.putfield 79, 3) := by decide +kernel
theorem d_K_init_140 : decode b_K_init 140 = .ok (.aload_n 0, 1) := by decide +kernel
theorem d_K_init_141 : decode b_K_init 141 = .ok (.iconst 0, 1) := by decide +kernel
theorem d_K_init_142 : decode b_K_init 142 = .ok (.putfield 82, 3) := by decide +kernel
theorem d_K_init_145 : decode b_K_init 145 = .ok (.return_, 1) := by decide +kernel
theorem d_JM_min_0 : decode b_JM_min 0 = .ok (.iload_n 0, 1) := by decide +kernel
theorem d_JM_min_1 : decode b_JM_min 1 = .ok (.iload_n 1, 1) := by decide +kernel
theorem d_JM_min_2 : decode b_JM_min 2 = .ok (.if_icmp .gt 7, 3) := by decide +kernel
theorem d_JM_min_5 : decode b_JM_min 5 = .ok (.iload_n 0, 1) := by decide +kernel
theorem d_JM_min_6 : decode b_JM_min 6 = .ok (.goto 4, 3) := by decide +kernel
theorem d_JM_min_9 : decode b_JM_min 9 = .ok (.iload_n 1, 1) := by decide +kernel
theorem d_JM_min_10 : decode b_JM_min 10 = .ok (.ireturn, 1) := by decide +kernel
theorem d_JM_max_0 : decode b_JM_max 0 = .ok (.iload_n 0, 1) := by decide +kernel
theorem d_JM_max_1 : decode b_JM_max 1 = .ok (.iload_n 1, 1) := by decide +kernel
theorem d_JM_max_2 : decode b_JM_max 2 = .ok (.if_icmp .lt 7, 3) := by decide +kernel
theorem d_JM_max_5 : decode b_JM_max 5 = .ok (.iload_n 0, 1) := by decide +kernel
theorem d_JM_max_6 : decode b_JM_max 6 = .ok (.goto 4, 3) := by decide +kernel
theorem d_JM_max_9 : decode b_JM_max 9 = .ok (.iload_n 1, 1) := by decide +kernel
theorem d_JM_max_10 : decode b_JM_max 10 = .ok (.ireturn, 1) := by decide +kernel
theorem d_T_init_0 : decode b_T_init 0 = .ok (.aload_n 0, 1) := by decide +kernel
theorem d_T_init_1 : decode b_T_init 1 = .ok (.invokespecial 3, 3) := by decide +kernel
theorem d_T_init_4 : decode b_T_init 4 = .ok (.aload_n 0, 1) := by decide +kernel
theorem d_T_init_5 : decode b_T_init 5 = .ok (.sipush 200, 3) := by decide +kernel
theorem d_T_init_8 : decode b_T_init 8 = .ok (.newarray .long, 2) := by decide +kernel
theorem d_T_init_10 : decode b_T_init 10 = .ok (.putfield 9, 3) := by decide +kernel
theorem d_T_init_13 : decode b_T_init 13 = .ok (.aload_n 0, 1) := by decide +kernel
theorem d_T_init_14 : decode b_T_init 14 = .ok (.sipush 200, 3) := by decide +kernel
theorem d_T_init_17 : decode b_T_init 17 = .ok (.newarray .int, 2) := by decide +kernel
theorem d_T_init_19 : decode b_T_init 19 = .ok (.putfield 15, 3) := by decide +kernel
theorem d_T_init_22 : decode b_T_init 22 = .ok (.aload_n 0, 1) := by decide +kernel
theorem d_T_init_23 : decode b_T_init 23 = .ok (.sipush 200, 3) := by decide +kernel
theorem d_T_init_26 : decode b_T_init 26 = .ok (.newarray .int, 2) := by decide +kernel
theorem d_T_init_28 : decode b_T_init 28 = .ok (.putfield 19, 3) := by decide +kernel
theorem d_T_init_31 : decode b_T_init 31 = .ok (.aload_n 0, 1) := by decide +kernel
theorem d_T_init_32 : decode b_T_init 32 = .ok (.sipush 200, 3) := by decide +kernel
theorem d_T_init_35 : decode b_T_init 35 = .ok (.newarray .int, 2) := by decide +kernel
theorem d_T_init_37 : decode b_T_init 37 = .ok (.putfield 22, 3) := by decide +kernel
theorem d_T_init_40 : decode b_T_init 40 = .ok (.aload_n 0, 1) := by decide +kernel
theorem d_T_init_41 : decode b_T_init 41 = .ok (.sipush 200, 3) := by decide +kernel
theorem d_T_init_44 : decode b_T_init 44 = .ok (.newarray .int, 2) := by decide +kernel
theorem d_T_init_46 : decode b_T_init 46 = .ok (.putfield 25, 3) := by decide +kernel
theorem d_T_init_49 : decode b_T_init 49 = .ok (.aload_n 0, 1) := by decide +kernel
theorem d_T_init_50 : decode b_T_init 50 = .ok (.iconst 0, 1) := by decide +kernel
theorem d_T_init_51 : decode b_T_init 51 = .ok (.putfield 28, 3) := by decide +kernel
theorem d_T_init_54 : decode b_T_init 54 = .ok (.return_, 1) := by decide +kernel
theorem d_B_init_0 : decode b_B_init 0 = .ok (.aload_n 0, 1) := by decide +kernel
theorem d_B_init_1 : decode b_B_init 1 = .ok (.invokespecial 3, 3) := by decide +kernel
theorem d_B_init_4 : decode b_B_init 4 = .ok (.aload_n 0, 1) := by decide +kernel
theorem d_B_init_5 : decode b_B_init 5 = .ok (.iload_n 1, 1) := by decide +kernel
theorem d_B_init_6 : decode b_B_init 6 = .ok (.iload_n 1, 1) := by decide +kernel
theorem d_B_init_7 : decode b_B_init 7 = .ok (.multianewarray 9 2, 4) := by decide +kernel
theorem d_B_init_11 : decode b_B_init 11 = .ok (.putfield 11, 3) := by decide +kernel
theorem d_B_init_14 : decode b_B_init 14 = .ok (.aload_n 0, 1) := by decide +kernel
theorem d_B_init_15 : decode b_B_init 15 = .ok (.iload_n 1, 1) := by decide +kernel
theorem d_B_init_16 : decode b_B_init 16 = .ok (.bipush 10, 2) := by decide +kernel
theorem d_B_init_18 : decode b_B_init 18 = .ok (.multianewarray 9 2, 4) := by decide +kernel
theorem d_B_init_22 : decode b_B_init 22 = .ok (.putfield 16, 3) := by decide +kernel
theorem d_B_init_25 : decode b_B_init 25 = .ok (.return_, 1) := by decide +kernel
theorem d_F_init_0 : decode b_F_init 0 = .ok (.aload_n 0, 1) := by decide +kernel
theorem d_F_init_1 : decode b_F_init 1 = .ok (.invokespecial 3, 3) := by decide +kernel
theorem d_F_init_4 : decode b_F_init 4 = .ok (.aload_n 0, 1) := by decide +kernel
theorem d_F_init_5 : decode b_F_init 5 = .ok (.sipush 200, 3) := by decide +kernel
theorem d_F_init_8 : decode b_F_init 8 = .ok (.newarray .int, 2) := by decide +kernel
theorem d_F_init_10 : decode b_F_init 10 = .ok (.putfield 9, 3) := by decide +kernel
theorem d_F_init_13 : decode b_F_init 13 = .ok (.aload_n 0, 1) := by decide +kernel
theorem d_F_init_14 : decode b_F_init 14 = .ok (.iconst 0, 1) := by decide +kernel
theorem d_F_init_15 : decode b_F_init 15 = .ok (.putfield 15, 3) := by decide +kernel
theorem d_F_init_18 : decode b_F_init 18 = .ok (.aload_n 0, 1) := by decide +kernel
theorem d_F_init_19 : decode b_F_init 19 = .ok (.iload_n 1, 1) := by decide +kernel
theorem d_F_init_20 : decode b_F_init 20 = .ok (.putfield 19, 3) := by decide +kernel
theorem d_F_init_23 : decode b_F_init 23 = .ok (.aload_n 0, 1) := by decide +kernel
theorem d_F_init_24 : decode b_F_init 24 = .ok (.sipush 200, 3) := by decide +kernel
theorem d_F_init_27 : decode b_F_init 27 = .ok (.iload_n 1, 1) := by decide +kernel
theorem d_F_init_28 : decode b_F_init 28 = .ok (.multianewarray 22 2, 4) := by decide +kernel
theorem d_F_init_32 : decode b_F_init 32 = .ok (.putfield 24, 3) := by decide +kernel
theorem d_F_init_35 : decode b_F_init 35 = .ok (.aload_n 0, 1) := by decide +kernel
theorem d_F_init_36 : decode b_F_init 36 = .ok (.iload_n 1, 1) := by decide +kernel
theorem d_F_init_37 : decode b_F_init 37 = .ok (.newarray .int, 2) := by decide +kernel
theorem d_F_init_39 : decode b_F_init 39 = .ok (.putfield 27, 3) := by decide +kernel
theorem d_F_init_42 : decode b_F_init 42 = .ok (.aload_n 0, 1) := by decide +kernel
theorem d_F_init_43 : decode b_F_init 43 = .ok (.iload_n 1, 1) := by decide +kernel
theorem d_F_init_44 : decode b_F_init 44 = .ok (.newarray .int, 2) := by decide +kernel
theorem d_F_init_46 : decode b_F_init 46 = .ok (.putfield 30, 3) := by decide +kernel
theorem d_F_init_49 : decode b_F_init 49 = .ok (.aload_n 0, 1) := by decide +kernel
theorem d_F_init_50 : decode b_F_init 50 = .ok (.iload_n 1, 1) := by decide +kernel
theorem d_F_init_51 : decode b_F_init 51 = .ok (.newarray .int, 2) := by decide +kernel
theorem d_F_init_53 : decode b_F_init 53 = .ok (.putfield 33, 3) := by decide +kernel
theorem d_F_init_56 : decode b_F_init 56 = .ok (.return_, 1) := by decide +kernel
theorem d_N_init_0 : decode b_N_init 0 = .ok (.aload_n 0, 1) := by decide +kernel
theorem d_N_init_1 : decode b_N_init 1 = .ok (.invokespecial 3, 3) := by decide +kernel
theorem d_N_init_4 : decode b_N_init 4 = .ok (.aload_n 0, 1) := by decide +kernel
theorem d_N_init_5 : decode b_N_init 5 = .ok (.sipush 200, 3) := by decide +kernel
theorem d_N_init_8 : decode b_N_init 8 = .ok (.newarray .int, 2) := by decide +kernel
theorem d_N_init_10 : decode b_N_init 10 = .ok (.putfield 9, 3) := by decide +kernel
theorem d_N_init_13 : decode b_N_init 13 = .ok (.aload_n 0, 1) := by decide +kernel
theorem d_N_init_14 : decode b_N_init 14 = .ok (.sipush 200, 3) := by decide +kernel
theorem d_N_init_17 : decode b_N_init 17 = .ok (.newarray .int, 2) := by decide +kernel
theorem d_N_init_19 : decode b_N_init 19 = .ok (.putfield 15, 3) := by decide +kernel
theorem d_N_init_22 : decode b_N_init 22 = .ok (.aload_n 0, 1) := by decide +kernel
theorem d_N_init_23 : decode b_N_init 23 = .ok (.iconst 0, 1) := by decide +kernel
theorem d_N_init_24 : decode b_N_init 24 = .ok (.putfield 18, 3) := by decide +kernel
theorem d_N_init_27 : decode b_N_init 27 = .ok (.aload_n 0, 1) := by decide +kernel
theorem d_N_init_28 : decode b_N_init 28 = .ok (.iconst 0, 1) := by decide +kernel
theorem d_N_init_29 : decode b_N_init 29 = .ok (.putfield 22, 3) := by decide +kernel
theorem d_N_init_32 : decode b_N_init 32 = .ok (.return_, 1) := by decide +kernel
theorem d_P_init_0 : decode b_P_init 0 = .ok (.aload_n 0, 1) := by decide +kernel
theorem d_P_init_1 : decode b_P_init 1 = .ok (.invokespecial 3, 3) := by decide +kernel
theorem d_P_init_4 : decode b_P_init 4 = .ok (.aload_n 0, 1) := by decide +kernel
theorem d_P_init_5 : decode b_P_init 5 = .ok (.bipush 50, 2) := by decide +kernel
theorem d_P_init_7 : decode b_P_init 7 = .ok (.newarray .long, 2) := by decide +kernel
theorem d_P_init_9 : decode b_P_init 9 = .ok (.putfield 9, 3) := by decide +kernel
theorem d_P_init_12 : decode b_P_init 12 = .ok (.aload_n 0, 1) := by decide +kernel
theorem d_P_init_13 : decode b_P_init 13 = .ok (.bipush 50, 2) := by decide +kernel
theorem d_P_init_15 : decode b_P_init 15 = .ok (.newarray .long, 2) := by decide +kernel
theorem d_P_init_17 : decode b_P_init 17 = .ok (.putfield 15, 3) := by decide +kernel
theorem d_P_init_20 : decode b_P_init 20 = .ok (.aload_n 0, 1) := by decide +kernel
theorem d_P_init_21 : decode b_P_init 21 = .ok (.bipush 50, 2) := by decide +kernel
theorem d_P_init_23 : decode b_P_init 23 = .ok (.newarray .int, 2) := by decide +kernel
theorem d_P_init_25 : decode b_P_init 25 = .ok (.putfield 18, 3) := by decide +kernel
theorem d_P_init_28 : decode b_P_init 28 = .ok (.aload_n 0, 1) := by decide +kernel
theorem d_P_init_29 : decode b_P_init 29 = .ok (.iconst 0, 1) := by decide +kernel
theorem d_P_init_30 : decode b_P_init 30 = .ok (.putfield 22, 3) := by decide +kernel
theorem d_P_init_33 : decode b_P_init 33 = .ok (.return_, 1) := by decide +kernel
theorem d_C_init_0 : decode b_C_init 0 = .ok (.aload_n 0, 1) := by decide +kernel
theorem d_C_init_1 : decode b_C_init 1 = .ok (.invokespecial 3, 3) := by decide +kernel
theorem d_C_init_4 : decode b_C_init 4 = .ok (.aload_n 0, 1) := by decide +kernel
theorem d_C_init_5 : decode b_C_init 5 = .ok (.sipush 300, 3) := by decide +kernel
theorem d_C_init_8 : decode b_C_init 8 = .ok (.newarray .int, 2) := by decide +kernel
theorem d_C_init_10 : decode b_C_init 10 = .ok (.putfield 9, 3) := by decide +kernel
theorem d_C_init_13 : decode b_C_init 13 = .ok (.aload_n 0, 1) := by decide +kernel
theorem d_C_init_14 : decode b_C_init 14 = .ok (.sipush 300, 3) := by decide +kernel
theorem d_C_init_17 : decode b_C_init 17 = .ok (.newarray .int, 2) := by decide +kernel
theorem d_C_init_19 : decode b_C_init 19 = .ok (.putfield 15, 3) := by decide +kernel
theorem d_C_init_22 : decode b_C_init 22 = .ok (.aload_n 0, 1) := by decide +kernel
theorem d_C_init_23 : decode b_C_init 23 = .ok (.sipush 300, 3) := by decide +kernel
theorem d_C_init_26 : decode b_C_init 26 = .ok (.newarray .int, 2) := by decide +kernel
theorem d_C_init_28 : decode b_C_init 28 = .ok (.putfield 18, 3) := by decide +kernel
theorem d_C_init_31 : decode b_C_init 31 = .ok (.aload_n 0, 1) := by decide +kernel
theorem d_C_init_32 : decode b_C_init 32 = .ok (.sipush 300, 3) := by decide +kernel
theorem d_C_init_35 : decode b_C_init 35 = .ok (.newarray .long, 2) := by decide +kernel
theorem d_C_init_37 : decode b_C_init 37 = .ok (.putfield 21, 3) := by decide +kernel
theorem d_C_init_40 : decode b_C_init 40 = .ok (.aload_n 0, 1) := by decide +kernel
theorem d_C_init_41 : decode b_C_init 41 = .ok (.iconst 0, 1) := by decide +kernel
theorem d_C_init_42 : decode b_C_init 42 = .ok (.putfield 25, 3) := by decide +kernel
theorem d_C_init_45 : decode b_C_init 45 = .ok (.return_, 1) := by decide +kernel
theorem d_K_move_0 : decode b_K_move 0 = .ok (.aload_n 0, 1) := by decide +kernel
theorem d_K_move_1 : decode b_K_move 1 = .ok (.iload_n 1, 1) := by decide +kernel
theorem d_K_move_2 : decode b_K_move 2 = .ok (.invokevirtual 85, 3) := by decide +kernel
theorem d_K_move_5 : decode b_K_move 5 = .ok (.ifCond .eq 18, 3) := by decide +kernel
theorem d_K_move_8 : decode b_K_move 8 = .ok (.aload_n 0, 1) := by decide +kernel
theorem d_K_move_9 : decode b_K_move 9 = .ok (.iload_n 2, 1) := by decide +kernel
theorem d_K_move_10 : decode b_K_move 10 = .ok (.invokevirtual 85, 3) := by decide +kernel
theorem d_K_move_13 : decode b_K_move 13 = .ok (.ifCond .eq 10, 3) := by decide +kernel
theorem d_K_move_16 : decode b_K_move 16 = .ok (.iload_n 3, 1) := by decide +kernel
theorem d_K_move_17 : decode b_K_move 17 = .ok (.invokestatic 89, 3) := by decide +kernel
theorem d_K_move_20 : decode b_K_move 20 = .ok (.ifCond .ne 5, 3) := by decide +kernel
theorem d_K_move_23 : decode b_K_move 23 = .ok (.iconst 0, 1) := by decide +kernel
theorem d_K_move_24 : decode b_K_move 24 = .ok (.ireturn, 1) := by decide +kernel
theorem d_K_move_25 : decode b_K_move 25 = .ok (.aload_n 0, 1) := by decide +kernel
theorem d_K_move_26 : decode b_K_move 26 = .ok (.getfield 34, 3) := by decide +kernel
theorem d_K_move_29 : decode b_K_move 29 = .ok (.getfield 92, 3) := by decide +kernel
theorem d_K_move_32 : decode b_K_move 32 = .ok (.iload_n 1, 1) := by decide +kernel
theorem d_K_move_33 : decode b_K_move 33 = .ok (.aaload, 1) := by decide +kernel
theorem d_K_move_34 : decode b_K_move 34 = .ok (.iload_n 2, 1) := by decide +kernel
theorem d_K_move_35 : decode b_K_move 35 = .ok (.iload_n 3, 1) := by decide +kernel
theorem d_K_move_36 : decode b_K_move 36 = .ok (.iastore, 1) := by decide +kernel
theorem d_K_move_37 : decode b_K_move 37 = .ok (.iconst 1, 1) := by decide +kernel
theorem d_K_move_38 : decode b_K_move 38 = .ok (.ireturn, 1) := by decide +kernel
theorem d_K_isAct_0 : decode b_K_isAct 0 = .ok (.iload_n 1, 1) := by decide +kernel
theorem d_K_isAct_1 : decode b_K_isAct 1 = .ok (.aload_n 0, 1) := by decide +kernel
theorem d_K_isAct_2 : decode b_K_isAct 2 = .ok (.getfield 18, 3) := by decide +kernel
theorem d_K_isAct_5 : decode b_K_isAct 5 = .ok (.invokestatic 96, 3) := by decide +kernel
theorem d_K_isAct_8 : decode b_K_isAct 8 = .ok (.ireturn, 1) := by decide +kernel
theorem d_K_isBelow_0 : decode b_K_isBelow 0 = .ok (.iload_n 0, 1) := by decide +kernel
theorem d_K_isBelow_1 : decode b_K_isBelow 1 = .ok (.ifCond .lt 12, 3) := by decide +kernel
theorem d_K_isBelow_4 : decode b_K_isBelow 4 = .ok (.iload_n 0, 1) := by decide +kernel
theorem d_K_isBelow_5 : decode b_K_isBelow 5 = .ok (.iload_n 1, 1) := by decide +kernel
theorem d_K_isBelow_6 : decode b_K_isBelow 6 = .ok (.if_icmp .ge 7, 3) := by decide +kernel
theorem d_K_isBelow_9 : decode b_K_isBelow 9 = .ok (.iconst 1, 1) := by decide +kernel
theorem d_K_isBelow_10 : decode b_K_isBelow 10 = .ok (.goto 4, 3) := by decide +kernel
theorem d_K_isBelow_13 : decode b_K_isBelow 13 = .ok (.iconst 0, 1) := by decide +kernel
theorem d_K_isBelow_14 : decode b_K_isBelow 14 = .ok (.ireturn, 1) := by decide +kernel
theorem d_K_isCost_0 : decode b_K_isCost 0 = .ok (.iload_n 0, 1) := by decide +kernel
theorem d_K_isCost_1 : decode b_K_isCost 1 = .ok (.ifCond .lt 14, 3) := by decide +kernel
theorem d_K_isCost_4 : decode b_K_isCost 4 = .ok (.iload_n 0, 1) := by decide +kernel
theorem d_K_isCost_5 : decode b_K_isCost 5 = .ok (.sipush 10000, 3) := by decide +kernel
theorem d_K_isCost_8 : decode b_K_isCost 8 = .ok (.if_icmp .gt 7, 3) := by decide +kernel
theorem d_K_isCost_11 : decode b_K_isCost 11 = .ok (.iconst 1, 1) := by decide +kernel
theorem d_K_isCost_12 : decode b_K_isCost 12 = .ok (.goto 4, 3) := by decide +kernel
theorem d_K_isCost_15 : decode b_K_isCost 15 = .ok (.iconst 0, 1) := by decide +kernel
theorem d_K_isCost_16 : decode b_K_isCost 16 = .ok (.ireturn, 1) := by decide +kernel
theorem d_K_speed_0 : decode b_K_speed 0 = .ok (.aload_n 0, 1) := by decide +kernel
theorem d_K_speed_1 : decode b_K_speed 1 = .ok (.iload_n 1, 1) := by decide +kernel
theorem d_K_speed_2 : decode b_K_speed 2 = .ok (.invokevirtual 85, 3) := by decide +kernel
theorem d_K_speed_5 : decode b_K_speed 5 = .ok (.ifCond .eq 19, 3) := by decide +kernel
theorem d_K_speed_8 : decode b_K_speed 8 = .ok (.iload_n 2, 1) := by decide +kernel
theorem d_K_speed_9 : decode b_K_speed 9 = .ok (.bipush 10, 2) := by decide +kernel
theorem d_K_speed_11 : decode b_K_speed 11 = .ok (.invokestatic 96, 3) := by decide +kernel
theorem d_K_speed_14 : decode b_K_speed 14 = .ok (.ifCond .eq 10, 3) := by decide +kernel
theorem d_K_speed_17 : decode b_K_speed 17 = .ok (.iload_n 3, 1) := by decide +kernel
theorem d_K_speed_18 : decode b_K_speed 18 = .ok (.invokestatic 89, 3) := by decide +kernel
theorem d_K_speed_21 : decode b_K_speed 21 = .ok (.ifCond .ne 5, 3) := by decide +kernel
theorem d_K_speed_24 : decode b_K_speed 24 = .ok (.iconst 0, 1) := by decide +kernel
theorem d_K_speed_25 : decode b_K_speed 25 = .ok (.ireturn, 1) := by decide +kernel
theorem d_K_speed_26 : decode b_K_speed 26 = .ok (.aload_n 0, 1) := by decide +kernel
theorem d_K_speed_27 : decode b_K_speed 27 = .ok (.getfield 34, 3) := by decide +kernel
theorem d_K_speed_30 : decode b_K_speed 30 = .ok (.getfield 100, 3) := by decide +kernel
theorem d_K_speed_33 : decode b_K_speed 33 = .ok (.iload_n 1, 1) := by decide +kernel
theorem d_K_speed_34 : decode b_K_speed 34 = .ok (.aaload, 1) := by decide +kernel
theorem d_K_speed_35 : decode b_K_speed 35 = .ok (.iload_n 2, 1) := by decide +kernel
theorem d_K_speed_36 : decode b_K_speed 36 = .ok (.iload_n 3, 1) := by decide +kernel
theorem d_K_speed_37 : decode b_K_speed 37 = .ok (.iastore, 1) := by decide +kernel
theorem d_K_speed_38 : decode b_K_speed 38 = .ok (.iconst 1, 1) := by decide +kernel
theorem d_K_speed_39 : decode b_K_speed 39 = .ok (.ireturn, 1) := by decide +kernel
theorem d_K_row_0 : decode b_K_row 0 = .ok (.aload_n 0, 1) := by decide +kernel
theorem d_K_row_1 : decode b_K_row 1 = .ok (.getfield 25, 3) := by decide +kernel
theorem d_K_row_4 : decode b_K_row 4 = .ok (.lload_n 1, 1) := by decide +kernel
theorem d_K_row_5 : decode b_K_row 5 = .ok (.invokevirtual 103, 3) := by decide +kernel
theorem d_K_row_8 : decode b_K_row 8 = .ok (.ifCond .eq 21, 3) := by decide +kernel
theorem d_K_row_11 : decode b_K_row 11 = .ok (.iload_n 3, 1) := by decide +kernel
theorem d_K_row_12 : decode b_K_row 12 = .ok (.bipush 10, 2) := by decide +kernel
theorem d_K_row_14 : decode b_K_row 14 = .ok (.invokestatic 96, 3) := by decide +kernel
theorem d_K_row_17 : decode b_K_row 17 = .ok (.ifCond .eq 12, 3) := by decide +kernel
theorem d_K_row_20 : decode b_K_row 20 = .ok (.iload 4, 2) := by decide +kernel
theorem d_K_row_22 : decode b_K_row 22 = .ok (.iconst 4, 1) := by decide +kernel
theorem d_K_row_23 : decode b_K_row 23 = .ok (.invokestatic 96, 3) := by decide +kernel
theorem d_K_row_26 : decode b_K_row 26 = .ok (.ifCond .ne 5, 3) := by decide +kernel
theorem d_K_row_29 : decode b_K_row 29 = .ok (.iconst 0, 1) := by decide +kernel
theorem d_K_row_30 : decode b_K_row 30 = .ok (.ireturn, 1) := by decide +kernel
theorem d_K_row_31 : decode b_K_row 31 = .ok (.aload_n 0, 1) := by decide +kernel
theorem d_K_row_32 : decode b_K_row 32 = .ok (.getfield 25, 3) := by decide +kernel
theorem d_K_row_35 : decode b_K_row 35 = .ok (.lload_n 1, 1) := by decide +kernel
theorem d_K_row_36 : decode b_K_row 36 = .ok (.iload_n 3, 1) := by decide +kernel
theorem d_K_row_37 : decode b_K_row 37 = .ok (.iload 4, 2) := by decide +kernel
theorem d_K_row_39 : decode b_K_row 39 = .ok (.aload_n 0, 1) := by decide +kernel
theorem d_K_row_40 : decode b_K_row 40 = .ok (.getfield 79, 3) := by decide +kernel
theorem d_K_row_43 : decode b_K_row 43 = .ok (.invokevirtual 107, 3) := by decide +kernel
theorem d_K_row_46 : decode b_K_row 46 = .ok (.iconst 1, 1) := by decide +kernel
theorem d_K_row_47 : decode b_K_row 47 = .ok (.ireturn, 1) := by decide +kernel
theorem d_T_canFollow_0 : decode b_T_canFollow 0 = .ok (.aload_n 0, 1) := by decide +kernel
theorem d_T_canFollow_1 : decode b_T_canFollow 1 = .ok (.getfield 28, 3) := by decide +kernel
theorem d_T_canFollow_4 : decode b_T_canFollow 4 = .ok (.sipush 200, 3) := by decide +kernel
theorem d_T_canFollow_7 : decode b_T_canFollow 7 = .ok (.if_icmp .ge 9, 3) := by decide +kernel
theorem d_T_canFollow_10 : decode b_T_canFollow 10 = .ok (.lload_n 1, 1) := by decide +kernel
theorem d_T_canFollow_11 : decode b_T_canFollow 11 = .ok (.lconst 0, 1) := by decide +kernel
theorem d_T_canFollow_12 : decode b_T_canFollow 12 = .ok (.lcmp, 1) := by decide +kernel
theorem d_T_canFollow_13 : decode b_T_canFollow 13 = .ok (.ifCond .ge 5, 3) := by decide +kernel
theorem d_T_canFollow_16 : decode b_T_canFollow 16 = .ok (.iconst 0, 1) := by decide +kernel
theorem d_T_canFollow_17 : decode b_T_canFollow 17 = .ok (.ireturn, 1) := by decide +kernel
theorem d_T_canFollow_18 : decode b_T_canFollow 18 = .ok (.aload_n 0, 1) := by decide +kernel
theorem d_T_canFollow_19 : decode b_T_canFollow 19 = .ok (.getfield 28, 3) := by decide +kernel
theorem d_T_canFollow_22 : decode b_T_canFollow 22 = .ok (.ifCond .eq 19, 3) := by decide +kernel
theorem d_T_canFollow_25 : decode b_T_canFollow 25 = .ok (.lload_n 1, 1) := by decide +kernel
theorem d_T_canFollow_26 : decode b_T_canFollow 26 = .ok (.aload_n 0, 1) := by decide +kernel
theorem d_T_canFollow_27 : decode b_T_canFollow 27 = .ok (.getfield 9, 3) := by decide +kernel
theorem d_T_canFollow_30 : decode b_T_canFollow 30 = .ok (.aload_n 0, 1) := by decide +kernel
theorem d_T_canFollow_31 : decode b_T_canFollow 31 = .ok (.getfield 28, 3) := by decide +kernel
theorem d_T_canFollow_34 : decode b_T_canFollow 34 = .ok (.iconst 1, 1) := by decide +kernel
theorem d_T_canFollow_35 : decode b_T_canFollow 35 = .ok (.isub, 1) := by decide +kernel
theorem d_T_canFollow_36 : decode b_T_canFollow 36 = .ok (.laload, 1) := by decide +kernel
theorem d_T_canFollow_37 : decode b_T_canFollow 37 = .ok (.lcmp, 1) := by decide +kernel
theorem d_T_canFollow_38 : decode b_T_canFollow 38 = .ok (.ifCond .le 7, 3) := by decide +kernel
theorem d_T_canFollow_41 : decode b_T_canFollow 41 = .ok (.iconst 1, 1) := by decide +kernel
theorem d_T_canFollow_42 : decode b_T_canFollow 42 = .ok (.goto 4, 3) := by decide +kernel
theorem d_T_canFollow_45 : decode b_T_canFollow 45 = .ok (.iconst 0, 1) := by decide +kernel
theorem d_T_canFollow_46 : decode b_T_canFollow 46 = .ok (.ireturn, 1) := by decide +kernel
theorem d_T_add_0 : decode b_T_add 0 = .ok (.aload_n 0, 1) := by decide +kernel
theorem d_T_add_1 : decode b_T_add 1 = .ok (.getfield 9, 3) := by decide +kernel
theorem d_T_add_4 : decode b_T_add 4 = .ok (.aload_n 0, 1) := by decide +kernel
theorem d_T_add_5 : decode b_T_add 5 = .ok (.getfield 28, 3) := by decide +kernel
theorem d_T_add_8 : decode b_T_add 8 = .ok (.lload_n 1, 1) := by decide +kernel
theorem d_T_add_9 : decode b_T_add 9 = .ok (.lastore, 1) := by decide +kernel
theorem d_T_add_10 : decode b_T_add 10 = .ok (.aload_n 0, 1) := by decide +kernel
theorem d_T_add_11 : decode b_T_add 11 = .ok (.getfield 15, 3) := by decide +kernel
theorem d_T_add_14 : decode b_T_add 14 = .ok (.aload_n 0, 1) := by decide +kernel
theorem d_T_add_15 : decode b_T_add 15 = .ok (.getfield 28, 3) := by decide +kernel
theorem d_T_add_18 : decode b_T_add 18 = .ok (.iload_n 3, 1) := by decide +kernel
theorem d_T_add_19 : decode b_T_add 19 = .ok (.iastore, 1) := by decide +kernel
theorem d_T_add_20 : decode b_T_add 20 = .ok (.aload_n 0, 1) := by decide +kernel
theorem d_T_add_21 : decode b_T_add 21 = .ok (.getfield 19, 3) := by decide +kernel
theorem d_T_add_24 : decode b_T_add 24 = .ok (.aload_n 0, 1) := by decide +kernel
theorem d_T_add_25 : decode b_T_add 25 = .ok (.getfield 28, 3) := by decide +kernel
theorem d_T_add_28 : decode b_T_add 28 = .ok (.iload 4, 2) := by decide +kernel
theorem d_T_add_30 : decode b_T_add 30 = .ok (.iastore, 1) := by decide +kernel
theorem d_T_add_31 : decode b_T_add 31 = .ok (.aload_n 0, 1) := by decide +kernel
theorem d_T_add_32 : decode b_T_add 32 = .ok (.getfield 22, 3) := by decide +kernel
theorem d_T_add_35 : decode b_T_add 35 = .ok (.aload_n 0, 1) := by decide +kernel
theorem d_T_add_36 : decode b_T_add 36 = .ok (.getfield 28, 3) := by decide +kernel
theorem d_T_add_39 : decode b_T_add 39 = .ok (.iload 5, 2) := by decide +kernel
theorem d_T_add_41 : decode b_T_add 41 = .ok (.iastore, 1) := by decide +kernel
theorem d_T_add_42 : decode b_T_add 42 = .ok (.aload_n 0, 1) := by decide +kernel
theorem d_T_add_43 : decode b_T_add 43 = .ok (.getfield 25, 3) := by decide +kernel
theorem d_T_add_46 : decode b_T_add 46 = .ok (.aload_n 0, 1) := by decide +kernel
theorem d_T_add_47 : decode b_T_add 47 = .ok (.getfield 28, 3) := by decide +kernel
theorem d_T_add_50 : decode b_T_add 50 = .ok (.iconst (-1), 1) := by decide +kernel
theorem d_T_add_51 : decode b_T_add 51 = .ok (.iastore, 1) := by decide +kernel
theorem d_T_add_52 : decode b_T_add 52 = .ok (.aload_n 0, 1) := by decide +kernel
theorem d_T_add_53 : decode b_T_add 53 = .ok (.dup, 1) := by decide +kernel
theorem d_T_add_54 : decode b_T_add 54 = .ok (.getfield 28, 3) := by decide +kernel
theorem d_T_add_57 : decode b_T_add 57 = .ok (.iconst 1, 1) := by decide +kernel
theorem d_T_add_58 : decode b_T_add 58 = .ok (.iadd, 1) := by decide +kernel
theorem d_T_add_59 : decode b_T_add 59 = .ok (.putfield 28, 3) := by decide +kernel
theorem d_T_add_62 : decode b_T_add 62 = .ok (.return_, 1) := by decide +kernel
theorem d_K_run_0 : decode b_K_run 0 = .ok (.aload_n 0, 1) := by decide +kernel
theorem d_K_run_1 : decode b_K_run 1 = .ok (.getfield 25, 3) := by decide +kernel
theorem d_K_run_4 : decode b_K_run 4 = .ok (.getfield 111, 3) := by decide +kernel
theorem d_K_run_7 : decode b_K_run 7 = .ok (.ifCond .ne 5, 3) := by decide +kernel
theorem d_K_run_10 : decode b_K_run 10 = .ok (.iconst (-1), 1) := by decide +kernel
theorem d_K_run_11 : decode b_K_run 11 = .ok (.ireturn, 1) := by decide +kernel
theorem d_K_run_12 : decode b_K_run 12 = .ok (.aload_n 0, 1) := by decide +kernel
theorem d_K_run_13 : decode b_K_run 13 = .ok (.getfield 47, 3) := by decide +kernel
theorem d_K_run_16 : decode b_K_run 16 = .ok (.aload_n 0, 1) := by decide +kernel
theorem d_K_run_17 : decode b_K_run 17 = .ok (.getfield 25, 3) := by decide +kernel
theorem d_K_run_20 : decode b_K_run 20 = .ok (.aload_n 0, 1) := by decide +kernel
theorem d_K_run_21 : decode b_K_run 21 = .ok (.getfield 34, 3) := by decide +kernel
theorem d_K_run_24 : decode b_K_run 24 = .ok (.iconst (-1), 1) := by decide +kernel
theorem d_K_run_25 : decode b_K_run 25 = .ok (.invokevirtual 114, 3) := by decide +kernel
theorem d_K_run_28 : decode b_K_run 28 = .ok (.aload_n 0, 1) := by decide +kernel
theorem d_K_run_29 : decode b_K_run 29 = .ok (.getfield 54, 3) := by decide +kernel
theorem d_K_run_32 : decode b_K_run 32 = .ok (.aload_n 0, 1) := by decide +kernel
theorem d_K_run_33 : decode b_K_run 33 = .ok (.getfield 25, 3) := by decide +kernel
theorem d_K_run_36 : decode b_K_run 36 = .ok (.aload_n 0, 1) := by decide +kernel
theorem d_K_run_37 : decode b_K_run 37 = .ok (.getfield 34, 3) := by decide +kernel
theorem d_K_run_40 : decode b_K_run 40 = .ok (.aload_n 0, 1) := by decide +kernel
theorem d_K_run_41 : decode b_K_run 41 = .ok (.getfield 47, 3) := by decide +kernel
theorem d_K_run_44 : decode b_K_run 44 = .ok (.invokevirtual 118, 3) := by decide +kernel
theorem d_K_run_47 : decode b_K_run 47 = .ok (.aload_n 0, 1) := by decide +kernel
theorem d_K_run_48 : decode b_K_run 48 = .ok (.getfield 54, 3) := by decide +kernel
theorem d_K_run_51 : decode b_K_run 51 = .ok (.getfield 122, 3) := by decide +kernel
theorem d_K_run_54 : decode b_K_run 54 = .ok (.ireturn, 1) := by decide +kernel
theorem d_F_find_0 : decode b_F_find 0 = .ok (.aload_n 1, 1) := by decide +kernel
theorem d_F_find_1 : decode b_F_find 1 = .ok (.getfield 36, 3) := by decide +kernel
theorem d_F_find_4 : decode b_F_find 4 = .ok (.iconst 1, 1) := by decide +kernel
theorem d_F_find_5 : decode b_F_find 5 = .ok (.isub, 1) := by decide +kernel
theorem d_F_find_6 : decode b_F_find 6 = .ok (.istore 4, 2) := by decide +kernel
theorem d_F_find_8 : decode b_F_find 8 = .ok (.iload 4, 2) := by decide +kernel
theorem d_F_find_10 : decode b_F_find 10 = .ok (.ifCond .lt 18, 3) := by decide +kernel
theorem d_F_find_13 : decode b_F_find 13 = .ok (.aload_n 0, 1) := by decide +kernel
theorem d_F_find_14 : decode b_F_find 14 = .ok (.aload_n 1, 1) := by decide +kernel
theorem d_F_find_15 : decode b_F_find 15 = .ok (.aload_n 2, 1) := by decide +kernel
theorem d_F_find_16 : decode b_F_find 16 = .ok (.iload 4, 2) := by decide +kernel
theorem d_F_find_18 : decode b_F_find 18 = .ok (.iload_n 3, 1) := by decide +kernel
theorem d_F_find_19 : decode b_F_find 19 = .ok (.invokevirtual 41, 3) := by decide +kernel
theorem d_F_find_22 : decode b_F_find 22 = .ok (.iinc 4 (-1), 3) := by decide +kernel
theorem d_F_find_25 : decode b_F_find 25 = .ok (.goto (-17), 3) := by decide +kernel
theorem d_F_find_28 : decode b_F_find 28 = .ok (.aload_n 0, 1) := by decide +kernel
theorem d_F_find_29 : decode b_F_find 29 = .ok (.getfield 9, 3) := by decide +kernel
theorem d_F_find_32 : decode b_F_find 32 = .ok (.iconst 0, 1) := by decide +kernel
theorem d_F_find_33 : decode b_F_find 33 = .ok (.aload_n 0, 1) := by decide +kernel
theorem d_F_find_34 : decode b_F_find 34 = .ok (.aload_n 0, 1) := by decide +kernel
theorem d_F_find_35 : decode b_F_find 35 = .ok (.getfield 27, 3) := by decide +kernel
theorem d_F_find_38 : decode b_F_find 38 = .ok (.aload_n 0, 1) := by decide +kernel
theorem d_F_find_39 : decode b_F_find 39 = .ok (.getfield 24, 3) := by decide +kernel
theorem d_F_find_42 : decode b_F_find 42 = .ok (.iconst 0, 1) := by decide +kernel
theorem d_F_find_43 : decode b_F_find 43 = .ok (.aaload, 1) := by decide +kernel
theorem d_F_find_44 : decode b_F_find 44 = .ok (.invokevirtual 45, 3) := by decide +kernel
theorem d_F_find_47 : decode b_F_find 47 = .ok (.iastore, 1) := by decide +kernel
theorem d_F_find_48 : decode b_F_find 48 = .ok (.aload_n 0, 1) := by decide +kernel
theorem d_F_find_49 : decode b_F_find 49 = .ok (.aload_n 0, 1) := by decide +kernel
theorem d_F_find_50 : decode b_F_find 50 = .ok (.getfield 24, 3) := by decide +kernel
theorem d_F_find_53 : decode b_F_find 53 = .ok (.iconst 0, 1) := by decide +kernel
theorem d_F_find_54 : decode b_F_find 54 = .ok (.aaload, 1) := by decide +kernel
theorem d_F_find_55 : decode b_F_find 55 = .ok (.aload_n 0, 1) := by decide +kernel
theorem d_F_find_56 : decode b_F_find 56 = .ok (.getfield 9, 3) := by decide +kernel
theorem d_F_find_59 : decode b_F_find 59 = .ok (.iconst 0, 1) := by decide +kernel
theorem d_F_find_60 : decode b_F_find 60 = .ok (.iaload, 1) := by decide +kernel
theorem d_F_find_61 : decode b_F_find 61 = .ok (.iaload, 1) := by decide +kernel
theorem d_F_find_62 : decode b_F_find 62 = .ok (.putfield 15, 3) := by decide +kernel
theorem d_F_find_65 : decode b_F_find 65 = .ok (.iconst 1, 1) := by decide +kernel
theorem d_F_find_66 : decode b_F_find 66 = .ok (.istore 4, 2) := by decide +kernel
theorem d_F_find_68 : decode b_F_find 68 = .ok (.iload 4, 2) := by decide +kernel
theorem d_F_find_70 : decode b_F_find 70 = .ok (.aload_n 1, 1) := by decide +kernel
theorem d_F_find_71 : decode b_F_find 71 = .ok (.getfield 36, 3) := by decide +kernel
theorem d_F_find_74 : decode b_F_find 74 = .ok (.if_icmp .ge 41, 3) := by decide +kernel
theorem d_F_find_77 : decode b_F_find 77 = .ok (.aload_n 0, 1) := by decide +kernel
theorem d_F_find_78 : decode b_F_find 78 = .ok (.getfield 9, 3) := by decide +kernel
theorem d_F_find_81 : decode b_F_find 81 = .ok (.iload 4, 2) := by decide +kernel
theorem d_F_find_83 : decode b_F_find 83 = .ok (.aload_n 0, 1) := by decide +kernel
theorem d_F_find_84 : decode b_F_find 84 = .ok (.aload_n 2, 1) := by decide +kernel
theorem d_F_find_85 : decode b_F_find 85 = .ok (.getfield 49, 3) := by decide +kernel
theorem d_F_find_88 : decode b_F_find 88 = .ok (.aload_n 0, 1) := by decide +kernel
theorem d_F_find_89 : decode b_F_find 89 = .ok (.getfield 9, 3) := by decide +kernel
theorem d_F_find_92 : decode b_F_find 92 = .ok (.iload 4, 2) := by decide +kernel
theorem d_F_find_94 : decode b_F_find 94 = .ok (.iconst 1, 1) := by decide +kernel
theorem d_F_find_95 : decode b_F_find 95 = .ok (.isub, 1) := by decide +kernel
theorem d_F_find_96 : decode b_F_find 96 = .ok (.iaload, 1) := by decide +kernel
theorem d_F_find_97 : decode b_F_find 97 = .ok (.aaload, 1) := by decide +kernel
theorem d_F_find_98 : decode b_F_find 98 = .ok (.aload_n 0, 1) := by decide +kernel
theorem d_F_find_99 : decode b_F_find 99 = .ok (.getfield 24, 3) := by decide +kernel
theorem d_F_find_102 : decode b_F_find 102 = .ok (.iload 4, 2) := by decide +kernel
theorem d_F_find_104 : decode b_F_find 104 = .ok (.aaload, 1) := by decide +kernel
theorem d_F_find_105 : decode b_F_find 105 = .ok (.invokevirtual 45, 3) := by decide +kernel
theorem d_F_find_108 : decode b_F_find 108 = .ok (.iastore, 1) := by decide +kernel
theorem d_F_find_109 : decode b_F_find 109 = .ok (.iinc 4 1, 3) := by decide +kernel
theorem d_F_find_112 : decode b_F_find 112 = .ok (.goto (-44), 3) := by decide +kernel
theorem d_F_find_115 : decode b_F_find 115 = .ok (.return_, 1) := by decide +kernel
theorem d_F_fillToGo_0 : decode b_F_fillToGo 0 = .ok (.aload_n 1, 1) := by decide +kernel
theorem d_F_fillToGo_1 : decode b_F_fillToGo 1 = .ok (.getfield 71, 3) := by decide +kernel
theorem d_F_fillToGo_4 : decode b_F_fillToGo 4 = .ok (.iload_n 3, 1) := by decide +kernel
theorem d_F_fillToGo_5 : decode b_F_fillToGo 5 = .ok (.iaload, 1) := by decide +kernel
theorem d_F_fillToGo_6 : decode b_F_fillToGo 6 = .ok (.istore 5, 2) := by decide +kernel
theorem d_F_fillToGo_8 : decode b_F_fillToGo 8 = .ok (.iconst 0, 1) := by decide +kernel
theorem d_F_fillToGo_9 : decode b_F_fillToGo 9 = .ok (.istore 6, 2) := by decide +kernel
theorem d_F_fillToGo_11 : decode b_F_fillToGo 11 = .ok (.iload 6, 2) := by decide +kernel
theorem d_F_fillToGo_13 : decode b_F_fillToGo 13 = .ok (.aload_n 0, 1) := by decide +kernel
theorem d_F_fillToGo_14 : decode b_F_fillToGo 14 = .ok (.getfield 19, 3) := by decide +kernel
theorem d_F_fillToGo_17 : decode b_F_fillToGo 17 = .ok (.if_icmp .ge 129, 3) := by decide +kernel
theorem d_F_fillToGo_20 : decode b_F_fillToGo 20 = .ok (.aload_n 1, 1) := by decide +kernel
theorem d_F_fillToGo_21 : decode b_F_fillToGo 21 = .ok (.iload_n 3, 1) := by decide +kernel
theorem d_F_fillToGo_22 : decode b_F_fillToGo 22 = .ok (.iload 6, 2) := by decide +kernel
theorem d_F_fillToGo_24 : decode b_F_fillToGo 24 = .ok (.iload 4, 2) := by decide +kernel
theorem d_F_fillToGo_26 : decode b_F_fillToGo 26 = .ok (.invokevirtual 74, 3) := by decide +kernel
theorem d_F_fillToGo_29 : decode b_F_fillToGo 29 = .ok (.ifCond .ne 17, 3) := by decide +kernel
theorem d_F_fillToGo_32 : decode b_F_fillToGo 32 = .ok (.aload_n 0, 1) := by decide +kernel
theorem d_F_fillToGo_33 : decode b_F_fillToGo 33 = .ok (.getfield 24, 3) := by decide +kernel
theorem d_F_fillToGo_36 : decode b_F_fillToGo 36 = .ok (.iload_n 3, 1) := by decide +kernel
theorem d_F_fillToGo_37 : decode b_F_fillToGo 37 = .ok (.aaload, 1) := by decide +kernel
theorem d_F_fillToGo_38 : decode b_F_fillToGo 38 = .ok (.iload 6, 2) := by decide +kernel
theorem d_F_fillToGo_40 : decode b_F_fillToGo 40 = .ok (.ldc 78, 2) := by decide +kernel
theorem d_F_fillToGo_42 : decode b_F_fillToGo 42 = .ok (.iastore, 1) := by decide +kernel
theorem d_F_fillToGo_43 : decode b_F_fillToGo 43 = .ok (.goto 97, 3) := by decide +kernel
theorem d_F_fillToGo_46 : decode b_F_fillToGo 46 = .ok (.iload_n 3, 1) := by decide +kernel
theorem d_F_fillToGo_47 : decode b_F_fillToGo 47 = .ok (.aload_n 1, 1) := by decide +kernel
theorem d_F_fillToGo_48 : decode b_F_fillToGo 48 = .ok (.getfield 36, 3) := by decide +kernel
theorem d_F_fillToGo_51 : decode b_F_fillToGo 51 = .ok (.iconst 1, 1) := by decide +kernel
theorem d_F_fillToGo_52 : decode b_F_fillToGo 52 = .ok (.isub, 1) := by decide +kernel
theorem d_F_fillToGo_53 : decode b_F_fillToGo 53 = .ok (.if_icmp .ne 25, 3) := by decide +kernel
theorem d_F_fillToGo_56 : decode b_F_fillToGo 56 = .ok (.aload_n 0, 1) := by decide +kernel
theorem d_F_fillToGo_57 : decode b_F_fillToGo 57 = .ok (.getfield 24, 3) := by decide +kernel
theorem d_F_fillToGo_60 : decode b_F_fillToGo 60 = .ok (.iload_n 3, 1) := by decide +kernel
theorem d_F_fillToGo_61 : decode b_F_fillToGo 61 = .ok (.aaload, 1) := by decide +kernel
theorem d_F_fillToGo_62 : decode b_F_fillToGo 62 = .ok (.iload 6, 2) := by decide +kernel
theorem d_F_fillToGo_64 : decode b_F_fillToGo 64 = .ok (.aload_n 2, 1) := by decide +kernel
theorem d_F_fillToGo_65 : decode b_F_fillToGo 65 = .ok (.getfield 79, 3) := by decide +kernel
theorem d_F_fillToGo_68 : decode b_F_fillToGo 68 = .ok (.iload 6, 2) := by decide +kernel
theorem d_F_fillToGo_70 : decode b_F_fillToGo 70 = .ok (.aaload, 1) := by decide +kernel
theorem d_F_fillToGo_71 : decode b_F_fillToGo 71 = .ok (.iload 5, 2) := by decide +kernel
theorem d_F_fillToGo_73 : decode b_F_fillToGo 73 = .ok (.iaload, 1) := by decide +kernel
theorem d_F_fillToGo_74 : decode b_F_fillToGo 74 = .ok (.iastore, 1) := by decide +kernel
theorem d_F_fillToGo_75 : decode b_F_fillToGo 75 = .ok (.goto 65, 3) := by decide +kernel
theorem d_F_fillToGo_78 : decode b_F_fillToGo 78 = .ok (.aload_n 2, 1) := by decide +kernel
theorem d_F_fillToGo_79 : decode b_F_fillToGo 79 = .ok (.getfield 49, 3) := by decide +kernel
theorem d_F_fillToGo_82 : decode b_F_fillToGo 82 = .ok (.iload 6, 2) := by decide +kernel
theorem d_F_fillToGo_84 : decode b_F_fillToGo 84 = .ok (.aaload, 1) := by decide +kernel
theorem d_F_fillToGo_85 : decode b_F_fillToGo 85 = .ok (.astore 7, 2) := by decide +kernel
theorem d_F_fillToGo_87 : decode b_F_fillToGo 87 = .ok (.aload_n 0, 1) := by decide +kernel
theorem d_F_fillToGo_88 : decode b_F_fillToGo 88 = .ok (.aload 7, 2) := by decide +kernel
theorem d_F_fillToGo_90 : decode b_F_fillToGo 90 = .ok (.aload_n 0, 1) := by decide +kernel
theorem d_F_fillToGo_91 : decode b_F_fillToGo 91 = .ok (.getfield 24, 3) := by decide +kernel
theorem d_F_fillToGo_94 : decode b_F_fillToGo 94 = .ok (.iload_n 3, 1) := by decide +kernel
theorem d_F_fillToGo_95 : decode b_F_fillToGo 95 = .ok (.iconst 1, 1) := by decide +kernel
theorem d_F_fillToGo_96 : decode b_F_fillToGo 96 = .ok (.iadd, 1) := by decide +kernel
theorem d_F_fillToGo_97 : decode b_F_fillToGo 97 = .ok (.aaload, 1) := by decide +kernel
theorem d_F_fillToGo_98 : decode b_F_fillToGo 98 = .ok (.invokevirtual 45, 3) := by decide +kernel
theorem d_F_fillToGo_101 : decode b_F_fillToGo 101 = .ok (.istore 8, 2) := by decide +kernel
theorem d_F_fillToGo_103 : decode b_F_fillToGo 103 = .ok (.aload_n 0, 1) := by decide +kernel
theorem d_F_fillToGo_104 : decode b_F_fillToGo 104 = .ok (.getfield 24, 3) := by decide +kernel
theorem d_F_fillToGo_107 : decode b_F_fillToGo 107 = .ok (.iload_n 3, 1) := by decide +kernel
theorem d_F_fillToGo_108 : decode b_F_fillToGo 108 = .ok (.aaload, 1) := by decide +kernel
theorem d_F_fillToGo_109 : decode b_F_fillToGo 109 = .ok (.iload 6, 2) := by decide +kernel
theorem d_F_fillToGo_111 : decode b_F_fillToGo 111 = .ok (.aload_n 2, 1) := by decide +kernel
theorem d_F_fillToGo_112 : decode b_F_fillToGo 112 = .ok (.getfield 79, 3) := by decide +kernel
theorem d_F_fillToGo_115 : decode b_F_fillToGo 115 = .ok (.iload 6, 2) := by decide +kernel
theorem d_F_fillToGo_117 : decode b_F_fillToGo 117 = .ok (.aaload, 1) := by decide +kernel
theorem d_F_fillToGo_118 : decode b_F_fillToGo 118 = .ok (.iload 5, 2) := by decide +kernel
theorem d_F_fillToGo_120 : decode b_F_fillToGo 120 = .ok (.iaload, 1) := by decide +kernel
theorem d_F_fillToGo_121 : decode b_F_fillToGo 121 = .ok (.aload 7, 2) := by decide +kernel
theorem d_F_fillToGo_123 : decode b_F_fillToGo 123 = .ok (.iload 8, 2) := by decide +kernel
theorem d_F_fillToGo_125 : decode b_F_fillToGo 125 = .ok (.iaload, 1) := by decide +kernel
theorem d_F_fillToGo_126 : decode b_F_fillToGo 126 = .ok (.iadd, 1) := by decide +kernel
theorem d_F_fillToGo_127 : decode b_F_fillToGo 127 = .ok (.aload_n 0, 1) := by decide +kernel
theorem d_F_fillToGo_128 : decode b_F_fillToGo 128 = .ok (.getfield 24, 3) := by decide +kernel
theorem d_F_fillToGo_131 : decode b_F_fillToGo 131 = .ok (.iload_n 3, 1) := by decide +kernel
theorem d_F_fillToGo_132 : decode b_F_fillToGo 132 = .ok (.iconst 1, 1) := by decide +kernel
theorem d_F_fillToGo_133 : decode b_F_fillToGo 133 = .ok (.iadd, 1) := by decide +kernel
theorem d_F_fillToGo_134 : decode b_F_fillToGo 134 = .ok (.aaload, 1) := by decide +kernel
theorem d_F_fillToGo_135 : decode b_F_fillToGo 135 = .ok (.iload 8, 2) := by decide +kernel
theorem d_F_fillToGo_137 : decode b_F_fillToGo 137 = .ok (.iaload, 1) := by decide +kernel
theorem d_F_fillToGo_138 : decode b_F_fillToGo 138 = .ok (.iadd, 1) := by decide +kernel
theorem d_F_fillToGo_139 : decode b_F_fillToGo 139 = .ok (.iastore, 1) := by decide +kernel
theorem d_F_fillToGo_140 : decode b_F_fillToGo 140 = .ok (.iinc 6 1, 3) := by decide +kernel
theorem d_F_fillToGo_143 : decode b_F_fillToGo 143 = .ok (.goto (-132), 3) := by decide +kernel
theorem d_F_fillToGo_146 : decode b_F_fillToGo 146 = .ok (.return_, 1) := by decide +kernel
theorem d_T_allows_0 : decode b_T_allows 0 = .ok (.aload_n 0, 1) := by decide +kernel
theorem d_T_allows_1 : decode b_T_allows 1 = .ok (.getfield 25, 3) := by decide +kernel
theorem d_T_allows_4 : decode b_T_allows 4 = .ok (.iload_n 1, 1) := by decide +kernel
theorem d_T_allows_5 : decode b_T_allows 5 = .ok (.iaload, 1) := by decide +kernel
theorem d_T_allows_6 : decode b_T_allows 6 = .ok (.iconst (-1), 1) := by decide +kernel
theorem d_T_allows_7 : decode b_T_allows 7 = .ok (.if_icmp .eq 23, 3) := by decide +kernel
theorem d_T_allows_10 : decode b_T_allows 10 = .ok (.aload_n 0, 1) := by decide +kernel
theorem d_T_allows_11 : decode b_T_allows 11 = .ok (.getfield 25, 3) := by decide +kernel
theorem d_T_allows_14 : decode b_T_allows 14 = .ok (.iload_n 1, 1) := by decide +kernel
theorem d_T_allows_15 : decode b_T_allows 15 = .ok (.iaload, 1) := by decide +kernel
theorem d_T_allows_16 : decode b_T_allows 16 = .ok (.iload_n 2, 1) := by decide +kernel
theorem d_T_allows_17 : decode b_T_allows 17 = .ok (.if_icmp .eq 13, 3) := by decide +kernel
theorem d_T_allows_20 : decode b_T_allows 20 = .ok (.aload_n 0, 1) := by decide +kernel
theorem d_T_allows_21 : decode b_T_allows 21 = .ok (.getfield 22, 3) := by decide +kernel
theorem d_T_allows_24 : decode b_T_allows 24 = .ok (.iload_n 1, 1) := by decide +kernel
theorem d_T_allows_25 : decode b_T_allows 25 = .ok (.iaload, 1) := by decide +kernel
theorem d_T_allows_26 : decode b_T_allows 26 = .ok (.iload_n 3, 1) := by decide +kernel
theorem d_T_allows_27 : decode b_T_allows 27 = .ok (.if_icmp .ne 7, 3) := by decide +kernel
theorem d_T_allows_30 : decode b_T_allows 30 = .ok (.iconst 1, 1) := by decide +kernel
theorem d_T_allows_31 : decode b_T_allows 31 = .ok (.goto 4, 3) := by decide +kernel
theorem d_T_allows_34 : decode b_T_allows 34 = .ok (.iconst 0, 1) := by decide +kernel
theorem d_T_allows_35 : decode b_T_allows 35 = .ok (.ireturn, 1) := by decide +kernel
theorem d_F_cheapest_0 : decode b_F_cheapest 0 = .ok (.iconst 0, 1) := by decide +kernel
theorem d_F_cheapest_1 : decode b_F_cheapest 1 = .ok (.istore_n 3, 1) := by decide +kernel
theorem d_F_cheapest_2 : decode b_F_cheapest 2 = .ok (.aload_n 1, 1) := by decide +kernel
theorem d_F_cheapest_3 : decode b_F_cheapest 3 = .ok (.iconst 0, 1) := by decide +kernel
theorem d_F_cheapest_4 : decode b_F_cheapest 4 = .ok (.iaload, 1) := by decide +kernel
theorem d_F_cheapest_5 : decode b_F_cheapest 5 = .ok (.aload_n 2, 1) := by decide +kernel
theorem d_F_cheapest_6 : decode b_F_cheapest 6 = .ok (.iconst 0, 1) := by decide +kernel
theorem d_F_cheapest_7 : decode b_F_cheapest 7 = .ok (.iaload, 1) := by decide +kernel
theorem d_F_cheapest_8 : decode b_F_cheapest 8 = .ok (.iadd, 1) := by decide +kernel
theorem d_F_cheapest_9 : decode b_F_cheapest 9 = .ok (.istore 4, 2) := by decide +kernel
theorem d_F_cheapest_11 : decode b_F_cheapest 11 = .ok (.iconst 1, 1) := by decide +kernel
theorem d_F_cheapest_12 : decode b_F_cheapest 12 = .ok (.istore 5, 2) := by decide +kernel
theorem d_F_cheapest_14 : decode b_F_cheapest 14 = .ok (.iload 5, 2) := by decide +kernel
theorem d_F_cheapest_16 : decode b_F_cheapest 16 = .ok (.aload_n 0, 1) := by decide +kernel
theorem d_F_cheapest_17 : decode b_F_cheapest 17 = .ok (.getfield 19, 3) := by decide +kernel
theorem d_F_cheapest_20 : decode b_F_cheapest 20 = .ok (.if_icmp .ge 34, 3) := by decide +kernel
theorem d_F_cheapest_23 : decode b_F_cheapest 23 = .ok (.aload_n 1, 1) := by decide +kernel
theorem d_F_cheapest_24 : decode b_F_cheapest 24 = .ok (.iload 5, 2) := by decide +kernel
theorem d_F_cheapest_26 : decode b_F_cheapest 26 = .ok (.iaload, 1) := by decide +kernel
theorem d_F_cheapest_27 : decode b_F_cheapest 27 = .ok (.aload_n 2, 1) := by decide +kernel
theorem d_F_cheapest_28 : decode b_F_cheapest 28 = .ok (.iload 5, 2) := by decide +kernel
theorem d_F_cheapest_30 : decode b_F_cheapest 30 = .ok (.iaload, 1) := by decide +kernel
theorem d_F_cheapest_31 : decode b_F_cheapest 31 = .ok (.iadd, 1) := by decide +kernel
theorem d_F_cheapest_32 : decode b_F_cheapest 32 = .ok (.istore 6, 2) := by decide +kernel
theorem d_F_cheapest_34 : decode b_F_cheapest 34 = .ok (.iload 6, 2) := by decide +kernel
theorem d_F_cheapest_36 : decode b_F_cheapest 36 = .ok (.iload 4, 2) := by decide +kernel
theorem d_F_cheapest_38 : decode b_F_cheapest 38 = .ok (.if_icmp .ge 10, 3) := by decide +kernel
theorem d_F_cheapest_41 : decode b_F_cheapest 41 = .ok (.iload 6, 2) := by decide +kernel
theorem d_F_cheapest_43 : decode b_F_cheapest 43 = .ok (.istore 4, 2) := by decide +kernel
theorem d_F_cheapest_45 : decode b_F_cheapest 45 = .ok (.iload 5, 2) := by decide +kernel
theorem d_F_cheapest_47 : decode b_F_cheapest 47 = .ok (.istore_n 3, 1) := by decide +kernel
theorem d_F_cheapest_48 : decode b_F_cheapest 48 = .ok (.iinc 5 1, 3) := by decide +kernel
theorem d_F_cheapest_51 : decode b_F_cheapest 51 = .ok (.goto (-37), 3) := by decide +kernel
theorem d_F_cheapest_54 : decode b_F_cheapest 54 = .ok (.iload_n 3, 1) := by decide +kernel
theorem d_F_cheapest_55 : decode b_F_cheapest 55 = .ok (.ireturn, 1) := by decide +kernel
theorem d_N_takeOver_0 : decode b_N_takeOver 0 = .ok (.aload_n 0, 1) := by decide +kernel
theorem d_N_takeOver_1 : decode b_N_takeOver 1 = .ok (.aload_n 1, 1) := by decide +kernel
theorem d_N_takeOver_2 : decode b_N_takeOver 2 = .ok (.getfield 25, 3) := by decide +kernel
theorem d_N_takeOver_5 : decode b_N_takeOver 5 = .ok (.putfield 18, 3) := by decide +kernel
theorem d_N_takeOver_8 : decode b_N_takeOver 8 = .ok (.aload_n 0, 1) := by decide +kernel
theorem d_N_takeOver_9 : decode b_N_takeOver 9 = .ok (.aload_n 3, 1) := by decide +kernel
theorem d_N_takeOver_10 : decode b_N_takeOver 10 = .ok (.getfield 28, 3) := by decide +kernel
theorem d_N_takeOver_13 : decode b_N_takeOver 13 = .ok (.putfield 22, 3) := by decide +kernel
theorem d_N_takeOver_16 : decode b_N_takeOver 16 = .ok (.aload_n 3, 1) := by decide +kernel
theorem d_N_takeOver_17 : decode b_N_takeOver 17 = .ok (.getfield 31, 3) := by decide +kernel
theorem d_N_takeOver_20 : decode b_N_takeOver 20 = .ok (.iconst 0, 1) := by decide +kernel
theorem d_N_takeOver_21 : decode b_N_takeOver 21 = .ok (.aload_n 0, 1) := by decide +kernel
theorem d_N_takeOver_22 : decode b_N_takeOver 22 = .ok (.getfield 9, 3) := by decide +kernel
theorem d_N_takeOver_25 : decode b_N_takeOver 25 = .ok (.iconst 0, 1) := by decide +kernel
theorem d_N_takeOver_26 : decode b_N_takeOver 26 = .ok (.aload_n 0, 1) := by decide +kernel
theorem d_N_takeOver_27 : decode b_N_takeOver 27 = .ok (.getfield 18, 3) := by decide +kernel
theorem d_N_takeOver_30 : decode b_N_takeOver 30 = .ok (.invokestatic 32, 3) := by decide +kernel
theorem d_N_takeOver_33 : decode b_N_takeOver 33 = .ok (.aload_n 3, 1) := by decide +kernel
theorem d_N_takeOver_34 : decode b_N_takeOver 34 = .ok (.aload_n 1, 1) := by decide +kernel
theorem d_N_takeOver_35 : decode b_N_takeOver 35 = .ok (.aload_n 2, 1) := by decide +kernel
theorem d_N_takeOver_36 : decode b_N_takeOver 36 = .ok (.aload_n 0, 1) := by decide +kernel
theorem d_N_takeOver_37 : decode b_N_takeOver 37 = .ok (.getfield 15, 3) := by decide +kernel
theorem d_N_takeOver_40 : decode b_N_takeOver 40 = .ok (.invokevirtual 38, 3) := by decide +kernel
theorem d_N_takeOver_43 : decode b_N_takeOver 43 = .ok (.return_, 1) := by decide +kernel
theorem d_F_fillNextCosts_0 : decode b_F_fillNextCosts 0 = .ok (.aload_n 0, 1) := by decide +kernel
theorem d_F_fillNextCosts_1 : decode b_F_fillNextCosts 1 = .ok (.getfield 30, 3) := by decide +kernel
theorem d_F_fillNextCosts_4 : decode b_F_fillNextCosts 4 = .ok (.iconst 0, 1) := by decide +kernel
theorem d_F_fillNextCosts_5 : decode b_F_fillNextCosts 5 = .ok (.invokestatic 54, 3) := by decide +kernel
theorem d_F_fillNextCosts_8 : decode b_F_fillNextCosts 8 = .ok (.iconst 0, 1) := by decide +kernel
theorem d_F_fillNextCosts_9 : decode b_F_fillNextCosts 9 = .ok (.istore 4, 2) := by decide +kernel
theorem d_F_fillNextCosts_11 : decode b_F_fillNextCosts 11 = .ok (.iload 4, 2) := by decide +kernel
theorem d_F_fillNextCosts_13 : decode b_F_fillNextCosts 13 = .ok (.aload_n 1, 1) := by decide +kernel
theorem d_F_fillNextCosts_14 : decode b_F_fillNextCosts 14 = .ok (.getfield 36, 3) := by decide +kernel
theorem d_F_fillNextCosts_17 : decode b_F_fillNextCosts 17 = .ok (.if_icmp .ge 74, 3) := by decide +kernel
theorem d_F_fillNextCosts_20 : decode b_F_fillNextCosts 20 = .ok (.aload_n 0, 1) := by decide +kernel
theorem d_F_fillNextCosts_21 : decode b_F_fillNextCosts 21 = .ok (.getfield 19, 3) := by decide +kernel
theorem d_F_fillNextCosts_24 : decode b_F_fillNextCosts 24 = .ok (.iconst 1, 1) := by decide +kernel
theorem d_F_fillNextCosts_25 : decode b_F_fillNextCosts 25 = .ok (.if_icmp .le 18, 3) := by decide +kernel
theorem d_F_fillNextCosts_28 : decode b_F_fillNextCosts 28 = .ok (.aload_n 1, 1) := by decide +kernel
theorem d_F_fillNextCosts_29 : decode b_F_fillNextCosts 29 = .ok (.getfield 60, 3) := by decide +kernel
theorem d_F_fillNextCosts_32 : decode b_F_fillNextCosts 32 = .ok (.iload 4, 2) := by decide +kernel
theorem d_F_fillNextCosts_34 : decode b_F_fillNextCosts 34 = .ok (.iaload, 1) := by decide +kernel
theorem d_F_fillNextCosts_35 : decode b_F_fillNextCosts 35 = .ok (.iconst (-1), 1) := by decide +kernel
theorem d_F_fillNextCosts_36 : decode b_F_fillNextCosts 36 = .ok (.if_icmp .ne 7, 3) := by decide +kernel
theorem d_F_fillNextCosts_39 : decode b_F_fillNextCosts 39 = .ok (.iconst 1, 1) := by decide +kernel
theorem d_F_fillNextCosts_40 : decode b_F_fillNextCosts 40 = .ok (.goto 4, 3) := by decide +kernel
theorem d_F_fillNextCosts_43 : decode b_F_fillNextCosts 43 = .ok (.iconst 0, 1) := by decide +kernel
theorem d_F_fillNextCosts_44 : decode b_F_fillNextCosts 44 = .ok (.istore 5, 2) := by decide +kernel
theorem d_F_fillNextCosts_46 : decode b_F_fillNextCosts 46 = .ok (.aload_n 3, 1) := by decide +kernel
theorem d_F_fillNextCosts_47 : decode b_F_fillNextCosts 47 = .ok (.iload 4, 2) := by decide +kernel
theorem d_F_fillNextCosts_49 : decode b_F_fillNextCosts 49 = .ok (.iload 5, 2) := by decide +kernel
theorem d_F_fillNextCosts_51 : decode b_F_fillNextCosts 51 = .ok (.ifCond .eq 24, 3) := by decide +kernel
theorem d_F_fillNextCosts_54 : decode b_F_fillNextCosts 54 = .ok (.aload_n 0, 1) := by decide +kernel
theorem d_F_fillNextCosts_55 : decode b_F_fillNextCosts 55 = .ok (.aload_n 0, 1) := by decide +kernel
theorem d_F_fillNextCosts_56 : decode b_F_fillNextCosts 56 = .ok (.getfield 9, 3) := by decide +kernel
theorem d_F_fillNextCosts_59 : decode b_F_fillNextCosts 59 = .ok (.iload 4, 2) := by decide +kernel
theorem d_F_fillNextCosts_61 : decode b_F_fillNextCosts 61 = .ok (.iaload, 1) := by decide +kernel
theorem d_F_fillNextCosts_62 : decode b_F_fillNextCosts 62 = .ok (.aload_n 0, 1) := by decide +kernel
theorem d_F_fillNextCosts_63 : decode b_F_fillNextCosts 63 = .ok (.getfield 24, 3) := by decide +kernel
theorem d_F_fillNextCosts_66 : decode b_F_fillNextCosts 66 = .ok (.iload 4, 2) := by decide +kernel
theorem d_F_fillNextCosts_68 : decode b_F_fillNextCosts 68 = .ok (.aaload, 1) := by decide +kernel
theorem d_F_fillNextCosts_69 : decode b_F_fillNextCosts 69 = .ok (.invokevirtual 63, 3) := by decide +kernel
theorem d_F_fillNextCosts_72 : decode b_F_fillNextCosts 72 = .ok (.goto 4, 3) := by decide +kernel
theorem d_F_fillNextCosts_75 : decode b_F_fillNextCosts 75 = .ok (.iconst (-1), 1) := by decide +kernel
theorem d_F_fillNextCosts_76 : decode b_F_fillNextCosts 76 = .ok (.iastore, 1) := by decide +kernel
theorem d_F_fillNextCosts_77 : decode b_F_fillNextCosts 77 = .ok (.aload_n 0, 1) := by decide +kernel
theorem d_F_fillNextCosts_78 : decode b_F_fillNextCosts 78 = .ok (.aload_n 1, 1) := by decide +kernel
theorem d_F_fillNextCosts_79 : decode b_F_fillNextCosts 79 = .ok (.aload_n 2, 1) := by decide +kernel
theorem d_F_fillNextCosts_80 : decode b_F_fillNextCosts 80 = .ok (.iload 4, 2) := by decide +kernel
theorem d_F_fillNextCosts_82 : decode b_F_fillNextCosts 82 = .ok (.invokevirtual 67, 3) := by decide +kernel
theorem d_F_fillNextCosts_85 : decode b_F_fillNextCosts 85 = .ok (.iinc 4 1, 3) := by decide +kernel
theorem d_F_fillNextCosts_88 : decode b_F_fillNextCosts 88 = .ok (.goto (-77), 3) := by decide +kernel
theorem d_F_fillNextCosts_91 : decode b_F_fillNextCosts 91 = .ok (.return_, 1) := by decide +kernel
theorem d_JA_fill_0 : decode b_JA_fill 0 = .ok (.iconst 0, 1) := by decide +kernel
theorem d_JA_fill_1 : decode b_JA_fill 1 = .ok (.istore_n 2, 1) := by decide +kernel
theorem d_JA_fill_2 : decode b_JA_fill 2 = .ok (.aload_n 0, 1) := by decide +kernel
theorem d_JA_fill_3 : decode b_JA_fill 3 = .ok (.arraylength, 1) := by decide +kernel
theorem d_JA_fill_4 : decode b_JA_fill 4 = .ok (.istore_n 3, 1) := by decide +kernel
theorem d_JA_fill_5 : decode b_JA_fill 5 = .ok (.iload_n 2, 1) := by decide +kernel
theorem d_JA_fill_6 : decode b_JA_fill 6 = .ok (.iload_n 3, 1) := by decide +kernel
theorem d_JA_fill_7 : decode b_JA_fill 7 = .ok (.if_icmp .ge 13, 3) := by decide +kernel
theorem d_JA_fill_10 : decode b_JA_fill 10 = .ok (.aload_n 0, 1) := by decide +kernel
theorem d_JA_fill_11 : decode b_JA_fill 11 = .ok (.iload_n 2, 1) := by decide +kernel
theorem d_JA_fill_12 : decode b_JA_fill 12 = .ok (.iload_n 1, 1) := by decide +kernel
theorem d_JA_fill_13 : decode b_JA_fill 13 = .ok (.iastore, 1) := by decide +kernel
theorem d_JA_fill_14 : decode b_JA_fill 14 = .ok (.iinc 2 1, 3) := by decide +kernel
theorem d_JA_fill_17 : decode b_JA_fill 17 = .ok (.goto (-12), 3) := by decide +kernel
theorem d_JA_fill_20 : decode b_JA_fill 20 = .ok (.return_, 1) := by decide +kernel
theorem d_F_leastOther_0 : decode b_F_leastOther 0 = .ok (.ldc 78, 2) := by decide +kernel
theorem d_F_leastOther_2 : decode b_F_leastOther 2 = .ok (.istore_n 3, 1) := by decide +kernel
theorem d_F_leastOther_3 : decode b_F_leastOther 3 = .ok (.iconst 0, 1) := by decide +kernel
theorem d_F_leastOther_4 : decode b_F_leastOther 4 = .ok (.istore 4, 2) := by decide +kernel
theorem d_F_leastOther_6 : decode b_F_leastOther 6 = .ok (.iload 4, 2) := by decide +kernel
theorem d_F_leastOther_8 : decode b_F_leastOther 8 = .ok (.aload_n 0, 1) := by decide +kernel
theorem d_F_leastOther_9 : decode b_F_leastOther 9 = .ok (.getfield 19, 3) := by decide +kernel
theorem d_F_leastOther_12 : decode b_F_leastOther 12 = .ok (.if_icmp .ge 32, 3) := by decide +kernel
theorem d_F_leastOther_15 : decode b_F_leastOther 15 = .ok (.iload 4, 2) := by decide +kernel
theorem d_F_leastOther_17 : decode b_F_leastOther 17 = .ok (.iload_n 1, 1) := by decide +kernel
theorem d_F_leastOther_18 : decode b_F_leastOther 18 = .ok (.if_icmp .eq 20, 3) := by decide +kernel
theorem d_F_leastOther_21 : decode b_F_leastOther 21 = .ok (.iload_n 3, 1) := by decide +kernel
theorem d_F_leastOther_22 : decode b_F_leastOther 22 = .ok (.aload_n 0, 1) := by decide +kernel
theorem d_F_leastOther_23 : decode b_F_leastOther 23 = .ok (.getfield 30, 3) := by decide +kernel
theorem d_F_leastOther_26 : decode b_F_leastOther 26 = .ok (.iload 4, 2) := by decide +kernel
theorem d_F_leastOther_28 : decode b_F_leastOther 28 = .ok (.iaload, 1) := by decide +kernel
theorem d_F_leastOther_29 : decode b_F_leastOther 29 = .ok (.aload_n 2, 1) := by decide +kernel
theorem d_F_leastOther_30 : decode b_F_leastOther 30 = .ok (.iload 4, 2) := by decide +kernel
theorem d_F_leastOther_32 : decode b_F_leastOther 32 = .ok (.iaload, 1) := by decide +kernel
theorem d_F_leastOther_33 : decode b_F_leastOther 33 = .ok (.iadd, 1) := by decide +kernel
theorem d_F_leastOther_34 : decode b_F_leastOther 34 = .ok (.invokestatic 82, 3) := by decide +kernel
theorem d_F_leastOther_37 : decode b_F_leastOther 37 = .ok (.istore_n 3, 1) := by decide +kernel
theorem d_F_leastOther_38 : decode b_F_leastOther 38 = .ok (.iinc 4 1, 3) := by decide +kernel
theorem d_F_leastOther_41 : decode b_F_leastOther 41 = .ok (.goto (-35), 3) := by decide +kernel
theorem d_F_leastOther_44 : decode b_F_leastOther 44 = .ok (.iload_n 3, 1) := by decide +kernel
theorem d_F_leastOther_45 : decode b_F_leastOther 45 = .ok (.ireturn, 1) := by decide +kernel
theorem d_F_stepBefore_0 : decode b_F_stepBefore 0 = .ok (.aload_n 1, 1) := by decide +kernel
theorem d_F_stepBefore_1 : decode b_F_stepBefore 1 = .ok (.getfield 71, 3) := by decide +kernel
theorem d_F_stepBefore_4 : decode b_F_stepBefore 4 = .ok (.iload_n 3, 1) := by decide +kernel
theorem d_F_stepBefore_5 : decode b_F_stepBefore 5 = .ok (.iaload, 1) := by decide +kernel
theorem d_F_stepBefore_6 : decode b_F_stepBefore 6 = .ok (.istore 4, 2) := by decide +kernel
theorem d_F_stepBefore_8 : decode b_F_stepBefore 8 = .ok (.aload_n 0, 1) := by decide +kernel
theorem d_F_stepBefore_9 : decode b_F_stepBefore 9 = .ok (.getfield 33, 3) := by decide +kernel
theorem d_F_stepBefore_12 : decode b_F_stepBefore 12 = .ok (.ldc 78, 2) := by decide +kernel
theorem d_F_stepBefore_14 : decode b_F_stepBefore 14 = .ok (.invokestatic 54, 3) := by decide +kernel
theorem d_F_stepBefore_17 : decode b_F_stepBefore 17 = .ok (.iconst 0, 1) := by decide +kernel
theorem d_F_stepBefore_18 : decode b_F_stepBefore 18 = .ok (.istore 5, 2) := by decide +kernel
theorem d_F_stepBefore_20 : decode b_F_stepBefore 20 = .ok (.iload 5, 2) := by decide +kernel
theorem d_F_stepBefore_22 : decode b_F_stepBefore 22 = .ok (.aload_n 0, 1) := by decide +kernel
theorem d_F_stepBefore_23 : decode b_F_stepBefore 23 = .ok (.getfield 19, 3) := by decide +kernel
theorem d_F_stepBefore_26 : decode b_F_stepBefore 26 = .ok (.if_icmp .ge 88, 3) := by decide +kernel
theorem d_F_stepBefore_29 : decode b_F_stepBefore 29 = .ok (.aload_n 1, 1) := by decide +kernel
theorem d_F_stepBefore_30 : decode b_F_stepBefore 30 = .ok (.iload_n 3, 1) := by decide +kernel
theorem d_F_stepBefore_31 : decode b_F_stepBefore 31 = .ok (.iload 5, 2) := by decide +kernel
theorem d_F_stepBefore_33 : decode b_F_stepBefore 33 = .ok (.iconst (-1), 1) := by decide +kernel
theorem d_F_stepBefore_34 : decode b_F_stepBefore 34 = .ok (.invokevirtual 74, 3) := by decide +kernel
theorem d_F_stepBefore_37 : decode b_F_stepBefore 37 = .ok (.ifCond .eq 71, 3) := by decide +kernel
theorem d_F_stepBefore_40 : decode b_F_stepBefore 40 = .ok (.aload_n 0, 1) := by decide +kernel
theorem d_F_stepBefore_41 : decode b_F_stepBefore 41 = .ok (.getfield 30, 3) := by decide +kernel
theorem d_F_stepBefore_44 : decode b_F_stepBefore 44 = .ok (.iload 5, 2) := by decide +kernel
theorem d_F_stepBefore_46 : decode b_F_stepBefore 46 = .ok (.iaload, 1) := by decide +kernel
theorem d_F_stepBefore_47 : decode b_F_stepBefore 47 = .ok (.aload_n 2, 1) := by decide +kernel
theorem d_F_stepBefore_48 : decode b_F_stepBefore 48 = .ok (.getfield 79, 3) := by decide +kernel
theorem d_F_stepBefore_51 : decode b_F_stepBefore 51 = .ok (.iload 5, 2) := by decide +kernel
theorem d_F_stepBefore_53 : decode b_F_stepBefore 53 = .ok (.aaload, 1) := by decide +kernel
theorem d_F_stepBefore_54 : decode b_F_stepBefore 54 = .ok (.iload 4, 2) := by decide +kernel
theorem d_F_stepBefore_56 : decode b_F_stepBefore 56 = .ok (.iaload, 1) := by decide +kernel
theorem d_F_stepBefore_57 : decode b_F_stepBefore 57 = .ok (.iadd, 1) := by decide +kernel
theorem d_F_stepBefore_58 : decode b_F_stepBefore 58 = .ok (.istore 6, 2) := by decide +kernel
theorem d_F_stepBefore_60 : decode b_F_stepBefore 60 = .ok (.iconst 0, 1) := by decide +kernel
theorem d_F_stepBefore_61 : decode b_F_stepBefore 61 = .ok (.istore 7, 2) := by decide +kernel
theorem d_F_stepBefore_63 : decode b_F_stepBefore 63 = .ok (.iload 7, 2) := by decide +kernel
theorem d_F_stepBefore_65 : decode b_F_stepBefore 65 = .ok (.aload_n 0, 1) := by decide +kernel
theorem d_F_stepBefore_66 : decode b_F_stepBefore 66 = .ok (.getfield 19, 3) := by decide +kernel
theorem d_F_stepBefore_69 : decode b_F_stepBefore 69 = .ok (.if_icmp .ge 39, 3) := by decide +kernel
theorem d_F_stepBefore_72 : decode b_F_stepBefore 72 = .ok (.aload_n 0, 1) := by decide +kernel
theorem d_F_stepBefore_73 : decode b_F_stepBefore 73 = .ok (.getfield 33, 3) := by decide +kernel
theorem d_F_stepBefore_76 : decode b_F_stepBefore 76 = .ok (.iload 7, 2) := by decide +kernel
theorem d_F_stepBefore_78 : decode b_F_stepBefore 78 = .ok (.aload_n 0, 1) := by decide +kernel
theorem d_F_stepBefore_79 : decode b_F_stepBefore 79 = .ok (.getfield 33, 3) := by decide +kernel
theorem d_F_stepBefore_82 : decode b_F_stepBefore 82 = .ok (.iload 7, 2) := by decide +kernel
theorem d_F_stepBefore_84 : decode b_F_stepBefore 84 = .ok (.iaload, 1) := by decide +kernel
theorem d_F_stepBefore_85 : decode b_F_stepBefore 85 = .ok (.iload 6, 2) := by decide +kernel
theorem d_F_stepBefore_87 : decode b_F_stepBefore 87 = .ok (.aload_n 2, 1) := by decide +kernel
theorem d_F_stepBefore_88 : decode b_F_stepBefore 88 = .ok (.getfield 49, 3) := by decide +kernel
theorem d_F_stepBefore_91 : decode b_F_stepBefore 91 = .ok (.iload 5, 2) := by decide +kernel
theorem d_F_stepBefore_93 : decode b_F_stepBefore 93 = .ok (.aaload, 1) := by decide +kernel
theorem d_F_stepBefore_94 : decode b_F_stepBefore 94 = .ok (.iload 7, 2) := by decide +kernel
theorem d_F_stepBefore_96 : decode b_F_stepBefore 96 = .ok (.iaload, 1) := by decide +kernel
theorem d_F_stepBefore_97 : decode b_F_stepBefore 97 = .ok (.iadd, 1) := by decide +kernel
theorem d_F_stepBefore_98 : decode b_F_stepBefore 98 = .ok (.invokestatic 82, 3) := by decide +kernel
theorem d_F_stepBefore_101 : decode b_F_stepBefore 101 = .ok (.iastore, 1) := by decide +kernel
theorem d_F_stepBefore_102 : decode b_F_stepBefore 102 = .ok (.iinc 7 1, 3) := by decide +kernel
theorem d_F_stepBefore_105 : decode b_F_stepBefore 105 = .ok (.goto (-42), 3) := by decide +kernel
theorem d_F_stepBefore_108 : decode b_F_stepBefore 108 = .ok (.iinc 5 1, 3) := by decide +kernel
theorem d_F_stepBefore_111 : decode b_F_stepBefore 111 = .ok (.goto (-91), 3) := by decide +kernel
theorem d_F_stepBefore_114 : decode b_F_stepBefore 114 = .ok (.aload_n 0, 1) := by decide +kernel
theorem d_F_stepBefore_115 : decode b_F_stepBefore 115 = .ok (.getfield 30, 3) := by decide +kernel
theorem d_F_stepBefore_118 : decode b_F_stepBefore 118 = .ok (.astore 5, 2) := by decide +kernel
theorem d_F_stepBefore_120 : decode b_F_stepBefore 120 = .ok (.aload_n 0, 1) := by decide +kernel
theorem d_F_stepBefore_121 : decode b_F_stepBefore 121 = .ok (.aload_n 0, 1) := by decide +kernel
theorem d_F_stepBefore_122 : decode b_F_stepBefore 122 = .ok (.getfield 33, 3) := by decide +kernel
theorem d_F_stepBefore_125 : decode b_F_stepBefore 125 = .ok (.putfield 30, 3) := by decide +kernel
theorem d_F_stepBefore_128 : decode b_F_stepBefore 128 = .ok (.aload_n 0, 1) := by decide +kernel
theorem d_F_stepBefore_129 : decode b_F_stepBefore 129 = .ok (.aload 5, 2) := by decide +kernel
theorem d_F_stepBefore_131 : decode b_F_stepBefore 131 = .ok (.putfield 33, 3) := by decide +kernel
theorem d_F_stepBefore_134 : decode b_F_stepBefore 134 = .ok (.return_, 1) := by decide +kernel
theorem d_K_act_0 : decode b_K_act 0 = .ok (.aload_n 0, 1) := by decide +kernel
theorem d_K_act_1 : decode b_K_act 1 = .ok (.getfield 54, 3) := by decide +kernel
theorem d_K_act_4 : decode b_K_act 4 = .ok (.iload_n 1, 1) := by decide +kernel
theorem d_K_act_5 : decode b_K_act 5 = .ok (.invokevirtual 125, 3) := by decide +kernel
theorem d_K_act_8 : decode b_K_act 8 = .ok (.ifCond .eq 15, 3) := by decide +kernel
theorem d_K_act_11 : decode b_K_act 11 = .ok (.aload_n 0, 1) := by decide +kernel
theorem d_K_act_12 : decode b_K_act 12 = .ok (.getfield 54, 3) := by decide +kernel
theorem d_K_act_15 : decode b_K_act 15 = .ok (.getfield 128, 3) := by decide +kernel
theorem d_K_act_18 : decode b_K_act 18 = .ok (.iload_n 1, 1) := by decide +kernel
theorem d_K_act_19 : decode b_K_act 19 = .ok (.iaload, 1) := by decide +kernel
theorem d_K_act_20 : decode b_K_act 20 = .ok (.goto 4, 3) := by decide +kernel
theorem d_K_act_23 : decode b_K_act 23 = .ok (.iconst (-1), 1) := by decide +kernel
theorem d_K_act_24 : decode b_K_act 24 = .ok (.ireturn, 1) := by decide +kernel
theorem d_N_has_0 : decode b_N_has 0 = .ok (.iload_n 1, 1) := by decide +kernel
theorem d_N_has_1 : decode b_N_has 1 = .ok (.aload_n 0, 1) := by decide +kernel
theorem d_N_has_2 : decode b_N_has 2 = .ok (.getfield 18, 3) := by decide +kernel
theorem d_N_has_5 : decode b_N_has 5 = .ok (.invokestatic 42, 3) := by decide +kernel
theorem d_N_has_8 : decode b_N_has 8 = .ok (.ireturn, 1) := by decide +kernel
theorem d_K_greatest_0 : decode b_K_greatest 0 = .ok (.aload_n 0, 1) := by decide +kernel
theorem d_K_greatest_1 : decode b_K_greatest 1 = .ok (.getfield 54, 3) := by decide +kernel
theorem d_K_greatest_4 : decode b_K_greatest 4 = .ok (.invokevirtual 132, 3) := by decide +kernel
theorem d_K_greatest_7 : decode b_K_greatest 7 = .ok (.ireturn, 1) := by decide +kernel
theorem d_N_exists_0 : decode b_N_exists 0 = .ok (.aload_n 0, 1) := by decide +kernel
theorem d_N_exists_1 : decode b_N_exists 1 = .ok (.getfield 18, 3) := by decide +kernel
theorem d_N_exists_4 : decode b_N_exists 4 = .ok (.ifCond .le 7, 3) := by decide +kernel
theorem d_N_exists_7 : decode b_N_exists 7 = .ok (.iconst 1, 1) := by decide +kernel
theorem d_N_exists_8 : decode b_N_exists 8 = .ok (.goto 4, 3) := by decide +kernel
theorem d_N_exists_11 : decode b_N_exists 11 = .ok (.iconst 0, 1) := by decide +kernel
theorem d_N_exists_12 : decode b_N_exists 12 = .ok (.ireturn, 1) := by decide +kernel
theorem d_K_truth_0 : decode b_K_truth 0 = .ok (.iload_n 1, 1) := by decide +kernel
theorem d_K_truth_1 : decode b_K_truth 1 = .ok (.aload_n 0, 1) := by decide +kernel
theorem d_K_truth_2 : decode b_K_truth 2 = .ok (.getfield 25, 3) := by decide +kernel
theorem d_K_truth_5 : decode b_K_truth 5 = .ok (.getfield 111, 3) := by decide +kernel
theorem d_K_truth_8 : decode b_K_truth 8 = .ok (.invokestatic 96, 3) := by decide +kernel
theorem d_K_truth_11 : decode b_K_truth 11 = .ok (.ifCond .eq 11, 3) := by decide +kernel
theorem d_K_truth_14 : decode b_K_truth 14 = .ok (.aload_n 0, 1) := by decide +kernel
theorem d_K_truth_15 : decode b_K_truth 15 = .ok (.iload_n 2, 1) := by decide +kernel
theorem d_K_truth_16 : decode b_K_truth 16 = .ok (.invokevirtual 85, 3) := by decide +kernel
theorem d_K_truth_19 : decode b_K_truth 19 = .ok (.ifCond .ne 5, 3) := by decide +kernel
theorem d_K_truth_22 : decode b_K_truth 22 = .ok (.iconst 0, 1) := by decide +kernel
theorem d_K_truth_23 : decode b_K_truth 23 = .ok (.ireturn, 1) := by decide +kernel
theorem d_K_truth_24 : decode b_K_truth 24 = .ok (.aload_n 0, 1) := by decide +kernel
theorem d_K_truth_25 : decode b_K_truth 25 = .ok (.getfield 25, 3) := by decide +kernel
theorem d_K_truth_28 : decode b_K_truth 28 = .ok (.getfield 136, 3) := by decide +kernel
theorem d_K_truth_31 : decode b_K_truth 31 = .ok (.iload_n 1, 1) := by decide +kernel
theorem d_K_truth_32 : decode b_K_truth 32 = .ok (.iload_n 2, 1) := by decide +kernel
theorem d_K_truth_33 : decode b_K_truth 33 = .ok (.iastore, 1) := by decide +kernel
theorem d_K_truth_34 : decode b_K_truth 34 = .ok (.iconst 1, 1) := by decide +kernel
theorem d_K_truth_35 : decode b_K_truth 35 = .ok (.ireturn, 1) := by decide +kernel
theorem d_K_fit_0 : decode b_K_fit 0 = .ok (.iload_n 1, 1) := by decide +kernel
theorem d_K_fit_1 : decode b_K_fit 1 = .ok (.iconst 1, 1) := by decide +kernel
theorem d_K_fit_2 : decode b_K_fit 2 = .ok (.if_icmp .lt 19, 3) := by decide +kernel
theorem d_K_fit_5 : decode b_K_fit 5 = .ok (.iload_n 1, 1) := by decide +kernel
theorem d_K_fit_6 : decode b_K_fit 6 = .ok (.bipush 20, 2) := by decide +kernel
theorem d_K_fit_8 : decode b_K_fit 8 = .ok (.if_icmp .gt 13, 3) := by decide +kernel
theorem d_K_fit_11 : decode b_K_fit 11 = .ok (.aload_n 0, 1) := by decide +kernel
theorem d_K_fit_12 : decode b_K_fit 12 = .ok (.getfield 25, 3) := by decide +kernel
theorem d_K_fit_15 : decode b_K_fit 15 = .ok (.getfield 111, 3) := by decide +kernel
theorem d_K_fit_18 : decode b_K_fit 18 = .ok (.ifCond .ne 5, 3) := by decide +kernel
theorem d_K_fit_21 : decode b_K_fit 21 = .ok (.iconst (-1), 1) := by decide +kernel
theorem d_K_fit_22 : decode b_K_fit 22 = .ok (.ireturn, 1) := by decide +kernel
theorem d_K_fit_23 : decode b_K_fit 23 = .ok (.aload_n 0, 1) := by decide +kernel
theorem d_K_fit_24 : decode b_K_fit 24 = .ok (.getfield 72, 3) := by decide +kernel
theorem d_K_fit_27 : decode b_K_fit 27 = .ok (.iconst 0, 1) := by decide +kernel
theorem d_K_fit_28 : decode b_K_fit 28 = .ok (.aload_n 0, 1) := by decide +kernel
theorem d_K_fit_29 : decode b_K_fit 29 = .ok (.invokevirtual 139, 3) := by decide +kernel
theorem d_K_fit_32 : decode b_K_fit 32 = .ok (.i2l, 1) := by decide +kernel
theorem d_K_fit_33 : decode b_K_fit 33 = .ok (.lastore, 1) := by decide +kernel
theorem d_K_fit_34 : decode b_K_fit 34 = .ok (.aload_n 0, 1) := by decide +kernel
theorem d_K_fit_35 : decode b_K_fit 35 = .ok (.iconst 0, 1) := by decide +kernel
theorem d_K_fit_36 : decode b_K_fit 36 = .ok (.putfield 76, 3) := by decide +kernel
theorem d_K_fit_39 : decode b_K_fit 39 = .ok (.iconst 1, 1) := by decide +kernel
theorem d_K_fit_40 : decode b_K_fit 40 = .ok (.istore_n 2, 1) := by decide +kernel
theorem d_K_fit_41 : decode b_K_fit 41 = .ok (.iload_n 2, 1) := by decide +kernel
theorem d_K_fit_42 : decode b_K_fit 42 = .ok (.iload_n 1, 1) := by decide +kernel
theorem d_K_fit_43 : decode b_K_fit 43 = .ok (.if_icmp .gt 35, 3) := by decide +kernel
theorem d_K_fit_46 : decode b_K_fit 46 = .ok (.aload_n 0, 1) := by decide +kernel
theorem d_K_fit_47 : decode b_K_fit 47 = .ok (.invokevirtual 143, 3) := by decide +kernel
theorem d_K_fit_50 : decode b_K_fit 50 = .ok (.ifCond .eq 28, 3) := by decide +kernel
theorem d_K_fit_53 : decode b_K_fit 53 = .ok (.aload_n 0, 1) := by decide +kernel
theorem d_K_fit_54 : decode b_K_fit 54 = .ok (.getfield 72, 3) := by decide +kernel
theorem d_K_fit_57 : decode b_K_fit 57 = .ok (.iload_n 2, 1) := by decide +kernel
theorem d_K_fit_58 : decode b_K_fit 58 = .ok (.aload_n 0, 1) := by decide +kernel
theorem d_K_fit_59 : decode b_K_fit 59 = .ok (.getfield 54, 3) := by decide +kernel
theorem d_K_fit_62 : decode b_K_fit 62 = .ok (.getfield 122, 3) := by decide +kernel
theorem d_K_fit_65 : decode b_K_fit 65 = .ok (.i2l, 1) := by decide +kernel
theorem d_K_fit_66 : decode b_K_fit 66 = .ok (.lastore, 1) := by decide +kernel
theorem d_K_fit_67 : decode b_K_fit 67 = .ok (.aload_n 0, 1) := by decide +kernel
theorem d_K_fit_68 : decode b_K_fit 68 = .ok (.iload_n 2, 1) := by decide +kernel
theorem d_K_fit_69 : decode b_K_fit 69 = .ok (.putfield 76, 3) := by decide +kernel
theorem d_K_fit_72 : decode b_K_fit 72 = .ok (.iinc 2 1, 3) := by decide +kernel
theorem d_K_fit_75 : decode b_K_fit 75 = .ok (.goto (-34), 3) := by decide +kernel
theorem d_K_fit_78 : decode b_K_fit 78 = .ok (.aload_n 0, 1) := by decide +kernel
theorem d_K_fit_79 : decode b_K_fit 79 = .ok (.getfield 76, 3) := by decide +kernel
theorem d_K_fit_82 : decode b_K_fit 82 = .ok (.ireturn, 1) := by decide +kernel
theorem d_K_isRoundKept_0 : decode b_K_isRoundKept 0 = .ok (.aload_n 0, 1) := by decide +kernel
theorem d_K_isRoundKept_1 : decode b_K_isRoundKept 1 = .ok (.getfield 41, 3) := by decide +kernel
theorem d_K_isRoundKept_4 : decode b_K_isRoundKept 4 = .ok (.aload_n 0, 1) := by decide +kernel
theorem d_K_isRoundKept_5 : decode b_K_isRoundKept 5 = .ok (.getfield 25, 3) := by decide +kernel
theorem d_K_isRoundKept_8 : decode b_K_isRoundKept 8 = .ok (.aload_n 0, 1) := by decide +kernel
theorem d_K_isRoundKept_9 : decode b_K_isRoundKept 9 = .ok (.getfield 54, 3) := by decide +kernel
theorem d_K_isRoundKept_12 : decode b_K_isRoundKept 12 = .ok (.getfield 128, 3) := by decide +kernel
theorem d_K_isRoundKept_15 : decode b_K_isRoundKept 15 = .ok (.invokevirtual 218, 3) := by decide +kernel
theorem d_K_isRoundKept_18 : decode b_K_isRoundKept 18 = .ok (.aload_n 0, 1) := by decide +kernel
theorem d_K_isRoundKept_19 : decode b_K_isRoundKept 19 = .ok (.getfield 38, 3) := by decide +kernel
theorem d_K_isRoundKept_22 : decode b_K_isRoundKept 22 = .ok (.aload_n 0, 1) := by decide +kernel
theorem d_K_isRoundKept_23 : decode b_K_isRoundKept 23 = .ok (.getfield 34, 3) := by decide +kernel
theorem d_K_isRoundKept_26 : decode b_K_isRoundKept 26 = .ok (.invokevirtual 222, 3) := by decide +kernel
theorem d_K_isRoundKept_29 : decode b_K_isRoundKept 29 = .ok (.aload_n 0, 1) := by decide +kernel
theorem d_K_isRoundKept_30 : decode b_K_isRoundKept 30 = .ok (.getfield 38, 3) := by decide +kernel
theorem d_K_isRoundKept_33 : decode b_K_isRoundKept 33 = .ok (.aload_n 0, 1) := by decide +kernel
theorem d_K_isRoundKept_34 : decode b_K_isRoundKept 34 = .ok (.getfield 41, 3) := by decide +kernel
theorem d_K_isRoundKept_37 : decode b_K_isRoundKept 37 = .ok (.invokevirtual 226, 3) := by decide +kernel
theorem d_K_isRoundKept_40 : decode b_K_isRoundKept 40 = .ok (.aload_n 0, 1) := by decide +kernel
theorem d_K_isRoundKept_41 : decode b_K_isRoundKept 41 = .ok (.getfield 47, 3) := by decide +kernel
theorem d_K_isRoundKept_44 : decode b_K_isRoundKept 44 = .ok (.aload_n 0, 1) := by decide +kernel
theorem d_K_isRoundKept_45 : decode b_K_isRoundKept 45 = .ok (.getfield 25, 3) := by decide +kernel
theorem d_K_isRoundKept_48 : decode b_K_isRoundKept 48 = .ok (.aload_n 0, 1) := by decide +kernel
theorem d_K_isRoundKept_49 : decode b_K_isRoundKept 49 = .ok (.getfield 38, 3) := by decide +kernel
theorem d_K_isRoundKept_52 : decode b_K_isRoundKept 52 = .ok (.iconst (-1), 1) := by decide +kernel
theorem d_K_isRoundKept_53 : decode b_K_isRoundKept 53 = .ok (.invokevirtual 114, 3) := by decide +kernel
theorem d_K_isRoundKept_56 : decode b_K_isRoundKept 56 = .ok (.aload_n 0, 1) := by decide +kernel
theorem d_K_isRoundKept_57 : decode b_K_isRoundKept 57 = .ok (.getfield 47, 3) := by decide +kernel
theorem d_K_isRoundKept_60 : decode b_K_isRoundKept 60 = .ok (.getfield 229, 3) := by decide +kernel
theorem d_K_isRoundKept_63 : decode b_K_isRoundKept 63 = .ok (.aload_n 0, 1) := by decide +kernel
theorem d_K_isRoundKept_64 : decode b_K_isRoundKept 64 = .ok (.getfield 54, 3) := by decide +kernel
theorem d_K_isRoundKept_67 : decode b_K_isRoundKept 67 = .ok (.getfield 122, 3) := by decide +kernel
theorem d_K_isRoundKept_70 : decode b_K_isRoundKept 70 = .ok (.if_icmp .lt 5, 3) := by decide +kernel
theorem d_K_isRoundKept_73 : decode b_K_isRoundKept 73 = .ok (.iconst 0, 1) := by decide +kernel
theorem d_K_isRoundKept_74 : decode b_K_isRoundKept 74 = .ok (.ireturn, 1) := by decide +kernel
theorem d_K_isRoundKept_75 : decode b_K_isRoundKept 75 = .ok (.aload_n 0, 1) := by decide +kernel
theorem d_K_isRoundKept_76 : decode b_K_isRoundKept 76 = .ok (.getfield 34, 3) := by decide +kernel
theorem d_K_isRoundKept_79 : decode b_K_isRoundKept 79 = .ok (.aload_n 0, 1) := by decide +kernel
theorem d_K_isRoundKept_80 : decode b_K_isRoundKept 80 = .ok (.getfield 38, 3) := by decide +kernel
theorem d_K_isRoundKept_83 : decode b_K_isRoundKept 83 = .ok (.invokevirtual 222, 3) := by decide +kernel
theorem d_K_isRoundKept_86 : decode b_K_isRoundKept 86 = .ok (.aload_n 0, 1) := by decide +kernel
theorem d_K_isRoundKept_87 : decode b_K_isRoundKept 87 = .ok (.getfield 54, 3) := by decide +kernel
theorem d_K_isRoundKept_90 : decode b_K_isRoundKept 90 = .ok (.aload_n 0, 1) := by decide +kernel
theorem d_K_isRoundKept_91 : decode b_K_isRoundKept 91 = .ok (.getfield 25, 3) := by decide +kernel
theorem d_K_isRoundKept_94 : decode b_K_isRoundKept 94 = .ok (.aload_n 0, 1) := by decide +kernel
theorem d_K_isRoundKept_95 : decode b_K_isRoundKept 95 = .ok (.getfield 34, 3) := by decide +kernel
theorem d_K_isRoundKept_98 : decode b_K_isRoundKept 98 = .ok (.aload_n 0, 1) := by decide +kernel
theorem d_K_isRoundKept_99 : decode b_K_isRoundKept 99 = .ok (.getfield 47, 3) := by decide +kernel
theorem d_K_isRoundKept_102 : decode b_K_isRoundKept 102 = .ok (.invokevirtual 118, 3) := by decide +kernel
theorem d_K_isRoundKept_105 : decode b_K_isRoundKept 105 = .ok (.iconst 1, 1) := by decide +kernel
theorem d_K_isRoundKept_106 : decode b_K_isRoundKept 106 = .ok (.ireturn, 1) := by decide +kernel
theorem d_B_countLine_0 : decode b_B_countLine 0 = .ok (.aload_n 0, 1) := by decide +kernel
theorem d_B_countLine_1 : decode b_B_countLine 1 = .ok (.invokevirtual 25, 3) := by decide +kernel
theorem d_B_countLine_4 : decode b_B_countLine 4 = .ok (.iconst 0, 1) := by decide +kernel
theorem d_B_countLine_5 : decode b_B_countLine 5 = .ok (.istore_n 3, 1) := by decide +kernel
theorem d_B_countLine_6 : decode b_B_countLine 6 = .ok (.iload_n 3, 1) := by decide +kernel
theorem d_B_countLine_7 : decode b_B_countLine 7 = .ok (.aload_n 1, 1) := by decide +kernel
theorem d_B_countLine_8 : decode b_B_countLine 8 = .ok (.getfield 28, 3) := by decide +kernel
theorem d_B_countLine_11 : decode b_B_countLine 11 = .ok (.if_icmp .ge 50, 3) := by decide +kernel
theorem d_B_countLine_14 : decode b_B_countLine 14 = .ok (.aload_n 0, 1) := by decide +kernel
theorem d_B_countLine_15 : decode b_B_countLine 15 = .ok (.getfield 16, 3) := by decide +kernel
theorem d_B_countLine_18 : decode b_B_countLine 18 = .ok (.aload_n 2, 1) := by decide +kernel
theorem d_B_countLine_19 : decode b_B_countLine 19 = .ok (.iload_n 3, 1) := by decide +kernel
theorem d_B_countLine_20 : decode b_B_countLine 20 = .ok (.iaload, 1) := by decide +kernel
theorem d_B_countLine_21 : decode b_B_countLine 21 = .ok (.aaload, 1) := by decide +kernel
theorem d_B_countLine_22 : decode b_B_countLine 22 = .ok (.aload_n 1, 1) := by decide +kernel
theorem d_B_countLine_23 : decode b_B_countLine 23 = .ok (.getfield 34, 3) := by decide +kernel
theorem d_B_countLine_26 : decode b_B_countLine 26 = .ok (.iload_n 3, 1) := by decide +kernel
theorem d_B_countLine_27 : decode b_B_countLine 27 = .ok (.iaload, 1) := by decide +kernel
theorem d_B_countLine_28 : decode b_B_countLine 28 = .ok (.dup2, 1) := by decide +kernel
theorem d_B_countLine_29 : decode b_B_countLine 29 = .ok (.iaload, 1) := by decide +kernel
theorem d_B_countLine_30 : decode b_B_countLine 30 = .ok (.iconst 1, 1) := by decide +kernel
theorem d_B_countLine_31 : decode b_B_countLine 31 = .ok (.iadd, 1) := by decide +kernel
theorem d_B_countLine_32 : decode b_B_countLine 32 = .ok (.iastore, 1) := by decide +kernel
theorem d_B_countLine_33 : decode b_B_countLine 33 = .ok (.iload_n 3, 1) := by decide +kernel
theorem d_B_countLine_34 : decode b_B_countLine 34 = .ok (.ifCond .le 21, 3) := by decide +kernel
theorem d_B_countLine_37 : decode b_B_countLine 37 = .ok (.aload_n 0, 1) := by decide +kernel
theorem d_B_countLine_38 : decode b_B_countLine 38 = .ok (.getfield 11, 3) := by decide +kernel
theorem d_B_countLine_41 : decode b_B_countLine 41 = .ok (.aload_n 2, 1) := by decide +kernel
theorem d_B_countLine_42 : decode b_B_countLine 42 = .ok (.iload_n 3, 1) := by decide +kernel
theorem d_B_countLine_43 : decode b_B_countLine 43 = .ok (.iconst 1, 1) := by decide +kernel
theorem d_B_countLine_44 : decode b_B_countLine 44 = .ok (.isub, 1) := by decide +kernel
theorem d_B_countLine_45 : decode b_B_countLine 45 = .ok (.iaload, 1) := by decide +kernel
theorem d_B_countLine_46 : decode b_B_countLine 46 = .ok (.aaload, 1) := by decide +kernel
theorem d_B_countLine_47 : decode b_B_countLine 47 = .ok (.aload_n 2, 1) := by decide +kernel
theorem d_B_countLine_48 : decode b_B_countLine 48 = .ok (.iload_n 3, 1) := by decide +kernel
theorem d_B_countLine_49 : decode b_B_countLine 49 = .ok (.iaload, 1) := by decide +kernel
theorem d_B_countLine_50 : decode b_B_countLine 50 = .ok (.dup2, 1) := by decide +kernel
theorem d_B_countLine_51 : decode b_B_countLine 51 = .ok (.iaload, 1) := by decide +kernel
theorem d_B_countLine_52 : decode b_B_countLine 52 = .ok (.iconst 1, 1) := by decide +kernel
theorem d_B_countLine_53 : decode b_B_countLine 53 = .ok (.iadd, 1) := by decide +kernel
theorem d_B_countLine_54 : decode b_B_countLine 54 = .ok (.iastore, 1) := by decide +kernel
theorem d_B_countLine_55 : decode b_B_countLine 55 = .ok (.iinc 3 1, 3) := by decide +kernel
theorem d_B_countLine_58 : decode b_B_countLine 58 = .ok (.goto (-52), 3) := by decide +kernel
theorem d_B_countLine_61 : decode b_B_countLine 61 = .ok (.return_, 1) := by decide +kernel
theorem d_B_clear_0 : decode b_B_clear 0 = .ok (.iconst 0, 1) := by decide +kernel
theorem d_B_clear_1 : decode b_B_clear 1 = .ok (.istore_n 1, 1) := by decide +kernel
theorem d_B_clear_2 : decode b_B_clear 2 = .ok (.iload_n 1, 1) := by decide +kernel
theorem d_B_clear_3 : decode b_B_clear 3 = .ok (.aload_n 0, 1) := by decide +kernel
theorem d_B_clear_4 : decode b_B_clear 4 = .ok (.getfield 11, 3) := by decide +kernel
theorem d_B_clear_7 : decode b_B_clear 7 = .ok (.arraylength, 1) := by decide +kernel
theorem d_B_clear_8 : decode b_B_clear 8 = .ok (.if_icmp .ge 29, 3) := by decide +kernel
theorem d_B_clear_11 : decode b_B_clear 11 = .ok (.aload_n 0, 1) := by decide +kernel
theorem d_B_clear_12 : decode b_B_clear 12 = .ok (.getfield 11, 3) := by decide +kernel
theorem d_B_clear_15 : decode b_B_clear 15 = .ok (.iload_n 1, 1) := by decide +kernel
theorem d_B_clear_16 : decode b_B_clear 16 = .ok (.aaload, 1) := by decide +kernel
theorem d_B_clear_17 : decode b_B_clear 17 = .ok (.iconst 0, 1) := by decide +kernel
theorem d_B_clear_18 : decode b_B_clear 18 = .ok (.invokestatic 42, 3) := by decide +kernel
theorem d_B_clear_21 : decode b_B_clear 21 = .ok (.aload_n 0, 1) := by decide +kernel
theorem d_B_clear_22 : decode b_B_clear 22 = .ok (.getfield 16, 3) := by decide +kernel
theorem d_B_clear_25 : decode b_B_clear 25 = .ok (.iload_n 1, 1) := by decide +kernel
theorem d_B_clear_26 : decode b_B_clear 26 = .ok (.aaload, 1) := by decide +kernel
theorem d_B_clear_27 : decode b_B_clear 27 = .ok (.iconst 0, 1) := by decide +kernel
theorem d_B_clear_28 : decode b_B_clear 28 = .ok (.invokestatic 42, 3) := by decide +kernel
theorem d_B_clear_31 : decode b_B_clear 31 = .ok (.iinc 1 1, 3) := by decide +kernel
theorem d_B_clear_34 : decode b_B_clear 34 = .ok (.goto (-32), 3) := by decide +kernel
theorem d_B_clear_37 : decode b_B_clear 37 = .ok (.return_, 1) := by decide +kernel
theorem d_B_copyFrom_0 : decode b_B_copyFrom 0 = .ok (.iconst 0, 1) := by decide +kernel
theorem d_B_copyFrom_1 : decode b_B_copyFrom 1 = .ok (.istore_n 2, 1) := by decide +kernel
theorem d_B_copyFrom_2 : decode b_B_copyFrom 2 = .ok (.iload_n 2, 1) := by decide +kernel
theorem d_B_copyFrom_3 : decode b_B_copyFrom 3 = .ok (.aload_n 0, 1) := by decide +kernel
theorem d_B_copyFrom_4 : decode b_B_copyFrom 4 = .ok (.getfield 11, 3) := by decide +kernel
theorem d_B_copyFrom_7 : decode b_B_copyFrom 7 = .ok (.arraylength, 1) := by decide +kernel
theorem d_B_copyFrom_8 : decode b_B_copyFrom 8 = .ok (.if_icmp .ge 57, 3) := by decide +kernel
theorem d_B_copyFrom_11 : decode b_B_copyFrom 11 = .ok (.aload_n 1, 1) := by decide +kernel
theorem d_B_copyFrom_12 : decode b_B_copyFrom 12 = .ok (.getfield 11, 3) := by decide +kernel
theorem d_B_copyFrom_15 : decode b_B_copyFrom 15 = .ok (.iload_n 2, 1) := by decide +kernel
theorem d_B_copyFrom_16 : decode b_B_copyFrom 16 = .ok (.aaload, 1) := by decide +kernel
theorem d_B_copyFrom_17 : decode b_B_copyFrom 17 = .ok (.iconst 0, 1) := by decide +kernel
theorem d_B_copyFrom_18 : decode b_B_copyFrom 18 = .ok (.aload_n 0, 1) := by decide +kernel
theorem d_B_copyFrom_19 : decode b_B_copyFrom 19 = .ok (.getfield 11, 3) := by decide +kernel
theorem d_B_copyFrom_22 : decode b_B_copyFrom 22 = .ok (.iload_n 2, 1) := by decide +kernel
theorem d_B_copyFrom_23 : decode b_B_copyFrom 23 = .ok (.aaload, 1) := by decide +kernel
theorem d_B_copyFrom_24 : decode b_B_copyFrom 24 = .ok (.iconst 0, 1) := by decide +kernel
theorem d_B_copyFrom_25 : decode b_B_copyFrom 25 = .ok (.aload_n 0, 1) := by decide +kernel
theorem d_B_copyFrom_26 : decode b_B_copyFrom 26 = .ok (.getfield 11, 3) := by decide +kernel
theorem d_B_copyFrom_29 : decode b_B_copyFrom 29 = .ok (.iload_n 2, 1) := by decide +kernel
theorem d_B_copyFrom_30 : decode b_B_copyFrom 30 = .ok (.aaload, 1) := by decide +kernel
theorem d_B_copyFrom_31 : decode b_B_copyFrom 31 = .ok (.arraylength, 1) := by decide +kernel
theorem d_B_copyFrom_32 : decode b_B_copyFrom 32 = .ok (.invokestatic 19, 3) := by decide +kernel
theorem d_B_copyFrom_35 : decode b_B_copyFrom 35 = .ok (.aload_n 1, 1) := by decide +kernel
theorem d_B_copyFrom_36 : decode b_B_copyFrom 36 = .ok (.getfield 16, 3) := by decide +kernel
theorem d_B_copyFrom_39 : decode b_B_copyFrom 39 = .ok (.iload_n 2, 1) := by decide +kernel
theorem d_B_copyFrom_40 : decode b_B_copyFrom 40 = .ok (.aaload, 1) := by decide +kernel
theorem d_B_copyFrom_41 : decode b_B_copyFrom 41 = .ok (.iconst 0, 1) := by decide +kernel
theorem d_B_copyFrom_42 : decode b_B_copyFrom 42 = .ok (.aload_n 0, 1) := by decide +kernel
theorem d_B_copyFrom_43 : decode b_B_copyFrom 43 = .ok (.getfield 16, 3) := by decide +kernel
theorem d_B_copyFrom_46 : decode b_B_copyFrom 46 = .ok (.iload_n 2, 1) := by decide +kernel
theorem d_B_copyFrom_47 : decode b_B_copyFrom 47 = .ok (.aaload, 1) := by decide +kernel
theorem d_B_copyFrom_48 : decode b_B_copyFrom 48 = .ok (.iconst 0, 1) := by decide +kernel
theorem d_B_copyFrom_49 : decode b_B_copyFrom 49 = .ok (.aload_n 0, 1) := by decide +kernel
theorem d_B_copyFrom_50 : decode b_B_copyFrom 50 = .ok (.getfield 16, 3) := by decide +kernel
theorem d_B_copyFrom_53 : decode b_B_copyFrom 53 = .ok (.iload_n 2, 1) := by decide +kernel
theorem d_B_copyFrom_54 : decode b_B_copyFrom 54 = .ok (.aaload, 1) := by decide +kernel
theorem d_B_copyFrom_55 : decode b_B_copyFrom 55 = .ok (.arraylength, 1) := by decide +kernel
theorem d_B_copyFrom_56 : decode b_B_copyFrom 56 = .ok (.invokestatic 19, 3) := by decide +kernel
theorem d_B_copyFrom_59 : decode b_B_copyFrom 59 = .ok (.iinc 2 1, 3) := by decide +kernel
theorem d_B_copyFrom_62 : decode b_B_copyFrom 62 = .ok (.goto (-60), 3) := by decide +kernel
theorem d_B_copyFrom_65 : decode b_B_copyFrom 65 = .ok (.return_, 1) := by decide +kernel
theorem d_B_fitTo_0 : decode b_B_fitTo 0 = .ok (.iconst 0, 1) := by decide +kernel
theorem d_B_fitTo_1 : decode b_B_fitTo 1 = .ok (.istore_n 2, 1) := by decide +kernel
theorem d_B_fitTo_2 : decode b_B_fitTo 2 = .ok (.iload_n 2, 1) := by decide +kernel
theorem d_B_fitTo_3 : decode b_B_fitTo 3 = .ok (.aload_n 0, 1) := by decide +kernel
theorem d_B_fitTo_4 : decode b_B_fitTo 4 = .ok (.getfield 11, 3) := by decide +kernel
theorem d_B_fitTo_7 : decode b_B_fitTo 7 = .ok (.arraylength, 1) := by decide +kernel
theorem d_B_fitTo_8 : decode b_B_fitTo 8 = .ok (.if_icmp .ge 39, 3) := by decide +kernel
theorem d_B_fitTo_11 : decode b_B_fitTo 11 = .ok (.aload_n 1, 1) := by decide +kernel
theorem d_B_fitTo_12 : decode b_B_fitTo 12 = .ok (.getfield 11, 3) := by decide +kernel
theorem d_B_fitTo_15 : decode b_B_fitTo 15 = .ok (.iload_n 2, 1) := by decide +kernel
theorem d_B_fitTo_16 : decode b_B_fitTo 16 = .ok (.aaload, 1) := by decide +kernel
theorem d_B_fitTo_17 : decode b_B_fitTo 17 = .ok (.aload_n 0, 1) := by decide +kernel
theorem d_B_fitTo_18 : decode b_B_fitTo 18 = .ok (.getfield 11, 3) := by decide +kernel
theorem d_B_fitTo_21 : decode b_B_fitTo 21 = .ok (.iload_n 2, 1) := by decide +kernel
theorem d_B_fitTo_22 : decode b_B_fitTo 22 = .ok (.aaload, 1) := by decide +kernel
theorem d_B_fitTo_23 : decode b_B_fitTo 23 = .ok (.invokestatic 38, 3) := by decide +kernel
theorem d_B_fitTo_26 : decode b_B_fitTo 26 = .ok (.aload_n 1, 1) := by decide +kernel
theorem d_B_fitTo_27 : decode b_B_fitTo 27 = .ok (.getfield 16, 3) := by decide +kernel
theorem d_B_fitTo_30 : decode b_B_fitTo 30 = .ok (.iload_n 2, 1) := by decide +kernel
theorem d_B_fitTo_31 : decode b_B_fitTo 31 = .ok (.aaload, 1) := by decide +kernel
theorem d_B_fitTo_32 : decode b_B_fitTo 32 = .ok (.aload_n 0, 1) := by decide +kernel
theorem d_B_fitTo_33 : decode b_B_fitTo 33 = .ok (.getfield 16, 3) := by decide +kernel
theorem d_B_fitTo_36 : decode b_B_fitTo 36 = .ok (.iload_n 2, 1) := by decide +kernel
theorem d_B_fitTo_37 : decode b_B_fitTo 37 = .ok (.aaload, 1) := by decide +kernel
theorem d_B_fitTo_38 : decode b_B_fitTo 38 = .ok (.invokestatic 38, 3) := by decide +kernel
theorem d_B_fitTo_41 : decode b_B_fitTo 41 = .ok (.iinc 2 1, 3) := by decide +kernel
theorem d_B_fitTo_44 : decode b_B_fitTo 44 = .ok (.goto (-42), 3) := by decide +kernel
theorem d_B_fitTo_47 : decode b_B_fitTo 47 = .ok (.return_, 1) := by decide +kernel
theorem d_B_fitShares_0 : decode b_B_fitShares 0 = .ok (.iconst 0, 1) := by decide +kernel
theorem d_B_fitShares_1 : decode b_B_fitShares 1 = .ok (.istore_n 2, 1) := by decide +kernel
theorem d_B_fitShares_2 : decode b_B_fitShares 2 = .ok (.iconst 0, 1) := by decide +kernel
theorem d_B_fitShares_3 : decode b_B_fitShares 3 = .ok (.istore_n 3, 1) := by decide +kernel
theorem d_B_fitShares_4 : decode b_B_fitShares 4 = .ok (.iload_n 3, 1) := by decide +kernel
theorem d_B_fitShares_5 : decode b_B_fitShares 5 = .ok (.aload_n 0, 1) := by decide +kernel
theorem d_B_fitShares_6 : decode b_B_fitShares 6 = .ok (.arraylength, 1) := by decide +kernel
theorem d_B_fitShares_7 : decode b_B_fitShares 7 = .ok (.if_icmp .ge 15, 3) := by decide +kernel
theorem d_B_fitShares_10 : decode b_B_fitShares 10 = .ok (.iload_n 2, 1) := by decide +kernel
theorem d_B_fitShares_11 : decode b_B_fitShares 11 = .ok (.aload_n 0, 1) := by decide +kernel
theorem d_B_fitShares_12 : decode b_B_fitShares 12 = .ok (.iload_n 3, 1) := by decide +kernel
theorem d_B_fitShares_13 : decode b_B_fitShares 13 = .ok (.iaload, 1) := by decide +kernel
theorem d_B_fitShares_14 : decode b_B_fitShares 14 = .ok (.iadd, 1) := by decide +kernel
theorem d_B_fitShares_15 : decode b_B_fitShares 15 = .ok (.istore_n 2, 1) := by decide +kernel
theorem d_B_fitShares_16 : decode b_B_fitShares 16 = .ok (.iinc 3 1, 3) := by decide +kernel
theorem d_B_fitShares_19 : decode b_B_fitShares 19 = .ok (.goto (-15), 3) := by decide +kernel
theorem d_B_fitShares_22 : decode b_B_fitShares 22 = .ok (.iload_n 2, 1) := by decide +kernel
theorem d_B_fitShares_23 : decode b_B_fitShares 23 = .ok (.ifCond .ne 4, 3) := by decide +kernel
theorem d_B_fitShares_26 : decode b_B_fitShares 26 = .ok (.return_, 1) := by decide +kernel
theorem d_B_fitShares_27 : decode b_B_fitShares 27 = .ok (.iconst 0, 1) := by decide +kernel
theorem d_B_fitShares_28 : decode b_B_fitShares 28 = .ok (.istore_n 3, 1) := by decide +kernel
theorem d_B_fitShares_29 : decode b_B_fitShares 29 = .ok (.iload_n 3, 1) := by decide +kernel
theorem d_B_fitShares_30 : decode b_B_fitShares 30 = .ok (.aload_n 0, 1) := by decide +kernel
theorem d_B_fitShares_31 : decode b_B_fitShares 31 = .ok (.arraylength, 1) := by decide +kernel
theorem d_B_fitShares_32 : decode b_B_fitShares 32 = .ok (.if_icmp .ge 23, 3) := by decide +kernel
theorem d_B_fitShares_35 : decode b_B_fitShares 35 = .ok (.aload_n 1, 1) := by decide +kernel
theorem d_B_fitShares_36 : decode b_B_fitShares 36 = .ok (.iload_n 3, 1) := by decide +kernel
theorem d_B_fitShares_37 : decode b_B_fitShares 37 = .ok (.sipush 1000, 3) := by decide +kernel
theorem d_B_fitShares_40 : decode b_B_fitShares 40 = .ok (.iload_n 2, 1) := by decide +kernel
theorem d_B_fitShares_41 : decode b_B_fitShares 41 = .ok (.aload_n 0, 1) := by decide +kernel
theorem d_B_fitShares_42 : decode b_B_fitShares 42 = .ok (.iload_n 3, 1) := by decide +kernel
theorem d_B_fitShares_43 : decode b_B_fitShares 43 = .ok (.iaload, 1) := by decide +kernel
theorem d_B_fitShares_44 : decode b_B_fitShares 44 = .ok (.isub, 1) := by decide +kernel
theorem d_B_fitShares_45 : decode b_B_fitShares 45 = .ok (.imul, 1) := by decide +kernel
theorem d_B_fitShares_46 : decode b_B_fitShares 46 = .ok (.iload_n 2, 1) := by decide +kernel
theorem d_B_fitShares_47 : decode b_B_fitShares 47 = .ok (.idiv, 1) := by decide +kernel
theorem d_B_fitShares_48 : decode b_B_fitShares 48 = .ok (.iastore, 1) := by decide +kernel
theorem d_B_fitShares_49 : decode b_B_fitShares 49 = .ok (.iinc 3 1, 3) := by decide +kernel
theorem d_B_fitShares_52 : decode b_B_fitShares 52 = .ok (.goto (-23), 3) := by decide +kernel
theorem d_B_fitShares_55 : decode b_B_fitShares 55 = .ok (.return_, 1) := by decide +kernel
theorem d_K_sum_0 : decode b_K_sum 0 = .ok (.iload_n 1, 1) := by decide +kernel
theorem d_K_sum_1 : decode b_K_sum 1 = .ok (.ifCond .lt 20, 3) := by decide +kernel
theorem d_K_sum_4 : decode b_K_sum 4 = .ok (.iload_n 1, 1) := by decide +kernel
theorem d_K_sum_5 : decode b_K_sum 5 = .ok (.aload_n 0, 1) := by decide +kernel
theorem d_K_sum_6 : decode b_K_sum 6 = .ok (.getfield 76, 3) := by decide +kernel
theorem d_K_sum_9 : decode b_K_sum 9 = .ok (.if_icmp .gt 12, 3) := by decide +kernel
theorem d_K_sum_12 : decode b_K_sum 12 = .ok (.aload_n 0, 1) := by decide +kernel
theorem d_K_sum_13 : decode b_K_sum 13 = .ok (.getfield 72, 3) := by decide +kernel
theorem d_K_sum_16 : decode b_K_sum 16 = .ok (.iload_n 1, 1) := by decide +kernel
theorem d_K_sum_17 : decode b_K_sum 17 = .ok (.laload, 1) := by decide +kernel
theorem d_K_sum_18 : decode b_K_sum 18 = .ok (.goto 6, 3) := by decide +kernel
theorem d_K_sum_21 : decode b_K_sum 21 = .ok (.ldc2_w 146, 3) := by decide +kernel
theorem d_K_sum_24 : decode b_K_sum 24 = .ok (.lreturn, 1) := by decide +kernel
theorem d_K_leftOut_0 : decode b_K_leftOut 0 = .ok (.aload_n 0, 1) := by decide +kernel
theorem d_K_leftOut_1 : decode b_K_leftOut 1 = .ok (.getfield 25, 3) := by decide +kernel
theorem d_K_leftOut_4 : decode b_K_leftOut 4 = .ok (.iload_n 1, 1) := by decide +kernel
theorem d_K_leftOut_5 : decode b_K_leftOut 5 = .ok (.invokevirtual 148, 3) := by decide +kernel
theorem d_K_leftOut_8 : decode b_K_leftOut 8 = .ok (.istore_n 2, 1) := by decide +kernel
theorem d_K_leftOut_9 : decode b_K_leftOut 9 = .ok (.iload_n 2, 1) := by decide +kernel
theorem d_K_leftOut_10 : decode b_K_leftOut 10 = .ok (.ifCond .ne 5, 3) := by decide +kernel
theorem d_K_leftOut_13 : decode b_K_leftOut 13 = .ok (.iconst (-1), 1) := by decide +kernel
theorem d_K_leftOut_14 : decode b_K_leftOut 14 = .ok (.ireturn, 1) := by decide +kernel
theorem d_K_leftOut_15 : decode b_K_leftOut 15 = .ok (.aload_n 0, 1) := by decide +kernel
theorem d_K_leftOut_16 : decode b_K_leftOut 16 = .ok (.getfield 47, 3) := by decide +kernel
theorem d_K_leftOut_19 : decode b_K_leftOut 19 = .ok (.aload_n 0, 1) := by decide +kernel
theorem d_K_leftOut_20 : decode b_K_leftOut 20 = .ok (.getfield 25, 3) := by decide +kernel
theorem d_K_leftOut_23 : decode b_K_leftOut 23 = .ok (.aload_n 0, 1) := by decide +kernel
theorem d_K_leftOut_24 : decode b_K_leftOut 24 = .ok (.getfield 34, 3) := by decide +kernel
theorem d_K_leftOut_27 : decode b_K_leftOut 27 = .ok (.iload_n 1, 1) := by decide +kernel
theorem d_K_leftOut_28 : decode b_K_leftOut 28 = .ok (.invokevirtual 114, 3) := by decide +kernel
theorem d_K_leftOut_31 : decode b_K_leftOut 31 = .ok (.sipush 1000, 3) := by decide +kernel
theorem d_K_leftOut_34 : decode b_K_leftOut 34 = .ok (.aload_n 0, 1) := by decide +kernel
theorem d_K_leftOut_35 : decode b_K_leftOut 35 = .ok (.getfield 25, 3) := by decide +kernel
theorem d_K_leftOut_38 : decode b_K_leftOut 38 = .ok (.iload_n 1, 1) := by decide +kernel
theorem d_K_leftOut_39 : decode b_K_leftOut 39 = .ok (.aload_n 0, 1) := by decide +kernel
theorem d_K_leftOut_40 : decode b_K_leftOut 40 = .ok (.getfield 47, 3) := by decide +kernel
theorem d_K_leftOut_43 : decode b_K_leftOut 43 = .ok (.getfield 152, 3) := by decide +kernel
theorem d_K_leftOut_46 : decode b_K_leftOut 46 = .ok (.invokevirtual 153, 3) := by decide +kernel
theorem d_K_leftOut_49 : decode b_K_leftOut 49 = .ok (.imul, 1) := by decide +kernel
theorem d_K_leftOut_50 : decode b_K_leftOut 50 = .ok (.iload_n 2, 1) := by decide +kernel
theorem d_K_leftOut_51 : decode b_K_leftOut 51 = .ok (.idiv, 1) := by decide +kernel
theorem d_K_leftOut_52 : decode b_K_leftOut 52 = .ok (.ireturn, 1) := by decide +kernel
theorem d_T_truthsOf_0 : decode b_T_truthsOf 0 = .ok (.iconst 0, 1) := by decide +kernel
theorem d_T_truthsOf_1 : decode b_T_truthsOf 1 = .ok (.istore_n 2, 1) := by decide +kernel
theorem d_T_truthsOf_2 : decode b_T_truthsOf 2 = .ok (.iconst 0, 1) := by decide +kernel
theorem d_T_truthsOf_3 : decode b_T_truthsOf 3 = .ok (.istore_n 3, 1) := by decide +kernel
theorem d_T_truthsOf_4 : decode b_T_truthsOf 4 = .ok (.iload_n 3, 1) := by decide +kernel
theorem d_T_truthsOf_5 : decode b_T_truthsOf 5 = .ok (.aload_n 0, 1) := by decide +kernel
theorem d_T_truthsOf_6 : decode b_T_truthsOf 6 = .ok (.getfield 28, 3) := by decide +kernel
theorem d_T_truthsOf_9 : decode b_T_truthsOf 9 = .ok (.if_icmp .ge 21, 3) := by decide +kernel
theorem d_T_truthsOf_12 : decode b_T_truthsOf 12 = .ok (.aload_n 0, 1) := by decide +kernel
theorem d_T_truthsOf_13 : decode b_T_truthsOf 13 = .ok (.iload_n 3, 1) := by decide +kernel
theorem d_T_truthsOf_14 : decode b_T_truthsOf 14 = .ok (.iload_n 1, 1) := by decide +kernel
theorem d_T_truthsOf_15 : decode b_T_truthsOf 15 = .ok (.invokevirtual 32, 3) := by decide +kernel
theorem d_T_truthsOf_18 : decode b_T_truthsOf 18 = .ok (.ifCond .eq 6, 3) := by decide +kernel
theorem d_T_truthsOf_21 : decode b_T_truthsOf 21 = .ok (.iinc 2 1, 3) := by decide +kernel
theorem d_T_truthsOf_24 : decode b_T_truthsOf 24 = .ok (.iinc 3 1, 3) := by decide +kernel
theorem d_T_truthsOf_27 : decode b_T_truthsOf 27 = .ok (.goto (-23), 3) := by decide +kernel
theorem d_T_truthsOf_30 : decode b_T_truthsOf 30 = .ok (.iload_n 2, 1) := by decide +kernel
theorem d_T_truthsOf_31 : decode b_T_truthsOf 31 = .ok (.ireturn, 1) := by decide +kernel
theorem d_T_hasTruthOf_0 : decode b_T_hasTruthOf 0 = .ok (.aload_n 0, 1) := by decide +kernel
theorem d_T_hasTruthOf_1 : decode b_T_hasTruthOf 1 = .ok (.getfield 25, 3) := by decide +kernel
theorem d_T_hasTruthOf_4 : decode b_T_hasTruthOf 4 = .ok (.iload_n 1, 1) := by decide +kernel
theorem d_T_hasTruthOf_5 : decode b_T_hasTruthOf 5 = .ok (.iaload, 1) := by decide +kernel
theorem d_T_hasTruthOf_6 : decode b_T_hasTruthOf 6 = .ok (.iconst (-1), 1) := by decide +kernel
theorem d_T_hasTruthOf_7 : decode b_T_hasTruthOf 7 = .ok (.if_icmp .eq 17, 3) := by decide +kernel
theorem d_T_hasTruthOf_10 : decode b_T_hasTruthOf 10 = .ok (.aload_n 0, 1) := by decide +kernel
theorem d_T_hasTruthOf_11 : decode b_T_hasTruthOf 11 = .ok (.getfield 22, 3) := by decide +kernel
theorem d_T_hasTruthOf_14 : decode b_T_hasTruthOf 14 = .ok (.iload_n 1, 1) := by decide +kernel
theorem d_T_hasTruthOf_15 : decode b_T_hasTruthOf 15 = .ok (.iaload, 1) := by decide +kernel
theorem d_T_hasTruthOf_16 : decode b_T_hasTruthOf 16 = .ok (.iload_n 2, 1) := by decide +kernel
theorem d_T_hasTruthOf_17 : decode b_T_hasTruthOf 17 = .ok (.if_icmp .ne 7, 3) := by decide +kernel
theorem d_T_hasTruthOf_20 : decode b_T_hasTruthOf 20 = .ok (.iconst 1, 1) := by decide +kernel
theorem d_T_hasTruthOf_21 : decode b_T_hasTruthOf 21 = .ok (.goto 4, 3) := by decide +kernel
theorem d_T_hasTruthOf_24 : decode b_T_hasTruthOf 24 = .ok (.iconst 0, 1) := by decide +kernel
theorem d_T_hasTruthOf_25 : decode b_T_hasTruthOf 25 = .ok (.ireturn, 1) := by decide +kernel
theorem d_T_truthsMissed_0 : decode b_T_truthsMissed 0 = .ok (.iconst 0, 1) := by decide +kernel
theorem d_T_truthsMissed_1 : decode b_T_truthsMissed 1 = .ok (.istore_n 3, 1) := by decide +kernel
theorem d_T_truthsMissed_2 : decode b_T_truthsMissed 2 = .ok (.iconst 0, 1) := by decide +kernel
theorem d_T_truthsMissed_3 : decode b_T_truthsMissed 3 = .ok (.istore 4, 2) := by decide +kernel
theorem d_T_truthsMissed_5 : decode b_T_truthsMissed 5 = .ok (.iload 4, 2) := by decide +kernel
theorem d_T_truthsMissed_7 : decode b_T_truthsMissed 7 = .ok (.aload_n 0, 1) := by decide +kernel
theorem d_T_truthsMissed_8 : decode b_T_truthsMissed 8 = .ok (.getfield 28, 3) := by decide +kernel
theorem d_T_truthsMissed_11 : decode b_T_truthsMissed 11 = .ok (.if_icmp .ge 36, 3) := by decide +kernel
theorem d_T_truthsMissed_14 : decode b_T_truthsMissed 14 = .ok (.aload_n 0, 1) := by decide +kernel
theorem d_T_truthsMissed_15 : decode b_T_truthsMissed 15 = .ok (.iload 4, 2) := by decide +kernel
theorem d_T_truthsMissed_17 : decode b_T_truthsMissed 17 = .ok (.iload_n 1, 1) := by decide +kernel
theorem d_T_truthsMissed_18 : decode b_T_truthsMissed 18 = .ok (.invokevirtual 32, 3) := by decide +kernel
theorem d_T_truthsMissed_21 : decode b_T_truthsMissed 21 = .ok (.ifCond .eq 20, 3) := by decide +kernel
theorem d_T_truthsMissed_24 : decode b_T_truthsMissed 24 = .ok (.aload_n 0, 1) := by decide +kernel
theorem d_T_truthsMissed_25 : decode b_T_truthsMissed 25 = .ok (.getfield 25, 3) := by decide +kernel
theorem d_T_truthsMissed_28 : decode b_T_truthsMissed 28 = .ok (.iload 4, 2) := by decide +kernel
theorem d_T_truthsMissed_30 : decode b_T_truthsMissed 30 = .ok (.iaload, 1) := by decide +kernel
theorem d_T_truthsMissed_31 : decode b_T_truthsMissed 31 = .ok (.aload_n 2, 1) := by decide +kernel
theorem d_T_truthsMissed_32 : decode b_T_truthsMissed 32 = .ok (.iload 4, 2) := by decide +kernel
theorem d_T_truthsMissed_34 : decode b_T_truthsMissed 34 = .ok (.iaload, 1) := by decide +kernel
theorem d_T_truthsMissed_35 : decode b_T_truthsMissed 35 = .ok (.if_icmp .eq 6, 3) := by decide +kernel
theorem d_T_truthsMissed_38 : decode b_T_truthsMissed 38 = .ok (.iinc 3 1, 3) := by decide +kernel
theorem d_T_truthsMissed_41 : decode b_T_truthsMissed 41 = .ok (.iinc 4 1, 3) := by decide +kernel
theorem d_T_truthsMissed_44 : decode b_T_truthsMissed 44 = .ok (.goto (-39), 3) := by decide +kernel
theorem d_T_truthsMissed_47 : decode b_T_truthsMissed 47 = .ok (.iload_n 3, 1) := by decide +kernel
theorem d_T_truthsMissed_48 : decode b_T_truthsMissed 48 = .ok (.ireturn, 1) := by decide +kernel
theorem d_K_hours_0 : decode b_K_hours 0 = .ok (.aload_n 0, 1) := by decide +kernel
theorem d_K_hours_1 : decode b_K_hours 1 = .ok (.iload_n 1, 1) := by decide +kernel
theorem d_K_hours_2 : decode b_K_hours 2 = .ok (.invokevirtual 85, 3) := by decide +kernel
theorem d_K_hours_5 : decode b_K_hours 5 = .ok (.ifCond .eq 31, 3) := by decide +kernel
theorem d_K_hours_8 : decode b_K_hours 8 = .ok (.aload_n 0, 1) := by decide +kernel
theorem d_K_hours_9 : decode b_K_hours 9 = .ok (.getfield 54, 3) := by decide +kernel
theorem d_K_hours_12 : decode b_K_hours 12 = .ok (.invokevirtual 132, 3) := by decide +kernel
theorem d_K_hours_15 : decode b_K_hours 15 = .ok (.ifCond .eq 21, 3) := by decide +kernel
theorem d_K_hours_18 : decode b_K_hours 18 = .ok (.aload_n 0, 1) := by decide +kernel
theorem d_K_hours_19 : decode b_K_hours 19 = .ok (.getfield 54, 3) := by decide +kernel
theorem d_K_hours_22 : decode b_K_hours 22 = .ok (.iload_n 1, 1) := by decide +kernel
theorem d_K_hours_23 : decode b_K_hours 23 = .ok (.aload_n 0, 1) := by decide +kernel
theorem d_K_hours_24 : decode b_K_hours 24 = .ok (.getfield 25, 3) := by decide +kernel
theorem d_K_hours_27 : decode b_K_hours 27 = .ok (.getfield 157, 3) := by decide +kernel
theorem d_K_hours_30 : decode b_K_hours 30 = .ok (.invokevirtual 160, 3) := by decide +kernel
theorem d_K_hours_33 : decode b_K_hours 33 = .ok (.goto 6, 3) := by decide +kernel
theorem d_K_hours_36 : decode b_K_hours 36 = .ok (.ldc2_w 146, 3) := by decide +kernel
theorem d_K_hours_39 : decode b_K_hours 39 = .ok (.lreturn, 1) := by decide +kernel
theorem d_N_secondsOf_0 : decode b_N_secondsOf 0 = .ok (.lconst 0, 1) := by decide +kernel
theorem d_N_secondsOf_1 : decode b_N_secondsOf 1 = .ok (.lstore_n 3, 1) := by decide +kernel
theorem d_N_secondsOf_2 : decode b_N_secondsOf 2 = .ok (.iconst 0, 1) := by decide +kernel
theorem d_N_secondsOf_3 : decode b_N_secondsOf 3 = .ok (.istore 5, 2) := by decide +kernel
theorem d_N_secondsOf_5 : decode b_N_secondsOf 5 = .ok (.iload 5, 2) := by decide +kernel
theorem d_N_secondsOf_7 : decode b_N_secondsOf 7 = .ok (.aload_n 0, 1) := by decide +kernel
theorem d_N_secondsOf_8 : decode b_N_secondsOf 8 = .ok (.getfield 18, 3) := by decide +kernel
theorem d_N_secondsOf_11 : decode b_N_secondsOf 11 = .ok (.if_icmp .ge 35, 3) := by decide +kernel
theorem d_N_secondsOf_14 : decode b_N_secondsOf 14 = .ok (.aload_n 0, 1) := by decide +kernel
theorem d_N_secondsOf_15 : decode b_N_secondsOf 15 = .ok (.getfield 9, 3) := by decide +kernel
theorem d_N_secondsOf_18 : decode b_N_secondsOf 18 = .ok (.iload 5, 2) := by decide +kernel
theorem d_N_secondsOf_20 : decode b_N_secondsOf 20 = .ok (.iaload, 1) := by decide +kernel
theorem d_N_secondsOf_21 : decode b_N_secondsOf 21 = .ok (.iload_n 1, 1) := by decide +kernel
theorem d_N_secondsOf_22 : decode b_N_secondsOf 22 = .ok (.if_icmp .ne 18, 3) := by decide +kernel
theorem d_N_secondsOf_25 : decode b_N_secondsOf 25 = .ok (.lload_n 3, 1) := by decide +kernel
theorem d_N_secondsOf_26 : decode b_N_secondsOf 26 = .ok (.aload_n 0, 1) := by decide +kernel
theorem d_N_secondsOf_27 : decode b_N_secondsOf 27 = .ok (.iload 5, 2) := by decide +kernel
theorem d_N_secondsOf_29 : decode b_N_secondsOf 29 = .ok (.aload_n 2, 1) := by decide +kernel
theorem d_N_secondsOf_30 : decode b_N_secondsOf 30 = .ok (.invokevirtual 56, 3) := by decide +kernel
theorem d_N_secondsOf_33 : decode b_N_secondsOf 33 = .ok (.aload_n 2, 1) := by decide +kernel
theorem d_N_secondsOf_34 : decode b_N_secondsOf 34 = .ok (.iload 5, 2) := by decide +kernel
theorem d_N_secondsOf_36 : decode b_N_secondsOf 36 = .ok (.laload, 1) := by decide +kernel
theorem d_N_secondsOf_37 : decode b_N_secondsOf 37 = .ok (.lsub, 1) := by decide +kernel
theorem d_N_secondsOf_38 : decode b_N_secondsOf 38 = .ok (.ladd, 1) := by decide +kernel
theorem d_N_secondsOf_39 : decode b_N_secondsOf 39 = .ok (.lstore_n 3, 1) := by decide +kernel
theorem d_N_secondsOf_40 : decode b_N_secondsOf 40 = .ok (.iinc 5 1, 3) := by decide +kernel
theorem d_N_secondsOf_43 : decode b_N_secondsOf 43 = .ok (.goto (-38), 3) := by decide +kernel
theorem d_N_secondsOf_46 : decode b_N_secondsOf 46 = .ok (.lload_n 3, 1) := by decide +kernel
theorem d_N_secondsOf_47 : decode b_N_secondsOf 47 = .ok (.lreturn, 1) := by decide +kernel
theorem d_N_endOf_0 : decode b_N_endOf 0 = .ok (.aload_n 2, 1) := by decide +kernel
theorem d_N_endOf_1 : decode b_N_endOf 1 = .ok (.iload_n 1, 1) := by decide +kernel
theorem d_N_endOf_2 : decode b_N_endOf 2 = .ok (.iconst 1, 1) := by decide +kernel
theorem d_N_endOf_3 : decode b_N_endOf 3 = .ok (.iadd, 1) := by decide +kernel
theorem d_N_endOf_4 : decode b_N_endOf 4 = .ok (.aload_n 0, 1) := by decide +kernel
theorem d_N_endOf_5 : decode b_N_endOf 5 = .ok (.getfield 18, 3) := by decide +kernel
theorem d_N_endOf_8 : decode b_N_endOf 8 = .ok (.iconst 1, 1) := by decide +kernel
theorem d_N_endOf_9 : decode b_N_endOf 9 = .ok (.isub, 1) := by decide +kernel
theorem d_N_endOf_10 : decode b_N_endOf 10 = .ok (.invokestatic 50, 3) := by decide +kernel
theorem d_N_endOf_13 : decode b_N_endOf 13 = .ok (.laload, 1) := by decide +kernel
theorem d_N_endOf_14 : decode b_N_endOf 14 = .ok (.lreturn, 1) := by decide +kernel
theorem d_K_haul_0 : decode b_K_haul 0 = .ok (.aload_n 0, 1) := by decide +kernel
theorem d_K_haul_1 : decode b_K_haul 1 = .ok (.getfield 54, 3) := by decide +kernel
theorem d_K_haul_4 : decode b_K_haul 4 = .ok (.iload_n 1, 1) := by decide +kernel
theorem d_K_haul_5 : decode b_K_haul 5 = .ok (.invokevirtual 164, 3) := by decide +kernel
theorem d_K_haul_8 : decode b_K_haul 8 = .ok (.istore_n 3, 1) := by decide +kernel
theorem d_K_haul_9 : decode b_K_haul 9 = .ok (.iload_n 3, 1) := by decide +kernel
theorem d_K_haul_10 : decode b_K_haul 10 = .ok (.iconst (-1), 1) := by decide +kernel
theorem d_K_haul_11 : decode b_K_haul 11 = .ok (.if_icmp .eq 11, 3) := by decide +kernel
theorem d_K_haul_14 : decode b_K_haul 14 = .ok (.iload_n 2, 1) := by decide +kernel
theorem d_K_haul_15 : decode b_K_haul 15 = .ok (.iconst 2, 1) := by decide +kernel
theorem d_K_haul_16 : decode b_K_haul 16 = .ok (.invokestatic 96, 3) := by decide +kernel
theorem d_K_haul_19 : decode b_K_haul 19 = .ok (.ifCond .ne 5, 3) := by decide +kernel
theorem d_K_haul_22 : decode b_K_haul 22 = .ok (.iconst (-1), 1) := by decide +kernel
theorem d_K_haul_23 : decode b_K_haul 23 = .ok (.ireturn, 1) := by decide +kernel
theorem d_K_haul_24 : decode b_K_haul 24 = .ok (.iload_n 2, 1) := by decide +kernel
theorem d_K_haul_25 : decode b_K_haul 25 = .ok (.ifCond .ne 15, 3) := by decide +kernel
theorem d_K_haul_28 : decode b_K_haul 28 = .ok (.aload_n 0, 1) := by decide +kernel
theorem d_K_haul_29 : decode b_K_haul 29 = .ok (.getfield 25, 3) := by decide +kernel
theorem d_K_haul_32 : decode b_K_haul 32 = .ok (.getfield 157, 3) := by decide +kernel
theorem d_K_haul_35 : decode b_K_haul 35 = .ok (.iload_n 3, 1) := by decide +kernel
theorem d_K_haul_36 : decode b_K_haul 36 = .ok (.laload, 1) := by decide +kernel
theorem d_K_haul_37 : decode b_K_haul 37 = .ok (.goto 25, 3) := by decide +kernel
theorem d_K_haul_40 : decode b_K_haul 40 = .ok (.aload_n 0, 1) := by decide +kernel
theorem d_K_haul_41 : decode b_K_haul 41 = .ok (.getfield 54, 3) := by decide +kernel
theorem d_K_haul_44 : decode b_K_haul 44 = .ok (.aload_n 0, 1) := by decide +kernel
theorem d_K_haul_45 : decode b_K_haul 45 = .ok (.getfield 54, 3) := by decide +kernel
theorem d_K_haul_48 : decode b_K_haul 48 = .ok (.iload_n 3, 1) := by decide +kernel
theorem d_K_haul_49 : decode b_K_haul 49 = .ok (.invokevirtual 167, 3) := by decide +kernel
theorem d_K_haul_52 : decode b_K_haul 52 = .ok (.aload_n 0, 1) := by decide +kernel
theorem d_K_haul_53 : decode b_K_haul 53 = .ok (.getfield 25, 3) := by decide +kernel
theorem d_K_haul_56 : decode b_K_haul 56 = .ok (.getfield 157, 3) := by decide +kernel
theorem d_K_haul_59 : decode b_K_haul 59 = .ok (.invokevirtual 170, 3) := by decide +kernel
theorem d_K_haul_62 : decode b_K_haul 62 = .ok (.lstore 4, 2) := by decide +kernel
theorem d_K_haul_64 : decode b_K_haul 64 = .ok (.lload 4, 2) := by decide +kernel
theorem d_K_haul_66 : decode b_K_haul 66 = .ok (.ldc2_w 175, 3) := by decide +kernel
theorem d_K_haul_69 : decode b_K_haul 69 = .ok (.lcmp, 1) := by decide +kernel
theorem d_K_haul_70 : decode b_K_haul 70 = .ok (.ifCond .gt 9, 3) := by decide +kernel
theorem d_K_haul_73 : decode b_K_haul 73 = .ok (.lload 4, 2) := by decide +kernel
theorem d_K_haul_75 : decode b_K_haul 75 = .ok (.l2i, 1) := by decide +kernel
theorem d_K_haul_76 : decode b_K_haul 76 = .ok (.goto 4, 3) := by decide +kernel
theorem d_K_haul_79 : decode b_K_haul 79 = .ok (.iconst (-1), 1) := by decide +kernel
theorem d_K_haul_80 : decode b_K_haul 80 = .ok (.ireturn, 1) := by decide +kernel
theorem d_N_haulStart_0 : decode b_N_haulStart 0 = .ok (.iconst 0, 1) := by decide +kernel
theorem d_N_haulStart_1 : decode b_N_haulStart 1 = .ok (.istore_n 2, 1) := by decide +kernel
theorem d_N_haulStart_2 : decode b_N_haulStart 2 = .ok (.iconst 0, 1) := by decide +kernel
theorem d_N_haulStart_3 : decode b_N_haulStart 3 = .ok (.istore_n 3, 1) := by decide +kernel
theorem d_N_haulStart_4 : decode b_N_haulStart 4 = .ok (.iload_n 3, 1) := by decide +kernel
theorem d_N_haulStart_5 : decode b_N_haulStart 5 = .ok (.aload_n 0, 1) := by decide +kernel
theorem d_N_haulStart_6 : decode b_N_haulStart 6 = .ok (.getfield 18, 3) := by decide +kernel
theorem d_N_haulStart_9 : decode b_N_haulStart 9 = .ok (.if_icmp .ge 37, 3) := by decide +kernel
theorem d_N_haulStart_12 : decode b_N_haulStart 12 = .ok (.aload_n 0, 1) := by decide +kernel
theorem d_N_haulStart_13 : decode b_N_haulStart 13 = .ok (.iload_n 3, 1) := by decide +kernel
theorem d_N_haulStart_14 : decode b_N_haulStart 14 = .ok (.invokevirtual 60, 3) := by decide +kernel
theorem d_N_haulStart_17 : decode b_N_haulStart 17 = .ok (.ifCond .eq 23, 3) := by decide +kernel
theorem d_N_haulStart_20 : decode b_N_haulStart 20 = .ok (.aload_n 0, 1) := by decide +kernel
theorem d_N_haulStart_21 : decode b_N_haulStart 21 = .ok (.iload_n 3, 1) := by decide +kernel
theorem d_N_haulStart_22 : decode b_N_haulStart 22 = .ok (.iconst 1, 1) := by decide +kernel
theorem d_N_haulStart_23 : decode b_N_haulStart 23 = .ok (.isub, 1) := by decide +kernel
theorem d_N_haulStart_24 : decode b_N_haulStart 24 = .ok (.invokevirtual 60, 3) := by decide +kernel
theorem d_N_haulStart_27 : decode b_N_haulStart 27 = .ok (.ifCond .ne 13, 3) := by decide +kernel
theorem d_N_haulStart_30 : decode b_N_haulStart 30 = .ok (.iload_n 2, 1) := by decide +kernel
theorem d_N_haulStart_31 : decode b_N_haulStart 31 = .ok (.iload_n 1, 1) := by decide +kernel
theorem d_N_haulStart_32 : decode b_N_haulStart 32 = .ok (.if_icmp .ne 5, 3) := by decide +kernel
theorem d_N_haulStart_35 : decode b_N_haulStart 35 = .ok (.iload_n 3, 1) := by decide +kernel
theorem d_N_haulStart_36 : decode b_N_haulStart 36 = .ok (.ireturn, 1) := by decide +kernel
theorem d_N_haulStart_37 : decode b_N_haulStart 37 = .ok (.iinc 2 1, 3) := by decide +kernel
theorem d_N_haulStart_40 : decode b_N_haulStart 40 = .ok (.iinc 3 1, 3) := by decide +kernel
theorem d_N_haulStart_43 : decode b_N_haulStart 43 = .ok (.goto (-39), 3) := by decide +kernel
theorem d_N_haulStart_46 : decode b_N_haulStart 46 = .ok (.iconst (-1), 1) := by decide +kernel
theorem d_N_haulStart_47 : decode b_N_haulStart 47 = .ok (.ireturn, 1) := by decide +kernel
theorem d_N_isHauling_0 : decode b_N_isHauling 0 = .ok (.aload_n 0, 1) := by decide +kernel
theorem d_N_isHauling_1 : decode b_N_isHauling 1 = .ok (.iload_n 1, 1) := by decide +kernel
theorem d_N_isHauling_2 : decode b_N_isHauling 2 = .ok (.invokevirtual 46, 3) := by decide +kernel
theorem d_N_isHauling_5 : decode b_N_isHauling 5 = .ok (.ifCond .eq 17, 3) := by decide +kernel
theorem d_N_isHauling_8 : decode b_N_isHauling 8 = .ok (.aload_n 0, 1) := by decide +kernel
theorem d_N_isHauling_9 : decode b_N_isHauling 9 = .ok (.getfield 9, 3) := by decide +kernel
theorem d_N_isHauling_12 : decode b_N_isHauling 12 = .ok (.iload_n 1, 1) := by decide +kernel
theorem d_N_isHauling_13 : decode b_N_isHauling 13 = .ok (.iaload, 1) := by decide +kernel
theorem d_N_isHauling_14 : decode b_N_isHauling 14 = .ok (.iconst 3, 1) := by decide +kernel
theorem d_N_isHauling_15 : decode b_N_isHauling 15 = .ok (.if_icmp .ne 7, 3) := by decide +kernel
theorem d_N_isHauling_18 : decode b_N_isHauling 18 = .ok (.iconst 1, 1) := by decide +kernel
theorem d_N_isHauling_19 : decode b_N_isHauling 19 = .ok (.goto 4, 3) := by decide +kernel
theorem d_N_isHauling_22 : decode b_N_isHauling 22 = .ok (.iconst 0, 1) := by decide +kernel
theorem d_N_isHauling_23 : decode b_N_isHauling 23 = .ok (.ireturn, 1) := by decide +kernel
theorem d_N_haulLast_0 : decode b_N_haulLast 0 = .ok (.iload_n 1, 1) := by decide +kernel
theorem d_N_haulLast_1 : decode b_N_haulLast 1 = .ok (.istore_n 2, 1) := by decide +kernel
theorem d_N_haulLast_2 : decode b_N_haulLast 2 = .ok (.iload_n 1, 1) := by decide +kernel
theorem d_N_haulLast_3 : decode b_N_haulLast 3 = .ok (.iconst 1, 1) := by decide +kernel
theorem d_N_haulLast_4 : decode b_N_haulLast 4 = .ok (.iadd, 1) := by decide +kernel
theorem d_N_haulLast_5 : decode b_N_haulLast 5 = .ok (.istore_n 3, 1) := by decide +kernel
theorem d_N_haulLast_6 : decode b_N_haulLast 6 = .ok (.iload_n 3, 1) := by decide +kernel
theorem d_N_haulLast_7 : decode b_N_haulLast 7 = .ok (.aload_n 0, 1) := by decide +kernel
theorem d_N_haulLast_8 : decode b_N_haulLast 8 = .ok (.getfield 18, 3) := by decide +kernel
theorem d_N_haulLast_11 : decode b_N_haulLast 11 = .ok (.if_icmp .ge 19, 3) := by decide +kernel
theorem d_N_haulLast_14 : decode b_N_haulLast 14 = .ok (.aload_n 0, 1) := by decide +kernel
theorem d_N_haulLast_15 : decode b_N_haulLast 15 = .ok (.iload_n 3, 1) := by decide +kernel
theorem d_N_haulLast_16 : decode b_N_haulLast 16 = .ok (.invokevirtual 60, 3) := by decide +kernel
theorem d_N_haulLast_19 : decode b_N_haulLast 19 = .ok (.ifCond .eq 11, 3) := by decide +kernel
theorem d_N_haulLast_22 : decode b_N_haulLast 22 = .ok (.iload_n 3, 1) := by decide +kernel
theorem d_N_haulLast_23 : decode b_N_haulLast 23 = .ok (.istore_n 2, 1) := by decide +kernel
theorem d_N_haulLast_24 : decode b_N_haulLast 24 = .ok (.iinc 3 1, 3) := by decide +kernel
theorem d_N_haulLast_27 : decode b_N_haulLast 27 = .ok (.goto (-21), 3) := by decide +kernel
theorem d_N_haulLast_30 : decode b_N_haulLast 30 = .ok (.iload_n 2, 1) := by decide +kernel
theorem d_N_haulLast_31 : decode b_N_haulLast 31 = .ok (.ireturn, 1) := by decide +kernel
theorem d_K_differs_0 : decode b_K_differs 0 = .ok (.aload_n 0, 1) := by decide +kernel
theorem d_K_differs_1 : decode b_K_differs 1 = .ok (.iload_n 1, 1) := by decide +kernel
theorem d_K_differs_2 : decode b_K_differs 2 = .ok (.invokevirtual 177, 3) := by decide +kernel
theorem d_K_differs_5 : decode b_K_differs 5 = .ok (.istore_n 3, 1) := by decide +kernel
theorem d_K_differs_6 : decode b_K_differs 6 = .ok (.iload_n 3, 1) := by decide +kernel
theorem d_K_differs_7 : decode b_K_differs 7 = .ok (.iconst (-1), 1) := by decide +kernel
theorem d_K_differs_8 : decode b_K_differs 8 = .ok (.if_icmp .eq 11, 3) := by decide +kernel
theorem d_K_differs_11 : decode b_K_differs 11 = .ok (.iload_n 2, 1) := by decide +kernel
theorem d_K_differs_12 : decode b_K_differs 12 = .ok (.iconst 2, 1) := by decide +kernel
theorem d_K_differs_13 : decode b_K_differs 13 = .ok (.invokestatic 96, 3) := by decide +kernel
theorem d_K_differs_16 : decode b_K_differs 16 = .ok (.ifCond .ne 5, 3) := by decide +kernel
theorem d_K_differs_19 : decode b_K_differs 19 = .ok (.iconst (-1), 1) := by decide +kernel
theorem d_K_differs_20 : decode b_K_differs 20 = .ok (.ireturn, 1) := by decide +kernel
theorem d_K_differs_21 : decode b_K_differs 21 = .ok (.iload_n 2, 1) := by decide +kernel
theorem d_K_differs_22 : decode b_K_differs 22 = .ok (.ifCond .ne 7, 3) := by decide +kernel
theorem d_K_differs_25 : decode b_K_differs 25 = .ok (.iload_n 3, 1) := by decide +kernel
theorem d_K_differs_26 : decode b_K_differs 26 = .ok (.goto 19, 3) := by decide +kernel
theorem d_K_differs_29 : decode b_K_differs 29 = .ok (.aload_n 0, 1) := by decide +kernel
theorem d_K_differs_30 : decode b_K_differs 30 = .ok (.getfield 61, 3) := by decide +kernel
theorem d_K_differs_33 : decode b_K_differs 33 = .ok (.aload_n 0, 1) := by decide +kernel
theorem d_K_differs_34 : decode b_K_differs 34 = .ok (.getfield 25, 3) := by decide +kernel
theorem d_K_differs_37 : decode b_K_differs 37 = .ok (.getfield 157, 3) := by decide +kernel
theorem d_K_differs_40 : decode b_K_differs 40 = .ok (.iload_n 3, 1) := by decide +kernel
theorem d_K_differs_41 : decode b_K_differs 41 = .ok (.laload, 1) := by decide +kernel
theorem d_K_differs_42 : decode b_K_differs 42 = .ok (.invokevirtual 180, 3) := by decide +kernel
theorem d_K_differs_45 : decode b_K_differs 45 = .ok (.ireturn, 1) := by decide +kernel
theorem d_K_differingRow_0 : decode b_K_differingRow 0 = .ok (.iconst 0, 1) := by decide +kernel
theorem d_K_differingRow_1 : decode b_K_differingRow 1 = .ok (.istore_n 2, 1) := by decide +kernel
theorem d_K_differingRow_2 : decode b_K_differingRow 2 = .ok (.iconst 0, 1) := by decide +kernel
theorem d_K_differingRow_3 : decode b_K_differingRow 3 = .ok (.istore_n 3, 1) := by decide +kernel
theorem d_K_differingRow_4 : decode b_K_differingRow 4 = .ok (.iload_n 3, 1) := by decide +kernel
theorem d_K_differingRow_5 : decode b_K_differingRow 5 = .ok (.aload_n 0, 1) := by decide +kernel
theorem d_K_differingRow_6 : decode b_K_differingRow 6 = .ok (.getfield 54, 3) := by decide +kernel
theorem d_K_differingRow_9 : decode b_K_differingRow 9 = .ok (.getfield 211, 3) := by decide +kernel
theorem d_K_differingRow_12 : decode b_K_differingRow 12 = .ok (.if_icmp .ge 57, 3) := by decide +kernel
theorem d_K_differingRow_15 : decode b_K_differingRow 15 = .ok (.aload_n 0, 1) := by decide +kernel
theorem d_K_differingRow_16 : decode b_K_differingRow 16 = .ok (.getfield 61, 3) := by decide +kernel
theorem d_K_differingRow_19 : decode b_K_differingRow 19 = .ok (.aload_n 0, 1) := by decide +kernel
theorem d_K_differingRow_20 : decode b_K_differingRow 20 = .ok (.getfield 25, 3) := by decide +kernel
theorem d_K_differingRow_23 : decode b_K_differingRow 23 = .ok (.getfield 157, 3) := by decide +kernel
theorem d_K_differingRow_26 : decode b_K_differingRow 26 = .ok (.iload_n 3, 1) := by decide +kernel
theorem d_K_differingRow_27 : decode b_K_differingRow 27 = .ok (.laload, 1) := by decide +kernel
theorem d_K_differingRow_28 : decode b_K_differingRow 28 = .ok (.invokevirtual 180, 3) := by decide +kernel
theorem d_K_differingRow_31 : decode b_K_differingRow 31 = .ok (.istore 4, 2) := by decide +kernel
theorem d_K_differingRow_33 : decode b_K_differingRow 33 = .ok (.iload 4, 2) := by decide +kernel
theorem d_K_differingRow_35 : decode b_K_differingRow 35 = .ok (.iconst (-1), 1) := by decide +kernel
theorem d_K_differingRow_36 : decode b_K_differingRow 36 = .ok (.if_icmp .eq 27, 3) := by decide +kernel
theorem d_K_differingRow_39 : decode b_K_differingRow 39 = .ok (.iload 4, 2) := by decide +kernel
theorem d_K_differingRow_41 : decode b_K_differingRow 41 = .ok (.aload_n 0, 1) := by decide +kernel
theorem d_K_differingRow_42 : decode b_K_differingRow 42 = .ok (.getfield 54, 3) := by decide +kernel
theorem d_K_differingRow_45 : decode b_K_differingRow 45 = .ok (.getfield 128, 3) := by decide +kernel
theorem d_K_differingRow_48 : decode b_K_differingRow 48 = .ok (.iload_n 3, 1) := by decide +kernel
theorem d_K_differingRow_49 : decode b_K_differingRow 49 = .ok (.iaload, 1) := by decide +kernel
theorem d_K_differingRow_50 : decode b_K_differingRow 50 = .ok (.if_icmp .eq 13, 3) := by decide +kernel
theorem d_K_differingRow_53 : decode b_K_differingRow 53 = .ok (.iload_n 2, 1) := by decide +kernel
theorem d_K_differingRow_54 : decode b_K_differingRow 54 = .ok (.iload_n 1, 1) := by decide +kernel
theorem d_K_differingRow_55 : decode b_K_differingRow 55 = .ok (.if_icmp .ne 5, 3) := by decide +kernel
theorem d_K_differingRow_58 : decode b_K_differingRow 58 = .ok (.iload_n 3, 1) := by decide +kernel
theorem d_K_differingRow_59 : decode b_K_differingRow 59 = .ok (.ireturn, 1) := by decide +kernel
theorem d_K_differingRow_60 : decode b_K_differingRow 60 = .ok (.iinc 2 1, 3) := by decide +kernel
theorem d_K_differingRow_63 : decode b_K_differingRow 63 = .ok (.iinc 3 1, 3) := by decide +kernel
theorem d_K_differingRow_66 : decode b_K_differingRow 66 = .ok (.goto (-62), 3) := by decide +kernel
theorem d_K_differingRow_69 : decode b_K_differingRow 69 = .ok (.iconst (-1), 1) := by decide +kernel
theorem d_K_differingRow_70 : decode b_K_differingRow 70 = .ok (.ireturn, 1) := by decide +kernel
theorem d_P_actAt_0 : decode b_P_actAt 0 = .ok (.aload_n 0, 1) := by decide +kernel
theorem d_P_actAt_1 : decode b_P_actAt 1 = .ok (.getfield 22, 3) := by decide +kernel
theorem d_P_actAt_4 : decode b_P_actAt 4 = .ok (.iconst 1, 1) := by decide +kernel
theorem d_P_actAt_5 : decode b_P_actAt 5 = .ok (.isub, 1) := by decide +kernel
theorem d_P_actAt_6 : decode b_P_actAt 6 = .ok (.istore_n 3, 1) := by decide +kernel
theorem d_P_actAt_7 : decode b_P_actAt 7 = .ok (.iload_n 3, 1) := by decide +kernel
theorem d_P_actAt_8 : decode b_P_actAt 8 = .ok (.ifCond .lt 38, 3) := by decide +kernel
theorem d_P_actAt_11 : decode b_P_actAt 11 = .ok (.aload_n 0, 1) := by decide +kernel
theorem d_P_actAt_12 : decode b_P_actAt 12 = .ok (.getfield 9, 3) := by decide +kernel
theorem d_P_actAt_15 : decode b_P_actAt 15 = .ok (.iload_n 3, 1) := by decide +kernel
theorem d_P_actAt_16 : decode b_P_actAt 16 = .ok (.laload, 1) := by decide +kernel
theorem d_P_actAt_17 : decode b_P_actAt 17 = .ok (.lload_n 1, 1) := by decide +kernel
theorem d_P_actAt_18 : decode b_P_actAt 18 = .ok (.lcmp, 1) := by decide +kernel
theorem d_P_actAt_19 : decode b_P_actAt 19 = .ok (.ifCond .gt 21, 3) := by decide +kernel
theorem d_P_actAt_22 : decode b_P_actAt 22 = .ok (.lload_n 1, 1) := by decide +kernel
theorem d_P_actAt_23 : decode b_P_actAt 23 = .ok (.aload_n 0, 1) := by decide +kernel
theorem d_P_actAt_24 : decode b_P_actAt 24 = .ok (.getfield 15, 3) := by decide +kernel
theorem d_P_actAt_27 : decode b_P_actAt 27 = .ok (.iload_n 3, 1) := by decide +kernel
theorem d_P_actAt_28 : decode b_P_actAt 28 = .ok (.laload, 1) := by decide +kernel
theorem d_P_actAt_29 : decode b_P_actAt 29 = .ok (.lcmp, 1) := by decide +kernel
theorem d_P_actAt_30 : decode b_P_actAt 30 = .ok (.ifCond .ge 10, 3) := by decide +kernel
theorem d_P_actAt_33 : decode b_P_actAt 33 = .ok (.aload_n 0, 1) := by decide +kernel
theorem d_P_actAt_34 : decode b_P_actAt 34 = .ok (.getfield 18, 3) := by decide +kernel
theorem d_P_actAt_37 : decode b_P_actAt 37 = .ok (.iload_n 3, 1) := by decide +kernel
theorem d_P_actAt_38 : decode b_P_actAt 38 = .ok (.iaload, 1) := by decide +kernel
theorem d_P_actAt_39 : decode b_P_actAt 39 = .ok (.ireturn, 1) := by decide +kernel
theorem d_P_actAt_40 : decode b_P_actAt 40 = .ok (.iinc 3 (-1), 3) := by decide +kernel
theorem d_P_actAt_43 : decode b_P_actAt 43 = .ok (.goto (-36), 3) := by decide +kernel
theorem d_P_actAt_46 : decode b_P_actAt 46 = .ok (.iconst (-1), 1) := by decide +kernel
theorem d_P_actAt_47 : decode b_P_actAt 47 = .ok (.ireturn, 1) := by decide +kernel
theorem d_K_page_0 : decode b_K_page 0 = .ok (.aload_n 0, 1) := by decide +kernel
theorem d_K_page_1 : decode b_K_page 1 = .ok (.iload 5, 2) := by decide +kernel
theorem d_K_page_3 : decode b_K_page 3 = .ok (.invokevirtual 85, 3) := by decide +kernel
theorem d_K_page_6 : decode b_K_page 6 = .ok (.ifCond .eq 27, 3) := by decide +kernel
theorem d_K_page_9 : decode b_K_page 9 = .ok (.lload_n 1, 1) := by decide +kernel
theorem d_K_page_10 : decode b_K_page 10 = .ok (.lconst 0, 1) := by decide +kernel
theorem d_K_page_11 : decode b_K_page 11 = .ok (.lcmp, 1) := by decide +kernel
theorem d_K_page_12 : decode b_K_page 12 = .ok (.ifCond .lt 21, 3) := by decide +kernel
theorem d_K_page_15 : decode b_K_page 15 = .ok (.lload_n 1, 1) := by decide +kernel
theorem d_K_page_16 : decode b_K_page 16 = .ok (.lload_n 3, 1) := by decide +kernel
theorem d_K_page_17 : decode b_K_page 17 = .ok (.lcmp, 1) := by decide +kernel
theorem d_K_page_18 : decode b_K_page 18 = .ok (.ifCond .ge 15, 3) := by decide +kernel
theorem d_K_page_21 : decode b_K_page 21 = .ok (.aload_n 0, 1) := by decide +kernel
theorem d_K_page_22 : decode b_K_page 22 = .ok (.getfield 61, 3) := by decide +kernel
theorem d_K_page_25 : decode b_K_page 25 = .ok (.getfield 184, 3) := by decide +kernel
theorem d_K_page_28 : decode b_K_page 28 = .ok (.bipush 50, 2) := by decide +kernel
theorem d_K_page_30 : decode b_K_page 30 = .ok (.if_icmp .lt 5, 3) := by decide +kernel
theorem d_K_page_33 : decode b_K_page 33 = .ok (.iconst 0, 1) := by decide +kernel
theorem d_K_page_34 : decode b_K_page 34 = .ok (.ireturn, 1) := by decide +kernel
theorem d_K_page_35 : decode b_K_page 35 = .ok (.aload_n 0, 1) := by decide +kernel
theorem d_K_page_36 : decode b_K_page 36 = .ok (.getfield 61, 3) := by decide +kernel
theorem d_K_page_39 : decode b_K_page 39 = .ok (.lload_n 1, 1) := by decide +kernel
theorem d_K_page_40 : decode b_K_page 40 = .ok (.lload_n 3, 1) := by decide +kernel
theorem d_K_page_41 : decode b_K_page 41 = .ok (.iload 5, 2) := by decide +kernel
theorem d_K_page_43 : decode b_K_page 43 = .ok (.invokevirtual 185, 3) := by decide +kernel
theorem d_K_page_46 : decode b_K_page 46 = .ok (.iconst 1, 1) := by decide +kernel
theorem d_K_page_47 : decode b_K_page 47 = .ok (.ireturn, 1) := by decide +kernel
theorem d_P_add_0 : decode b_P_add 0 = .ok (.aload_n 0, 1) := by decide +kernel
theorem d_P_add_1 : decode b_P_add 1 = .ok (.getfield 9, 3) := by decide +kernel
theorem d_P_add_4 : decode b_P_add 4 = .ok (.aload_n 0, 1) := by decide +kernel
theorem d_P_add_5 : decode b_P_add 5 = .ok (.getfield 22, 3) := by decide +kernel
theorem d_P_add_8 : decode b_P_add 8 = .ok (.lload_n 1, 1) := by decide +kernel
theorem d_P_add_9 : decode b_P_add 9 = .ok (.lastore, 1) := by decide +kernel
theorem d_P_add_10 : decode b_P_add 10 = .ok (.aload_n 0, 1) := by decide +kernel
theorem d_P_add_11 : decode b_P_add 11 = .ok (.getfield 15, 3) := by decide +kernel
theorem d_P_add_14 : decode b_P_add 14 = .ok (.aload_n 0, 1) := by decide +kernel
theorem d_P_add_15 : decode b_P_add 15 = .ok (.getfield 22, 3) := by decide +kernel
theorem d_P_add_18 : decode b_P_add 18 = .ok (.lload_n 3, 1) := by decide +kernel
theorem d_P_add_19 : decode b_P_add 19 = .ok (.lastore, 1) := by decide +kernel
theorem d_P_add_20 : decode b_P_add 20 = .ok (.aload_n 0, 1) := by decide +kernel
theorem d_P_add_21 : decode b_P_add 21 = .ok (.getfield 18, 3) := by decide +kernel
theorem d_P_add_24 : decode b_P_add 24 = .ok (.aload_n 0, 1) := by decide +kernel
theorem d_P_add_25 : decode b_P_add 25 = .ok (.getfield 22, 3) := by decide +kernel
theorem d_P_add_28 : decode b_P_add 28 = .ok (.iload 5, 2) := by decide +kernel
theorem d_P_add_30 : decode b_P_add 30 = .ok (.iastore, 1) := by decide +kernel
theorem d_P_add_31 : decode b_P_add 31 = .ok (.aload_n 0, 1) := by decide +kernel
theorem d_P_add_32 : decode b_P_add 32 = .ok (.dup, 1) := by decide +kernel
theorem d_P_add_33 : decode b_P_add 33 = .ok (.getfield 22, 3) := by decide +kernel
theorem d_P_add_36 : decode b_P_add 36 = .ok (.iconst 1, 1) := by decide +kernel
theorem d_P_add_37 : decode b_P_add 37 = .ok (.iadd, 1) := by decide +kernel
theorem d_P_add_38 : decode b_P_add 38 = .ok (.putfield 22, 3) := by decide +kernel
theorem d_P_add_41 : decode b_P_add 41 = .ok (.return_, 1) := by decide +kernel
theorem d_K_unsure_0 : decode b_K_unsure 0 = .ok (.aload_n 0, 1) := by decide +kernel
theorem d_K_unsure_1 : decode b_K_unsure 1 = .ok (.getfield 54, 3) := by decide +kernel
theorem d_K_unsure_4 : decode b_K_unsure 4 = .ok (.iload_n 1, 1) := by decide +kernel
theorem d_K_unsure_5 : decode b_K_unsure 5 = .ok (.invokevirtual 188, 3) := by decide +kernel
theorem d_K_unsure_8 : decode b_K_unsure 8 = .ok (.ifCond .eq 31, 3) := by decide +kernel
theorem d_K_unsure_11 : decode b_K_unsure 11 = .ok (.aload_n 0, 1) := by decide +kernel
theorem d_K_unsure_12 : decode b_K_unsure 12 = .ok (.getfield 54, 3) := by decide +kernel
theorem d_K_unsure_15 : decode b_K_unsure 15 = .ok (.getfield 191, 3) := by decide +kernel
theorem d_K_unsure_18 : decode b_K_unsure 18 = .ok (.iload_n 1, 1) := by decide +kernel
theorem d_K_unsure_19 : decode b_K_unsure 19 = .ok (.iaload, 1) := by decide +kernel
theorem d_K_unsure_20 : decode b_K_unsure 20 = .ok (.aload_n 0, 1) := by decide +kernel
theorem d_K_unsure_21 : decode b_K_unsure 21 = .ok (.getfield 54, 3) := by decide +kernel
theorem d_K_unsure_24 : decode b_K_unsure 24 = .ok (.getfield 122, 3) := by decide +kernel
theorem d_K_unsure_27 : decode b_K_unsure 27 = .ok (.isub, 1) := by decide +kernel
theorem d_K_unsure_28 : decode b_K_unsure 28 = .ok (.aload_n 0, 1) := by decide +kernel
theorem d_K_unsure_29 : decode b_K_unsure 29 = .ok (.getfield 82, 3) := by decide +kernel
theorem d_K_unsure_32 : decode b_K_unsure 32 = .ok (.if_icmp .gt 7, 3) := by decide +kernel
theorem d_K_unsure_35 : decode b_K_unsure 35 = .ok (.iconst 1, 1) := by decide +kernel
theorem d_K_unsure_36 : decode b_K_unsure 36 = .ok (.goto 4, 3) := by decide +kernel
theorem d_K_unsure_39 : decode b_K_unsure 39 = .ok (.iconst 0, 1) := by decide +kernel
theorem d_K_unsure_40 : decode b_K_unsure 40 = .ok (.ireturn, 1) := by decide +kernel
theorem d_N_hasNextCost_0 : decode b_N_hasNextCost 0 = .ok (.aload_n 0, 1) := by decide +kernel
theorem d_N_hasNextCost_1 : decode b_N_hasNextCost 1 = .ok (.iload_n 1, 1) := by decide +kernel
theorem d_N_hasNextCost_2 : decode b_N_hasNextCost 2 = .ok (.invokevirtual 46, 3) := by decide +kernel
theorem d_N_hasNextCost_5 : decode b_N_hasNextCost 5 = .ok (.ifCond .eq 17, 3) := by decide +kernel
theorem d_N_hasNextCost_8 : decode b_N_hasNextCost 8 = .ok (.aload_n 0, 1) := by decide +kernel
theorem d_N_hasNextCost_9 : decode b_N_hasNextCost 9 = .ok (.getfield 15, 3) := by decide +kernel
theorem d_N_hasNextCost_12 : decode b_N_hasNextCost 12 = .ok (.iload_n 1, 1) := by decide +kernel
theorem d_N_hasNextCost_13 : decode b_N_hasNextCost 13 = .ok (.iaload, 1) := by decide +kernel
theorem d_N_hasNextCost_14 : decode b_N_hasNextCost 14 = .ok (.iconst (-1), 1) := by decide +kernel
theorem d_N_hasNextCost_15 : decode b_N_hasNextCost 15 = .ok (.if_icmp .eq 7, 3) := by decide +kernel
theorem d_N_hasNextCost_18 : decode b_N_hasNextCost 18 = .ok (.iconst 1, 1) := by decide +kernel
theorem d_N_hasNextCost_19 : decode b_N_hasNextCost 19 = .ok (.goto 4, 3) := by decide +kernel
theorem d_N_hasNextCost_22 : decode b_N_hasNextCost 22 = .ok (.iconst 0, 1) := by decide +kernel
theorem d_N_hasNextCost_23 : decode b_N_hasNextCost 23 = .ok (.ireturn, 1) := by decide +kernel
theorem d_K_margin_0 : decode b_K_margin 0 = .ok (.iload_n 1, 1) := by decide +kernel
theorem d_K_margin_1 : decode b_K_margin 1 = .ok (.ifCond .lt 9, 3) := by decide +kernel
theorem d_K_margin_4 : decode b_K_margin 4 = .ok (.iload_n 1, 1) := by decide +kernel
theorem d_K_margin_5 : decode b_K_margin 5 = .ok (.ldc 194, 2) := by decide +kernel
theorem d_K_margin_7 : decode b_K_margin 7 = .ok (.if_icmp .le 5, 3) := by decide +kernel
theorem d_K_margin_10 : decode b_K_margin 10 = .ok (.iconst 0, 1) := by decide +kernel
theorem d_K_margin_11 : decode b_K_margin 11 = .ok (.ireturn, 1) := by decide +kernel
theorem d_K_margin_12 : decode b_K_margin 12 = .ok (.aload_n 0, 1) := by decide +kernel
theorem d_K_margin_13 : decode b_K_margin 13 = .ok (.iload_n 1, 1) := by decide +kernel
theorem d_K_margin_14 : decode b_K_margin 14 = .ok (.putfield 82, 3) := by decide +kernel
theorem d_K_margin_17 : decode b_K_margin 17 = .ok (.iconst 1, 1) := by decide +kernel
theorem d_K_margin_18 : decode b_K_margin 18 = .ok (.ireturn, 1) := by decide +kernel
theorem d_K_map_0 : decode b_K_map 0 = .ok (.iload_n 1, 1) := by decide +kernel
theorem d_K_map_1 : decode b_K_map 1 = .ok (.iload_n 2, 1) := by decide +kernel
theorem d_K_map_2 : decode b_K_map 2 = .ok (.invokestatic 195, 3) := by decide +kernel
theorem d_K_map_5 : decode b_K_map 5 = .ok (.ifCond .eq 13, 3) := by decide +kernel
theorem d_K_map_8 : decode b_K_map 8 = .ok (.aload_n 0, 1) := by decide +kernel
theorem d_K_map_9 : decode b_K_map 9 = .ok (.getfield 54, 3) := by decide +kernel
theorem d_K_map_12 : decode b_K_map 12 = .ok (.invokevirtual 132, 3) := by decide +kernel
theorem d_K_map_15 : decode b_K_map 15 = .ok (.ifCond .ne 7, 3) := by decide +kernel
theorem d_K_map_18 : decode b_K_map 18 = .ok (.ldc2_w 146, 3) := by decide +kernel
theorem d_K_map_21 : decode b_K_map 21 = .ok (.lreturn, 1) := by decide +kernel
theorem d_K_map_22 : decode b_K_map 22 = .ok (.aload_n 0, 1) := by decide +kernel
theorem d_K_map_23 : decode b_K_map 23 = .ok (.getfield 68, 3) := by decide +kernel
theorem d_K_map_26 : decode b_K_map 26 = .ok (.iload_n 1, 1) := by decide +kernel
theorem d_K_map_27 : decode b_K_map 27 = .ok (.iload_n 2, 1) := by decide +kernel
theorem d_K_map_28 : decode b_K_map 28 = .ok (.aload_n 0, 1) := by decide +kernel
theorem d_K_map_29 : decode b_K_map 29 = .ok (.getfield 54, 3) := by decide +kernel
theorem d_K_map_32 : decode b_K_map 32 = .ok (.invokevirtual 198, 3) := by decide +kernel
theorem d_K_map_35 : decode b_K_map 35 = .ok (.lreturn, 1) := by decide +kernel
theorem d_K_isOnMap_0 : decode b_K_isOnMap 0 = .ok (.iload_n 0, 1) := by decide +kernel
theorem d_K_isOnMap_1 : decode b_K_isOnMap 1 = .ok (.bipush 20, 2) := by decide +kernel
theorem d_K_isOnMap_3 : decode b_K_isOnMap 3 = .ok (.invokestatic 96, 3) := by decide +kernel
theorem d_K_isOnMap_6 : decode b_K_isOnMap 6 = .ok (.ifCond .eq 16, 3) := by decide +kernel
theorem d_K_isOnMap_9 : decode b_K_isOnMap 9 = .ok (.iload_n 1, 1) := by decide +kernel
theorem d_K_isOnMap_10 : decode b_K_isOnMap 10 = .ok (.bipush 20, 2) := by decide +kernel
theorem d_K_isOnMap_12 : decode b_K_isOnMap 12 = .ok (.invokestatic 96, 3) := by decide +kernel
theorem d_K_isOnMap_15 : decode b_K_isOnMap 15 = .ok (.ifCond .eq 7, 3) := by decide +kernel
theorem d_K_isOnMap_18 : decode b_K_isOnMap 18 = .ok (.iconst 1, 1) := by decide +kernel
theorem d_K_isOnMap_19 : decode b_K_isOnMap 19 = .ok (.goto 4, 3) := by decide +kernel
theorem d_K_isOnMap_22 : decode b_K_isOnMap 22 = .ok (.iconst 0, 1) := by decide +kernel
theorem d_K_isOnMap_23 : decode b_K_isOnMap 23 = .ok (.ireturn, 1) := by decide +kernel
theorem d_C_haulingSeconds_0 : decode b_C_haulingSeconds 0 = .ok (.lconst 0, 1) := by decide +kernel
theorem d_C_haulingSeconds_1 : decode b_C_haulingSeconds 1 = .ok (.lstore 4, 2) := by decide +kernel
theorem d_C_haulingSeconds_3 : decode b_C_haulingSeconds 3 = .ok (.iconst 0, 1) := by decide +kernel
theorem d_C_haulingSeconds_4 : decode b_C_haulingSeconds 4 = .ok (.istore 6, 2) := by decide +kernel
theorem d_C_haulingSeconds_6 : decode b_C_haulingSeconds 6 = .ok (.iload 6, 2) := by decide +kernel
theorem d_C_haulingSeconds_8 : decode b_C_haulingSeconds 8 = .ok (.aload_n 0, 1) := by decide +kernel
theorem d_C_haulingSeconds_9 : decode b_C_haulingSeconds 9 = .ok (.getfield 25, 3) := by decide +kernel
theorem d_C_haulingSeconds_12 : decode b_C_haulingSeconds 12 = .ok (.if_icmp .ge 57, 3) := by decide +kernel
theorem d_C_haulingSeconds_15 : decode b_C_haulingSeconds 15 = .ok (.aload_n 0, 1) := by decide +kernel
theorem d_C_haulingSeconds_16 : decode b_C_haulingSeconds 16 = .ok (.getfield 15, 3) := by decide +kernel
theorem d_C_haulingSeconds_19 : decode b_C_haulingSeconds 19 = .ok (.iload 6, 2) := by decide +kernel
theorem d_C_haulingSeconds_21 : decode b_C_haulingSeconds 21 = .ok (.iaload, 1) := by decide +kernel
theorem d_C_haulingSeconds_22 : decode b_C_haulingSeconds 22 = .ok (.iload_n 1, 1) := by decide +kernel
theorem d_C_haulingSeconds_23 : decode b_C_haulingSeconds 23 = .ok (.if_icmp .ne 40, 3) := by decide +kernel
theorem d_C_haulingSeconds_26 : decode b_C_haulingSeconds 26 = .ok (.aload_n 0, 1) := by decide +kernel
theorem d_C_haulingSeconds_27 : decode b_C_haulingSeconds 27 = .ok (.getfield 18, 3) := by decide +kernel
theorem d_C_haulingSeconds_30 : decode b_C_haulingSeconds 30 = .ok (.iload 6, 2) := by decide +kernel
theorem d_C_haulingSeconds_32 : decode b_C_haulingSeconds 32 = .ok (.iaload, 1) := by decide +kernel
theorem d_C_haulingSeconds_33 : decode b_C_haulingSeconds 33 = .ok (.iload_n 2, 1) := by decide +kernel
theorem d_C_haulingSeconds_34 : decode b_C_haulingSeconds 34 = .ok (.if_icmp .ne 29, 3) := by decide +kernel
theorem d_C_haulingSeconds_37 : decode b_C_haulingSeconds 37 = .ok (.aload_n 3, 1) := by decide +kernel
theorem d_C_haulingSeconds_38 : decode b_C_haulingSeconds 38 = .ok (.aload_n 0, 1) := by decide +kernel
theorem d_C_haulingSeconds_39 : decode b_C_haulingSeconds 39 = .ok (.getfield 9, 3) := by decide +kernel
theorem d_C_haulingSeconds_42 : decode b_C_haulingSeconds 42 = .ok (.iload 6, 2) := by decide +kernel
theorem d_C_haulingSeconds_44 : decode b_C_haulingSeconds 44 = .ok (.iaload, 1) := by decide +kernel
theorem d_C_haulingSeconds_45 : decode b_C_haulingSeconds 45 = .ok (.invokevirtual 29, 3) := by decide +kernel
theorem d_C_haulingSeconds_48 : decode b_C_haulingSeconds 48 = .ok (.ifCond .eq 15, 3) := by decide +kernel
theorem d_C_haulingSeconds_51 : decode b_C_haulingSeconds 51 = .ok (.lload 4, 2) := by decide +kernel
theorem d_C_haulingSeconds_53 : decode b_C_haulingSeconds 53 = .ok (.aload_n 0, 1) := by decide +kernel
theorem d_C_haulingSeconds_54 : decode b_C_haulingSeconds 54 = .ok (.getfield 21, 3) := by decide +kernel
theorem d_C_haulingSeconds_57 : decode b_C_haulingSeconds 57 = .ok (.iload 6, 2) := by decide +kernel
theorem d_C_haulingSeconds_59 : decode b_C_haulingSeconds 59 = .ok (.laload, 1) := by decide +kernel
theorem d_C_haulingSeconds_60 : decode b_C_haulingSeconds 60 = .ok (.ladd, 1) := by decide +kernel
theorem d_C_haulingSeconds_61 : decode b_C_haulingSeconds 61 = .ok (.lstore 4, 2) := by decide +kernel
theorem d_C_haulingSeconds_63 : decode b_C_haulingSeconds 63 = .ok (.iinc 6 1, 3) := by decide +kernel
theorem d_C_haulingSeconds_66 : decode b_C_haulingSeconds 66 = .ok (.goto (-60), 3) := by decide +kernel
theorem d_C_haulingSeconds_69 : decode b_C_haulingSeconds 69 = .ok (.lload 4, 2) := by decide +kernel
theorem d_C_haulingSeconds_71 : decode b_C_haulingSeconds 71 = .ok (.lreturn, 1) := by decide +kernel
theorem d_K_cell_0 : decode b_K_cell 0 = .ok (.iload_n 1, 1) := by decide +kernel
theorem d_K_cell_1 : decode b_K_cell 1 = .ok (.aload_n 0, 1) := by decide +kernel
theorem d_K_cell_2 : decode b_K_cell 2 = .ok (.getfield 25, 3) := by decide +kernel
theorem d_K_cell_5 : decode b_K_cell 5 = .ok (.getfield 111, 3) := by decide +kernel
theorem d_K_cell_8 : decode b_K_cell 8 = .ok (.invokestatic 96, 3) := by decide +kernel
theorem d_K_cell_11 : decode b_K_cell 11 = .ok (.ifCond .eq 11, 3) := by decide +kernel
theorem d_K_cell_14 : decode b_K_cell 14 = .ok (.iload_n 2, 1) := by decide +kernel
theorem d_K_cell_15 : decode b_K_cell 15 = .ok (.iload_n 3, 1) := by decide +kernel
theorem d_K_cell_16 : decode b_K_cell 16 = .ok (.invokestatic 195, 3) := by decide +kernel
theorem d_K_cell_19 : decode b_K_cell 19 = .ok (.ifCond .ne 5, 3) := by decide +kernel
theorem d_K_cell_22 : decode b_K_cell 22 = .ok (.iconst 0, 1) := by decide +kernel
theorem d_K_cell_23 : decode b_K_cell 23 = .ok (.ireturn, 1) := by decide +kernel
theorem d_K_cell_24 : decode b_K_cell 24 = .ok (.lload 4, 2) := by decide +kernel
theorem d_K_cell_26 : decode b_K_cell 26 = .ok (.lconst 1, 1) := by decide +kernel
theorem d_K_cell_27 : decode b_K_cell 27 = .ok (.lcmp, 1) := by decide +kernel
theorem d_K_cell_28 : decode b_K_cell 28 = .ok (.ifCond .lt 25, 3) := by decide +kernel
theorem d_K_cell_31 : decode b_K_cell 31 = .ok (.lload 4, 2) := by decide +kernel
theorem d_K_cell_33 : decode b_K_cell 33 = .ok (.ldc2_w 202, 3) := by decide +kernel
theorem d_K_cell_36 : decode b_K_cell 36 = .ok (.lcmp, 1) := by decide +kernel
theorem d_K_cell_37 : decode b_K_cell 37 = .ok (.ifCond .gt 16, 3) := by decide +kernel
theorem d_K_cell_40 : decode b_K_cell 40 = .ok (.aload_n 0, 1) := by decide +kernel
theorem d_K_cell_41 : decode b_K_cell 41 = .ok (.getfield 68, 3) := by decide +kernel
theorem d_K_cell_44 : decode b_K_cell 44 = .ok (.getfield 204, 3) := by decide +kernel
theorem d_K_cell_47 : decode b_K_cell 47 = .ok (.sipush 300, 3) := by decide +kernel
theorem d_K_cell_50 : decode b_K_cell 50 = .ok (.if_icmp .lt 5, 3) := by decide +kernel
theorem d_K_cell_53 : decode b_K_cell 53 = .ok (.iconst 0, 1) := by decide +kernel
theorem d_K_cell_54 : decode b_K_cell 54 = .ok (.ireturn, 1) := by decide +kernel
theorem d_K_cell_55 : decode b_K_cell 55 = .ok (.aload_n 0, 1) := by decide +kernel
theorem d_K_cell_56 : decode b_K_cell 56 = .ok (.getfield 68, 3) := by decide +kernel
theorem d_K_cell_59 : decode b_K_cell 59 = .ok (.iload_n 1, 1) := by decide +kernel
theorem d_K_cell_60 : decode b_K_cell 60 = .ok (.iload_n 2, 1) := by decide +kernel
theorem d_K_cell_61 : decode b_K_cell 61 = .ok (.iload_n 3, 1) := by decide +kernel
theorem d_K_cell_62 : decode b_K_cell 62 = .ok (.lload 4, 2) := by decide +kernel
theorem d_K_cell_64 : decode b_K_cell 64 = .ok (.invokevirtual 205, 3) := by decide +kernel
theorem d_K_cell_67 : decode b_K_cell 67 = .ok (.iconst 1, 1) := by decide +kernel
theorem d_K_cell_68 : decode b_K_cell 68 = .ok (.ireturn, 1) := by decide +kernel
theorem d_C_add_0 : decode b_C_add 0 = .ok (.aload_n 0, 1) := by decide +kernel
theorem d_C_add_1 : decode b_C_add 1 = .ok (.getfield 9, 3) := by decide +kernel
theorem d_C_add_4 : decode b_C_add 4 = .ok (.aload_n 0, 1) := by decide +kernel
theorem d_C_add_5 : decode b_C_add 5 = .ok (.getfield 25, 3) := by decide +kernel
theorem d_C_add_8 : decode b_C_add 8 = .ok (.iload_n 1, 1) := by decide +kernel
theorem d_C_add_9 : decode b_C_add 9 = .ok (.iastore, 1) := by decide +kernel
theorem d_C_add_10 : decode b_C_add 10 = .ok (.aload_n 0, 1) := by decide +kernel
theorem d_C_add_11 : decode b_C_add 11 = .ok (.getfield 15, 3) := by decide +kernel
theorem d_C_add_14 : decode b_C_add 14 = .ok (.aload_n 0, 1) := by decide +kernel
theorem d_C_add_15 : decode b_C_add 15 = .ok (.getfield 25, 3) := by decide +kernel
theorem d_C_add_18 : decode b_C_add 18 = .ok (.iload_n 2, 1) := by decide +kernel
theorem d_C_add_19 : decode b_C_add 19 = .ok (.iastore, 1) := by decide +kernel
theorem d_C_add_20 : decode b_C_add 20 = .ok (.aload_n 0, 1) := by decide +kernel
theorem d_C_add_21 : decode b_C_add 21 = .ok (.getfield 18, 3) := by decide +kernel
theorem d_C_add_24 : decode b_C_add 24 = .ok (.aload_n 0, 1) := by decide +kernel
theorem d_C_add_25 : decode b_C_add 25 = .ok (.getfield 25, 3) := by decide +kernel
theorem d_C_add_28 : decode b_C_add 28 = .ok (.iload_n 3, 1) := by decide +kernel
theorem d_C_add_29 : decode b_C_add 29 = .ok (.iastore, 1) := by decide +kernel
theorem d_C_add_30 : decode b_C_add 30 = .ok (.aload_n 0, 1) := by decide +kernel
theorem d_C_add_31 : decode b_C_add 31 = .ok (.getfield 21, 3) := by decide +kernel
theorem d_C_add_34 : decode b_C_add 34 = .ok (.aload_n 0, 1) := by decide +kernel
theorem d_C_add_35 : decode b_C_add 35 = .ok (.getfield 25, 3) := by decide +kernel
theorem d_C_add_38 : decode b_C_add 38 = .ok (.lload 4, 2) := by decide +kernel
theorem d_C_add_40 : decode b_C_add 40 = .ok (.lastore, 1) := by decide +kernel
theorem d_C_add_41 : decode b_C_add 41 = .ok (.aload_n 0, 1) := by decide +kernel
theorem d_C_add_42 : decode b_C_add 42 = .ok (.dup, 1) := by decide +kernel
theorem d_C_add_43 : decode b_C_add 43 = .ok (.getfield 25, 3) := by decide +kernel
theorem d_C_add_46 : decode b_C_add 46 = .ok (.iconst 1, 1) := by decide +kernel
theorem d_C_add_47 : decode b_C_add 47 = .ok (.iadd, 1) := by decide +kernel
theorem d_C_add_48 : decode b_C_add 48 = .ok (.putfield 25, 3) := by decide +kernel
theorem d_C_add_51 : decode b_C_add 51 = .ok (.return_, 1) := by decide +kernel
theorem d_K_gear_0 : decode b_K_gear 0 = .ok (.aload_n 0, 1) := by decide +kernel
theorem d_K_gear_1 : decode b_K_gear 1 = .ok (.getfield 54, 3) := by decide +kernel
theorem d_K_gear_4 : decode b_K_gear 4 = .ok (.iload_n 1, 1) := by decide +kernel
theorem d_K_gear_5 : decode b_K_gear 5 = .ok (.invokevirtual 164, 3) := by decide +kernel
theorem d_K_gear_8 : decode b_K_gear 8 = .ok (.istore_n 2, 1) := by decide +kernel
theorem d_K_gear_9 : decode b_K_gear 9 = .ok (.iload_n 2, 1) := by decide +kernel
theorem d_K_gear_10 : decode b_K_gear 10 = .ok (.iconst (-1), 1) := by decide +kernel
theorem d_K_gear_11 : decode b_K_gear 11 = .ok (.if_icmp .ne 5, 3) := by decide +kernel
theorem d_K_gear_14 : decode b_K_gear 14 = .ok (.iconst (-1), 1) := by decide +kernel
theorem d_K_gear_15 : decode b_K_gear 15 = .ok (.ireturn, 1) := by decide +kernel
theorem d_K_gear_16 : decode b_K_gear 16 = .ok (.aload_n 0, 1) := by decide +kernel
theorem d_K_gear_17 : decode b_K_gear 17 = .ok (.getfield 54, 3) := by decide +kernel
theorem d_K_gear_20 : decode b_K_gear 20 = .ok (.iload_n 2, 1) := by decide +kernel
theorem d_K_gear_21 : decode b_K_gear 21 = .ok (.invokevirtual 167, 3) := by decide +kernel
theorem d_K_gear_24 : decode b_K_gear 24 = .ok (.istore_n 3, 1) := by decide +kernel
theorem d_K_gear_25 : decode b_K_gear 25 = .ok (.aload_n 0, 1) := by decide +kernel
theorem d_K_gear_26 : decode b_K_gear 26 = .ok (.getfield 25, 3) := by decide +kernel
theorem d_K_gear_29 : decode b_K_gear 29 = .ok (.iload_n 2, 1) := by decide +kernel
theorem d_K_gear_30 : decode b_K_gear 30 = .ok (.iload_n 3, 1) := by decide +kernel
theorem d_K_gear_31 : decode b_K_gear 31 = .ok (.invokevirtual 208, 3) := by decide +kernel
theorem d_K_gear_34 : decode b_K_gear 34 = .ok (.istore 4, 2) := by decide +kernel
theorem d_K_gear_36 : decode b_K_gear 36 = .ok (.iconst 2, 1) := by decide +kernel
theorem d_K_gear_37 : decode b_K_gear 37 = .ok (.iload 4, 2) := by decide +kernel
theorem d_K_gear_39 : decode b_K_gear 39 = .ok (.imul, 1) := by decide +kernel
theorem d_K_gear_40 : decode b_K_gear 40 = .ok (.iload_n 3, 1) := by decide +kernel
theorem d_K_gear_41 : decode b_K_gear 41 = .ok (.iload_n 2, 1) := by decide +kernel
theorem d_K_gear_42 : decode b_K_gear 42 = .ok (.isub, 1) := by decide +kernel
theorem d_K_gear_43 : decode b_K_gear 43 = .ok (.iconst 1, 1) := by decide +kernel
theorem d_K_gear_44 : decode b_K_gear 44 = .ok (.iadd, 1) := by decide +kernel
theorem d_K_gear_45 : decode b_K_gear 45 = .ok (.if_icmp .le 7, 3) := by decide +kernel
theorem d_K_gear_48 : decode b_K_gear 48 = .ok (.iconst 1, 1) := by decide +kernel
theorem d_K_gear_49 : decode b_K_gear 49 = .ok (.goto 4, 3) := by decide +kernel
theorem d_K_gear_52 : decode b_K_gear 52 = .ok (.iconst 0, 1) := by decide +kernel
theorem d_K_gear_53 : decode b_K_gear 53 = .ok (.ireturn, 1) := by decide +kernel
theorem d_T_turningRows_0 : decode b_T_turningRows 0 = .ok (.iconst 0, 1) := by decide +kernel
theorem d_T_turningRows_1 : decode b_T_turningRows 1 = .ok (.istore_n 3, 1) := by decide +kernel
theorem d_T_turningRows_2 : decode b_T_turningRows 2 = .ok (.iload_n 1, 1) := by decide +kernel
theorem d_T_turningRows_3 : decode b_T_turningRows 3 = .ok (.istore 4, 2) := by decide +kernel
theorem d_T_turningRows_5 : decode b_T_turningRows 5 = .ok (.iload 4, 2) := by decide +kernel
theorem d_T_turningRows_7 : decode b_T_turningRows 7 = .ok (.iload_n 2, 1) := by decide +kernel
theorem d_T_turningRows_8 : decode b_T_turningRows 8 = .ok (.if_icmp .gt 23, 3) := by decide +kernel
theorem d_T_turningRows_11 : decode b_T_turningRows 11 = .ok (.aload_n 0, 1) := by decide +kernel
theorem d_T_turningRows_12 : decode b_T_turningRows 12 = .ok (.getfield 19, 3) := by decide +kernel
theorem d_T_turningRows_15 : decode b_T_turningRows 15 = .ok (.iload 4, 2) := by decide +kernel
theorem d_T_turningRows_17 : decode b_T_turningRows 17 = .ok (.iaload, 1) := by decide +kernel
theorem d_T_turningRows_18 : decode b_T_turningRows 18 = .ok (.iconst 2, 1) := by decide +kernel
theorem d_T_turningRows_19 : decode b_T_turningRows 19 = .ok (.if_icmp .lt 6, 3) := by decide +kernel
theorem d_T_turningRows_22 : decode b_T_turningRows 22 = .ok (.iinc 3 1, 3) := by decide +kernel
theorem d_T_turningRows_25 : decode b_T_turningRows 25 = .ok (.iinc 4 1, 3) := by decide +kernel
theorem d_T_turningRows_28 : decode b_T_turningRows 28 = .ok (.goto (-23), 3) := by decide +kernel
theorem d_T_turningRows_31 : decode b_T_turningRows 31 = .ok (.iload_n 3, 1) := by decide +kernel
theorem d_T_turningRows_32 : decode b_T_turningRows 32 = .ok (.ireturn, 1) := by decide +kernel
theorem d_K_ship_0 : decode b_K_ship 0 = .ok (.iload_n 1, 1) := by decide +kernel
theorem d_K_ship_1 : decode b_K_ship 1 = .ok (.bipush 10, 2) := by decide +kernel
theorem d_K_ship_3 : decode b_K_ship 3 = .ok (.invokestatic 96, 3) := by decide +kernel
theorem d_K_ship_6 : decode b_K_ship 6 = .ok (.ifCond .ne 5, 3) := by decide +kernel
theorem d_K_ship_9 : decode b_K_ship 9 = .ok (.iconst 0, 1) := by decide +kernel
theorem d_K_ship_10 : decode b_K_ship 10 = .ok (.ireturn, 1) := by decide +kernel
theorem d_K_ship_11 : decode b_K_ship 11 = .ok (.aload_n 0, 1) := by decide +kernel
theorem d_K_ship_12 : decode b_K_ship 12 = .ok (.iload_n 1, 1) := by decide +kernel
theorem d_K_ship_13 : decode b_K_ship 13 = .ok (.putfield 79, 3) := by decide +kernel
theorem d_K_ship_16 : decode b_K_ship 16 = .ok (.iconst 1, 1) := by decide +kernel
theorem d_K_ship_17 : decode b_K_ship 17 = .ok (.ireturn, 1) := by decide +kernel
theorem d_K_total_0 : decode b_K_total 0 = .ok (.aload_n 0, 1) := by decide +kernel
theorem d_K_total_1 : decode b_K_total 1 = .ok (.getfield 54, 3) := by decide +kernel
theorem d_K_total_4 : decode b_K_total 4 = .ok (.invokevirtual 132, 3) := by decide +kernel
theorem d_K_total_7 : decode b_K_total 7 = .ok (.ifCond .eq 33, 3) := by decide +kernel
theorem d_K_total_10 : decode b_K_total 10 = .ok (.aload_n 0, 1) := by decide +kernel
theorem d_K_total_11 : decode b_K_total 11 = .ok (.getfield 25, 3) := by decide +kernel
theorem d_K_total_14 : decode b_K_total 14 = .ok (.getfield 157, 3) := by decide +kernel
theorem d_K_total_17 : decode b_K_total 17 = .ok (.aload_n 0, 1) := by decide +kernel
theorem d_K_total_18 : decode b_K_total 18 = .ok (.getfield 54, 3) := by decide +kernel
theorem d_K_total_21 : decode b_K_total 21 = .ok (.getfield 211, 3) := by decide +kernel
theorem d_K_total_24 : decode b_K_total 24 = .ok (.iconst 1, 1) := by decide +kernel
theorem d_K_total_25 : decode b_K_total 25 = .ok (.isub, 1) := by decide +kernel
theorem d_K_total_26 : decode b_K_total 26 = .ok (.laload, 1) := by decide +kernel
theorem d_K_total_27 : decode b_K_total 27 = .ok (.aload_n 0, 1) := by decide +kernel
theorem d_K_total_28 : decode b_K_total 28 = .ok (.getfield 25, 3) := by decide +kernel
theorem d_K_total_31 : decode b_K_total 31 = .ok (.getfield 157, 3) := by decide +kernel
theorem d_K_total_34 : decode b_K_total 34 = .ok (.iconst 0, 1) := by decide +kernel
theorem d_K_total_35 : decode b_K_total 35 = .ok (.laload, 1) := by decide +kernel
theorem d_K_total_36 : decode b_K_total 36 = .ok (.lsub, 1) := by decide +kernel
theorem d_K_total_37 : decode b_K_total 37 = .ok (.goto 6, 3) := by decide +kernel
theorem d_K_total_40 : decode b_K_total 40 = .ok (.ldc2_w 146, 3) := by decide +kernel
theorem d_K_total_43 : decode b_K_total 43 = .ok (.lreturn, 1) := by decide +kernel
theorem d_K_tied_0 : decode b_K_tied 0 = .ok (.aload_n 0, 1) := by decide +kernel
theorem d_K_tied_1 : decode b_K_tied 1 = .ok (.getfield 54, 3) := by decide +kernel
theorem d_K_tied_4 : decode b_K_tied 4 = .ok (.iload_n 1, 1) := by decide +kernel
theorem d_K_tied_5 : decode b_K_tied 5 = .ok (.invokevirtual 188, 3) := by decide +kernel
theorem d_K_tied_8 : decode b_K_tied 8 = .ok (.ifCond .eq 26, 3) := by decide +kernel
theorem d_K_tied_11 : decode b_K_tied 11 = .ok (.aload_n 0, 1) := by decide +kernel
theorem d_K_tied_12 : decode b_K_tied 12 = .ok (.getfield 54, 3) := by decide +kernel
theorem d_K_tied_15 : decode b_K_tied 15 = .ok (.getfield 191, 3) := by decide +kernel
theorem d_K_tied_18 : decode b_K_tied 18 = .ok (.iload_n 1, 1) := by decide +kernel
theorem d_K_tied_19 : decode b_K_tied 19 = .ok (.iaload, 1) := by decide +kernel
theorem d_K_tied_20 : decode b_K_tied 20 = .ok (.aload_n 0, 1) := by decide +kernel
theorem d_K_tied_21 : decode b_K_tied 21 = .ok (.getfield 54, 3) := by decide +kernel
theorem d_K_tied_24 : decode b_K_tied 24 = .ok (.getfield 122, 3) := by decide +kernel
theorem d_K_tied_27 : decode b_K_tied 27 = .ok (.if_icmp .ne 7, 3) := by decide +kernel
theorem d_K_tied_30 : decode b_K_tied 30 = .ok (.iconst 1, 1) := by decide +kernel
theorem d_K_tied_31 : decode b_K_tied 31 = .ok (.goto 4, 3) := by decide +kernel
theorem d_K_tied_34 : decode b_K_tied 34 = .ok (.iconst 0, 1) := by decide +kernel
theorem d_K_tied_35 : decode b_K_tied 35 = .ok (.ireturn, 1) := by decide +kernel
theorem d_K_night_0 : decode b_K_night 0 = .ok (.iload_n 1, 1) := by decide +kernel
theorem d_K_night_1 : decode b_K_night 1 = .ok (.aload_n 0, 1) := by decide +kernel
theorem d_K_night_2 : decode b_K_night 2 = .ok (.getfield 25, 3) := by decide +kernel
theorem d_K_night_5 : decode b_K_night 5 = .ok (.getfield 111, 3) := by decide +kernel
theorem d_K_night_8 : decode b_K_night 8 = .ok (.invokestatic 96, 3) := by decide +kernel
theorem d_K_night_11 : decode b_K_night 11 = .ok (.ifCond .ne 5, 3) := by decide +kernel
theorem d_K_night_14 : decode b_K_night 14 = .ok (.iconst (-1), 1) := by decide +kernel
theorem d_K_night_15 : decode b_K_night 15 = .ok (.ireturn, 1) := by decide +kernel
theorem d_K_night_16 : decode b_K_night 16 = .ok (.aload_n 0, 1) := by decide +kernel
theorem d_K_night_17 : decode b_K_night 17 = .ok (.getfield 25, 3) := by decide +kernel
theorem d_K_night_20 : decode b_K_night 20 = .ok (.getfield 157, 3) := by decide +kernel
theorem d_K_night_23 : decode b_K_night 23 = .ok (.iload_n 1, 1) := by decide +kernel
theorem d_K_night_24 : decode b_K_night 24 = .ok (.laload, 1) := by decide +kernel
theorem d_K_night_25 : decode b_K_night 25 = .ok (.ldc2_w 212, 3) := by decide +kernel
theorem d_K_night_28 : decode b_K_night 28 = .ok (.lrem, 1) := by decide +kernel
theorem d_K_night_29 : decode b_K_night 29 = .ok (.lstore_n 2, 1) := by decide +kernel
theorem d_K_night_30 : decode b_K_night 30 = .ok (.lload_n 2, 1) := by decide +kernel
theorem d_K_night_31 : decode b_K_night 31 = .ok (.ldc2_w 214, 3) := by decide +kernel
theorem d_K_night_34 : decode b_K_night 34 = .ok (.lcmp, 1) := by decide +kernel
theorem d_K_night_35 : decode b_K_night 35 = .ok (.ifCond .lt 11, 3) := by decide +kernel
theorem d_K_night_38 : decode b_K_night 38 = .ok (.lload_n 2, 1) := by decide +kernel
theorem d_K_night_39 : decode b_K_night 39 = .ok (.ldc2_w 216, 3) := by decide +kernel
theorem d_K_night_42 : decode b_K_night 42 = .ok (.lcmp, 1) := by decide +kernel
theorem d_K_night_43 : decode b_K_night 43 = .ok (.ifCond .lt 7, 3) := by decide +kernel
theorem d_K_night_46 : decode b_K_night 46 = .ok (.iconst 1, 1) := by decide +kernel
theorem d_K_night_47 : decode b_K_night 47 = .ok (.goto 4, 3) := by decide +kernel
theorem d_K_night_50 : decode b_K_night 50 = .ok (.iconst 0, 1) := by decide +kernel
theorem d_K_night_51 : decode b_K_night 51 = .ok (.ireturn, 1) := by decide +kernel
end
section
theorem d_M_init_0 : decode b_M_init 0 = .ok (.aload_n 0, 1) := by decide +kernel
theorem d_M_init_1 : decode b_M_init 1 = .ok (.invokespecial 1, 3) := by decide +kernel
theorem d_M_init_4 : decode b_M_init 4 = .ok (.aload_n 0, 1) := by decide +kernel
theorem d_M_init_5 : decode b_M_init 5 = .ok (.sipush 144, 3) := by decide +kernel
theorem d_M_init_8 : decode b_M_init 8 = .ok (.newarray .int, 2) := by decide +kernel
theorem d_M_init_10 : decode b_M_init 10 = .ok (.putfield 7, 3) := by decide +kernel
theorem d_M_init_13 : decode b_M_init 13 = .ok (.aload_n 0, 1) := by decide +kernel
theorem d_M_init_14 : decode b_M_init 14 = .ok (.bipush 120, 2) := by decide +kernel
theorem d_M_init_16 : decode b_M_init 16 = .ok (.newarray .int, 2) := by decide +kernel
theorem d_M_init_18 : decode b_M_init 18 = .ok (.putfield 13, 3) := by decide +kernel
theorem d_M_init_21 : decode b_M_init 21 = .ok (.aload_n 0, 1) := by decide +kernel
theorem d_M_init_22 : decode b_M_init 22 = .ok (.sipush 144, 3) := by decide +kernel
theorem d_M_init_25 : decode b_M_init 25 = .ok (.newarray .int, 2) := by decide +kernel
theorem d_M_init_27 : decode b_M_init 27 = .ok (.putfield 16, 3) := by decide +kernel
theorem d_M_init_30 : decode b_M_init 30 = .ok (.aload_n 0, 1) := by decide +kernel
theorem d_M_init_31 : decode b_M_init 31 = .ok (.bipush 120, 2) := by decide +kernel
theorem d_M_init_33 : decode b_M_init 33 = .ok (.newarray .int, 2) := by decide +kernel
theorem d_M_init_35 : decode b_M_init 35 = .ok (.putfield 19, 3) := by decide +kernel
theorem d_M_init_38 : decode b_M_init 38 = .ok (.aload_n 0, 1) := by decide +kernel
theorem d_M_init_39 : decode b_M_init 39 = .ok (.sipush 200, 3) := by decide +kernel
theorem d_M_init_42 : decode b_M_init 42 = .ok (.newarray .long, 2) := by decide +kernel
theorem d_M_init_44 : decode b_M_init 44 = .ok (.putfield 22, 3) := by decide +kernel
theorem d_M_init_47 : decode b_M_init 47 = .ok (.aload_n 0, 1) := by decide +kernel
theorem d_M_init_48 : decode b_M_init 48 = .ok (.sipush 200, 3) := by decide +kernel
theorem d_M_init_51 : decode b_M_init 51 = .ok (.newarray .int, 2) := by decide +kernel
theorem d_M_init_53 : decode b_M_init 53 = .ok (.putfield 26, 3) := by decide +kernel
theorem d_M_init_56 : decode b_M_init 56 = .ok (.aload_n 0, 1) := by decide +kernel
theorem d_M_init_57 : decode b_M_init 57 = .ok (.sipush 200, 3) := by decide +kernel
theorem d_M_init_60 : decode b_M_init 60 = .ok (.newarray .int, 2) := by decide +kernel
theorem d_M_init_62 : decode b_M_init 62 = .ok (.putfield 29, 3) := by decide +kernel
theorem d_M_init_65 : decode b_M_init 65 = .ok (.aload_n 0, 1) := by decide +kernel
theorem d_M_init_66 : decode b_M_init 66 = .ok (.sipush 200, 3) := by decide +kernel
theorem d_M_init_69 : decode b_M_init 69 = .ok (.newarray .int, 2) := by decide +kernel
theorem d_M_init_71 : decode b_M_init 71 = .ok (.putfield 32, 3) := by decide +kernel
theorem d_M_init_74 : decode b_M_init 74 = .ok (.aload_n 0, 1) := by decide +kernel
theorem d_M_init_75 : decode b_M_init 75 = .ok (.sipush 200, 3) := by decide +kernel
theorem d_M_init_78 : decode b_M_init 78 = .ok (.newarray .int, 2) := by decide +kernel
theorem d_M_init_80 : decode b_M_init 80 = .ok (.putfield 35, 3) := by decide +kernel
theorem d_M_init_83 : decode b_M_init 83 = .ok (.aload_n 0, 1) := by decide +kernel
theorem d_M_init_84 : decode b_M_init 84 = .ok (.bipush 50, 2) := by decide +kernel
theorem d_M_init_86 : decode b_M_init 86 = .ok (.newarray .long, 2) := by decide +kernel
theorem d_M_init_88 : decode b_M_init 88 = .ok (.putfield 38, 3) := by decide +kernel
theorem d_M_init_91 : decode b_M_init 91 = .ok (.aload_n 0, 1) := by decide +kernel
theorem d_M_init_92 : decode b_M_init 92 = .ok (.bipush 50, 2) := by decide +kernel
theorem d_M_init_94 : decode b_M_init 94 = .ok (.newarray .long, 2) := by decide +kernel
theorem d_M_init_96 : decode b_M_init 96 = .ok (.putfield 41, 3) := by decide +kernel
theorem d_M_init_99 : decode b_M_init 99 = .ok (.aload_n 0, 1) := by decide +kernel
theorem d_M_init_100 : decode b_M_init 100 = .ok (.bipush 50, 2) := by decide +kernel
theorem d_M_init_102 : decode b_M_init 102 = .ok (.newarray .int, 2) := by decide +kernel
theorem d_M_init_104 : decode b_M_init 104 = .ok (.putfield 44, 3) := by decide +kernel
theorem d_M_init_107 : decode b_M_init 107 = .ok (.aload_n 0, 1) := by decide +kernel
theorem d_M_init_108 : decode b_M_init 108 = .ok (.sipush 300, 3) := by decide +kernel
theorem d_M_init_111 : decode b_M_init 111 = .ok (.newarray .int, 2) := by decide +kernel
theorem d_M_init_113 : decode b_M_init 113 = .ok (.putfield 47, 3) := by decide +kernel
theorem d_M_init_116 : decode b_M_init 116 = .ok (.aload_n 0, 1) := by decide +kernel
theorem d_M_init_117 : decode b_M_init 117 = .ok (.sipush 300, 3) := by decide +kernel
theorem d_M_init_120 : decode b_M_init 120 = .ok (.newarray .int, 2) := by decide +kernel
theorem d_M_init_122 : decode b_M_init 122 = .ok (.putfield 50, 3) := by decide +kernel
theorem d_M_init_125 : decode b_M_init 125 = .ok (.aload_n 0, 1) := by decide +kernel
theorem d_M_init_126 : decode b_M_init 126 = .ok (.sipush 300, 3) := by decide +kernel
theorem d_M_init_129 : decode b_M_init 129 = .ok (.newarray .int, 2) := by decide +kernel
theorem d_M_init_131 : decode b_M_init 131 = .ok (.putfield 53, 3) := by decide +kernel
theorem d_M_init_134 : decode b_M_init 134 = .ok (.aload_n 0, 1) := by decide +kernel
theorem d_M_init_135 : decode b_M_init 135 = .ok (.sipush 300, 3) := by decide +kernel
theorem d_M_init_138 : decode b_M_init 138 = .ok (.newarray .long, 2) := by decide +kernel
theorem d_M_init_140 : decode b_M_init 140 = .ok (.putfield 56, 3) := by decide +kernel
theorem d_M_init_143 : decode b_M_init 143 = .ok (.aload_n 0, 1) := by decide +kernel
theorem d_M_init_144 : decode b_M_init 144 = .ok (.sipush 200, 3) := by decide +kernel
theorem d_M_init_147 : decode b_M_init 147 = .ok (.newarray .int, 2) := by decide +kernel
theorem d_M_init_149 : decode b_M_init 149 = .ok (.putfield 59, 3) := by decide +kernel
theorem d_M_init_152 : decode b_M_init 152 = .ok (.aload_n 0, 1) := by decide +kernel
theorem d_M_init_153 : decode b_M_init 153 = .ok (.sipush 200, 3) := by decide +kernel
theorem d_M_init_156 : decode b_M_init 156 = .ok (.newarray .int, 2) := by decide +kernel
theorem d_M_init_158 : decode b_M_init 158 = .ok (.putfield 62, 3) := by decide +kernel
theorem d_M_init_161 : decode b_M_init 161 = .ok (.aload_n 0, 1) := by decide +kernel
theorem d_M_init_162 : decode b_M_init 162 = .ok (.bipush 21, 2) := by decide +kernel
theorem d_M_init_164 : decode b_M_init 164 = .ok (.newarray .long, 2) := by decide +kernel
theorem d_M_init_166 : decode b_M_init 166 = .ok (.putfield 65, 3) := by decide +kernel
theorem d_M_init_169 : decode b_M_init 169 = .ok (.aload_n 0, 1) := by decide +kernel
theorem d_M_init_170 : decode b_M_init 170 = .ok (.sipush 2400, 3) := by decide +kernel
theorem d_M_init_173 : decode b_M_init 173 = .ok (.newarray .int, 2) := by decide +kernel
theorem d_M_init_175 : decode b_M_init 175 = .ok (.putfield 68, 3) := by decide +kernel
theorem d_M_init_178 : decode b_M_init 178 = .ok (.aload_n 0, 1) := by decide +kernel
theorem d_M_init_179 : decode b_M_init 179 = .ok (.sipush 2400, 3) := by decide +kernel
theorem d_M_init_182 : decode b_M_init 182 = .ok (.newarray .int, 2) := by decide +kernel
theorem d_M_init_184 : decode b_M_init 184 = .ok (.putfield 71, 3) := by decide +kernel
theorem d_M_init_187 : decode b_M_init 187 = .ok (.aload_n 0, 1) := by decide +kernel
theorem d_M_init_188 : decode b_M_init 188 = .ok (.bipush 12, 2) := by decide +kernel
theorem d_M_init_190 : decode b_M_init 190 = .ok (.newarray .int, 2) := by decide +kernel
theorem d_M_init_192 : decode b_M_init 192 = .ok (.putfield 74, 3) := by decide +kernel
theorem d_M_init_195 : decode b_M_init 195 = .ok (.aload_n 0, 1) := by decide +kernel
theorem d_M_init_196 : decode b_M_init 196 = .ok (.bipush 12, 2) := by decide +kernel
theorem d_M_init_198 : decode b_M_init 198 = .ok (.newarray .int, 2) := by decide +kernel
theorem d_M_init_200 : decode b_M_init 200 = .ok (.putfield 77, 3) := by decide +kernel
theorem d_M_init_203 : decode b_M_init 203 = .ok (.aload_n 0, 1) := by decide +kernel
theorem d_M_init_204 : decode b_M_init 204 = .ok (.sipush 2400, 3) := by decide +kernel
theorem d_M_init_207 : decode b_M_init 207 = .ok (.newarray .int, 2) := by decide +kernel
theorem d_M_init_209 : decode b_M_init 209 = .ok (.putfield 80, 3) := by decide +kernel
theorem d_M_init_212 : decode b_M_init 212 = .ok (.aload_n 0, 1) := by decide +kernel
theorem d_M_init_213 : decode b_M_init 213 = .ok (.sipush 2400, 3) := by decide +kernel
theorem d_M_init_216 : decode b_M_init 216 = .ok (.newarray .int, 2) := by decide +kernel
theorem d_M_init_218 : decode b_M_init 218 = .ok (.putfield 83, 3) := by decide +kernel
theorem d_M_init_221 : decode b_M_init 221 = .ok (.aload_n 0, 1) := by decide +kernel
theorem d_M_init_222 : decode b_M_init 222 = .ok (.sipush 200, 3) := by decide +kernel
theorem d_M_init_225 : decode b_M_init 225 = .ok (.newarray .int, 2) := by decide +kernel
theorem d_M_init_227 : decode b_M_init 227 = .ok (.putfield 86, 3) := by decide +kernel
theorem d_M_init_230 : decode b_M_init 230 = .ok (.aload_n 0, 1) := by decide +kernel
theorem d_M_init_231 : decode b_M_init 231 = .ok (.iload_n 1, 1) := by decide +kernel
theorem d_M_init_232 : decode b_M_init 232 = .ok (.iconst 1, 1) := by decide +kernel
theorem d_M_init_233 : decode b_M_init 233 = .ok (.if_icmp .ge 7, 3) := by decide +kernel
theorem d_M_init_236 : decode b_M_init 236 = .ok (.iconst 1, 1) := by decide +kernel
theorem d_M_init_237 : decode b_M_init 237 = .ok (.goto 15, 3) := by decide +kernel
theorem d_M_init_240 : decode b_M_init 240 = .ok (.iload_n 1, 1) := by decide +kernel
theorem d_M_init_241 : decode b_M_init 241 = .ok (.bipush 12, 2) := by decide +kernel
theorem d_M_init_243 : decode b_M_init 243 = .ok (.if_icmp .le 8, 3) := by decide +kernel
theorem d_M_init_246 : decode b_M_init 246 = .ok (.bipush 12, 2) := by decide +kernel
theorem d_M_init_248 : decode b_M_init 248 = .ok (.goto 4, 3) := by decide +kernel
theorem d_M_init_251 : decode b_M_init 251 = .ok (.iload_n 1, 1) := by decide +kernel
theorem d_M_init_252 : decode b_M_init 252 = .ok (.putfield 89, 3) := by decide +kernel
theorem d_M_init_255 : decode b_M_init 255 = .ok (.return_, 1) := by decide +kernel
theorem d_M_move_0 : decode b_M_move 0 = .ok (.aload_n 0, 1) := by decide +kernel
theorem d_M_move_1 : decode b_M_move 1 = .ok (.iload_n 1, 1) := by decide +kernel
theorem d_M_move_2 : decode b_M_move 2 = .ok (.invokevirtual 96, 3) := by decide +kernel
theorem d_M_move_5 : decode b_M_move 5 = .ok (.ifCond .eq 22, 3) := by decide +kernel
theorem d_M_move_8 : decode b_M_move 8 = .ok (.aload_n 0, 1) := by decide +kernel
theorem d_M_move_9 : decode b_M_move 9 = .ok (.iload_n 2, 1) := by decide +kernel
theorem d_M_move_10 : decode b_M_move 10 = .ok (.invokevirtual 96, 3) := by decide +kernel
theorem d_M_move_13 : decode b_M_move 13 = .ok (.ifCond .eq 14, 3) := by decide +kernel
theorem d_M_move_16 : decode b_M_move 16 = .ok (.iload_n 3, 1) := by decide +kernel
theorem d_M_move_17 : decode b_M_move 17 = .ok (.ifCond .lt 10, 3) := by decide +kernel
theorem d_M_move_20 : decode b_M_move 20 = .ok (.iload_n 3, 1) := by decide +kernel
theorem d_M_move_21 : decode b_M_move 21 = .ok (.sipush 10000, 3) := by decide +kernel
theorem d_M_move_24 : decode b_M_move 24 = .ok (.if_icmp .le 5, 3) := by decide +kernel
theorem d_M_move_27 : decode b_M_move 27 = .ok (.iconst 0, 1) := by decide +kernel
theorem d_M_move_28 : decode b_M_move 28 = .ok (.ireturn, 1) := by decide +kernel
theorem d_M_move_29 : decode b_M_move 29 = .ok (.aload_n 0, 1) := by decide +kernel
theorem d_M_move_30 : decode b_M_move 30 = .ok (.getfield 7, 3) := by decide +kernel
theorem d_M_move_33 : decode b_M_move 33 = .ok (.bipush 12, 2) := by decide +kernel
theorem d_M_move_35 : decode b_M_move 35 = .ok (.iload_n 1, 1) := by decide +kernel
theorem d_M_move_36 : decode b_M_move 36 = .ok (.imul, 1) := by decide +kernel
theorem d_M_move_37 : decode b_M_move 37 = .ok (.iload_n 2, 1) := by decide +kernel
theorem d_M_move_38 : decode b_M_move 38 = .ok (.iadd, 1) := by decide +kernel
theorem d_M_move_39 : decode b_M_move 39 = .ok (.iload_n 3, 1) := by decide +kernel
theorem d_M_move_40 : decode b_M_move 40 = .ok (.iastore, 1) := by decide +kernel
theorem d_M_move_41 : decode b_M_move 41 = .ok (.iconst 1, 1) := by decide +kernel
theorem d_M_move_42 : decode b_M_move 42 = .ok (.ireturn, 1) := by decide +kernel
theorem d_M_isAct_0 : decode b_M_isAct 0 = .ok (.iload_n 1, 1) := by decide +kernel
theorem d_M_isAct_1 : decode b_M_isAct 1 = .ok (.ifCond .lt 15, 3) := by decide +kernel
theorem d_M_isAct_4 : decode b_M_isAct 4 = .ok (.iload_n 1, 1) := by decide +kernel
theorem d_M_isAct_5 : decode b_M_isAct 5 = .ok (.aload_n 0, 1) := by decide +kernel
theorem d_M_isAct_6 : decode b_M_isAct 6 = .ok (.getfield 89, 3) := by decide +kernel
theorem d_M_isAct_9 : decode b_M_isAct 9 = .ok (.if_icmp .ge 7, 3) := by decide +kernel
theorem d_M_isAct_12 : decode b_M_isAct 12 = .ok (.iconst 1, 1) := by decide +kernel
theorem d_M_isAct_13 : decode b_M_isAct 13 = .ok (.goto 4, 3) := by decide +kernel
theorem d_M_isAct_16 : decode b_M_isAct 16 = .ok (.iconst 0, 1) := by decide +kernel
theorem d_M_isAct_17 : decode b_M_isAct 17 = .ok (.ireturn, 1) := by decide +kernel
theorem d_M_speed_0 : decode b_M_speed 0 = .ok (.aload_n 0, 1) := by decide +kernel
theorem d_M_speed_1 : decode b_M_speed 1 = .ok (.iload_n 1, 1) := by decide +kernel
theorem d_M_speed_2 : decode b_M_speed 2 = .ok (.invokevirtual 96, 3) := by decide +kernel
theorem d_M_speed_5 : decode b_M_speed 5 = .ok (.ifCond .eq 24, 3) := by decide +kernel
theorem d_M_speed_8 : decode b_M_speed 8 = .ok (.iload_n 2, 1) := by decide +kernel
theorem d_M_speed_9 : decode b_M_speed 9 = .ok (.ifCond .lt 20, 3) := by decide +kernel
theorem d_M_speed_12 : decode b_M_speed 12 = .ok (.iload_n 2, 1) := by decide +kernel
theorem d_M_speed_13 : decode b_M_speed 13 = .ok (.bipush 9, 2) := by decide +kernel
theorem d_M_speed_15 : decode b_M_speed 15 = .ok (.if_icmp .gt 14, 3) := by decide +kernel
theorem d_M_speed_18 : decode b_M_speed 18 = .ok (.iload_n 3, 1) := by decide +kernel
theorem d_M_speed_19 : decode b_M_speed 19 = .ok (.ifCond .lt 10, 3) := by decide +kernel
theorem d_M_speed_22 : decode b_M_speed 22 = .ok (.iload_n 3, 1) := by decide +kernel
theorem d_M_speed_23 : decode b_M_speed 23 = .ok (.sipush 10000, 3) := by decide +kernel
theorem d_M_speed_26 : decode b_M_speed 26 = .ok (.if_icmp .le 5, 3) := by decide +kernel
theorem d_M_speed_29 : decode b_M_speed 29 = .ok (.iconst 0, 1) := by decide +kernel
theorem d_M_speed_30 : decode b_M_speed 30 = .ok (.ireturn, 1) := by decide +kernel
theorem d_M_speed_31 : decode b_M_speed 31 = .ok (.aload_n 0, 1) := by decide +kernel
theorem d_M_speed_32 : decode b_M_speed 32 = .ok (.getfield 13, 3) := by decide +kernel
theorem d_M_speed_35 : decode b_M_speed 35 = .ok (.bipush 10, 2) := by decide +kernel
theorem d_M_speed_37 : decode b_M_speed 37 = .ok (.iload_n 1, 1) := by decide +kernel
theorem d_M_speed_38 : decode b_M_speed 38 = .ok (.imul, 1) := by decide +kernel
theorem d_M_speed_39 : decode b_M_speed 39 = .ok (.iload_n 2, 1) := by decide +kernel
theorem d_M_speed_40 : decode b_M_speed 40 = .ok (.iadd, 1) := by decide +kernel
theorem d_M_speed_41 : decode b_M_speed 41 = .ok (.iload_n 3, 1) := by decide +kernel
theorem d_M_speed_42 : decode b_M_speed 42 = .ok (.iastore, 1) := by decide +kernel
theorem d_M_speed_43 : decode b_M_speed 43 = .ok (.iconst 1, 1) := by decide +kernel
theorem d_M_speed_44 : decode b_M_speed 44 = .ok (.ireturn, 1) := by decide +kernel
theorem d_M_row_0 : decode b_M_row 0 = .ok (.aload_n 0, 1) := by decide +kernel
theorem d_M_row_1 : decode b_M_row 1 = .ok (.getfield 93, 3) := by decide +kernel
theorem d_M_row_4 : decode b_M_row 4 = .ok (.sipush 200, 3) := by decide +kernel
theorem d_M_row_7 : decode b_M_row 7 = .ok (.if_icmp .eq 53, 3) := by decide +kernel
theorem d_M_row_10 : decode b_M_row 10 = .ok (.lload_n 1, 1) := by decide +kernel
theorem d_M_row_11 : decode b_M_row 11 = .ok (.lconst 0, 1) := by decide +kernel
theorem d_M_row_12 : decode b_M_row 12 = .ok (.lcmp, 1) := by decide +kernel
theorem d_M_row_13 : decode b_M_row 13 = .ok (.ifCond .lt 47, 3) := by decide +kernel
theorem d_M_row_16 : decode b_M_row 16 = .ok (.aload_n 0, 1) := by decide +kernel
theorem d_M_row_17 : decode b_M_row 17 = .ok (.getfield 93, 3) := by decide +kernel
theorem d_M_row_20 : decode b_M_row 20 = .ok (.ifCond .le 19, 3) := by decide +kernel
theorem d_M_row_23 : decode b_M_row 23 = .ok (.lload_n 1, 1) := by decide +kernel
theorem d_M_row_24 : decode b_M_row 24 = .ok (.aload_n 0, 1) := by decide +kernel
theorem d_M_row_25 : decode b_M_row 25 = .ok (.getfield 22, 3) := by decide +kernel
theorem d_M_row_28 : decode b_M_row 28 = .ok (.aload_n 0, 1) := by decide +kernel
theorem d_M_row_29 : decode b_M_row 29 = .ok (.getfield 93, 3) := by decide +kernel
theorem d_M_row_32 : decode b_M_row 32 = .ok (.iconst 1, 1) := by decide +kernel
theorem d_M_row_33 : decode b_M_row 33 = .ok (.isub, 1) := by decide +kernel
theorem d_M_row_34 : decode b_M_row 34 = .ok (.laload, 1) := by decide +kernel
theorem d_M_row_35 : decode b_M_row 35 = .ok (.lcmp, 1) := by decide +kernel
theorem d_M_row_36 : decode b_M_row 36 = .ok (.ifCond .le 24, 3) := by decide +kernel
theorem d_M_row_39 : decode b_M_row 39 = .ok (.iload_n 3, 1) := by decide +kernel
theorem d_M_row_40 : decode b_M_row 40 = .ok (.ifCond .lt 20, 3) := by decide +kernel
theorem d_M_row_43 : decode b_M_row 43 = .ok (.iload_n 3, 1) := by decide +kernel
theorem d_M_row_44 : decode b_M_row 44 = .ok (.bipush 9, 2) := by decide +kernel
theorem d_M_row_46 : decode b_M_row 46 = .ok (.if_icmp .gt 14, 3) := by decide +kernel
theorem d_M_row_49 : decode b_M_row 49 = .ok (.iload 4, 2) := by decide +kernel
theorem d_M_row_51 : decode b_M_row 51 = .ok (.ifCond .lt 9, 3) := by decide +kernel
theorem d_M_row_54 : decode b_M_row 54 = .ok (.iload 4, 2) := by decide +kernel
theorem d_M_row_56 : decode b_M_row 56 = .ok (.iconst 3, 1) := by decide +kernel
theorem d_M_row_57 : decode b_M_row 57 = .ok (.if_icmp .le 5, 3) := by decide +kernel
theorem d_M_row_60 : decode b_M_row 60 = .ok (.iconst 0, 1) := by decide +kernel
theorem d_M_row_61 : decode b_M_row 61 = .ok (.ireturn, 1) := by decide +kernel
theorem d_M_row_62 : decode b_M_row 62 = .ok (.aload_n 0, 1) := by decide +kernel
theorem d_M_row_63 : decode b_M_row 63 = .ok (.getfield 22, 3) := by decide +kernel
theorem d_M_row_66 : decode b_M_row 66 = .ok (.aload_n 0, 1) := by decide +kernel
theorem d_M_row_67 : decode b_M_row 67 = .ok (.getfield 93, 3) := by decide +kernel
theorem d_M_row_70 : decode b_M_row 70 = .ok (.lload_n 1, 1) := by decide +kernel
theorem d_M_row_71 : decode b_M_row 71 = .ok (.lastore, 1) := by decide +kernel
theorem d_M_row_72 : decode b_M_row 72 = .ok (.aload_n 0, 1) := by decide +kernel
theorem d_M_row_73 : decode b_M_row 73 = .ok (.getfield 26, 3) := by decide +kernel
theorem d_M_row_76 : decode b_M_row 76 = .ok (.aload_n 0, 1) := by decide +kernel
theorem d_M_row_77 : decode b_M_row 77 = .ok (.getfield 93, 3) := by decide +kernel
theorem d_M_row_80 : decode b_M_row 80 = .ok (.iload_n 3, 1) := by decide +kernel
theorem d_M_row_81 : decode b_M_row 81 = .ok (.iastore, 1) := by decide +kernel
theorem d_M_row_82 : decode b_M_row 82 = .ok (.aload_n 0, 1) := by decide +kernel
theorem d_M_row_83 : decode b_M_row 83 = .ok (.getfield 29, 3) := by decide +kernel
theorem d_M_row_86 : decode b_M_row 86 = .ok (.aload_n 0, 1) := by decide +kernel
theorem d_M_row_87 : decode b_M_row 87 = .ok (.getfield 93, 3) := by decide +kernel
theorem d_M_row_90 : decode b_M_row 90 = .ok (.iload 4, 2) := by decide +kernel
theorem d_M_row_92 : decode b_M_row 92 = .ok (.iastore, 1) := by decide +kernel
theorem d_M_row_93 : decode b_M_row 93 = .ok (.aload_n 0, 1) := by decide +kernel
theorem d_M_row_94 : decode b_M_row 94 = .ok (.getfield 32, 3) := by decide +kernel
theorem d_M_row_97 : decode b_M_row 97 = .ok (.aload_n 0, 1) := by decide +kernel
theorem d_M_row_98 : decode b_M_row 98 = .ok (.getfield 93, 3) := by decide +kernel
theorem d_M_row_101 : decode b_M_row 101 = .ok (.aload_n 0, 1) := by decide +kernel
theorem d_M_row_102 : decode b_M_row 102 = .ok (.getfield 100, 3) := by decide +kernel
theorem d_M_row_105 : decode b_M_row 105 = .ok (.iastore, 1) := by decide +kernel
theorem d_M_row_106 : decode b_M_row 106 = .ok (.aload_n 0, 1) := by decide +kernel
theorem d_M_row_107 : decode b_M_row 107 = .ok (.getfield 35, 3) := by decide +kernel
theorem d_M_row_110 : decode b_M_row 110 = .ok (.aload_n 0, 1) := by decide +kernel
theorem d_M_row_111 : decode b_M_row 111 = .ok (.getfield 93, 3) := by decide +kernel
theorem d_M_row_114 : decode b_M_row 114 = .ok (.iconst (-1), 1) := by decide +kernel
theorem d_M_row_115 : decode b_M_row 115 = .ok (.iastore, 1) := by decide +kernel
theorem d_M_row_116 : decode b_M_row 116 = .ok (.aload_n 0, 1) := by decide +kernel
theorem d_M_row_117 : decode b_M_row 117 = .ok (.dup, 1) := by decide +kernel
theorem d_M_row_118 : decode b_M_row 118 = .ok (.getfield 93, 3) := by decide +kernel
theorem d_M_row_121 : decode b_M_row 121 = .ok (.iconst 1, 1) := by decide +kernel
theorem d_M_row_122 : decode b_M_row 122 = .ok (.iadd, 1) := by decide +kernel
theorem d_M_row_123 : decode b_M_row 123 = .ok (.putfield 93, 3) := by decide +kernel
theorem d_M_row_126 : decode b_M_row 126 = .ok (.iconst 1, 1) := by decide +kernel
theorem d_M_row_127 : decode b_M_row 127 = .ok (.ireturn, 1) := by decide +kernel
theorem d_M_ship_0 : decode b_M_ship 0 = .ok (.iload_n 1, 1) := by decide +kernel
theorem d_M_ship_1 : decode b_M_ship 1 = .ok (.ifCond .lt 9, 3) := by decide +kernel
theorem d_M_ship_4 : decode b_M_ship 4 = .ok (.iload_n 1, 1) := by decide +kernel
theorem d_M_ship_5 : decode b_M_ship 5 = .ok (.bipush 9, 2) := by decide +kernel
theorem d_M_ship_7 : decode b_M_ship 7 = .ok (.if_icmp .le 5, 3) := by decide +kernel
theorem d_M_ship_10 : decode b_M_ship 10 = .ok (.iconst 0, 1) := by decide +kernel
theorem d_M_ship_11 : decode b_M_ship 11 = .ok (.ireturn, 1) := by decide +kernel
theorem d_M_ship_12 : decode b_M_ship 12 = .ok (.aload_n 0, 1) := by decide +kernel
theorem d_M_ship_13 : decode b_M_ship 13 = .ok (.iload_n 1, 1) := by decide +kernel
theorem d_M_ship_14 : decode b_M_ship 14 = .ok (.putfield 100, 3) := by decide +kernel
theorem d_M_ship_17 : decode b_M_ship 17 = .ok (.iconst 1, 1) := by decide +kernel
theorem d_M_ship_18 : decode b_M_ship 18 = .ok (.ireturn, 1) := by decide +kernel
theorem d_M_truth_0 : decode b_M_truth 0 = .ok (.aload_n 0, 1) := by decide +kernel
theorem d_M_truth_1 : decode b_M_truth 1 = .ok (.iload_n 1, 1) := by decide +kernel
theorem d_M_truth_2 : decode b_M_truth 2 = .ok (.invokevirtual 103, 3) := by decide +kernel
theorem d_M_truth_5 : decode b_M_truth 5 = .ok (.ifCond .eq 11, 3) := by decide +kernel
theorem d_M_truth_8 : decode b_M_truth 8 = .ok (.aload_n 0, 1) := by decide +kernel
theorem d_M_truth_9 : decode b_M_truth 9 = .ok (.iload_n 2, 1) := by decide +kernel
theorem d_M_truth_10 : decode b_M_truth 10 = .ok (.invokevirtual 96, 3) := by decide +kernel
theorem d_M_truth_13 : decode b_M_truth 13 = .ok (.ifCond .ne 5, 3) := by decide +kernel
theorem d_M_truth_16 : decode b_M_truth 16 = .ok (.iconst 0, 1) := by decide +kernel
theorem d_M_truth_17 : decode b_M_truth 17 = .ok (.ireturn, 1) := by decide +kernel
theorem d_M_truth_18 : decode b_M_truth 18 = .ok (.aload_n 0, 1) := by decide +kernel
theorem d_M_truth_19 : decode b_M_truth 19 = .ok (.getfield 35, 3) := by decide +kernel
theorem d_M_truth_22 : decode b_M_truth 22 = .ok (.iload_n 1, 1) := by decide +kernel
theorem d_M_truth_23 : decode b_M_truth 23 = .ok (.iload_n 2, 1) := by decide +kernel
theorem d_M_truth_24 : decode b_M_truth 24 = .ok (.iastore, 1) := by decide +kernel
theorem d_M_truth_25 : decode b_M_truth 25 = .ok (.iconst 1, 1) := by decide +kernel
theorem d_M_truth_26 : decode b_M_truth 26 = .ok (.ireturn, 1) := by decide +kernel
theorem d_M_isRow_0 : decode b_M_isRow 0 = .ok (.iload_n 1, 1) := by decide +kernel
theorem d_M_isRow_1 : decode b_M_isRow 1 = .ok (.ifCond .lt 15, 3) := by decide +kernel
theorem d_M_isRow_4 : decode b_M_isRow 4 = .ok (.iload_n 1, 1) := by decide +kernel
theorem d_M_isRow_5 : decode b_M_isRow 5 = .ok (.aload_n 0, 1) := by decide +kernel
theorem d_M_isRow_6 : decode b_M_isRow 6 = .ok (.getfield 93, 3) := by decide +kernel
theorem d_M_isRow_9 : decode b_M_isRow 9 = .ok (.if_icmp .ge 7, 3) := by decide +kernel
theorem d_M_isRow_12 : decode b_M_isRow 12 = .ok (.iconst 1, 1) := by decide +kernel
theorem d_M_isRow_13 : decode b_M_isRow 13 = .ok (.goto 4, 3) := by decide +kernel
theorem d_M_isRow_16 : decode b_M_isRow 16 = .ok (.iconst 0, 1) := by decide +kernel
theorem d_M_isRow_17 : decode b_M_isRow 17 = .ok (.ireturn, 1) := by decide +kernel
theorem d_M_margin_0 : decode b_M_margin 0 = .ok (.iload_n 1, 1) := by decide +kernel
theorem d_M_margin_1 : decode b_M_margin 1 = .ok (.ifCond .lt 9, 3) := by decide +kernel
theorem d_M_margin_4 : decode b_M_margin 4 = .ok (.iload_n 1, 1) := by decide +kernel
theorem d_M_margin_5 : decode b_M_margin 5 = .ok (.ldc 106, 2) := by decide +kernel
theorem d_M_margin_7 : decode b_M_margin 7 = .ok (.if_icmp .le 5, 3) := by decide +kernel
theorem d_M_margin_10 : decode b_M_margin 10 = .ok (.iconst 0, 1) := by decide +kernel
theorem d_M_margin_11 : decode b_M_margin 11 = .ok (.ireturn, 1) := by decide +kernel
theorem d_M_margin_12 : decode b_M_margin 12 = .ok (.aload_n 0, 1) := by decide +kernel
theorem d_M_margin_13 : decode b_M_margin 13 = .ok (.iload_n 1, 1) := by decide +kernel
theorem d_M_margin_14 : decode b_M_margin 14 = .ok (.putfield 107, 3) := by decide +kernel
theorem d_M_margin_17 : decode b_M_margin 17 = .ok (.iconst 1, 1) := by decide +kernel
theorem d_M_margin_18 : decode b_M_margin 18 = .ok (.ireturn, 1) := by decide +kernel
theorem d_M_page_0 : decode b_M_page 0 = .ok (.aload_n 0, 1) := by decide +kernel
theorem d_M_page_1 : decode b_M_page 1 = .ok (.iload 5, 2) := by decide +kernel
theorem d_M_page_3 : decode b_M_page 3 = .ok (.invokevirtual 96, 3) := by decide +kernel
theorem d_M_page_6 : decode b_M_page 6 = .ok (.ifCond .eq 24, 3) := by decide +kernel
theorem d_M_page_9 : decode b_M_page 9 = .ok (.lload_n 1, 1) := by decide +kernel
theorem d_M_page_10 : decode b_M_page 10 = .ok (.lconst 0, 1) := by decide +kernel
theorem d_M_page_11 : decode b_M_page 11 = .ok (.lcmp, 1) := by decide +kernel
theorem d_M_page_12 : decode b_M_page 12 = .ok (.ifCond .lt 18, 3) := by decide +kernel
theorem d_M_page_15 : decode b_M_page 15 = .ok (.lload_n 1, 1) := by decide +kernel
theorem d_M_page_16 : decode b_M_page 16 = .ok (.lload_n 3, 1) := by decide +kernel
theorem d_M_page_17 : decode b_M_page 17 = .ok (.lcmp, 1) := by decide +kernel
theorem d_M_page_18 : decode b_M_page 18 = .ok (.ifCond .ge 12, 3) := by decide +kernel
theorem d_M_page_21 : decode b_M_page 21 = .ok (.aload_n 0, 1) := by decide +kernel
theorem d_M_page_22 : decode b_M_page 22 = .ok (.getfield 110, 3) := by decide +kernel
theorem d_M_page_25 : decode b_M_page 25 = .ok (.bipush 50, 2) := by decide +kernel
theorem d_M_page_27 : decode b_M_page 27 = .ok (.if_icmp .ne 5, 3) := by decide +kernel
theorem d_M_page_30 : decode b_M_page 30 = .ok (.iconst 0, 1) := by decide +kernel
theorem d_M_page_31 : decode b_M_page 31 = .ok (.ireturn, 1) := by decide +kernel
theorem d_M_page_32 : decode b_M_page 32 = .ok (.aload_n 0, 1) := by decide +kernel
theorem d_M_page_33 : decode b_M_page 33 = .ok (.getfield 38, 3) := by decide +kernel
theorem d_M_page_36 : decode b_M_page 36 = .ok (.aload_n 0, 1) := by decide +kernel
theorem d_M_page_37 : decode b_M_page 37 = .ok (.getfield 110, 3) := by decide +kernel
theorem d_M_page_40 : decode b_M_page 40 = .ok (.lload_n 1, 1) := by decide +kernel
theorem d_M_page_41 : decode b_M_page 41 = .ok (.lastore, 1) := by decide +kernel
theorem d_M_page_42 : decode b_M_page 42 = .ok (.aload_n 0, 1) := by decide +kernel
theorem d_M_page_43 : decode b_M_page 43 = .ok (.getfield 41, 3) := by decide +kernel
theorem d_M_page_46 : decode b_M_page 46 = .ok (.aload_n 0, 1) := by decide +kernel
theorem d_M_page_47 : decode b_M_page 47 = .ok (.getfield 110, 3) := by decide +kernel
theorem d_M_page_50 : decode b_M_page 50 = .ok (.lload_n 3, 1) := by decide +kernel
theorem d_M_page_51 : decode b_M_page 51 = .ok (.lastore, 1) := by decide +kernel
theorem d_M_page_52 : decode b_M_page 52 = .ok (.aload_n 0, 1) := by decide +kernel
theorem d_M_page_53 : decode b_M_page 53 = .ok (.getfield 44, 3) := by decide +kernel
theorem d_M_page_56 : decode b_M_page 56 = .ok (.aload_n 0, 1) := by decide +kernel
theorem d_M_page_57 : decode b_M_page 57 = .ok (.getfield 110, 3) := by decide +kernel
theorem d_M_page_60 : decode b_M_page 60 = .ok (.iload 5, 2) := by decide +kernel
theorem d_M_page_62 : decode b_M_page 62 = .ok (.iastore, 1) := by decide +kernel
theorem d_M_page_63 : decode b_M_page 63 = .ok (.aload_n 0, 1) := by decide +kernel
theorem d_M_page_64 : decode b_M_page 64 = .ok (.dup, 1) := by decide +kernel
theorem d_M_page_65 : decode b_M_page 65 = .ok (.getfield 110, 3) := by decide +kernel
theorem d_M_page_68 : decode b_M_page 68 = .ok (.iconst 1, 1) := by decide +kernel
theorem d_M_page_69 : decode b_M_page 69 = .ok (.iadd, 1) := by decide +kernel
theorem d_M_page_70 : decode b_M_page 70 = .ok (.putfield 110, 3) := by decide +kernel
theorem d_M_page_73 : decode b_M_page 73 = .ok (.iconst 1, 1) := by decide +kernel
theorem d_M_page_74 : decode b_M_page 74 = .ok (.ireturn, 1) := by decide +kernel
theorem d_M_cell_0 : decode b_M_cell 0 = .ok (.aload_n 0, 1) := by decide +kernel
theorem d_M_cell_1 : decode b_M_cell 1 = .ok (.iload_n 1, 1) := by decide +kernel
theorem d_M_cell_2 : decode b_M_cell 2 = .ok (.invokevirtual 103, 3) := by decide +kernel
theorem d_M_cell_5 : decode b_M_cell 5 = .ok (.ifCond .eq 49, 3) := by decide +kernel
theorem d_M_cell_8 : decode b_M_cell 8 = .ok (.iload_n 2, 1) := by decide +kernel
theorem d_M_cell_9 : decode b_M_cell 9 = .ok (.ifCond .lt 45, 3) := by decide +kernel
theorem d_M_cell_12 : decode b_M_cell 12 = .ok (.iload_n 2, 1) := by decide +kernel
theorem d_M_cell_13 : decode b_M_cell 13 = .ok (.bipush 19, 2) := by decide +kernel
theorem d_M_cell_15 : decode b_M_cell 15 = .ok (.if_icmp .gt 39, 3) := by decide +kernel
theorem d_M_cell_18 : decode b_M_cell 18 = .ok (.iload_n 3, 1) := by decide +kernel
theorem d_M_cell_19 : decode b_M_cell 19 = .ok (.ifCond .lt 35, 3) := by decide +kernel
theorem d_M_cell_22 : decode b_M_cell 22 = .ok (.iload_n 3, 1) := by decide +kernel
theorem d_M_cell_23 : decode b_M_cell 23 = .ok (.bipush 19, 2) := by decide +kernel
theorem d_M_cell_25 : decode b_M_cell 25 = .ok (.if_icmp .gt 29, 3) := by decide +kernel
theorem d_M_cell_28 : decode b_M_cell 28 = .ok (.lload 4, 2) := by decide +kernel
theorem d_M_cell_30 : decode b_M_cell 30 = .ok (.lconst 1, 1) := by decide +kernel
theorem d_M_cell_31 : decode b_M_cell 31 = .ok (.lcmp, 1) := by decide +kernel
theorem d_M_cell_32 : decode b_M_cell 32 = .ok (.ifCond .lt 22, 3) := by decide +kernel
theorem d_M_cell_35 : decode b_M_cell 35 = .ok (.lload 4, 2) := by decide +kernel
theorem d_M_cell_37 : decode b_M_cell 37 = .ok (.ldc2_w 113, 3) := by decide +kernel
theorem d_M_cell_40 : decode b_M_cell 40 = .ok (.lcmp, 1) := by decide +kernel
theorem d_M_cell_41 : decode b_M_cell 41 = .ok (.ifCond .gt 13, 3) := by decide +kernel
theorem d_M_cell_44 : decode b_M_cell 44 = .ok (.aload_n 0, 1) := by decide +kernel
theorem d_M_cell_45 : decode b_M_cell 45 = .ok (.getfield 115, 3) := by decide +kernel
theorem d_M_cell_48 : decode b_M_cell 48 = .ok (.sipush 300, 3) := by decide +kernel
theorem d_M_cell_51 : decode b_M_cell 51 = .ok (.if_icmp .ne 5, 3) := by decide +kernel
theorem d_M_cell_54 : decode b_M_cell 54 = .ok (.iconst 0, 1) := by decide +kernel
theorem d_M_cell_55 : decode b_M_cell 55 = .ok (.ireturn, 1) := by decide +kernel
theorem d_M_cell_56 : decode b_M_cell 56 = .ok (.aload_n 0, 1) := by decide +kernel
theorem d_M_cell_57 : decode b_M_cell 57 = .ok (.getfield 47, 3) := by decide +kernel
theorem d_M_cell_60 : decode b_M_cell 60 = .ok (.aload_n 0, 1) := by decide +kernel
theorem d_M_cell_61 : decode b_M_cell 61 = .ok (.getfield 115, 3) := by decide +kernel
theorem d_M_cell_64 : decode b_M_cell 64 = .ok (.iload_n 1, 1) := by decide +kernel
theorem d_M_cell_65 : decode b_M_cell 65 = .ok (.iastore, 1) := by decide +kernel
theorem d_M_cell_66 : decode b_M_cell 66 = .ok (.aload_n 0, 1) := by decide +kernel
theorem d_M_cell_67 : decode b_M_cell 67 = .ok (.getfield 50, 3) := by decide +kernel
theorem d_M_cell_70 : decode b_M_cell 70 = .ok (.aload_n 0, 1) := by decide +kernel
theorem d_M_cell_71 : decode b_M_cell 71 = .ok (.getfield 115, 3) := by decide +kernel
theorem d_M_cell_74 : decode b_M_cell 74 = .ok (.iload_n 2, 1) := by decide +kernel
theorem d_M_cell_75 : decode b_M_cell 75 = .ok (.iastore, 1) := by decide +kernel
theorem d_M_cell_76 : decode b_M_cell 76 = .ok (.aload_n 0, 1) := by decide +kernel
theorem d_M_cell_77 : decode b_M_cell 77 = .ok (.getfield 53, 3) := by decide +kernel
theorem d_M_cell_80 : decode b_M_cell 80 = .ok (.aload_n 0, 1) := by decide +kernel
theorem d_M_cell_81 : decode b_M_cell 81 = .ok (.getfield 115, 3) := by decide +kernel
theorem d_M_cell_84 : decode b_M_cell 84 = .ok (.iload_n 3, 1) := by decide +kernel
theorem d_M_cell_85 : decode b_M_cell 85 = .ok (.iastore, 1) := by decide +kernel
theorem d_M_cell_86 : decode b_M_cell 86 = .ok (.aload_n 0, 1) := by decide +kernel
theorem d_M_cell_87 : decode b_M_cell 87 = .ok (.getfield 56, 3) := by decide +kernel
theorem d_M_cell_90 : decode b_M_cell 90 = .ok (.aload_n 0, 1) := by decide +kernel
theorem d_M_cell_91 : decode b_M_cell 91 = .ok (.getfield 115, 3) := by decide +kernel
theorem d_M_cell_94 : decode b_M_cell 94 = .ok (.lload 4, 2) := by decide +kernel
theorem d_M_cell_96 : decode b_M_cell 96 = .ok (.lastore, 1) := by decide +kernel
theorem d_M_cell_97 : decode b_M_cell 97 = .ok (.aload_n 0, 1) := by decide +kernel
theorem d_M_cell_98 : decode b_M_cell 98 = .ok (.dup, 1) := by decide +kernel
theorem d_M_cell_99 : decode b_M_cell 99 = .ok (.getfield 115, 3) := by decide +kernel
theorem d_M_cell_102 : decode b_M_cell 102 = .ok (.iconst 1, 1) := by decide +kernel
theorem d_M_cell_103 : decode b_M_cell 103 = .ok (.iadd, 1) := by decide +kernel
theorem d_M_cell_104 : decode b_M_cell 104 = .ok (.putfield 115, 3) := by decide +kernel
theorem d_M_cell_107 : decode b_M_cell 107 = .ok (.iconst 1, 1) := by decide +kernel
theorem d_M_cell_108 : decode b_M_cell 108 = .ok (.ireturn, 1) := by decide +kernel
theorem d_M_night_0 : decode b_M_night 0 = .ok (.aload_n 0, 1) := by decide +kernel
theorem d_M_night_1 : decode b_M_night 1 = .ok (.iload_n 1, 1) := by decide +kernel
theorem d_M_night_2 : decode b_M_night 2 = .ok (.invokevirtual 103, 3) := by decide +kernel
theorem d_M_night_5 : decode b_M_night 5 = .ok (.ifCond .ne 5, 3) := by decide +kernel
theorem d_M_night_8 : decode b_M_night 8 = .ok (.iconst (-1), 1) := by decide +kernel
theorem d_M_night_9 : decode b_M_night 9 = .ok (.ireturn, 1) := by decide +kernel
theorem d_M_night_10 : decode b_M_night 10 = .ok (.aload_n 0, 1) := by decide +kernel
theorem d_M_night_11 : decode b_M_night 11 = .ok (.getfield 22, 3) := by decide +kernel
theorem d_M_night_14 : decode b_M_night 14 = .ok (.iload_n 1, 1) := by decide +kernel
theorem d_M_night_15 : decode b_M_night 15 = .ok (.laload, 1) := by decide +kernel
theorem d_M_night_16 : decode b_M_night 16 = .ok (.ldc2_w 118, 3) := by decide +kernel
theorem d_M_night_19 : decode b_M_night 19 = .ok (.lrem, 1) := by decide +kernel
theorem d_M_night_20 : decode b_M_night 20 = .ok (.lstore_n 2, 1) := by decide +kernel
theorem d_M_night_21 : decode b_M_night 21 = .ok (.lload_n 2, 1) := by decide +kernel
theorem d_M_night_22 : decode b_M_night 22 = .ok (.ldc2_w 120, 3) := by decide +kernel
theorem d_M_night_25 : decode b_M_night 25 = .ok (.lcmp, 1) := by decide +kernel
theorem d_M_night_26 : decode b_M_night 26 = .ok (.ifCond .lt 11, 3) := by decide +kernel
theorem d_M_night_29 : decode b_M_night 29 = .ok (.lload_n 2, 1) := by decide +kernel
theorem d_M_night_30 : decode b_M_night 30 = .ok (.ldc2_w 122, 3) := by decide +kernel
theorem d_M_night_33 : decode b_M_night 33 = .ok (.lcmp, 1) := by decide +kernel
theorem d_M_night_34 : decode b_M_night 34 = .ok (.ifCond .lt 7, 3) := by decide +kernel
theorem d_M_night_37 : decode b_M_night 37 = .ok (.iconst 1, 1) := by decide +kernel
theorem d_M_night_38 : decode b_M_night 38 = .ok (.goto 4, 3) := by decide +kernel
theorem d_M_night_41 : decode b_M_night 41 = .ok (.iconst 0, 1) := by decide +kernel
theorem d_M_night_42 : decode b_M_night 42 = .ok (.ireturn, 1) := by decide +kernel
theorem d_M_run_0 : decode b_M_run 0 = .ok (.aload_n 0, 1) := by decide +kernel
theorem d_M_run_1 : decode b_M_run 1 = .ok (.getfield 93, 3) := by decide +kernel
theorem d_M_run_4 : decode b_M_run 4 = .ok (.ifCond .ne 5, 3) := by decide +kernel
theorem d_M_run_7 : decode b_M_run 7 = .ok (.iconst (-1), 1) := by decide +kernel
theorem d_M_run_8 : decode b_M_run 8 = .ok (.ireturn, 1) := by decide +kernel
theorem d_M_run_9 : decode b_M_run 9 = .ok (.aload_n 0, 1) := by decide +kernel
theorem d_M_run_10 : decode b_M_run 10 = .ok (.invokevirtual 145, 3) := by decide +kernel
theorem d_M_run_13 : decode b_M_run 13 = .ok (.aload_n 0, 1) := by decide +kernel
theorem d_M_run_14 : decode b_M_run 14 = .ok (.getfield 136, 3) := by decide +kernel
theorem d_M_run_17 : decode b_M_run 17 = .ok (.ireturn, 1) := by decide +kernel
theorem d_M_keep_0 : decode b_M_keep 0 = .ok (.aload_n 0, 1) := by decide +kernel
theorem d_M_keep_1 : decode b_M_keep 1 = .ok (.aload_n 0, 1) := by decide +kernel
theorem d_M_keep_2 : decode b_M_keep 2 = .ok (.iconst (-1), 1) := by decide +kernel
theorem d_M_keep_3 : decode b_M_keep 3 = .ok (.invokevirtual 132, 3) := by decide +kernel
theorem d_M_keep_6 : decode b_M_keep 6 = .ok (.putfield 136, 3) := by decide +kernel
theorem d_M_keep_9 : decode b_M_keep 9 = .ok (.aload_n 0, 1) := by decide +kernel
theorem d_M_keep_10 : decode b_M_keep 10 = .ok (.aload_n 0, 1) := by decide +kernel
theorem d_M_keep_11 : decode b_M_keep 11 = .ok (.getfield 93, 3) := by decide +kernel
theorem d_M_keep_14 : decode b_M_keep 14 = .ok (.putfield 139, 3) := by decide +kernel
theorem d_M_keep_17 : decode b_M_keep 17 = .ok (.aload_n 0, 1) := by decide +kernel
theorem d_M_keep_18 : decode b_M_keep 18 = .ok (.invokevirtual 142, 3) := by decide +kernel
theorem d_M_keep_21 : decode b_M_keep 21 = .ok (.iconst 0, 1) := by decide +kernel
theorem d_M_keep_22 : decode b_M_keep 22 = .ok (.istore_n 1, 1) := by decide +kernel
theorem d_M_keep_23 : decode b_M_keep 23 = .ok (.iload_n 1, 1) := by decide +kernel
theorem d_M_keep_24 : decode b_M_keep 24 = .ok (.aload_n 0, 1) := by decide +kernel
theorem d_M_keep_25 : decode b_M_keep 25 = .ok (.getfield 93, 3) := by decide +kernel
theorem d_M_keep_28 : decode b_M_keep 28 = .ok (.if_icmp .ge 171, 3) := by decide +kernel
theorem d_M_keep_31 : decode b_M_keep 31 = .ok (.aload_n 0, 1) := by decide +kernel
theorem d_M_keep_32 : decode b_M_keep 32 = .ok (.getfield 59, 3) := by decide +kernel
theorem d_M_keep_35 : decode b_M_keep 35 = .ok (.iload_n 1, 1) := by decide +kernel
theorem d_M_keep_36 : decode b_M_keep 36 = .ok (.aload_n 0, 1) := by decide +kernel
theorem d_M_keep_37 : decode b_M_keep 37 = .ok (.getfield 86, 3) := by decide +kernel
theorem d_M_keep_40 : decode b_M_keep 40 = .ok (.iload_n 1, 1) := by decide +kernel
theorem d_M_keep_41 : decode b_M_keep 41 = .ok (.iaload, 1) := by decide +kernel
theorem d_M_keep_42 : decode b_M_keep 42 = .ok (.iastore, 1) := by decide +kernel
theorem d_M_keep_43 : decode b_M_keep 43 = .ok (.ldc 128, 2) := by decide +kernel
theorem d_M_keep_45 : decode b_M_keep 45 = .ok (.istore_n 2, 1) := by decide +kernel
theorem d_M_keep_46 : decode b_M_keep 46 = .ok (.iconst 0, 1) := by decide +kernel
theorem d_M_keep_47 : decode b_M_keep 47 = .ok (.istore_n 3, 1) := by decide +kernel
theorem d_M_keep_48 : decode b_M_keep 48 = .ok (.iload_n 3, 1) := by decide +kernel
theorem d_M_keep_49 : decode b_M_keep 49 = .ok (.aload_n 0, 1) := by decide +kernel
theorem d_M_keep_50 : decode b_M_keep 50 = .ok (.getfield 89, 3) := by decide +kernel
theorem d_M_keep_53 : decode b_M_keep 53 = .ok (.if_icmp .ge 123, 3) := by decide +kernel
theorem d_M_keep_56 : decode b_M_keep 56 = .ok (.iload_n 3, 1) := by decide +kernel
theorem d_M_keep_57 : decode b_M_keep 57 = .ok (.aload_n 0, 1) := by decide +kernel
theorem d_M_keep_58 : decode b_M_keep 58 = .ok (.getfield 59, 3) := by decide +kernel
theorem d_M_keep_61 : decode b_M_keep 61 = .ok (.iload_n 1, 1) := by decide +kernel
theorem d_M_keep_62 : decode b_M_keep 62 = .ok (.iaload, 1) := by decide +kernel
theorem d_M_keep_63 : decode b_M_keep 63 = .ok (.if_icmp .eq 39, 3) := by decide +kernel
theorem d_M_keep_66 : decode b_M_keep 66 = .ok (.aload_n 0, 1) := by decide +kernel
theorem d_M_keep_67 : decode b_M_keep 67 = .ok (.getfield 80, 3) := by decide +kernel
theorem d_M_keep_70 : decode b_M_keep 70 = .ok (.bipush 12, 2) := by decide +kernel
theorem d_M_keep_72 : decode b_M_keep 72 = .ok (.iload_n 1, 1) := by decide +kernel
theorem d_M_keep_73 : decode b_M_keep 73 = .ok (.imul, 1) := by decide +kernel
theorem d_M_keep_74 : decode b_M_keep 74 = .ok (.iload_n 3, 1) := by decide +kernel
theorem d_M_keep_75 : decode b_M_keep 75 = .ok (.iadd, 1) := by decide +kernel
theorem d_M_keep_76 : decode b_M_keep 76 = .ok (.iaload, 1) := by decide +kernel
theorem d_M_keep_77 : decode b_M_keep 77 = .ok (.ldc 128, 2) := by decide +kernel
theorem d_M_keep_79 : decode b_M_keep 79 = .ok (.if_icmp .ge 23, 3) := by decide +kernel
theorem d_M_keep_82 : decode b_M_keep 82 = .ok (.aload_n 0, 1) := by decide +kernel
theorem d_M_keep_83 : decode b_M_keep 83 = .ok (.getfield 83, 3) := by decide +kernel
theorem d_M_keep_86 : decode b_M_keep 86 = .ok (.bipush 12, 2) := by decide +kernel
theorem d_M_keep_88 : decode b_M_keep 88 = .ok (.iload_n 1, 1) := by decide +kernel
theorem d_M_keep_89 : decode b_M_keep 89 = .ok (.imul, 1) := by decide +kernel
theorem d_M_keep_90 : decode b_M_keep 90 = .ok (.iload_n 3, 1) := by decide +kernel
theorem d_M_keep_91 : decode b_M_keep 91 = .ok (.iadd, 1) := by decide +kernel
theorem d_M_keep_92 : decode b_M_keep 92 = .ok (.iaload, 1) := by decide +kernel
theorem d_M_keep_93 : decode b_M_keep 93 = .ok (.ldc 128, 2) := by decide +kernel
theorem d_M_keep_95 : decode b_M_keep 95 = .ok (.if_icmp .ge 7, 3) := by decide +kernel
theorem d_M_keep_98 : decode b_M_keep 98 = .ok (.iconst 1, 1) := by decide +kernel
theorem d_M_keep_99 : decode b_M_keep 99 = .ok (.goto 4, 3) := by decide +kernel
theorem d_M_keep_102 : decode b_M_keep 102 = .ok (.iconst 0, 1) := by decide +kernel
theorem d_M_keep_103 : decode b_M_keep 103 = .ok (.istore 4, 2) := by decide +kernel
theorem d_M_keep_105 : decode b_M_keep 105 = .ok (.iload 4, 2) := by decide +kernel
theorem d_M_keep_107 : decode b_M_keep 107 = .ok (.ifCond .eq 46, 3) := by decide +kernel
theorem d_M_keep_110 : decode b_M_keep 110 = .ok (.aload_n 0, 1) := by decide +kernel
theorem d_M_keep_111 : decode b_M_keep 111 = .ok (.getfield 80, 3) := by decide +kernel
theorem d_M_keep_114 : decode b_M_keep 114 = .ok (.bipush 12, 2) := by decide +kernel
theorem d_M_keep_116 : decode b_M_keep 116 = .ok (.iload_n 1, 1) := by decide +kernel
theorem d_M_keep_117 : decode b_M_keep 117 = .ok (.imul, 1) := by decide +kernel
theorem d_M_keep_118 : decode b_M_keep 118 = .ok (.iload_n 3, 1) := by decide +kernel
theorem d_M_keep_119 : decode b_M_keep 119 = .ok (.iadd, 1) := by decide +kernel
theorem d_M_keep_120 : decode b_M_keep 120 = .ok (.iaload, 1) := by decide +kernel
theorem d_M_keep_121 : decode b_M_keep 121 = .ok (.aload_n 0, 1) := by decide +kernel
theorem d_M_keep_122 : decode b_M_keep 122 = .ok (.getfield 83, 3) := by decide +kernel
theorem d_M_keep_125 : decode b_M_keep 125 = .ok (.bipush 12, 2) := by decide +kernel
theorem d_M_keep_127 : decode b_M_keep 127 = .ok (.iload_n 1, 1) := by decide +kernel
theorem d_M_keep_128 : decode b_M_keep 128 = .ok (.imul, 1) := by decide +kernel
theorem d_M_keep_129 : decode b_M_keep 129 = .ok (.iload_n 3, 1) := by decide +kernel
theorem d_M_keep_130 : decode b_M_keep 130 = .ok (.iadd, 1) := by decide +kernel
theorem d_M_keep_131 : decode b_M_keep 131 = .ok (.iaload, 1) := by decide +kernel
theorem d_M_keep_132 : decode b_M_keep 132 = .ok (.iadd, 1) := by decide +kernel
theorem d_M_keep_133 : decode b_M_keep 133 = .ok (.aload_n 0, 1) := by decide +kernel
theorem d_M_keep_134 : decode b_M_keep 134 = .ok (.getfield 13, 3) := by decide +kernel
theorem d_M_keep_137 : decode b_M_keep 137 = .ok (.bipush 10, 2) := by decide +kernel
theorem d_M_keep_139 : decode b_M_keep 139 = .ok (.iload_n 3, 1) := by decide +kernel
theorem d_M_keep_140 : decode b_M_keep 140 = .ok (.imul, 1) := by decide +kernel
theorem d_M_keep_141 : decode b_M_keep 141 = .ok (.aload_n 0, 1) := by decide +kernel
theorem d_M_keep_142 : decode b_M_keep 142 = .ok (.getfield 26, 3) := by decide +kernel
theorem d_M_keep_145 : decode b_M_keep 145 = .ok (.iload_n 1, 1) := by decide +kernel
theorem d_M_keep_146 : decode b_M_keep 146 = .ok (.iaload, 1) := by decide +kernel
theorem d_M_keep_147 : decode b_M_keep 147 = .ok (.iadd, 1) := by decide +kernel
theorem d_M_keep_148 : decode b_M_keep 148 = .ok (.iaload, 1) := by decide +kernel
theorem d_M_keep_149 : decode b_M_keep 149 = .ok (.isub, 1) := by decide +kernel
theorem d_M_keep_150 : decode b_M_keep 150 = .ok (.goto 5, 3) := by decide +kernel
theorem d_M_keep_153 : decode b_M_keep 153 = .ok (.ldc 128, 2) := by decide +kernel
theorem d_M_keep_155 : decode b_M_keep 155 = .ok (.istore 5, 2) := by decide +kernel
theorem d_M_keep_157 : decode b_M_keep 157 = .ok (.iload 5, 2) := by decide +kernel
theorem d_M_keep_159 : decode b_M_keep 159 = .ok (.iload_n 2, 1) := by decide +kernel
theorem d_M_keep_160 : decode b_M_keep 160 = .ok (.if_icmp .ge 8, 3) := by decide +kernel
theorem d_M_keep_163 : decode b_M_keep 163 = .ok (.iload 5, 2) := by decide +kernel
theorem d_M_keep_165 : decode b_M_keep 165 = .ok (.goto 4, 3) := by decide +kernel
theorem d_M_keep_168 : decode b_M_keep 168 = .ok (.iload_n 2, 1) := by decide +kernel
theorem d_M_keep_169 : decode b_M_keep 169 = .ok (.istore_n 2, 1) := by decide +kernel
theorem d_M_keep_170 : decode b_M_keep 170 = .ok (.iinc 3 1, 3) := by decide +kernel
theorem d_M_keep_173 : decode b_M_keep 173 = .ok (.goto (-125), 3) := by decide +kernel
theorem d_M_keep_176 : decode b_M_keep 176 = .ok (.aload_n 0, 1) := by decide +kernel
theorem d_M_keep_177 : decode b_M_keep 177 = .ok (.getfield 62, 3) := by decide +kernel
theorem d_M_keep_180 : decode b_M_keep 180 = .ok (.iload_n 1, 1) := by decide +kernel
theorem d_M_keep_181 : decode b_M_keep 181 = .ok (.iload_n 2, 1) := by decide +kernel
theorem d_M_keep_182 : decode b_M_keep 182 = .ok (.ldc 128, 2) := by decide +kernel
theorem d_M_keep_184 : decode b_M_keep 184 = .ok (.if_icmp .ge 7, 3) := by decide +kernel
theorem d_M_keep_187 : decode b_M_keep 187 = .ok (.iload_n 2, 1) := by decide +kernel
theorem d_M_keep_188 : decode b_M_keep 188 = .ok (.goto 4, 3) := by decide +kernel
theorem d_M_keep_191 : decode b_M_keep 191 = .ok (.iconst (-1), 1) := by decide +kernel
theorem d_M_keep_192 : decode b_M_keep 192 = .ok (.iastore, 1) := by decide +kernel
theorem d_M_keep_193 : decode b_M_keep 193 = .ok (.iinc 1 1, 3) := by decide +kernel
theorem d_M_keep_196 : decode b_M_keep 196 = .ok (.goto (-173), 3) := by decide +kernel
theorem d_M_keep_199 : decode b_M_keep 199 = .ok (.return_, 1) := by decide +kernel
theorem d_M_search_0 : decode b_M_search 0 = .ok (.iconst 0, 1) := by decide +kernel
theorem d_M_search_1 : decode b_M_search 1 = .ok (.istore_n 2, 1) := by decide +kernel
theorem d_M_search_2 : decode b_M_search 2 = .ok (.iload_n 2, 1) := by decide +kernel
theorem d_M_search_3 : decode b_M_search 3 = .ok (.aload_n 0, 1) := by decide +kernel
theorem d_M_search_4 : decode b_M_search 4 = .ok (.getfield 89, 3) := by decide +kernel
theorem d_M_search_7 : decode b_M_search 7 = .ok (.if_icmp .ge 57, 3) := by decide +kernel
theorem d_M_search_10 : decode b_M_search 10 = .ok (.aload_n 0, 1) := by decide +kernel
theorem d_M_search_11 : decode b_M_search 11 = .ok (.getfield 74, 3) := by decide +kernel
theorem d_M_search_14 : decode b_M_search 14 = .ok (.iload_n 2, 1) := by decide +kernel
theorem d_M_search_15 : decode b_M_search 15 = .ok (.aload_n 0, 1) := by decide +kernel
theorem d_M_search_16 : decode b_M_search 16 = .ok (.iconst 0, 1) := by decide +kernel
theorem d_M_search_17 : decode b_M_search 17 = .ok (.iload_n 2, 1) := by decide +kernel
theorem d_M_search_18 : decode b_M_search 18 = .ok (.iload_n 1, 1) := by decide +kernel
theorem d_M_search_19 : decode b_M_search 19 = .ok (.invokevirtual 124, 3) := by decide +kernel
theorem d_M_search_22 : decode b_M_search 22 = .ok (.ifCond .eq 22, 3) := by decide +kernel
theorem d_M_search_25 : decode b_M_search 25 = .ok (.aload_n 0, 1) := by decide +kernel
theorem d_M_search_26 : decode b_M_search 26 = .ok (.getfield 13, 3) := by decide +kernel
theorem d_M_search_29 : decode b_M_search 29 = .ok (.bipush 10, 2) := by decide +kernel
theorem d_M_search_31 : decode b_M_search 31 = .ok (.iload_n 2, 1) := by decide +kernel
theorem d_M_search_32 : decode b_M_search 32 = .ok (.imul, 1) := by decide +kernel
theorem d_M_search_33 : decode b_M_search 33 = .ok (.aload_n 0, 1) := by decide +kernel
theorem d_M_search_34 : decode b_M_search 34 = .ok (.getfield 26, 3) := by decide +kernel
theorem d_M_search_37 : decode b_M_search 37 = .ok (.iconst 0, 1) := by decide +kernel
theorem d_M_search_38 : decode b_M_search 38 = .ok (.iaload, 1) := by decide +kernel
theorem d_M_search_39 : decode b_M_search 39 = .ok (.iadd, 1) := by decide +kernel
theorem d_M_search_40 : decode b_M_search 40 = .ok (.iaload, 1) := by decide +kernel
theorem d_M_search_41 : decode b_M_search 41 = .ok (.goto 5, 3) := by decide +kernel
theorem d_M_search_44 : decode b_M_search 44 = .ok (.ldc 128, 2) := by decide +kernel
theorem d_M_search_46 : decode b_M_search 46 = .ok (.iastore, 1) := by decide +kernel
theorem d_M_search_47 : decode b_M_search 47 = .ok (.aload_n 0, 1) := by decide +kernel
theorem d_M_search_48 : decode b_M_search 48 = .ok (.getfield 68, 3) := by decide +kernel
theorem d_M_search_51 : decode b_M_search 51 = .ok (.sipush 200, 3) := by decide +kernel
theorem d_M_search_54 : decode b_M_search 54 = .ok (.iload_n 2, 1) := by decide +kernel
theorem d_M_search_55 : decode b_M_search 55 = .ok (.imul, 1) := by decide +kernel
theorem d_M_search_56 : decode b_M_search 56 = .ok (.iload_n 2, 1) := by decide +kernel
theorem d_M_search_57 : decode b_M_search 57 = .ok (.iastore, 1) := by decide +kernel
theorem d_M_search_58 : decode b_M_search 58 = .ok (.iinc 2 1, 3) := by decide +kernel
theorem d_M_search_61 : decode b_M_search 61 = .ok (.goto (-59), 3) := by decide +kernel
theorem d_M_search_64 : decode b_M_search 64 = .ok (.iconst 1, 1) := by decide +kernel
theorem d_M_search_65 : decode b_M_search 65 = .ok (.istore_n 2, 1) := by decide +kernel
theorem d_M_search_66 : decode b_M_search 66 = .ok (.iload_n 2, 1) := by decide +kernel
theorem d_M_search_67 : decode b_M_search 67 = .ok (.aload_n 0, 1) := by decide +kernel
theorem d_M_search_68 : decode b_M_search 68 = .ok (.getfield 93, 3) := by decide +kernel
theorem d_M_search_71 : decode b_M_search 71 = .ok (.if_icmp .ge 306, 3) := by decide +kernel
theorem d_M_search_74 : decode b_M_search 74 = .ok (.iconst 0, 1) := by decide +kernel
theorem d_M_search_75 : decode b_M_search 75 = .ok (.istore_n 3, 1) := by decide +kernel
theorem d_M_search_76 : decode b_M_search 76 = .ok (.iload_n 3, 1) := by decide +kernel
theorem d_M_search_77 : decode b_M_search 77 = .ok (.aload_n 0, 1) := by decide +kernel
theorem d_M_search_78 : decode b_M_search 78 = .ok (.getfield 89, 3) := by decide +kernel
theorem d_M_search_81 : decode b_M_search 81 = .ok (.if_icmp .ge 221, 3) := by decide +kernel
theorem d_M_search_84 : decode b_M_search 84 = .ok (.iconst (-1), 1) := by decide +kernel
theorem d_M_search_85 : decode b_M_search 85 = .ok (.istore 4, 2) := by decide +kernel
theorem d_M_search_87 : decode b_M_search 87 = .ok (.ldc 128, 2) := by decide +kernel
theorem d_M_search_89 : decode b_M_search 89 = .ok (.istore 5, 2) := by decide +kernel
theorem d_M_search_91 : decode b_M_search 91 = .ok (.iconst 0, 1) := by decide +kernel
theorem d_M_search_92 : decode b_M_search 92 = .ok (.istore 6, 2) := by decide +kernel
theorem d_M_search_94 : decode b_M_search 94 = .ok (.iload 6, 2) := by decide +kernel
theorem d_M_search_96 : decode b_M_search 96 = .ok (.aload_n 0, 1) := by decide +kernel
theorem d_M_search_97 : decode b_M_search 97 = .ok (.getfield 89, 3) := by decide +kernel
theorem d_M_search_100 : decode b_M_search 100 = .ok (.if_icmp .ge 89, 3) := by decide +kernel
theorem d_M_search_103 : decode b_M_search 103 = .ok (.aload_n 0, 1) := by decide +kernel
theorem d_M_search_104 : decode b_M_search 104 = .ok (.getfield 74, 3) := by decide +kernel
theorem d_M_search_107 : decode b_M_search 107 = .ok (.iload 6, 2) := by decide +kernel
theorem d_M_search_109 : decode b_M_search 109 = .ok (.iaload, 1) := by decide +kernel
theorem d_M_search_110 : decode b_M_search 110 = .ok (.ldc 128, 2) := by decide +kernel
theorem d_M_search_112 : decode b_M_search 112 = .ok (.if_icmp .lt 8, 3) := by decide +kernel
theorem d_M_search_115 : decode b_M_search 115 = .ok (.ldc 128, 2) := by decide +kernel
theorem d_M_search_117 : decode b_M_search 117 = .ok (.goto 23, 3) := by decide +kernel
theorem d_M_search_120 : decode b_M_search 120 = .ok (.aload_n 0, 1) := by decide +kernel
theorem d_M_search_121 : decode b_M_search 121 = .ok (.getfield 74, 3) := by decide +kernel
theorem d_M_search_124 : decode b_M_search 124 = .ok (.iload 6, 2) := by decide +kernel
theorem d_M_search_126 : decode b_M_search 126 = .ok (.iaload, 1) := by decide +kernel
theorem d_M_search_127 : decode b_M_search 127 = .ok (.aload_n 0, 1) := by decide +kernel
theorem d_M_search_128 : decode b_M_search 128 = .ok (.getfield 7, 3) := by decide +kernel
theorem d_M_search_131 : decode b_M_search 131 = .ok (.bipush 12, 2) := by decide +kernel
theorem d_M_search_133 : decode b_M_search 133 = .ok (.iload 6, 2) := by decide +kernel
theorem d_M_search_135 : decode b_M_search 135 = .ok (.imul, 1) := by decide +kernel
theorem d_M_search_136 : decode b_M_search 136 = .ok (.iload_n 3, 1) := by decide +kernel
theorem d_M_search_137 : decode b_M_search 137 = .ok (.iadd, 1) := by decide +kernel
theorem d_M_search_138 : decode b_M_search 138 = .ok (.iaload, 1) := by decide +kernel
theorem d_M_search_139 : decode b_M_search 139 = .ok (.iadd, 1) := by decide +kernel
theorem d_M_search_140 : decode b_M_search 140 = .ok (.istore 7, 2) := by decide +kernel
theorem d_M_search_142 : decode b_M_search 142 = .ok (.iload 7, 2) := by decide +kernel
theorem d_M_search_144 : decode b_M_search 144 = .ok (.iload 5, 2) := by decide +kernel
theorem d_M_search_146 : decode b_M_search 146 = .ok (.if_icmp .lt 29, 3) := by decide +kernel
theorem d_M_search_149 : decode b_M_search 149 = .ok (.iload 7, 2) := by decide +kernel
theorem d_M_search_151 : decode b_M_search 151 = .ok (.iload 5, 2) := by decide +kernel
theorem d_M_search_153 : decode b_M_search 153 = .ok (.if_icmp .ne 30, 3) := by decide +kernel
theorem d_M_search_156 : decode b_M_search 156 = .ok (.iload 7, 2) := by decide +kernel
theorem d_M_search_158 : decode b_M_search 158 = .ok (.ldc 128, 2) := by decide +kernel
theorem d_M_search_160 : decode b_M_search 160 = .ok (.if_icmp .ge 23, 3) := by decide +kernel
theorem d_M_search_163 : decode b_M_search 163 = .ok (.aload_n 0, 1) := by decide +kernel
theorem d_M_search_164 : decode b_M_search 164 = .ok (.iload 6, 2) := by decide +kernel
theorem d_M_search_166 : decode b_M_search 166 = .ok (.iload 4, 2) := by decide +kernel
theorem d_M_search_168 : decode b_M_search 168 = .ok (.iload_n 2, 1) := by decide +kernel
theorem d_M_search_169 : decode b_M_search 169 = .ok (.invokevirtual 129, 3) := by decide +kernel
theorem d_M_search_172 : decode b_M_search 172 = .ok (.ifCond .eq 11, 3) := by decide +kernel
theorem d_M_search_175 : decode b_M_search 175 = .ok (.iload 7, 2) := by decide +kernel
theorem d_M_search_177 : decode b_M_search 177 = .ok (.istore 5, 2) := by decide +kernel
theorem d_M_search_179 : decode b_M_search 179 = .ok (.iload 6, 2) := by decide +kernel
theorem d_M_search_181 : decode b_M_search 181 = .ok (.istore 4, 2) := by decide +kernel
theorem d_M_search_183 : decode b_M_search 183 = .ok (.iinc 6 1, 3) := by decide +kernel
theorem d_M_search_186 : decode b_M_search 186 = .ok (.goto (-92), 3) := by decide +kernel
theorem d_M_search_189 : decode b_M_search 189 = .ok (.aload_n 0, 1) := by decide +kernel
theorem d_M_search_190 : decode b_M_search 190 = .ok (.getfield 77, 3) := by decide +kernel
theorem d_M_search_193 : decode b_M_search 193 = .ok (.iload_n 3, 1) := by decide +kernel
theorem d_M_search_194 : decode b_M_search 194 = .ok (.iload 4, 2) := by decide +kernel
theorem d_M_search_196 : decode b_M_search 196 = .ok (.iconst (-1), 1) := by decide +kernel
theorem d_M_search_197 : decode b_M_search 197 = .ok (.if_icmp .eq 13, 3) := by decide +kernel
theorem d_M_search_200 : decode b_M_search 200 = .ok (.aload_n 0, 1) := by decide +kernel
theorem d_M_search_201 : decode b_M_search 201 = .ok (.iload_n 2, 1) := by decide +kernel
theorem d_M_search_202 : decode b_M_search 202 = .ok (.iload_n 3, 1) := by decide +kernel
theorem d_M_search_203 : decode b_M_search 203 = .ok (.iload_n 1, 1) := by decide +kernel
theorem d_M_search_204 : decode b_M_search 204 = .ok (.invokevirtual 124, 3) := by decide +kernel
theorem d_M_search_207 : decode b_M_search 207 = .ok (.ifCond .ne 8, 3) := by decide +kernel
theorem d_M_search_210 : decode b_M_search 210 = .ok (.ldc 128, 2) := by decide +kernel
theorem d_M_search_212 : decode b_M_search 212 = .ok (.goto 22, 3) := by decide +kernel
theorem d_M_search_215 : decode b_M_search 215 = .ok (.iload 5, 2) := by decide +kernel
theorem d_M_search_217 : decode b_M_search 217 = .ok (.aload_n 0, 1) := by decide +kernel
theorem d_M_search_218 : decode b_M_search 218 = .ok (.getfield 13, 3) := by decide +kernel
theorem d_M_search_221 : decode b_M_search 221 = .ok (.bipush 10, 2) := by decide +kernel
theorem d_M_search_223 : decode b_M_search 223 = .ok (.iload_n 3, 1) := by decide +kernel
theorem d_M_search_224 : decode b_M_search 224 = .ok (.imul, 1) := by decide +kernel
theorem d_M_search_225 : decode b_M_search 225 = .ok (.aload_n 0, 1) := by decide +kernel
theorem d_M_search_226 : decode b_M_search 226 = .ok (.getfield 26, 3) := by decide +kernel
theorem d_M_search_229 : decode b_M_search 229 = .ok (.iload_n 2, 1) := by decide +kernel
theorem d_M_search_230 : decode b_M_search 230 = .ok (.iaload, 1) := by decide +kernel
theorem d_M_search_231 : decode b_M_search 231 = .ok (.iadd, 1) := by decide +kernel
theorem d_M_search_232 : decode b_M_search 232 = .ok (.iaload, 1) := by decide +kernel
theorem d_M_search_233 : decode b_M_search 233 = .ok (.iadd, 1) := by decide +kernel
theorem d_M_search_234 : decode b_M_search 234 = .ok (.iastore, 1) := by decide +kernel
theorem d_M_search_235 : decode b_M_search 235 = .ok (.iconst 0, 1) := by decide +kernel
theorem d_M_search_236 : decode b_M_search 236 = .ok (.istore 6, 2) := by decide +kernel
theorem d_M_search_238 : decode b_M_search 238 = .ok (.iload 6, 2) := by decide +kernel
theorem d_M_search_240 : decode b_M_search 240 = .ok (.iload_n 2, 1) := by decide +kernel
theorem d_M_search_241 : decode b_M_search 241 = .ok (.if_icmp .ge 42, 3) := by decide +kernel
theorem d_M_search_244 : decode b_M_search 244 = .ok (.iload 4, 2) := by decide +kernel
theorem d_M_search_246 : decode b_M_search 246 = .ok (.iconst (-1), 1) := by decide +kernel
theorem d_M_search_247 : decode b_M_search 247 = .ok (.if_icmp .eq 36, 3) := by decide +kernel
theorem d_M_search_250 : decode b_M_search 250 = .ok (.aload_n 0, 1) := by decide +kernel
theorem d_M_search_251 : decode b_M_search 251 = .ok (.getfield 71, 3) := by decide +kernel
theorem d_M_search_254 : decode b_M_search 254 = .ok (.sipush 200, 3) := by decide +kernel
theorem d_M_search_257 : decode b_M_search 257 = .ok (.iload_n 3, 1) := by decide +kernel
theorem d_M_search_258 : decode b_M_search 258 = .ok (.imul, 1) := by decide +kernel
theorem d_M_search_259 : decode b_M_search 259 = .ok (.iload 6, 2) := by decide +kernel
theorem d_M_search_261 : decode b_M_search 261 = .ok (.iadd, 1) := by decide +kernel
theorem d_M_search_262 : decode b_M_search 262 = .ok (.aload_n 0, 1) := by decide +kernel
theorem d_M_search_263 : decode b_M_search 263 = .ok (.getfield 68, 3) := by decide +kernel
theorem d_M_search_266 : decode b_M_search 266 = .ok (.sipush 200, 3) := by decide +kernel
theorem d_M_search_269 : decode b_M_search 269 = .ok (.iload 4, 2) := by decide +kernel
theorem d_M_search_271 : decode b_M_search 271 = .ok (.imul, 1) := by decide +kernel
theorem d_M_search_272 : decode b_M_search 272 = .ok (.iload 6, 2) := by decide +kernel
theorem d_M_search_274 : decode b_M_search 274 = .ok (.iadd, 1) := by decide +kernel
theorem d_M_search_275 : decode b_M_search 275 = .ok (.iaload, 1) := by decide +kernel
theorem d_M_search_276 : decode b_M_search 276 = .ok (.iastore, 1) := by decide +kernel
theorem d_M_search_277 : decode b_M_search 277 = .ok (.iinc 6 1, 3) := by decide +kernel
theorem d_M_search_280 : decode b_M_search 280 = .ok (.goto (-42), 3) := by decide +kernel
theorem d_M_search_283 : decode b_M_search 283 = .ok (.aload_n 0, 1) := by decide +kernel
theorem d_M_search_284 : decode b_M_search 284 = .ok (.getfield 71, 3) := by decide +kernel
theorem d_M_search_287 : decode b_M_search 287 = .ok (.sipush 200, 3) := by decide +kernel
theorem d_M_search_290 : decode b_M_search 290 = .ok (.iload_n 3, 1) := by decide +kernel
theorem d_M_search_291 : decode b_M_search 291 = .ok (.imul, 1) := by decide +kernel
theorem d_M_search_292 : decode b_M_search 292 = .ok (.iload_n 2, 1) := by decide +kernel
theorem d_M_search_293 : decode b_M_search 293 = .ok (.iadd, 1) := by decide +kernel
theorem d_M_search_294 : decode b_M_search 294 = .ok (.iload_n 3, 1) := by decide +kernel
theorem d_M_search_295 : decode b_M_search 295 = .ok (.iastore, 1) := by decide +kernel
theorem d_M_search_296 : decode b_M_search 296 = .ok (.iinc 3 1, 3) := by decide +kernel
theorem d_M_search_299 : decode b_M_search 299 = .ok (.goto (-223), 3) := by decide +kernel
theorem d_M_search_302 : decode b_M_search 302 = .ok (.iconst 0, 1) := by decide +kernel
theorem d_M_search_303 : decode b_M_search 303 = .ok (.istore_n 3, 1) := by decide +kernel
theorem d_M_search_304 : decode b_M_search 304 = .ok (.iload_n 3, 1) := by decide +kernel
theorem d_M_search_305 : decode b_M_search 305 = .ok (.aload_n 0, 1) := by decide +kernel
theorem d_M_search_306 : decode b_M_search 306 = .ok (.getfield 89, 3) := by decide +kernel
theorem d_M_search_309 : decode b_M_search 309 = .ok (.if_icmp .ge 62, 3) := by decide +kernel
theorem d_M_search_312 : decode b_M_search 312 = .ok (.aload_n 0, 1) := by decide +kernel
theorem d_M_search_313 : decode b_M_search 313 = .ok (.getfield 74, 3) := by decide +kernel
theorem d_M_search_316 : decode b_M_search 316 = .ok (.iload_n 3, 1) := by decide +kernel
theorem d_M_search_317 : decode b_M_search 317 = .ok (.aload_n 0, 1) := by decide +kernel
theorem d_M_search_318 : decode b_M_search 318 = .ok (.getfield 77, 3) := by decide +kernel
theorem d_M_search_321 : decode b_M_search 321 = .ok (.iload_n 3, 1) := by decide +kernel
theorem d_M_search_322 : decode b_M_search 322 = .ok (.iaload, 1) := by decide +kernel
theorem d_M_search_323 : decode b_M_search 323 = .ok (.iastore, 1) := by decide +kernel
theorem d_M_search_324 : decode b_M_search 324 = .ok (.iconst 0, 1) := by decide +kernel
theorem d_M_search_325 : decode b_M_search 325 = .ok (.istore 4, 2) := by decide +kernel
theorem d_M_search_327 : decode b_M_search 327 = .ok (.iload 4, 2) := by decide +kernel
theorem d_M_search_329 : decode b_M_search 329 = .ok (.iload_n 2, 1) := by decide +kernel
theorem d_M_search_330 : decode b_M_search 330 = .ok (.if_icmp .gt 35, 3) := by decide +kernel
theorem d_M_search_333 : decode b_M_search 333 = .ok (.aload_n 0, 1) := by decide +kernel
theorem d_M_search_334 : decode b_M_search 334 = .ok (.getfield 68, 3) := by decide +kernel
theorem d_M_search_337 : decode b_M_search 337 = .ok (.sipush 200, 3) := by decide +kernel
theorem d_M_search_340 : decode b_M_search 340 = .ok (.iload_n 3, 1) := by decide +kernel
theorem d_M_search_341 : decode b_M_search 341 = .ok (.imul, 1) := by decide +kernel
theorem d_M_search_342 : decode b_M_search 342 = .ok (.iload 4, 2) := by decide +kernel
theorem d_M_search_344 : decode b_M_search 344 = .ok (.iadd, 1) := by decide +kernel
theorem d_M_search_345 : decode b_M_search 345 = .ok (.aload_n 0, 1) := by decide +kernel
theorem d_M_search_346 : decode b_M_search 346 = .ok (.getfield 71, 3) := by decide +kernel
theorem d_M_search_349 : decode b_M_search 349 = .ok (.sipush 200, 3) := by decide +kernel
theorem d_M_search_352 : decode b_M_search 352 = .ok (.iload_n 3, 1) := by decide +kernel
theorem d_M_search_353 : decode b_M_search 353 = .ok (.imul, 1) := by decide +kernel
theorem d_M_search_354 : decode b_M_search 354 = .ok (.iload 4, 2) := by decide +kernel
theorem d_M_search_356 : decode b_M_search 356 = .ok (.iadd, 1) := by decide +kernel
theorem d_M_search_357 : decode b_M_search 357 = .ok (.iaload, 1) := by decide +kernel
theorem d_M_search_358 : decode b_M_search 358 = .ok (.iastore, 1) := by decide +kernel
theorem d_M_search_359 : decode b_M_search 359 = .ok (.iinc 4 1, 3) := by decide +kernel
theorem d_M_search_362 : decode b_M_search 362 = .ok (.goto (-35), 3) := by decide +kernel
theorem d_M_search_365 : decode b_M_search 365 = .ok (.iinc 3 1, 3) := by decide +kernel
theorem d_M_search_368 : decode b_M_search 368 = .ok (.goto (-64), 3) := by decide +kernel
theorem d_M_search_371 : decode b_M_search 371 = .ok (.iinc 2 1, 3) := by decide +kernel
theorem d_M_search_374 : decode b_M_search 374 = .ok (.goto (-308), 3) := by decide +kernel
theorem d_M_search_377 : decode b_M_search 377 = .ok (.iconst 0, 1) := by decide +kernel
theorem d_M_search_378 : decode b_M_search 378 = .ok (.istore_n 2, 1) := by decide +kernel
theorem d_M_search_379 : decode b_M_search 379 = .ok (.iconst 1, 1) := by decide +kernel
theorem d_M_search_380 : decode b_M_search 380 = .ok (.istore_n 3, 1) := by decide +kernel
theorem d_M_search_381 : decode b_M_search 381 = .ok (.iload_n 3, 1) := by decide +kernel
theorem d_M_search_382 : decode b_M_search 382 = .ok (.aload_n 0, 1) := by decide +kernel
theorem d_M_search_383 : decode b_M_search 383 = .ok (.getfield 89, 3) := by decide +kernel
theorem d_M_search_386 : decode b_M_search 386 = .ok (.if_icmp .ge 69, 3) := by decide +kernel
theorem d_M_search_389 : decode b_M_search 389 = .ok (.aload_n 0, 1) := by decide +kernel
theorem d_M_search_390 : decode b_M_search 390 = .ok (.getfield 74, 3) := by decide +kernel
theorem d_M_search_393 : decode b_M_search 393 = .ok (.iload_n 3, 1) := by decide +kernel
theorem d_M_search_394 : decode b_M_search 394 = .ok (.iaload, 1) := by decide +kernel
theorem d_M_search_395 : decode b_M_search 395 = .ok (.aload_n 0, 1) := by decide +kernel
theorem d_M_search_396 : decode b_M_search 396 = .ok (.getfield 74, 3) := by decide +kernel
theorem d_M_search_399 : decode b_M_search 399 = .ok (.iload_n 2, 1) := by decide +kernel
theorem d_M_search_400 : decode b_M_search 400 = .ok (.iaload, 1) := by decide +kernel
theorem d_M_search_401 : decode b_M_search 401 = .ok (.if_icmp .lt 42, 3) := by decide +kernel
theorem d_M_search_404 : decode b_M_search 404 = .ok (.aload_n 0, 1) := by decide +kernel
theorem d_M_search_405 : decode b_M_search 405 = .ok (.getfield 74, 3) := by decide +kernel
theorem d_M_search_408 : decode b_M_search 408 = .ok (.iload_n 3, 1) := by decide +kernel
theorem d_M_search_409 : decode b_M_search 409 = .ok (.iaload, 1) := by decide +kernel
theorem d_M_search_410 : decode b_M_search 410 = .ok (.aload_n 0, 1) := by decide +kernel
theorem d_M_search_411 : decode b_M_search 411 = .ok (.getfield 74, 3) := by decide +kernel
theorem d_M_search_414 : decode b_M_search 414 = .ok (.iload_n 2, 1) := by decide +kernel
theorem d_M_search_415 : decode b_M_search 415 = .ok (.iaload, 1) := by decide +kernel
theorem d_M_search_416 : decode b_M_search 416 = .ok (.if_icmp .ne 31, 3) := by decide +kernel
theorem d_M_search_419 : decode b_M_search 419 = .ok (.aload_n 0, 1) := by decide +kernel
theorem d_M_search_420 : decode b_M_search 420 = .ok (.getfield 74, 3) := by decide +kernel
theorem d_M_search_423 : decode b_M_search 423 = .ok (.iload_n 3, 1) := by decide +kernel
theorem d_M_search_424 : decode b_M_search 424 = .ok (.iaload, 1) := by decide +kernel
theorem d_M_search_425 : decode b_M_search 425 = .ok (.ldc 128, 2) := by decide +kernel
theorem d_M_search_427 : decode b_M_search 427 = .ok (.if_icmp .ge 20, 3) := by decide +kernel
theorem d_M_search_430 : decode b_M_search 430 = .ok (.aload_n 0, 1) := by decide +kernel
theorem d_M_search_431 : decode b_M_search 431 = .ok (.iload_n 3, 1) := by decide +kernel
theorem d_M_search_432 : decode b_M_search 432 = .ok (.iload_n 2, 1) := by decide +kernel
theorem d_M_search_433 : decode b_M_search 433 = .ok (.aload_n 0, 1) := by decide +kernel
theorem d_M_search_434 : decode b_M_search 434 = .ok (.getfield 93, 3) := by decide +kernel
theorem d_M_search_437 : decode b_M_search 437 = .ok (.invokevirtual 129, 3) := by decide +kernel
theorem d_M_search_440 : decode b_M_search 440 = .ok (.ifCond .eq 7, 3) := by decide +kernel
theorem d_M_search_443 : decode b_M_search 443 = .ok (.iload_n 3, 1) := by decide +kernel
theorem d_M_search_444 : decode b_M_search 444 = .ok (.goto 4, 3) := by decide +kernel
theorem d_M_search_447 : decode b_M_search 447 = .ok (.iload_n 2, 1) := by decide +kernel
theorem d_M_search_448 : decode b_M_search 448 = .ok (.istore_n 2, 1) := by decide +kernel
theorem d_M_search_449 : decode b_M_search 449 = .ok (.iinc 3 1, 3) := by decide +kernel
theorem d_M_search_452 : decode b_M_search 452 = .ok (.goto (-71), 3) := by decide +kernel
theorem d_M_search_455 : decode b_M_search 455 = .ok (.iconst 0, 1) := by decide +kernel
theorem d_M_search_456 : decode b_M_search 456 = .ok (.istore_n 3, 1) := by decide +kernel
theorem d_M_search_457 : decode b_M_search 457 = .ok (.iload_n 3, 1) := by decide +kernel
theorem d_M_search_458 : decode b_M_search 458 = .ok (.aload_n 0, 1) := by decide +kernel
theorem d_M_search_459 : decode b_M_search 459 = .ok (.getfield 93, 3) := by decide +kernel
theorem d_M_search_462 : decode b_M_search 462 = .ok (.if_icmp .ge 27, 3) := by decide +kernel
theorem d_M_search_465 : decode b_M_search 465 = .ok (.aload_n 0, 1) := by decide +kernel
theorem d_M_search_466 : decode b_M_search 466 = .ok (.getfield 86, 3) := by decide +kernel
theorem d_M_search_469 : decode b_M_search 469 = .ok (.iload_n 3, 1) := by decide +kernel
theorem d_M_search_470 : decode b_M_search 470 = .ok (.aload_n 0, 1) := by decide +kernel
theorem d_M_search_471 : decode b_M_search 471 = .ok (.getfield 68, 3) := by decide +kernel
theorem d_M_search_474 : decode b_M_search 474 = .ok (.sipush 200, 3) := by decide +kernel
theorem d_M_search_477 : decode b_M_search 477 = .ok (.iload_n 2, 1) := by decide +kernel
theorem d_M_search_478 : decode b_M_search 478 = .ok (.imul, 1) := by decide +kernel
theorem d_M_search_479 : decode b_M_search 479 = .ok (.iload_n 3, 1) := by decide +kernel
theorem d_M_search_480 : decode b_M_search 480 = .ok (.iadd, 1) := by decide +kernel
theorem d_M_search_481 : decode b_M_search 481 = .ok (.iaload, 1) := by decide +kernel
theorem d_M_search_482 : decode b_M_search 482 = .ok (.iastore, 1) := by decide +kernel
theorem d_M_search_483 : decode b_M_search 483 = .ok (.iinc 3 1, 3) := by decide +kernel
theorem d_M_search_486 : decode b_M_search 486 = .ok (.goto (-29), 3) := by decide +kernel
theorem d_M_search_489 : decode b_M_search 489 = .ok (.aload_n 0, 1) := by decide +kernel
theorem d_M_search_490 : decode b_M_search 490 = .ok (.getfield 74, 3) := by decide +kernel
theorem d_M_search_493 : decode b_M_search 493 = .ok (.iload_n 2, 1) := by decide +kernel
theorem d_M_search_494 : decode b_M_search 494 = .ok (.iaload, 1) := by decide +kernel
theorem d_M_search_495 : decode b_M_search 495 = .ok (.ireturn, 1) := by decide +kernel
theorem d_M_may_0 : decode b_M_may 0 = .ok (.aload_n 0, 1) := by decide +kernel
theorem d_M_may_1 : decode b_M_may 1 = .ok (.getfield 35, 3) := by decide +kernel
theorem d_M_may_4 : decode b_M_may 4 = .ok (.iload_n 1, 1) := by decide +kernel
theorem d_M_may_5 : decode b_M_may 5 = .ok (.iaload, 1) := by decide +kernel
theorem d_M_may_6 : decode b_M_may 6 = .ok (.iconst (-1), 1) := by decide +kernel
theorem d_M_may_7 : decode b_M_may 7 = .ok (.if_icmp .eq 28, 3) := by decide +kernel
theorem d_M_may_10 : decode b_M_may 10 = .ok (.iload_n 3, 1) := by decide +kernel
theorem d_M_may_11 : decode b_M_may 11 = .ok (.iconst (-1), 1) := by decide +kernel
theorem d_M_may_12 : decode b_M_may 12 = .ok (.if_icmp .eq 13, 3) := by decide +kernel
theorem d_M_may_15 : decode b_M_may 15 = .ok (.aload_n 0, 1) := by decide +kernel
theorem d_M_may_16 : decode b_M_may 16 = .ok (.getfield 32, 3) := by decide +kernel
theorem d_M_may_19 : decode b_M_may 19 = .ok (.iload_n 1, 1) := by decide +kernel
theorem d_M_may_20 : decode b_M_may 20 = .ok (.iaload, 1) := by decide +kernel
theorem d_M_may_21 : decode b_M_may 21 = .ok (.iload_n 3, 1) := by decide +kernel
theorem d_M_may_22 : decode b_M_may 22 = .ok (.if_icmp .eq 13, 3) := by decide +kernel
theorem d_M_may_25 : decode b_M_may 25 = .ok (.aload_n 0, 1) := by decide +kernel
theorem d_M_may_26 : decode b_M_may 26 = .ok (.getfield 35, 3) := by decide +kernel
theorem d_M_may_29 : decode b_M_may 29 = .ok (.iload_n 1, 1) := by decide +kernel
theorem d_M_may_30 : decode b_M_may 30 = .ok (.iaload, 1) := by decide +kernel
theorem d_M_may_31 : decode b_M_may 31 = .ok (.iload_n 2, 1) := by decide +kernel
theorem d_M_may_32 : decode b_M_may 32 = .ok (.if_icmp .ne 7, 3) := by decide +kernel
theorem d_M_may_35 : decode b_M_may 35 = .ok (.iconst 1, 1) := by decide +kernel
theorem d_M_may_36 : decode b_M_may 36 = .ok (.goto 4, 3) := by decide +kernel
theorem d_M_may_39 : decode b_M_may 39 = .ok (.iconst 0, 1) := by decide +kernel
theorem d_M_may_40 : decode b_M_may 40 = .ok (.ireturn, 1) := by decide +kernel
theorem d_M_isFirst_0 : decode b_M_isFirst 0 = .ok (.iconst 0, 1) := by decide +kernel
theorem d_M_isFirst_1 : decode b_M_isFirst 1 = .ok (.istore 4, 2) := by decide +kernel
theorem d_M_isFirst_3 : decode b_M_isFirst 3 = .ok (.iload 4, 2) := by decide +kernel
theorem d_M_isFirst_5 : decode b_M_isFirst 5 = .ok (.iload_n 3, 1) := by decide +kernel
theorem d_M_isFirst_6 : decode b_M_isFirst 6 = .ok (.if_icmp .ge 73, 3) := by decide +kernel
theorem d_M_isFirst_9 : decode b_M_isFirst 9 = .ok (.aload_n 0, 1) := by decide +kernel
theorem d_M_isFirst_10 : decode b_M_isFirst 10 = .ok (.getfield 68, 3) := by decide +kernel
theorem d_M_isFirst_13 : decode b_M_isFirst 13 = .ok (.sipush 200, 3) := by decide +kernel
theorem d_M_isFirst_16 : decode b_M_isFirst 16 = .ok (.iload_n 1, 1) := by decide +kernel
theorem d_M_isFirst_17 : decode b_M_isFirst 17 = .ok (.imul, 1) := by decide +kernel
theorem d_M_isFirst_18 : decode b_M_isFirst 18 = .ok (.iload 4, 2) := by decide +kernel
theorem d_M_isFirst_20 : decode b_M_isFirst 20 = .ok (.iadd, 1) := by decide +kernel
theorem d_M_isFirst_21 : decode b_M_isFirst 21 = .ok (.iaload, 1) := by decide +kernel
theorem d_M_isFirst_22 : decode b_M_isFirst 22 = .ok (.aload_n 0, 1) := by decide +kernel
theorem d_M_isFirst_23 : decode b_M_isFirst 23 = .ok (.getfield 68, 3) := by decide +kernel
theorem d_M_isFirst_26 : decode b_M_isFirst 26 = .ok (.sipush 200, 3) := by decide +kernel
theorem d_M_isFirst_29 : decode b_M_isFirst 29 = .ok (.iload_n 2, 1) := by decide +kernel
theorem d_M_isFirst_30 : decode b_M_isFirst 30 = .ok (.imul, 1) := by decide +kernel
theorem d_M_isFirst_31 : decode b_M_isFirst 31 = .ok (.iload 4, 2) := by decide +kernel
theorem d_M_isFirst_33 : decode b_M_isFirst 33 = .ok (.iadd, 1) := by decide +kernel
theorem d_M_isFirst_34 : decode b_M_isFirst 34 = .ok (.iaload, 1) := by decide +kernel
theorem d_M_isFirst_35 : decode b_M_isFirst 35 = .ok (.if_icmp .eq 38, 3) := by decide +kernel
theorem d_M_isFirst_38 : decode b_M_isFirst 38 = .ok (.aload_n 0, 1) := by decide +kernel
theorem d_M_isFirst_39 : decode b_M_isFirst 39 = .ok (.getfield 68, 3) := by decide +kernel
theorem d_M_isFirst_42 : decode b_M_isFirst 42 = .ok (.sipush 200, 3) := by decide +kernel
theorem d_M_isFirst_45 : decode b_M_isFirst 45 = .ok (.iload_n 1, 1) := by decide +kernel
theorem d_M_isFirst_46 : decode b_M_isFirst 46 = .ok (.imul, 1) := by decide +kernel
theorem d_M_isFirst_47 : decode b_M_isFirst 47 = .ok (.iload 4, 2) := by decide +kernel
theorem d_M_isFirst_49 : decode b_M_isFirst 49 = .ok (.iadd, 1) := by decide +kernel
theorem d_M_isFirst_50 : decode b_M_isFirst 50 = .ok (.iaload, 1) := by decide +kernel
theorem d_M_isFirst_51 : decode b_M_isFirst 51 = .ok (.aload_n 0, 1) := by decide +kernel
theorem d_M_isFirst_52 : decode b_M_isFirst 52 = .ok (.getfield 68, 3) := by decide +kernel
theorem d_M_isFirst_55 : decode b_M_isFirst 55 = .ok (.sipush 200, 3) := by decide +kernel
theorem d_M_isFirst_58 : decode b_M_isFirst 58 = .ok (.iload_n 2, 1) := by decide +kernel
theorem d_M_isFirst_59 : decode b_M_isFirst 59 = .ok (.imul, 1) := by decide +kernel
theorem d_M_isFirst_60 : decode b_M_isFirst 60 = .ok (.iload 4, 2) := by decide +kernel
theorem d_M_isFirst_62 : decode b_M_isFirst 62 = .ok (.iadd, 1) := by decide +kernel
theorem d_M_isFirst_63 : decode b_M_isFirst 63 = .ok (.iaload, 1) := by decide +kernel
theorem d_M_isFirst_64 : decode b_M_isFirst 64 = .ok (.if_icmp .ge 7, 3) := by decide +kernel
theorem d_M_isFirst_67 : decode b_M_isFirst 67 = .ok (.iconst 1, 1) := by decide +kernel
theorem d_M_isFirst_68 : decode b_M_isFirst 68 = .ok (.goto 4, 3) := by decide +kernel
theorem d_M_isFirst_71 : decode b_M_isFirst 71 = .ok (.iconst 0, 1) := by decide +kernel
theorem d_M_isFirst_72 : decode b_M_isFirst 72 = .ok (.ireturn, 1) := by decide +kernel
theorem d_M_isFirst_73 : decode b_M_isFirst 73 = .ok (.iinc 4 1, 3) := by decide +kernel
theorem d_M_isFirst_76 : decode b_M_isFirst 76 = .ok (.goto (-73), 3) := by decide +kernel
theorem d_M_isFirst_79 : decode b_M_isFirst 79 = .ok (.iconst 0, 1) := by decide +kernel
theorem d_M_isFirst_80 : decode b_M_isFirst 80 = .ok (.ireturn, 1) := by decide +kernel
theorem d_M_bothEnds_0 : decode b_M_bothEnds 0 = .ok (.iconst 0, 1) := by decide +kernel
theorem d_M_bothEnds_1 : decode b_M_bothEnds 1 = .ok (.istore_n 1, 1) := by decide +kernel
theorem d_M_bothEnds_2 : decode b_M_bothEnds 2 = .ok (.iload_n 1, 1) := by decide +kernel
theorem d_M_bothEnds_3 : decode b_M_bothEnds 3 = .ok (.aload_n 0, 1) := by decide +kernel
theorem d_M_bothEnds_4 : decode b_M_bothEnds 4 = .ok (.getfield 93, 3) := by decide +kernel
theorem d_M_bothEnds_7 : decode b_M_bothEnds 7 = .ok (.if_icmp .ge 174, 3) := by decide +kernel
theorem d_M_bothEnds_10 : decode b_M_bothEnds 10 = .ok (.iconst 0, 1) := by decide +kernel
theorem d_M_bothEnds_11 : decode b_M_bothEnds 11 = .ok (.istore_n 2, 1) := by decide +kernel
theorem d_M_bothEnds_12 : decode b_M_bothEnds 12 = .ok (.iload_n 2, 1) := by decide +kernel
theorem d_M_bothEnds_13 : decode b_M_bothEnds 13 = .ok (.aload_n 0, 1) := by decide +kernel
theorem d_M_bothEnds_14 : decode b_M_bothEnds 14 = .ok (.getfield 89, 3) := by decide +kernel
theorem d_M_bothEnds_17 : decode b_M_bothEnds 17 = .ok (.if_icmp .ge 158, 3) := by decide +kernel
theorem d_M_bothEnds_20 : decode b_M_bothEnds 20 = .ok (.iload_n 1, 1) := by decide +kernel
theorem d_M_bothEnds_21 : decode b_M_bothEnds 21 = .ok (.ifCond .ne 7, 3) := by decide +kernel
theorem d_M_bothEnds_24 : decode b_M_bothEnds 24 = .ok (.iconst 0, 1) := by decide +kernel
theorem d_M_bothEnds_25 : decode b_M_bothEnds 25 = .ok (.goto 5, 3) := by decide +kernel
theorem d_M_bothEnds_28 : decode b_M_bothEnds 28 = .ok (.ldc 128, 2) := by decide +kernel
theorem d_M_bothEnds_30 : decode b_M_bothEnds 30 = .ok (.istore_n 3, 1) := by decide +kernel
theorem d_M_bothEnds_31 : decode b_M_bothEnds 31 = .ok (.iconst 0, 1) := by decide +kernel
theorem d_M_bothEnds_32 : decode b_M_bothEnds 32 = .ok (.istore 4, 2) := by decide +kernel
theorem d_M_bothEnds_34 : decode b_M_bothEnds 34 = .ok (.iload 4, 2) := by decide +kernel
theorem d_M_bothEnds_36 : decode b_M_bothEnds 36 = .ok (.aload_n 0, 1) := by decide +kernel
theorem d_M_bothEnds_37 : decode b_M_bothEnds 37 = .ok (.getfield 89, 3) := by decide +kernel
theorem d_M_bothEnds_40 : decode b_M_bothEnds 40 = .ok (.if_icmp .ge 79, 3) := by decide +kernel
theorem d_M_bothEnds_43 : decode b_M_bothEnds 43 = .ok (.iload_n 1, 1) := by decide +kernel
theorem d_M_bothEnds_44 : decode b_M_bothEnds 44 = .ok (.ifCond .le 75, 3) := by decide +kernel
theorem d_M_bothEnds_47 : decode b_M_bothEnds 47 = .ok (.aload_n 0, 1) := by decide +kernel
theorem d_M_bothEnds_48 : decode b_M_bothEnds 48 = .ok (.getfield 80, 3) := by decide +kernel
theorem d_M_bothEnds_51 : decode b_M_bothEnds 51 = .ok (.bipush 12, 2) := by decide +kernel
theorem d_M_bothEnds_53 : decode b_M_bothEnds 53 = .ok (.iload_n 1, 1) := by decide +kernel
theorem d_M_bothEnds_54 : decode b_M_bothEnds 54 = .ok (.iconst 1, 1) := by decide +kernel
theorem d_M_bothEnds_55 : decode b_M_bothEnds 55 = .ok (.isub, 1) := by decide +kernel
theorem d_M_bothEnds_56 : decode b_M_bothEnds 56 = .ok (.imul, 1) := by decide +kernel
theorem d_M_bothEnds_57 : decode b_M_bothEnds 57 = .ok (.iload 4, 2) := by decide +kernel
theorem d_M_bothEnds_59 : decode b_M_bothEnds 59 = .ok (.iadd, 1) := by decide +kernel
theorem d_M_bothEnds_60 : decode b_M_bothEnds 60 = .ok (.iaload, 1) := by decide +kernel
theorem d_M_bothEnds_61 : decode b_M_bothEnds 61 = .ok (.ldc 128, 2) := by decide +kernel
theorem d_M_bothEnds_63 : decode b_M_bothEnds 63 = .ok (.if_icmp .lt 8, 3) := by decide +kernel
theorem d_M_bothEnds_66 : decode b_M_bothEnds 66 = .ok (.ldc 128, 2) := by decide +kernel
theorem d_M_bothEnds_68 : decode b_M_bothEnds 68 = .ok (.goto 30, 3) := by decide +kernel
theorem d_M_bothEnds_71 : decode b_M_bothEnds 71 = .ok (.aload_n 0, 1) := by decide +kernel
theorem d_M_bothEnds_72 : decode b_M_bothEnds 72 = .ok (.getfield 80, 3) := by decide +kernel
theorem d_M_bothEnds_75 : decode b_M_bothEnds 75 = .ok (.bipush 12, 2) := by decide +kernel
theorem d_M_bothEnds_77 : decode b_M_bothEnds 77 = .ok (.iload_n 1, 1) := by decide +kernel
theorem d_M_bothEnds_78 : decode b_M_bothEnds 78 = .ok (.iconst 1, 1) := by decide +kernel
theorem d_M_bothEnds_79 : decode b_M_bothEnds 79 = .ok (.isub, 1) := by decide +kernel
theorem d_M_bothEnds_80 : decode b_M_bothEnds 80 = .ok (.imul, 1) := by decide +kernel
theorem d_M_bothEnds_81 : decode b_M_bothEnds 81 = .ok (.iload 4, 2) := by decide +kernel
theorem d_M_bothEnds_83 : decode b_M_bothEnds 83 = .ok (.iadd, 1) := by decide +kernel
theorem d_M_bothEnds_84 : decode b_M_bothEnds 84 = .ok (.iaload, 1) := by decide +kernel
theorem d_M_bothEnds_85 : decode b_M_bothEnds 85 = .ok (.aload_n 0, 1) := by decide +kernel
theorem d_M_bothEnds_86 : decode b_M_bothEnds 86 = .ok (.getfield 7, 3) := by decide +kernel
theorem d_M_bothEnds_89 : decode b_M_bothEnds 89 = .ok (.bipush 12, 2) := by decide +kernel
theorem d_M_bothEnds_91 : decode b_M_bothEnds 91 = .ok (.iload 4, 2) := by decide +kernel
theorem d_M_bothEnds_93 : decode b_M_bothEnds 93 = .ok (.imul, 1) := by decide +kernel
theorem d_M_bothEnds_94 : decode b_M_bothEnds 94 = .ok (.iload_n 2, 1) := by decide +kernel
theorem d_M_bothEnds_95 : decode b_M_bothEnds 95 = .ok (.iadd, 1) := by decide +kernel
theorem d_M_bothEnds_96 : decode b_M_bothEnds 96 = .ok (.iaload, 1) := by decide +kernel
theorem d_M_bothEnds_97 : decode b_M_bothEnds 97 = .ok (.iadd, 1) := by decide +kernel
theorem d_M_bothEnds_98 : decode b_M_bothEnds 98 = .ok (.istore 5, 2) := by decide +kernel
theorem d_M_bothEnds_100 : decode b_M_bothEnds 100 = .ok (.iload 5, 2) := by decide +kernel
theorem d_M_bothEnds_102 : decode b_M_bothEnds 102 = .ok (.iload_n 3, 1) := by decide +kernel
theorem d_M_bothEnds_103 : decode b_M_bothEnds 103 = .ok (.if_icmp .ge 8, 3) := by decide +kernel
theorem d_M_bothEnds_106 : decode b_M_bothEnds 106 = .ok (.iload 5, 2) := by decide +kernel
theorem d_M_bothEnds_108 : decode b_M_bothEnds 108 = .ok (.goto 4, 3) := by decide +kernel
theorem d_M_bothEnds_111 : decode b_M_bothEnds 111 = .ok (.iload_n 3, 1) := by decide +kernel
theorem d_M_bothEnds_112 : decode b_M_bothEnds 112 = .ok (.istore_n 3, 1) := by decide +kernel
theorem d_M_bothEnds_113 : decode b_M_bothEnds 113 = .ok (.iinc 4 1, 3) := by decide +kernel
theorem d_M_bothEnds_116 : decode b_M_bothEnds 116 = .ok (.goto (-82), 3) := by decide +kernel
theorem d_M_bothEnds_119 : decode b_M_bothEnds 119 = .ok (.aload_n 0, 1) := by decide +kernel
theorem d_M_bothEnds_120 : decode b_M_bothEnds 120 = .ok (.getfield 80, 3) := by decide +kernel
theorem d_M_bothEnds_123 : decode b_M_bothEnds 123 = .ok (.bipush 12, 2) := by decide +kernel
theorem d_M_bothEnds_125 : decode b_M_bothEnds 125 = .ok (.iload_n 1, 1) := by decide +kernel
theorem d_M_bothEnds_126 : decode b_M_bothEnds 126 = .ok (.imul, 1) := by decide +kernel
theorem d_M_bothEnds_127 : decode b_M_bothEnds 127 = .ok (.iload_n 2, 1) := by decide +kernel
theorem d_M_bothEnds_128 : decode b_M_bothEnds 128 = .ok (.iadd, 1) := by decide +kernel
theorem d_M_bothEnds_129 : decode b_M_bothEnds 129 = .ok (.iload_n 3, 1) := by decide +kernel
theorem d_M_bothEnds_130 : decode b_M_bothEnds 130 = .ok (.ldc 128, 2) := by decide +kernel
theorem d_M_bothEnds_132 : decode b_M_bothEnds 132 = .ok (.if_icmp .ge 13, 3) := by decide +kernel
theorem d_M_bothEnds_135 : decode b_M_bothEnds 135 = .ok (.aload_n 0, 1) := by decide +kernel
theorem d_M_bothEnds_136 : decode b_M_bothEnds 136 = .ok (.iload_n 1, 1) := by decide +kernel
theorem d_M_bothEnds_137 : decode b_M_bothEnds 137 = .ok (.iload_n 2, 1) := by decide +kernel
theorem d_M_bothEnds_138 : decode b_M_bothEnds 138 = .ok (.iconst (-1), 1) := by decide +kernel
theorem d_M_bothEnds_139 : decode b_M_bothEnds 139 = .ok (.invokevirtual 124, 3) := by decide +kernel
theorem d_M_bothEnds_142 : decode b_M_bothEnds 142 = .ok (.ifCond .ne 8, 3) := by decide +kernel
theorem d_M_bothEnds_145 : decode b_M_bothEnds 145 = .ok (.ldc 128, 2) := by decide +kernel
theorem d_M_bothEnds_147 : decode b_M_bothEnds 147 = .ok (.goto 21, 3) := by decide +kernel
theorem d_M_bothEnds_150 : decode b_M_bothEnds 150 = .ok (.iload_n 3, 1) := by decide +kernel
theorem d_M_bothEnds_151 : decode b_M_bothEnds 151 = .ok (.aload_n 0, 1) := by decide +kernel
theorem d_M_bothEnds_152 : decode b_M_bothEnds 152 = .ok (.getfield 13, 3) := by decide +kernel
theorem d_M_bothEnds_155 : decode b_M_bothEnds 155 = .ok (.bipush 10, 2) := by decide +kernel
theorem d_M_bothEnds_157 : decode b_M_bothEnds 157 = .ok (.iload_n 2, 1) := by decide +kernel
theorem d_M_bothEnds_158 : decode b_M_bothEnds 158 = .ok (.imul, 1) := by decide +kernel
theorem d_M_bothEnds_159 : decode b_M_bothEnds 159 = .ok (.aload_n 0, 1) := by decide +kernel
theorem d_M_bothEnds_160 : decode b_M_bothEnds 160 = .ok (.getfield 26, 3) := by decide +kernel
theorem d_M_bothEnds_163 : decode b_M_bothEnds 163 = .ok (.iload_n 1, 1) := by decide +kernel
theorem d_M_bothEnds_164 : decode b_M_bothEnds 164 = .ok (.iaload, 1) := by decide +kernel
theorem d_M_bothEnds_165 : decode b_M_bothEnds 165 = .ok (.iadd, 1) := by decide +kernel
theorem d_M_bothEnds_166 : decode b_M_bothEnds 166 = .ok (.iaload, 1) := by decide +kernel
theorem d_M_bothEnds_167 : decode b_M_bothEnds 167 = .ok (.iadd, 1) := by decide +kernel
theorem d_M_bothEnds_168 : decode b_M_bothEnds 168 = .ok (.iastore, 1) := by decide +kernel
theorem d_M_bothEnds_169 : decode b_M_bothEnds 169 = .ok (.iinc 2 1, 3) := by decide +kernel
theorem d_M_bothEnds_172 : decode b_M_bothEnds 172 = .ok (.goto (-160), 3) := by decide +kernel
theorem d_M_bothEnds_175 : decode b_M_bothEnds 175 = .ok (.iinc 1 1, 3) := by decide +kernel
theorem d_M_bothEnds_178 : decode b_M_bothEnds 178 = .ok (.goto (-176), 3) := by decide +kernel
theorem d_M_bothEnds_181 : decode b_M_bothEnds 181 = .ok (.aload_n 0, 1) := by decide +kernel
theorem d_M_bothEnds_182 : decode b_M_bothEnds 182 = .ok (.getfield 93, 3) := by decide +kernel
theorem d_M_bothEnds_185 : decode b_M_bothEnds 185 = .ok (.iconst 1, 1) := by decide +kernel
theorem d_M_bothEnds_186 : decode b_M_bothEnds 186 = .ok (.isub, 1) := by decide +kernel
theorem d_M_bothEnds_187 : decode b_M_bothEnds 187 = .ok (.istore_n 1, 1) := by decide +kernel
theorem d_M_bothEnds_188 : decode b_M_bothEnds 188 = .ok (.iload_n 1, 1) := by decide +kernel
theorem d_M_bothEnds_189 : decode b_M_bothEnds 189 = .ok (.ifCond .lt 186, 3) := by decide +kernel
theorem d_M_bothEnds_192 : decode b_M_bothEnds 192 = .ok (.iconst 0, 1) := by decide +kernel
theorem d_M_bothEnds_193 : decode b_M_bothEnds 193 = .ok (.istore_n 2, 1) := by decide +kernel
theorem d_M_bothEnds_194 : decode b_M_bothEnds 194 = .ok (.iload_n 2, 1) := by decide +kernel
theorem d_M_bothEnds_195 : decode b_M_bothEnds 195 = .ok (.aload_n 0, 1) := by decide +kernel
theorem d_M_bothEnds_196 : decode b_M_bothEnds 196 = .ok (.getfield 89, 3) := by decide +kernel
theorem d_M_bothEnds_199 : decode b_M_bothEnds 199 = .ok (.if_icmp .ge 170, 3) := by decide +kernel
theorem d_M_bothEnds_202 : decode b_M_bothEnds 202 = .ok (.iload_n 1, 1) := by decide +kernel
theorem d_M_bothEnds_203 : decode b_M_bothEnds 203 = .ok (.aload_n 0, 1) := by decide +kernel
theorem d_M_bothEnds_204 : decode b_M_bothEnds 204 = .ok (.getfield 93, 3) := by decide +kernel
theorem d_M_bothEnds_207 : decode b_M_bothEnds 207 = .ok (.iconst 1, 1) := by decide +kernel
theorem d_M_bothEnds_208 : decode b_M_bothEnds 208 = .ok (.isub, 1) := by decide +kernel
theorem d_M_bothEnds_209 : decode b_M_bothEnds 209 = .ok (.if_icmp .ne 7, 3) := by decide +kernel
theorem d_M_bothEnds_212 : decode b_M_bothEnds 212 = .ok (.iconst 0, 1) := by decide +kernel
theorem d_M_bothEnds_213 : decode b_M_bothEnds 213 = .ok (.goto 5, 3) := by decide +kernel
theorem d_M_bothEnds_216 : decode b_M_bothEnds 216 = .ok (.ldc 128, 2) := by decide +kernel
theorem d_M_bothEnds_218 : decode b_M_bothEnds 218 = .ok (.istore_n 3, 1) := by decide +kernel
theorem d_M_bothEnds_219 : decode b_M_bothEnds 219 = .ok (.iconst 0, 1) := by decide +kernel
theorem d_M_bothEnds_220 : decode b_M_bothEnds 220 = .ok (.istore 4, 2) := by decide +kernel
theorem d_M_bothEnds_222 : decode b_M_bothEnds 222 = .ok (.iload 4, 2) := by decide +kernel
theorem d_M_bothEnds_224 : decode b_M_bothEnds 224 = .ok (.aload_n 0, 1) := by decide +kernel
theorem d_M_bothEnds_225 : decode b_M_bothEnds 225 = .ok (.getfield 89, 3) := by decide +kernel
theorem d_M_bothEnds_228 : decode b_M_bothEnds 228 = .ok (.if_icmp .ge 85, 3) := by decide +kernel
theorem d_M_bothEnds_231 : decode b_M_bothEnds 231 = .ok (.iload_n 1, 1) := by decide +kernel
theorem d_M_bothEnds_232 : decode b_M_bothEnds 232 = .ok (.aload_n 0, 1) := by decide +kernel
theorem d_M_bothEnds_233 : decode b_M_bothEnds 233 = .ok (.getfield 93, 3) := by decide +kernel
theorem d_M_bothEnds_236 : decode b_M_bothEnds 236 = .ok (.iconst 1, 1) := by decide +kernel
theorem d_M_bothEnds_237 : decode b_M_bothEnds 237 = .ok (.isub, 1) := by decide +kernel
theorem d_M_bothEnds_238 : decode b_M_bothEnds 238 = .ok (.if_icmp .ge 75, 3) := by decide +kernel
theorem d_M_bothEnds_241 : decode b_M_bothEnds 241 = .ok (.aload_n 0, 1) := by decide +kernel
theorem d_M_bothEnds_242 : decode b_M_bothEnds 242 = .ok (.getfield 83, 3) := by decide +kernel
theorem d_M_bothEnds_245 : decode b_M_bothEnds 245 = .ok (.bipush 12, 2) := by decide +kernel
theorem d_M_bothEnds_247 : decode b_M_bothEnds 247 = .ok (.iload_n 1, 1) := by decide +kernel
theorem d_M_bothEnds_248 : decode b_M_bothEnds 248 = .ok (.iconst 1, 1) := by decide +kernel
theorem d_M_bothEnds_249 : decode b_M_bothEnds 249 = .ok (.iadd, 1) := by decide +kernel
theorem d_M_bothEnds_250 : decode b_M_bothEnds 250 = .ok (.imul, 1) := by decide +kernel
theorem d_M_bothEnds_251 : decode b_M_bothEnds 251 = .ok (.iload 4, 2) := by decide +kernel
theorem d_M_bothEnds_253 : decode b_M_bothEnds 253 = .ok (.iadd, 1) := by decide +kernel
theorem d_M_bothEnds_254 : decode b_M_bothEnds 254 = .ok (.iaload, 1) := by decide +kernel
theorem d_M_bothEnds_255 : decode b_M_bothEnds 255 = .ok (.ldc 128, 2) := by decide +kernel
theorem d_M_bothEnds_257 : decode b_M_bothEnds 257 = .ok (.if_icmp .lt 8, 3) := by decide +kernel
theorem d_M_bothEnds_260 : decode b_M_bothEnds 260 = .ok (.ldc 128, 2) := by decide +kernel
theorem d_M_bothEnds_262 : decode b_M_bothEnds 262 = .ok (.goto 30, 3) := by decide +kernel
theorem d_M_bothEnds_265 : decode b_M_bothEnds 265 = .ok (.aload_n 0, 1) := by decide +kernel
theorem d_M_bothEnds_266 : decode b_M_bothEnds 266 = .ok (.getfield 83, 3) := by decide +kernel
theorem d_M_bothEnds_269 : decode b_M_bothEnds 269 = .ok (.bipush 12, 2) := by decide +kernel
theorem d_M_bothEnds_271 : decode b_M_bothEnds 271 = .ok (.iload_n 1, 1) := by decide +kernel
theorem d_M_bothEnds_272 : decode b_M_bothEnds 272 = .ok (.iconst 1, 1) := by decide +kernel
theorem d_M_bothEnds_273 : decode b_M_bothEnds 273 = .ok (.iadd, 1) := by decide +kernel
theorem d_M_bothEnds_274 : decode b_M_bothEnds 274 = .ok (.imul, 1) := by decide +kernel
theorem d_M_bothEnds_275 : decode b_M_bothEnds 275 = .ok (.iload 4, 2) := by decide +kernel
theorem d_M_bothEnds_277 : decode b_M_bothEnds 277 = .ok (.iadd, 1) := by decide +kernel
theorem d_M_bothEnds_278 : decode b_M_bothEnds 278 = .ok (.iaload, 1) := by decide +kernel
theorem d_M_bothEnds_279 : decode b_M_bothEnds 279 = .ok (.aload_n 0, 1) := by decide +kernel
theorem d_M_bothEnds_280 : decode b_M_bothEnds 280 = .ok (.getfield 7, 3) := by decide +kernel
theorem d_M_bothEnds_283 : decode b_M_bothEnds 283 = .ok (.bipush 12, 2) := by decide +kernel
theorem d_M_bothEnds_285 : decode b_M_bothEnds 285 = .ok (.iload_n 2, 1) := by decide +kernel
theorem d_M_bothEnds_286 : decode b_M_bothEnds 286 = .ok (.imul, 1) := by decide +kernel
theorem d_M_bothEnds_287 : decode b_M_bothEnds 287 = .ok (.iload 4, 2) := by decide +kernel
theorem d_M_bothEnds_289 : decode b_M_bothEnds 289 = .ok (.iadd, 1) := by decide +kernel
theorem d_M_bothEnds_290 : decode b_M_bothEnds 290 = .ok (.iaload, 1) := by decide +kernel
theorem d_M_bothEnds_291 : decode b_M_bothEnds 291 = .ok (.iadd, 1) := by decide +kernel
theorem d_M_bothEnds_292 : decode b_M_bothEnds 292 = .ok (.istore 5, 2) := by decide +kernel
theorem d_M_bothEnds_294 : decode b_M_bothEnds 294 = .ok (.iload 5, 2) := by decide +kernel
theorem d_M_bothEnds_296 : decode b_M_bothEnds 296 = .ok (.iload_n 3, 1) := by decide +kernel
theorem d_M_bothEnds_297 : decode b_M_bothEnds 297 = .ok (.if_icmp .ge 8, 3) := by decide +kernel
theorem d_M_bothEnds_300 : decode b_M_bothEnds 300 = .ok (.iload 5, 2) := by decide +kernel
theorem d_M_bothEnds_302 : decode b_M_bothEnds 302 = .ok (.goto 4, 3) := by decide +kernel
theorem d_M_bothEnds_305 : decode b_M_bothEnds 305 = .ok (.iload_n 3, 1) := by decide +kernel
theorem d_M_bothEnds_306 : decode b_M_bothEnds 306 = .ok (.istore_n 3, 1) := by decide +kernel
theorem d_M_bothEnds_307 : decode b_M_bothEnds 307 = .ok (.iinc 4 1, 3) := by decide +kernel
theorem d_M_bothEnds_310 : decode b_M_bothEnds 310 = .ok (.goto (-88), 3) := by decide +kernel
theorem d_M_bothEnds_313 : decode b_M_bothEnds 313 = .ok (.aload_n 0, 1) := by decide +kernel
theorem d_M_bothEnds_314 : decode b_M_bothEnds 314 = .ok (.getfield 83, 3) := by decide +kernel
theorem d_M_bothEnds_317 : decode b_M_bothEnds 317 = .ok (.bipush 12, 2) := by decide +kernel
theorem d_M_bothEnds_319 : decode b_M_bothEnds 319 = .ok (.iload_n 1, 1) := by decide +kernel
theorem d_M_bothEnds_320 : decode b_M_bothEnds 320 = .ok (.imul, 1) := by decide +kernel
theorem d_M_bothEnds_321 : decode b_M_bothEnds 321 = .ok (.iload_n 2, 1) := by decide +kernel
theorem d_M_bothEnds_322 : decode b_M_bothEnds 322 = .ok (.iadd, 1) := by decide +kernel
theorem d_M_bothEnds_323 : decode b_M_bothEnds 323 = .ok (.iload_n 3, 1) := by decide +kernel
theorem d_M_bothEnds_324 : decode b_M_bothEnds 324 = .ok (.ldc 128, 2) := by decide +kernel
theorem d_M_bothEnds_326 : decode b_M_bothEnds 326 = .ok (.if_icmp .ge 13, 3) := by decide +kernel
theorem d_M_bothEnds_329 : decode b_M_bothEnds 329 = .ok (.aload_n 0, 1) := by decide +kernel
theorem d_M_bothEnds_330 : decode b_M_bothEnds 330 = .ok (.iload_n 1, 1) := by decide +kernel
theorem d_M_bothEnds_331 : decode b_M_bothEnds 331 = .ok (.iload_n 2, 1) := by decide +kernel
theorem d_M_bothEnds_332 : decode b_M_bothEnds 332 = .ok (.iconst (-1), 1) := by decide +kernel
theorem d_M_bothEnds_333 : decode b_M_bothEnds 333 = .ok (.invokevirtual 124, 3) := by decide +kernel
theorem d_M_bothEnds_336 : decode b_M_bothEnds 336 = .ok (.ifCond .ne 8, 3) := by decide +kernel
theorem d_M_bothEnds_339 : decode b_M_bothEnds 339 = .ok (.ldc 128, 2) := by decide +kernel
theorem d_M_bothEnds_341 : decode b_M_bothEnds 341 = .ok (.goto 21, 3) := by decide +kernel
theorem d_M_bothEnds_344 : decode b_M_bothEnds 344 = .ok (.iload_n 3, 1) := by decide +kernel
theorem d_M_bothEnds_345 : decode b_M_bothEnds 345 = .ok (.aload_n 0, 1) := by decide +kernel
theorem d_M_bothEnds_346 : decode b_M_bothEnds 346 = .ok (.getfield 13, 3) := by decide +kernel
theorem d_M_bothEnds_349 : decode b_M_bothEnds 349 = .ok (.bipush 10, 2) := by decide +kernel
theorem d_M_bothEnds_351 : decode b_M_bothEnds 351 = .ok (.iload_n 2, 1) := by decide +kernel
theorem d_M_bothEnds_352 : decode b_M_bothEnds 352 = .ok (.imul, 1) := by decide +kernel
theorem d_M_bothEnds_353 : decode b_M_bothEnds 353 = .ok (.aload_n 0, 1) := by decide +kernel
theorem d_M_bothEnds_354 : decode b_M_bothEnds 354 = .ok (.getfield 26, 3) := by decide +kernel
theorem d_M_bothEnds_357 : decode b_M_bothEnds 357 = .ok (.iload_n 1, 1) := by decide +kernel
theorem d_M_bothEnds_358 : decode b_M_bothEnds 358 = .ok (.iaload, 1) := by decide +kernel
theorem d_M_bothEnds_359 : decode b_M_bothEnds 359 = .ok (.iadd, 1) := by decide +kernel
theorem d_M_bothEnds_360 : decode b_M_bothEnds 360 = .ok (.iaload, 1) := by decide +kernel
theorem d_M_bothEnds_361 : decode b_M_bothEnds 361 = .ok (.iadd, 1) := by decide +kernel
theorem d_M_bothEnds_362 : decode b_M_bothEnds 362 = .ok (.iastore, 1) := by decide +kernel
theorem d_M_bothEnds_363 : decode b_M_bothEnds 363 = .ok (.iinc 2 1, 3) := by decide +kernel
theorem d_M_bothEnds_366 : decode b_M_bothEnds 366 = .ok (.goto (-172), 3) := by decide +kernel
theorem d_M_bothEnds_369 : decode b_M_bothEnds 369 = .ok (.iinc 1 (-1), 3) := by decide +kernel
theorem d_M_bothEnds_372 : decode b_M_bothEnds 372 = .ok (.goto (-184), 3) := by decide +kernel
theorem d_M_bothEnds_375 : decode b_M_bothEnds 375 = .ok (.return_, 1) := by decide +kernel
theorem d_M_fit_0 : decode b_M_fit 0 = .ok (.iload_n 1, 1) := by decide +kernel
theorem d_M_fit_1 : decode b_M_fit 1 = .ok (.iconst 1, 1) := by decide +kernel
theorem d_M_fit_2 : decode b_M_fit 2 = .ok (.if_icmp .lt 16, 3) := by decide +kernel
theorem d_M_fit_5 : decode b_M_fit 5 = .ok (.iload_n 1, 1) := by decide +kernel
theorem d_M_fit_6 : decode b_M_fit 6 = .ok (.bipush 20, 2) := by decide +kernel
theorem d_M_fit_8 : decode b_M_fit 8 = .ok (.if_icmp .gt 10, 3) := by decide +kernel
theorem d_M_fit_11 : decode b_M_fit 11 = .ok (.aload_n 0, 1) := by decide +kernel
theorem d_M_fit_12 : decode b_M_fit 12 = .ok (.getfield 93, 3) := by decide +kernel
theorem d_M_fit_15 : decode b_M_fit 15 = .ok (.ifCond .ne 5, 3) := by decide +kernel
theorem d_M_fit_18 : decode b_M_fit 18 = .ok (.iconst (-1), 1) := by decide +kernel
theorem d_M_fit_19 : decode b_M_fit 19 = .ok (.ireturn, 1) := by decide +kernel
theorem d_M_fit_20 : decode b_M_fit 20 = .ok (.aload_n 0, 1) := by decide +kernel
theorem d_M_fit_21 : decode b_M_fit 21 = .ok (.invokevirtual 145, 3) := by decide +kernel
theorem d_M_fit_24 : decode b_M_fit 24 = .ok (.aload_n 0, 1) := by decide +kernel
theorem d_M_fit_25 : decode b_M_fit 25 = .ok (.iconst 1, 1) := by decide +kernel
theorem d_M_fit_26 : decode b_M_fit 26 = .ok (.putfield 150, 3) := by decide +kernel
theorem d_M_fit_29 : decode b_M_fit 29 = .ok (.aload_n 0, 1) := by decide +kernel
theorem d_M_fit_30 : decode b_M_fit 30 = .ok (.getfield 65, 3) := by decide +kernel
theorem d_M_fit_33 : decode b_M_fit 33 = .ok (.iconst 0, 1) := by decide +kernel
theorem d_M_fit_34 : decode b_M_fit 34 = .ok (.aload_n 0, 1) := by decide +kernel
theorem d_M_fit_35 : decode b_M_fit 35 = .ok (.getfield 136, 3) := by decide +kernel
theorem d_M_fit_38 : decode b_M_fit 38 = .ok (.i2l, 1) := by decide +kernel
theorem d_M_fit_39 : decode b_M_fit 39 = .ok (.lastore, 1) := by decide +kernel
theorem d_M_fit_40 : decode b_M_fit 40 = .ok (.iconst 1, 1) := by decide +kernel
theorem d_M_fit_41 : decode b_M_fit 41 = .ok (.istore_n 2, 1) := by decide +kernel
theorem d_M_fit_42 : decode b_M_fit 42 = .ok (.iconst 0, 1) := by decide +kernel
theorem d_M_fit_43 : decode b_M_fit 43 = .ok (.istore_n 3, 1) := by decide +kernel
theorem d_M_fit_44 : decode b_M_fit 44 = .ok (.iload_n 3, 1) := by decide +kernel
theorem d_M_fit_45 : decode b_M_fit 45 = .ok (.iload_n 1, 1) := by decide +kernel
theorem d_M_fit_46 : decode b_M_fit 46 = .ok (.if_icmp .ge 80, 3) := by decide +kernel
theorem d_M_fit_49 : decode b_M_fit 49 = .ok (.iload_n 2, 1) := by decide +kernel
theorem d_M_fit_50 : decode b_M_fit 50 = .ok (.ifCond .eq 76, 3) := by decide +kernel
theorem d_M_fit_53 : decode b_M_fit 53 = .ok (.aload_n 0, 1) := by decide +kernel
theorem d_M_fit_54 : decode b_M_fit 54 = .ok (.iconst 0, 1) := by decide +kernel
theorem d_M_fit_55 : decode b_M_fit 55 = .ok (.invokevirtual 153, 3) := by decide +kernel
theorem d_M_fit_58 : decode b_M_fit 58 = .ok (.aload_n 0, 1) := by decide +kernel
theorem d_M_fit_59 : decode b_M_fit 59 = .ok (.invokevirtual 157, 3) := by decide +kernel
theorem d_M_fit_62 : decode b_M_fit 62 = .ok (.aload_n 0, 1) := by decide +kernel
theorem d_M_fit_63 : decode b_M_fit 63 = .ok (.iconst (-1), 1) := by decide +kernel
theorem d_M_fit_64 : decode b_M_fit 64 = .ok (.invokevirtual 132, 3) := by decide +kernel
theorem d_M_fit_67 : decode b_M_fit 67 = .ok (.aload_n 0, 1) := by decide +kernel
theorem d_M_fit_68 : decode b_M_fit 68 = .ok (.getfield 136, 3) := by decide +kernel
theorem d_M_fit_71 : decode b_M_fit 71 = .ok (.if_icmp .ge 7, 3) := by decide +kernel
theorem d_M_fit_74 : decode b_M_fit 74 = .ok (.iconst 1, 1) := by decide +kernel
theorem d_M_fit_75 : decode b_M_fit 75 = .ok (.goto 4, 3) := by decide +kernel
theorem d_M_fit_78 : decode b_M_fit 78 = .ok (.iconst 0, 1) := by decide +kernel
theorem d_M_fit_79 : decode b_M_fit 79 = .ok (.istore_n 2, 1) := by decide +kernel
theorem d_M_fit_80 : decode b_M_fit 80 = .ok (.iload_n 2, 1) := by decide +kernel
theorem d_M_fit_81 : decode b_M_fit 81 = .ok (.ifCond .eq 34, 3) := by decide +kernel
theorem d_M_fit_84 : decode b_M_fit 84 = .ok (.aload_n 0, 1) := by decide +kernel
theorem d_M_fit_85 : decode b_M_fit 85 = .ok (.invokevirtual 145, 3) := by decide +kernel
theorem d_M_fit_88 : decode b_M_fit 88 = .ok (.aload_n 0, 1) := by decide +kernel
theorem d_M_fit_89 : decode b_M_fit 89 = .ok (.getfield 65, 3) := by decide +kernel
theorem d_M_fit_92 : decode b_M_fit 92 = .ok (.aload_n 0, 1) := by decide +kernel
theorem d_M_fit_93 : decode b_M_fit 93 = .ok (.getfield 150, 3) := by decide +kernel
theorem d_M_fit_96 : decode b_M_fit 96 = .ok (.aload_n 0, 1) := by decide +kernel
theorem d_M_fit_97 : decode b_M_fit 97 = .ok (.getfield 136, 3) := by decide +kernel
theorem d_M_fit_100 : decode b_M_fit 100 = .ok (.i2l, 1) := by decide +kernel
theorem d_M_fit_101 : decode b_M_fit 101 = .ok (.lastore, 1) := by decide +kernel
theorem d_M_fit_102 : decode b_M_fit 102 = .ok (.aload_n 0, 1) := by decide +kernel
theorem d_M_fit_103 : decode b_M_fit 103 = .ok (.dup, 1) := by decide +kernel
theorem d_M_fit_104 : decode b_M_fit 104 = .ok (.getfield 150, 3) := by decide +kernel
theorem d_M_fit_107 : decode b_M_fit 107 = .ok (.iconst 1, 1) := by decide +kernel
theorem d_M_fit_108 : decode b_M_fit 108 = .ok (.iadd, 1) := by decide +kernel
theorem d_M_fit_109 : decode b_M_fit 109 = .ok (.putfield 150, 3) := by decide +kernel
theorem d_M_fit_112 : decode b_M_fit 112 = .ok (.goto 8, 3) := by decide +kernel
theorem d_M_fit_115 : decode b_M_fit 115 = .ok (.aload_n 0, 1) := by decide +kernel
theorem d_M_fit_116 : decode b_M_fit 116 = .ok (.iconst 1, 1) := by decide +kernel
theorem d_M_fit_117 : decode b_M_fit 117 = .ok (.invokevirtual 153, 3) := by decide +kernel
theorem d_M_fit_120 : decode b_M_fit 120 = .ok (.iinc 3 1, 3) := by decide +kernel
theorem d_M_fit_123 : decode b_M_fit 123 = .ok (.goto (-79), 3) := by decide +kernel
theorem d_M_fit_126 : decode b_M_fit 126 = .ok (.aload_n 0, 1) := by decide +kernel
theorem d_M_fit_127 : decode b_M_fit 127 = .ok (.getfield 150, 3) := by decide +kernel
theorem d_M_fit_130 : decode b_M_fit 130 = .ok (.iconst 1, 1) := by decide +kernel
theorem d_M_fit_131 : decode b_M_fit 131 = .ok (.isub, 1) := by decide +kernel
theorem d_M_fit_132 : decode b_M_fit 132 = .ok (.ireturn, 1) := by decide +kernel
theorem d_M_save_0 : decode b_M_save 0 = .ok (.iconst 0, 1) := by decide +kernel
theorem d_M_save_1 : decode b_M_save 1 = .ok (.istore_n 2, 1) := by decide +kernel
theorem d_M_save_2 : decode b_M_save 2 = .ok (.iload_n 2, 1) := by decide +kernel
theorem d_M_save_3 : decode b_M_save 3 = .ok (.sipush 144, 3) := by decide +kernel
theorem d_M_save_6 : decode b_M_save 6 = .ok (.if_icmp .ge 46, 3) := by decide +kernel
theorem d_M_save_9 : decode b_M_save 9 = .ok (.aload_n 0, 1) := by decide +kernel
theorem d_M_save_10 : decode b_M_save 10 = .ok (.getfield 7, 3) := by decide +kernel
theorem d_M_save_13 : decode b_M_save 13 = .ok (.iload_n 2, 1) := by decide +kernel
theorem d_M_save_14 : decode b_M_save 14 = .ok (.iload_n 1, 1) := by decide +kernel
theorem d_M_save_15 : decode b_M_save 15 = .ok (.ifCond .eq 12, 3) := by decide +kernel
theorem d_M_save_18 : decode b_M_save 18 = .ok (.aload_n 0, 1) := by decide +kernel
theorem d_M_save_19 : decode b_M_save 19 = .ok (.getfield 16, 3) := by decide +kernel
theorem d_M_save_22 : decode b_M_save 22 = .ok (.iload_n 2, 1) := by decide +kernel
theorem d_M_save_23 : decode b_M_save 23 = .ok (.iaload, 1) := by decide +kernel
theorem d_M_save_24 : decode b_M_save 24 = .ok (.goto 9, 3) := by decide +kernel
theorem d_M_save_27 : decode b_M_save 27 = .ok (.aload_n 0, 1) := by decide +kernel
theorem d_M_save_28 : decode b_M_save 28 = .ok (.getfield 7, 3) := by decide +kernel
theorem d_M_save_31 : decode b_M_save 31 = .ok (.iload_n 2, 1) := by decide +kernel
theorem d_M_save_32 : decode b_M_save 32 = .ok (.iaload, 1) := by decide +kernel
theorem d_M_save_33 : decode b_M_save 33 = .ok (.iastore, 1) := by decide +kernel
theorem d_M_save_34 : decode b_M_save 34 = .ok (.aload_n 0, 1) := by decide +kernel
theorem d_M_save_35 : decode b_M_save 35 = .ok (.getfield 16, 3) := by decide +kernel
theorem d_M_save_38 : decode b_M_save 38 = .ok (.iload_n 2, 1) := by decide +kernel
theorem d_M_save_39 : decode b_M_save 39 = .ok (.aload_n 0, 1) := by decide +kernel
theorem d_M_save_40 : decode b_M_save 40 = .ok (.getfield 7, 3) := by decide +kernel
theorem d_M_save_43 : decode b_M_save 43 = .ok (.iload_n 2, 1) := by decide +kernel
theorem d_M_save_44 : decode b_M_save 44 = .ok (.iaload, 1) := by decide +kernel
theorem d_M_save_45 : decode b_M_save 45 = .ok (.iastore, 1) := by decide +kernel
theorem d_M_save_46 : decode b_M_save 46 = .ok (.iinc 2 1, 3) := by decide +kernel
theorem d_M_save_49 : decode b_M_save 49 = .ok (.goto (-47), 3) := by decide +kernel
theorem d_M_save_52 : decode b_M_save 52 = .ok (.iconst 0, 1) := by decide +kernel
theorem d_M_save_53 : decode b_M_save 53 = .ok (.istore_n 2, 1) := by decide +kernel
theorem d_M_save_54 : decode b_M_save 54 = .ok (.iload_n 2, 1) := by decide +kernel
theorem d_M_save_55 : decode b_M_save 55 = .ok (.bipush 120, 2) := by decide +kernel
theorem d_M_save_57 : decode b_M_save 57 = .ok (.if_icmp .ge 46, 3) := by decide +kernel
theorem d_M_save_60 : decode b_M_save 60 = .ok (.aload_n 0, 1) := by decide +kernel
theorem d_M_save_61 : decode b_M_save 61 = .ok (.getfield 13, 3) := by decide +kernel
theorem d_M_save_64 : decode b_M_save 64 = .ok (.iload_n 2, 1) := by decide +kernel
theorem d_M_save_65 : decode b_M_save 65 = .ok (.iload_n 1, 1) := by decide +kernel
theorem d_M_save_66 : decode b_M_save 66 = .ok (.ifCond .eq 12, 3) := by decide +kernel
theorem d_M_save_69 : decode b_M_save 69 = .ok (.aload_n 0, 1) := by decide +kernel
theorem d_M_save_70 : decode b_M_save 70 = .ok (.getfield 19, 3) := by decide +kernel
theorem d_M_save_73 : decode b_M_save 73 = .ok (.iload_n 2, 1) := by decide +kernel
theorem d_M_save_74 : decode b_M_save 74 = .ok (.iaload, 1) := by decide +kernel
theorem d_M_save_75 : decode b_M_save 75 = .ok (.goto 9, 3) := by decide +kernel
theorem d_M_save_78 : decode b_M_save 78 = .ok (.aload_n 0, 1) := by decide +kernel
theorem d_M_save_79 : decode b_M_save 79 = .ok (.getfield 13, 3) := by decide +kernel
theorem d_M_save_82 : decode b_M_save 82 = .ok (.iload_n 2, 1) := by decide +kernel
theorem d_M_save_83 : decode b_M_save 83 = .ok (.iaload, 1) := by decide +kernel
theorem d_M_save_84 : decode b_M_save 84 = .ok (.iastore, 1) := by decide +kernel
theorem d_M_save_85 : decode b_M_save 85 = .ok (.aload_n 0, 1) := by decide +kernel
theorem d_M_save_86 : decode b_M_save 86 = .ok (.getfield 19, 3) := by decide +kernel
theorem d_M_save_89 : decode b_M_save 89 = .ok (.iload_n 2, 1) := by decide +kernel
theorem d_M_save_90 : decode b_M_save 90 = .ok (.aload_n 0, 1) := by decide +kernel
theorem d_M_save_91 : decode b_M_save 91 = .ok (.getfield 13, 3) := by decide +kernel
theorem d_M_save_94 : decode b_M_save 94 = .ok (.iload_n 2, 1) := by decide +kernel
theorem d_M_save_95 : decode b_M_save 95 = .ok (.iaload, 1) := by decide +kernel
theorem d_M_save_96 : decode b_M_save 96 = .ok (.iastore, 1) := by decide +kernel
theorem d_M_save_97 : decode b_M_save 97 = .ok (.iinc 2 1, 3) := by decide +kernel
theorem d_M_save_100 : decode b_M_save 100 = .ok (.goto (-46), 3) := by decide +kernel
theorem d_M_save_103 : decode b_M_save 103 = .ok (.return_, 1) := by decide +kernel
theorem d_M_count_0 : decode b_M_count 0 = .ok (.iconst 0, 1) := by decide +kernel
theorem d_M_count_1 : decode b_M_count 1 = .ok (.istore_n 1, 1) := by decide +kernel
theorem d_M_count_2 : decode b_M_count 2 = .ok (.iload_n 1, 1) := by decide +kernel
theorem d_M_count_3 : decode b_M_count 3 = .ok (.aload_n 0, 1) := by decide +kernel
theorem d_M_count_4 : decode b_M_count 4 = .ok (.getfield 89, 3) := by decide +kernel
theorem d_M_count_7 : decode b_M_count 7 = .ok (.if_icmp .ge 284, 3) := by decide +kernel
theorem d_M_count_10 : decode b_M_count 10 = .ok (.lconst 0, 1) := by decide +kernel
theorem d_M_count_11 : decode b_M_count 11 = .ok (.lstore_n 2, 1) := by decide +kernel
theorem d_M_count_12 : decode b_M_count 12 = .ok (.iconst 0, 1) := by decide +kernel
theorem d_M_count_13 : decode b_M_count 13 = .ok (.istore 4, 2) := by decide +kernel
theorem d_M_count_15 : decode b_M_count 15 = .ok (.iload 4, 2) := by decide +kernel
theorem d_M_count_17 : decode b_M_count 17 = .ok (.iconst 1, 1) := by decide +kernel
theorem d_M_count_18 : decode b_M_count 18 = .ok (.iadd, 1) := by decide +kernel
theorem d_M_count_19 : decode b_M_count 19 = .ok (.aload_n 0, 1) := by decide +kernel
theorem d_M_count_20 : decode b_M_count 20 = .ok (.getfield 93, 3) := by decide +kernel
theorem d_M_count_23 : decode b_M_count 23 = .ok (.if_icmp .ge 28, 3) := by decide +kernel
theorem d_M_count_26 : decode b_M_count 26 = .ok (.lload_n 2, 1) := by decide +kernel
theorem d_M_count_27 : decode b_M_count 27 = .ok (.aload_n 0, 1) := by decide +kernel
theorem d_M_count_28 : decode b_M_count 28 = .ok (.getfield 59, 3) := by decide +kernel
theorem d_M_count_31 : decode b_M_count 31 = .ok (.iload 4, 2) := by decide +kernel
theorem d_M_count_33 : decode b_M_count 33 = .ok (.iaload, 1) := by decide +kernel
theorem d_M_count_34 : decode b_M_count 34 = .ok (.iload_n 1, 1) := by decide +kernel
theorem d_M_count_35 : decode b_M_count 35 = .ok (.if_icmp .ne 7, 3) := by decide +kernel
theorem d_M_count_38 : decode b_M_count 38 = .ok (.lconst 1, 1) := by decide +kernel
theorem d_M_count_39 : decode b_M_count 39 = .ok (.goto 4, 3) := by decide +kernel
theorem d_M_count_42 : decode b_M_count 42 = .ok (.lconst 0, 1) := by decide +kernel
theorem d_M_count_43 : decode b_M_count 43 = .ok (.ladd, 1) := by decide +kernel
theorem d_M_count_44 : decode b_M_count 44 = .ok (.lstore_n 2, 1) := by decide +kernel
theorem d_M_count_45 : decode b_M_count 45 = .ok (.iinc 4 1, 3) := by decide +kernel
theorem d_M_count_48 : decode b_M_count 48 = .ok (.goto (-33), 3) := by decide +kernel
theorem d_M_count_51 : decode b_M_count 51 = .ok (.iconst 0, 1) := by decide +kernel
theorem d_M_count_52 : decode b_M_count 52 = .ok (.istore 4, 2) := by decide +kernel
theorem d_M_count_54 : decode b_M_count 54 = .ok (.iload 4, 2) := by decide +kernel
theorem d_M_count_56 : decode b_M_count 56 = .ok (.aload_n 0, 1) := by decide +kernel
theorem d_M_count_57 : decode b_M_count 57 = .ok (.getfield 89, 3) := by decide +kernel
theorem d_M_count_60 : decode b_M_count 60 = .ok (.if_icmp .ge 96, 3) := by decide +kernel
theorem d_M_count_63 : decode b_M_count 63 = .ok (.lload_n 2, 1) := by decide +kernel
theorem d_M_count_64 : decode b_M_count 64 = .ok (.lconst 0, 1) := by decide +kernel
theorem d_M_count_65 : decode b_M_count 65 = .ok (.lcmp, 1) := by decide +kernel
theorem d_M_count_66 : decode b_M_count 66 = .ok (.ifCond .le 90, 3) := by decide +kernel
theorem d_M_count_69 : decode b_M_count 69 = .ok (.lconst 0, 1) := by decide +kernel
theorem d_M_count_70 : decode b_M_count 70 = .ok (.lstore 5, 2) := by decide +kernel
theorem d_M_count_72 : decode b_M_count 72 = .ok (.iconst 0, 1) := by decide +kernel
theorem d_M_count_73 : decode b_M_count 73 = .ok (.istore 7, 2) := by decide +kernel
theorem d_M_count_75 : decode b_M_count 75 = .ok (.iload 7, 2) := by decide +kernel
theorem d_M_count_77 : decode b_M_count 77 = .ok (.iconst 1, 1) := by decide +kernel
theorem d_M_count_78 : decode b_M_count 78 = .ok (.iadd, 1) := by decide +kernel
theorem d_M_count_79 : decode b_M_count 79 = .ok (.aload_n 0, 1) := by decide +kernel
theorem d_M_count_80 : decode b_M_count 80 = .ok (.getfield 93, 3) := by decide +kernel
theorem d_M_count_83 : decode b_M_count 83 = .ok (.if_icmp .ge 44, 3) := by decide +kernel
theorem d_M_count_86 : decode b_M_count 86 = .ok (.lload 5, 2) := by decide +kernel
theorem d_M_count_88 : decode b_M_count 88 = .ok (.aload_n 0, 1) := by decide +kernel
theorem d_M_count_89 : decode b_M_count 89 = .ok (.getfield 59, 3) := by decide +kernel
theorem d_M_count_92 : decode b_M_count 92 = .ok (.iload 7, 2) := by decide +kernel
theorem d_M_count_94 : decode b_M_count 94 = .ok (.iaload, 1) := by decide +kernel
theorem d_M_count_95 : decode b_M_count 95 = .ok (.iload_n 1, 1) := by decide +kernel
theorem d_M_count_96 : decode b_M_count 96 = .ok (.if_icmp .ne 21, 3) := by decide +kernel
theorem d_M_count_99 : decode b_M_count 99 = .ok (.aload_n 0, 1) := by decide +kernel
theorem d_M_count_100 : decode b_M_count 100 = .ok (.getfield 59, 3) := by decide +kernel
theorem d_M_count_103 : decode b_M_count 103 = .ok (.iload 7, 2) := by decide +kernel
theorem d_M_count_105 : decode b_M_count 105 = .ok (.iconst 1, 1) := by decide +kernel
theorem d_M_count_106 : decode b_M_count 106 = .ok (.iadd, 1) := by decide +kernel
theorem d_M_count_107 : decode b_M_count 107 = .ok (.iaload, 1) := by decide +kernel
theorem d_M_count_108 : decode b_M_count 108 = .ok (.iload 4, 2) := by decide +kernel
theorem d_M_count_110 : decode b_M_count 110 = .ok (.if_icmp .ne 7, 3) := by decide +kernel
theorem d_M_count_113 : decode b_M_count 113 = .ok (.lconst 1, 1) := by decide +kernel
theorem d_M_count_114 : decode b_M_count 114 = .ok (.goto 4, 3) := by decide +kernel
theorem d_M_count_117 : decode b_M_count 117 = .ok (.lconst 0, 1) := by decide +kernel
theorem d_M_count_118 : decode b_M_count 118 = .ok (.ladd, 1) := by decide +kernel
theorem d_M_count_119 : decode b_M_count 119 = .ok (.lstore 5, 2) := by decide +kernel
theorem d_M_count_121 : decode b_M_count 121 = .ok (.iinc 7 1, 3) := by decide +kernel
theorem d_M_count_124 : decode b_M_count 124 = .ok (.goto (-49), 3) := by decide +kernel
theorem d_M_count_127 : decode b_M_count 127 = .ok (.aload_n 0, 1) := by decide +kernel
theorem d_M_count_128 : decode b_M_count 128 = .ok (.getfield 7, 3) := by decide +kernel
theorem d_M_count_131 : decode b_M_count 131 = .ok (.bipush 12, 2) := by decide +kernel
theorem d_M_count_133 : decode b_M_count 133 = .ok (.iload_n 1, 1) := by decide +kernel
theorem d_M_count_134 : decode b_M_count 134 = .ok (.imul, 1) := by decide +kernel
theorem d_M_count_135 : decode b_M_count 135 = .ok (.iload 4, 2) := by decide +kernel
theorem d_M_count_137 : decode b_M_count 137 = .ok (.iadd, 1) := by decide +kernel
theorem d_M_count_138 : decode b_M_count 138 = .ok (.ldc2_w 148, 3) := by decide +kernel
theorem d_M_count_141 : decode b_M_count 141 = .ok (.lload_n 2, 1) := by decide +kernel
theorem d_M_count_142 : decode b_M_count 142 = .ok (.lload 5, 2) := by decide +kernel
theorem d_M_count_144 : decode b_M_count 144 = .ok (.lsub, 1) := by decide +kernel
theorem d_M_count_145 : decode b_M_count 145 = .ok (.lmul, 1) := by decide +kernel
theorem d_M_count_146 : decode b_M_count 146 = .ok (.lload_n 2, 1) := by decide +kernel
theorem d_M_count_147 : decode b_M_count 147 = .ok (.ldiv, 1) := by decide +kernel
theorem d_M_count_148 : decode b_M_count 148 = .ok (.l2i, 1) := by decide +kernel
theorem d_M_count_149 : decode b_M_count 149 = .ok (.iastore, 1) := by decide +kernel
theorem d_M_count_150 : decode b_M_count 150 = .ok (.iinc 4 1, 3) := by decide +kernel
theorem d_M_count_153 : decode b_M_count 153 = .ok (.goto (-99), 3) := by decide +kernel
theorem d_M_count_156 : decode b_M_count 156 = .ok (.lload_n 2, 1) := by decide +kernel
theorem d_M_count_157 : decode b_M_count 157 = .ok (.aload_n 0, 1) := by decide +kernel
theorem d_M_count_158 : decode b_M_count 158 = .ok (.getfield 93, 3) := by decide +kernel
theorem d_M_count_161 : decode b_M_count 161 = .ok (.ifCond .le 22, 3) := by decide +kernel
theorem d_M_count_164 : decode b_M_count 164 = .ok (.aload_n 0, 1) := by decide +kernel
theorem d_M_count_165 : decode b_M_count 165 = .ok (.getfield 59, 3) := by decide +kernel
theorem d_M_count_168 : decode b_M_count 168 = .ok (.aload_n 0, 1) := by decide +kernel
theorem d_M_count_169 : decode b_M_count 169 = .ok (.getfield 93, 3) := by decide +kernel
theorem d_M_count_172 : decode b_M_count 172 = .ok (.iconst 1, 1) := by decide +kernel
theorem d_M_count_173 : decode b_M_count 173 = .ok (.isub, 1) := by decide +kernel
theorem d_M_count_174 : decode b_M_count 174 = .ok (.iaload, 1) := by decide +kernel
theorem d_M_count_175 : decode b_M_count 175 = .ok (.iload_n 1, 1) := by decide +kernel
theorem d_M_count_176 : decode b_M_count 176 = .ok (.if_icmp .ne 7, 3) := by decide +kernel
theorem d_M_count_179 : decode b_M_count 179 = .ok (.lconst 1, 1) := by decide +kernel
theorem d_M_count_180 : decode b_M_count 180 = .ok (.goto 4, 3) := by decide +kernel
theorem d_M_count_183 : decode b_M_count 183 = .ok (.lconst 0, 1) := by decide +kernel
theorem d_M_count_184 : decode b_M_count 184 = .ok (.ladd, 1) := by decide +kernel
theorem d_M_count_185 : decode b_M_count 185 = .ok (.lstore_n 2, 1) := by decide +kernel
theorem d_M_count_186 : decode b_M_count 186 = .ok (.iconst 0, 1) := by decide +kernel
theorem d_M_count_187 : decode b_M_count 187 = .ok (.istore 4, 2) := by decide +kernel
theorem d_M_count_189 : decode b_M_count 189 = .ok (.iload 4, 2) := by decide +kernel
theorem d_M_count_191 : decode b_M_count 191 = .ok (.bipush 10, 2) := by decide +kernel
theorem d_M_count_193 : decode b_M_count 193 = .ok (.if_icmp .ge 92, 3) := by decide +kernel
theorem d_M_count_196 : decode b_M_count 196 = .ok (.lload_n 2, 1) := by decide +kernel
theorem d_M_count_197 : decode b_M_count 197 = .ok (.lconst 0, 1) := by decide +kernel
theorem d_M_count_198 : decode b_M_count 198 = .ok (.lcmp, 1) := by decide +kernel
theorem d_M_count_199 : decode b_M_count 199 = .ok (.ifCond .le 86, 3) := by decide +kernel
theorem d_M_count_202 : decode b_M_count 202 = .ok (.lconst 0, 1) := by decide +kernel
theorem d_M_count_203 : decode b_M_count 203 = .ok (.lstore 5, 2) := by decide +kernel
theorem d_M_count_205 : decode b_M_count 205 = .ok (.iconst 0, 1) := by decide +kernel
theorem d_M_count_206 : decode b_M_count 206 = .ok (.istore 7, 2) := by decide +kernel
theorem d_M_count_208 : decode b_M_count 208 = .ok (.iload 7, 2) := by decide +kernel
theorem d_M_count_210 : decode b_M_count 210 = .ok (.aload_n 0, 1) := by decide +kernel
theorem d_M_count_211 : decode b_M_count 211 = .ok (.getfield 93, 3) := by decide +kernel
theorem d_M_count_214 : decode b_M_count 214 = .ok (.if_icmp .ge 42, 3) := by decide +kernel
theorem d_M_count_217 : decode b_M_count 217 = .ok (.lload 5, 2) := by decide +kernel
theorem d_M_count_219 : decode b_M_count 219 = .ok (.aload_n 0, 1) := by decide +kernel
theorem d_M_count_220 : decode b_M_count 220 = .ok (.getfield 59, 3) := by decide +kernel
theorem d_M_count_223 : decode b_M_count 223 = .ok (.iload 7, 2) := by decide +kernel
theorem d_M_count_225 : decode b_M_count 225 = .ok (.iaload, 1) := by decide +kernel
theorem d_M_count_226 : decode b_M_count 226 = .ok (.iload_n 1, 1) := by decide +kernel
theorem d_M_count_227 : decode b_M_count 227 = .ok (.if_icmp .ne 19, 3) := by decide +kernel
theorem d_M_count_230 : decode b_M_count 230 = .ok (.aload_n 0, 1) := by decide +kernel
theorem d_M_count_231 : decode b_M_count 231 = .ok (.getfield 26, 3) := by decide +kernel
theorem d_M_count_234 : decode b_M_count 234 = .ok (.iload 7, 2) := by decide +kernel
theorem d_M_count_236 : decode b_M_count 236 = .ok (.iaload, 1) := by decide +kernel
theorem d_M_count_237 : decode b_M_count 237 = .ok (.iload 4, 2) := by decide +kernel
theorem d_M_count_239 : decode b_M_count 239 = .ok (.if_icmp .ne 7, 3) := by decide +kernel
theorem d_M_count_242 : decode b_M_count 242 = .ok (.lconst 1, 1) := by decide +kernel
theorem d_M_count_243 : decode b_M_count 243 = .ok (.goto 4, 3) := by decide +kernel
theorem d_M_count_246 : decode b_M_count 246 = .ok (.lconst 0, 1) := by decide +kernel
theorem d_M_count_247 : decode b_M_count 247 = .ok (.ladd, 1) := by decide +kernel
theorem d_M_count_248 : decode b_M_count 248 = .ok (.lstore 5, 2) := by decide +kernel
theorem d_M_count_250 : decode b_M_count 250 = .ok (.iinc 7 1, 3) := by decide +kernel
theorem d_M_count_253 : decode b_M_count 253 = .ok (.goto (-45), 3) := by decide +kernel
theorem d_M_count_256 : decode b_M_count 256 = .ok (.aload_n 0, 1) := by decide +kernel
theorem d_M_count_257 : decode b_M_count 257 = .ok (.getfield 13, 3) := by decide +kernel
theorem d_M_count_260 : decode b_M_count 260 = .ok (.bipush 10, 2) := by decide +kernel
theorem d_M_count_262 : decode b_M_count 262 = .ok (.iload_n 1, 1) := by decide +kernel
theorem d_M_count_263 : decode b_M_count 263 = .ok (.imul, 1) := by decide +kernel
theorem d_M_count_264 : decode b_M_count 264 = .ok (.iload 4, 2) := by decide +kernel
theorem d_M_count_266 : decode b_M_count 266 = .ok (.iadd, 1) := by decide +kernel
theorem d_M_count_267 : decode b_M_count 267 = .ok (.ldc2_w 148, 3) := by decide +kernel
theorem d_M_count_270 : decode b_M_count 270 = .ok (.lload_n 2, 1) := by decide +kernel
theorem d_M_count_271 : decode b_M_count 271 = .ok (.lload 5, 2) := by decide +kernel
theorem d_M_count_273 : decode b_M_count 273 = .ok (.lsub, 1) := by decide +kernel
theorem d_M_count_274 : decode b_M_count 274 = .ok (.lmul, 1) := by decide +kernel
theorem d_M_count_275 : decode b_M_count 275 = .ok (.lload_n 2, 1) := by decide +kernel
theorem d_M_count_276 : decode b_M_count 276 = .ok (.ldiv, 1) := by decide +kernel
theorem d_M_count_277 : decode b_M_count 277 = .ok (.l2i, 1) := by decide +kernel
theorem d_M_count_278 : decode b_M_count 278 = .ok (.iastore, 1) := by decide +kernel
theorem d_M_count_279 : decode b_M_count 279 = .ok (.iinc 4 1, 3) := by decide +kernel
theorem d_M_count_282 : decode b_M_count 282 = .ok (.goto (-93), 3) := by decide +kernel
theorem d_M_count_285 : decode b_M_count 285 = .ok (.iinc 1 1, 3) := by decide +kernel
theorem d_M_count_288 : decode b_M_count 288 = .ok (.goto (-286), 3) := by decide +kernel
theorem d_M_count_291 : decode b_M_count 291 = .ok (.return_, 1) := by decide +kernel
theorem d_M_sum_0 : decode b_M_sum 0 = .ok (.iload_n 1, 1) := by decide +kernel
theorem d_M_sum_1 : decode b_M_sum 1 = .ok (.ifCond .lt 11, 3) := by decide +kernel
theorem d_M_sum_4 : decode b_M_sum 4 = .ok (.iload_n 1, 1) := by decide +kernel
theorem d_M_sum_5 : decode b_M_sum 5 = .ok (.aload_n 0, 1) := by decide +kernel
theorem d_M_sum_6 : decode b_M_sum 6 = .ok (.getfield 150, 3) := by decide +kernel
theorem d_M_sum_9 : decode b_M_sum 9 = .ok (.if_icmp .lt 9, 3) := by decide +kernel
theorem d_M_sum_12 : decode b_M_sum 12 = .ok (.ldc2_w 160, 3) := by decide +kernel
theorem d_M_sum_15 : decode b_M_sum 15 = .ok (.goto 9, 3) := by decide +kernel
theorem d_M_sum_18 : decode b_M_sum 18 = .ok (.aload_n 0, 1) := by decide +kernel
theorem d_M_sum_19 : decode b_M_sum 19 = .ok (.getfield 65, 3) := by decide +kernel
theorem d_M_sum_22 : decode b_M_sum 22 = .ok (.iload_n 1, 1) := by decide +kernel
theorem d_M_sum_23 : decode b_M_sum 23 = .ok (.laload, 1) := by decide +kernel
theorem d_M_sum_24 : decode b_M_sum 24 = .ok (.lreturn, 1) := by decide +kernel
theorem d_M_leftOut_0 : decode b_M_leftOut 0 = .ok (.iconst 0, 1) := by decide +kernel
theorem d_M_leftOut_1 : decode b_M_leftOut 1 = .ok (.istore_n 2, 1) := by decide +kernel
theorem d_M_leftOut_2 : decode b_M_leftOut 2 = .ok (.iconst 0, 1) := by decide +kernel
theorem d_M_leftOut_3 : decode b_M_leftOut 3 = .ok (.istore_n 3, 1) := by decide +kernel
theorem d_M_leftOut_4 : decode b_M_leftOut 4 = .ok (.iload_n 3, 1) := by decide +kernel
theorem d_M_leftOut_5 : decode b_M_leftOut 5 = .ok (.aload_n 0, 1) := by decide +kernel
theorem d_M_leftOut_6 : decode b_M_leftOut 6 = .ok (.getfield 93, 3) := by decide +kernel
theorem d_M_leftOut_9 : decode b_M_leftOut 9 = .ok (.if_icmp .ge 37, 3) := by decide +kernel
theorem d_M_leftOut_12 : decode b_M_leftOut 12 = .ok (.iload_n 2, 1) := by decide +kernel
theorem d_M_leftOut_13 : decode b_M_leftOut 13 = .ok (.aload_n 0, 1) := by decide +kernel
theorem d_M_leftOut_14 : decode b_M_leftOut 14 = .ok (.getfield 32, 3) := by decide +kernel
theorem d_M_leftOut_17 : decode b_M_leftOut 17 = .ok (.iload_n 3, 1) := by decide +kernel
theorem d_M_leftOut_18 : decode b_M_leftOut 18 = .ok (.iaload, 1) := by decide +kernel
theorem d_M_leftOut_19 : decode b_M_leftOut 19 = .ok (.iload_n 1, 1) := by decide +kernel
theorem d_M_leftOut_20 : decode b_M_leftOut 20 = .ok (.if_icmp .ne 17, 3) := by decide +kernel
theorem d_M_leftOut_23 : decode b_M_leftOut 23 = .ok (.aload_n 0, 1) := by decide +kernel
theorem d_M_leftOut_24 : decode b_M_leftOut 24 = .ok (.getfield 35, 3) := by decide +kernel
theorem d_M_leftOut_27 : decode b_M_leftOut 27 = .ok (.iload_n 3, 1) := by decide +kernel
theorem d_M_leftOut_28 : decode b_M_leftOut 28 = .ok (.iaload, 1) := by decide +kernel
theorem d_M_leftOut_29 : decode b_M_leftOut 29 = .ok (.iconst (-1), 1) := by decide +kernel
theorem d_M_leftOut_30 : decode b_M_leftOut 30 = .ok (.if_icmp .eq 7, 3) := by decide +kernel
theorem d_M_leftOut_33 : decode b_M_leftOut 33 = .ok (.iconst 1, 1) := by decide +kernel
theorem d_M_leftOut_34 : decode b_M_leftOut 34 = .ok (.goto 4, 3) := by decide +kernel
theorem d_M_leftOut_37 : decode b_M_leftOut 37 = .ok (.iconst 0, 1) := by decide +kernel
theorem d_M_leftOut_38 : decode b_M_leftOut 38 = .ok (.iadd, 1) := by decide +kernel
theorem d_M_leftOut_39 : decode b_M_leftOut 39 = .ok (.istore_n 2, 1) := by decide +kernel
theorem d_M_leftOut_40 : decode b_M_leftOut 40 = .ok (.iinc 3 1, 3) := by decide +kernel
theorem d_M_leftOut_43 : decode b_M_leftOut 43 = .ok (.goto (-39), 3) := by decide +kernel
theorem d_M_leftOut_46 : decode b_M_leftOut 46 = .ok (.iload_n 2, 1) := by decide +kernel
theorem d_M_leftOut_47 : decode b_M_leftOut 47 = .ok (.ifCond .ne 5, 3) := by decide +kernel
theorem d_M_leftOut_50 : decode b_M_leftOut 50 = .ok (.iconst (-1), 1) := by decide +kernel
theorem d_M_leftOut_51 : decode b_M_leftOut 51 = .ok (.ireturn, 1) := by decide +kernel
theorem d_M_leftOut_52 : decode b_M_leftOut 52 = .ok (.aload_n 0, 1) := by decide +kernel
theorem d_M_leftOut_53 : decode b_M_leftOut 53 = .ok (.iload_n 1, 1) := by decide +kernel
theorem d_M_leftOut_54 : decode b_M_leftOut 54 = .ok (.invokevirtual 132, 3) := by decide +kernel
theorem d_M_leftOut_57 : decode b_M_leftOut 57 = .ok (.istore_n 3, 1) := by decide +kernel
theorem d_M_leftOut_58 : decode b_M_leftOut 58 = .ok (.iconst 0, 1) := by decide +kernel
theorem d_M_leftOut_59 : decode b_M_leftOut 59 = .ok (.istore 4, 2) := by decide +kernel
theorem d_M_leftOut_61 : decode b_M_leftOut 61 = .ok (.iconst 0, 1) := by decide +kernel
theorem d_M_leftOut_62 : decode b_M_leftOut 62 = .ok (.istore 5, 2) := by decide +kernel
theorem d_M_leftOut_64 : decode b_M_leftOut 64 = .ok (.iload 5, 2) := by decide +kernel
theorem d_M_leftOut_66 : decode b_M_leftOut 66 = .ok (.aload_n 0, 1) := by decide +kernel
theorem d_M_leftOut_67 : decode b_M_leftOut 67 = .ok (.getfield 93, 3) := by decide +kernel
theorem d_M_leftOut_70 : decode b_M_leftOut 70 = .ok (.if_icmp .ge 58, 3) := by decide +kernel
theorem d_M_leftOut_73 : decode b_M_leftOut 73 = .ok (.iload 4, 2) := by decide +kernel
theorem d_M_leftOut_75 : decode b_M_leftOut 75 = .ok (.aload_n 0, 1) := by decide +kernel
theorem d_M_leftOut_76 : decode b_M_leftOut 76 = .ok (.getfield 32, 3) := by decide +kernel
theorem d_M_leftOut_79 : decode b_M_leftOut 79 = .ok (.iload 5, 2) := by decide +kernel
theorem d_M_leftOut_81 : decode b_M_leftOut 81 = .ok (.iaload, 1) := by decide +kernel
theorem d_M_leftOut_82 : decode b_M_leftOut 82 = .ok (.iload_n 1, 1) := by decide +kernel
theorem d_M_leftOut_83 : decode b_M_leftOut 83 = .ok (.if_icmp .ne 35, 3) := by decide +kernel
theorem d_M_leftOut_86 : decode b_M_leftOut 86 = .ok (.aload_n 0, 1) := by decide +kernel
theorem d_M_leftOut_87 : decode b_M_leftOut 87 = .ok (.getfield 35, 3) := by decide +kernel
theorem d_M_leftOut_90 : decode b_M_leftOut 90 = .ok (.iload 5, 2) := by decide +kernel
theorem d_M_leftOut_92 : decode b_M_leftOut 92 = .ok (.iaload, 1) := by decide +kernel
theorem d_M_leftOut_93 : decode b_M_leftOut 93 = .ok (.iconst (-1), 1) := by decide +kernel
theorem d_M_leftOut_94 : decode b_M_leftOut 94 = .ok (.if_icmp .eq 24, 3) := by decide +kernel
theorem d_M_leftOut_97 : decode b_M_leftOut 97 = .ok (.aload_n 0, 1) := by decide +kernel
theorem d_M_leftOut_98 : decode b_M_leftOut 98 = .ok (.getfield 35, 3) := by decide +kernel
theorem d_M_leftOut_101 : decode b_M_leftOut 101 = .ok (.iload 5, 2) := by decide +kernel
theorem d_M_leftOut_103 : decode b_M_leftOut 103 = .ok (.iaload, 1) := by decide +kernel
theorem d_M_leftOut_104 : decode b_M_leftOut 104 = .ok (.aload_n 0, 1) := by decide +kernel
theorem d_M_leftOut_105 : decode b_M_leftOut 105 = .ok (.getfield 86, 3) := by decide +kernel
theorem d_M_leftOut_108 : decode b_M_leftOut 108 = .ok (.iload 5, 2) := by decide +kernel
theorem d_M_leftOut_110 : decode b_M_leftOut 110 = .ok (.iaload, 1) := by decide +kernel
theorem d_M_leftOut_111 : decode b_M_leftOut 111 = .ok (.if_icmp .eq 7, 3) := by decide +kernel
theorem d_M_leftOut_114 : decode b_M_leftOut 114 = .ok (.iconst 1, 1) := by decide +kernel
theorem d_M_leftOut_115 : decode b_M_leftOut 115 = .ok (.goto 4, 3) := by decide +kernel
theorem d_M_leftOut_118 : decode b_M_leftOut 118 = .ok (.iconst 0, 1) := by decide +kernel
theorem d_M_leftOut_119 : decode b_M_leftOut 119 = .ok (.iadd, 1) := by decide +kernel
theorem d_M_leftOut_120 : decode b_M_leftOut 120 = .ok (.istore 4, 2) := by decide +kernel
theorem d_M_leftOut_122 : decode b_M_leftOut 122 = .ok (.iinc 5 1, 3) := by decide +kernel
theorem d_M_leftOut_125 : decode b_M_leftOut 125 = .ok (.goto (-61), 3) := by decide +kernel
theorem d_M_leftOut_128 : decode b_M_leftOut 128 = .ok (.sipush 1000, 3) := by decide +kernel
theorem d_M_leftOut_131 : decode b_M_leftOut 131 = .ok (.iload 4, 2) := by decide +kernel
theorem d_M_leftOut_133 : decode b_M_leftOut 133 = .ok (.imul, 1) := by decide +kernel
theorem d_M_leftOut_134 : decode b_M_leftOut 134 = .ok (.iload_n 2, 1) := by decide +kernel
theorem d_M_leftOut_135 : decode b_M_leftOut 135 = .ok (.idiv, 1) := by decide +kernel
theorem d_M_leftOut_136 : decode b_M_leftOut 136 = .ok (.ireturn, 1) := by decide +kernel
theorem d_M_act_0 : decode b_M_act 0 = .ok (.aload_n 0, 1) := by decide +kernel
theorem d_M_act_1 : decode b_M_act 1 = .ok (.iload_n 1, 1) := by decide +kernel
theorem d_M_act_2 : decode b_M_act 2 = .ok (.invokevirtual 162, 3) := by decide +kernel
theorem d_M_act_5 : decode b_M_act 5 = .ok (.ifCond .eq 12, 3) := by decide +kernel
theorem d_M_act_8 : decode b_M_act 8 = .ok (.aload_n 0, 1) := by decide +kernel
theorem d_M_act_9 : decode b_M_act 9 = .ok (.getfield 59, 3) := by decide +kernel
theorem d_M_act_12 : decode b_M_act 12 = .ok (.iload_n 1, 1) := by decide +kernel
theorem d_M_act_13 : decode b_M_act 13 = .ok (.iaload, 1) := by decide +kernel
theorem d_M_act_14 : decode b_M_act 14 = .ok (.goto 4, 3) := by decide +kernel
theorem d_M_act_17 : decode b_M_act 17 = .ok (.iconst (-1), 1) := by decide +kernel
theorem d_M_act_18 : decode b_M_act 18 = .ok (.ireturn, 1) := by decide +kernel
theorem d_M_isKnown_0 : decode b_M_isKnown 0 = .ok (.iload_n 1, 1) := by decide +kernel
theorem d_M_isKnown_1 : decode b_M_isKnown 1 = .ok (.ifCond .lt 15, 3) := by decide +kernel
theorem d_M_isKnown_4 : decode b_M_isKnown 4 = .ok (.iload_n 1, 1) := by decide +kernel
theorem d_M_isKnown_5 : decode b_M_isKnown 5 = .ok (.aload_n 0, 1) := by decide +kernel
theorem d_M_isKnown_6 : decode b_M_isKnown 6 = .ok (.getfield 139, 3) := by decide +kernel
theorem d_M_isKnown_9 : decode b_M_isKnown 9 = .ok (.if_icmp .ge 7, 3) := by decide +kernel
theorem d_M_isKnown_12 : decode b_M_isKnown 12 = .ok (.iconst 1, 1) := by decide +kernel
theorem d_M_isKnown_13 : decode b_M_isKnown 13 = .ok (.goto 4, 3) := by decide +kernel
theorem d_M_isKnown_16 : decode b_M_isKnown 16 = .ok (.iconst 0, 1) := by decide +kernel
theorem d_M_isKnown_17 : decode b_M_isKnown 17 = .ok (.ireturn, 1) := by decide +kernel
theorem d_M_greatest_0 : decode b_M_greatest 0 = .ok (.aload_n 0, 1) := by decide +kernel
theorem d_M_greatest_1 : decode b_M_greatest 1 = .ok (.getfield 139, 3) := by decide +kernel
theorem d_M_greatest_4 : decode b_M_greatest 4 = .ok (.ifCond .le 7, 3) := by decide +kernel
theorem d_M_greatest_7 : decode b_M_greatest 7 = .ok (.iconst 1, 1) := by decide +kernel
theorem d_M_greatest_8 : decode b_M_greatest 8 = .ok (.goto 4, 3) := by decide +kernel
theorem d_M_greatest_11 : decode b_M_greatest 11 = .ok (.iconst 0, 1) := by decide +kernel
theorem d_M_greatest_12 : decode b_M_greatest 12 = .ok (.ireturn, 1) := by decide +kernel
theorem d_M_hours_0 : decode b_M_hours 0 = .ok (.aload_n 0, 1) := by decide +kernel
theorem d_M_hours_1 : decode b_M_hours 1 = .ok (.iload_n 1, 1) := by decide +kernel
theorem d_M_hours_2 : decode b_M_hours 2 = .ok (.invokevirtual 96, 3) := by decide +kernel
theorem d_M_hours_5 : decode b_M_hours 5 = .ok (.ifCond .eq 10, 3) := by decide +kernel
theorem d_M_hours_8 : decode b_M_hours 8 = .ok (.aload_n 0, 1) := by decide +kernel
theorem d_M_hours_9 : decode b_M_hours 9 = .ok (.getfield 139, 3) := by decide +kernel
theorem d_M_hours_12 : decode b_M_hours 12 = .ok (.ifCond .ne 7, 3) := by decide +kernel
theorem d_M_hours_15 : decode b_M_hours 15 = .ok (.ldc2_w 160, 3) := by decide +kernel
theorem d_M_hours_18 : decode b_M_hours 18 = .ok (.lreturn, 1) := by decide +kernel
theorem d_M_hours_19 : decode b_M_hours 19 = .ok (.lconst 0, 1) := by decide +kernel
theorem d_M_hours_20 : decode b_M_hours 20 = .ok (.lstore_n 2, 1) := by decide +kernel
theorem d_M_hours_21 : decode b_M_hours 21 = .ok (.iconst 0, 1) := by decide +kernel
theorem d_M_hours_22 : decode b_M_hours 22 = .ok (.istore 4, 2) := by decide +kernel
theorem d_M_hours_24 : decode b_M_hours 24 = .ok (.iload 4, 2) := by decide +kernel
theorem d_M_hours_26 : decode b_M_hours 26 = .ok (.aload_n 0, 1) := by decide +kernel
theorem d_M_hours_27 : decode b_M_hours 27 = .ok (.getfield 139, 3) := by decide +kernel
theorem d_M_hours_30 : decode b_M_hours 30 = .ok (.if_icmp .ge 41, 3) := by decide +kernel
theorem d_M_hours_33 : decode b_M_hours 33 = .ok (.lload_n 2, 1) := by decide +kernel
theorem d_M_hours_34 : decode b_M_hours 34 = .ok (.aload_n 0, 1) := by decide +kernel
theorem d_M_hours_35 : decode b_M_hours 35 = .ok (.getfield 59, 3) := by decide +kernel
theorem d_M_hours_38 : decode b_M_hours 38 = .ok (.iload 4, 2) := by decide +kernel
theorem d_M_hours_40 : decode b_M_hours 40 = .ok (.iaload, 1) := by decide +kernel
theorem d_M_hours_41 : decode b_M_hours 41 = .ok (.iload_n 1, 1) := by decide +kernel
theorem d_M_hours_42 : decode b_M_hours 42 = .ok (.if_icmp .ne 20, 3) := by decide +kernel
theorem d_M_hours_45 : decode b_M_hours 45 = .ok (.aload_n 0, 1) := by decide +kernel
theorem d_M_hours_46 : decode b_M_hours 46 = .ok (.iload 4, 2) := by decide +kernel
theorem d_M_hours_48 : decode b_M_hours 48 = .ok (.invokevirtual 165, 3) := by decide +kernel
theorem d_M_hours_51 : decode b_M_hours 51 = .ok (.aload_n 0, 1) := by decide +kernel
theorem d_M_hours_52 : decode b_M_hours 52 = .ok (.getfield 22, 3) := by decide +kernel
theorem d_M_hours_55 : decode b_M_hours 55 = .ok (.iload 4, 2) := by decide +kernel
theorem d_M_hours_57 : decode b_M_hours 57 = .ok (.laload, 1) := by decide +kernel
theorem d_M_hours_58 : decode b_M_hours 58 = .ok (.lsub, 1) := by decide +kernel
theorem d_M_hours_59 : decode b_M_hours 59 = .ok (.goto 4, 3) := by decide +kernel
theorem d_M_hours_62 : decode b_M_hours 62 = .ok (.lconst 0, 1) := by decide +kernel
theorem d_M_hours_63 : decode b_M_hours 63 = .ok (.ladd, 1) := by decide +kernel
theorem d_M_hours_64 : decode b_M_hours 64 = .ok (.lstore_n 2, 1) := by decide +kernel
theorem d_M_hours_65 : decode b_M_hours 65 = .ok (.iinc 4 1, 3) := by decide +kernel
theorem d_M_hours_68 : decode b_M_hours 68 = .ok (.goto (-44), 3) := by decide +kernel
theorem d_M_hours_71 : decode b_M_hours 71 = .ok (.lload_n 2, 1) := by decide +kernel
theorem d_M_hours_72 : decode b_M_hours 72 = .ok (.lreturn, 1) := by decide +kernel
theorem d_M_end_0 : decode b_M_end 0 = .ok (.aload_n 0, 1) := by decide +kernel
theorem d_M_end_1 : decode b_M_end 1 = .ok (.getfield 22, 3) := by decide +kernel
theorem d_M_end_4 : decode b_M_end 4 = .ok (.iload_n 1, 1) := by decide +kernel
theorem d_M_end_5 : decode b_M_end 5 = .ok (.iconst 1, 1) := by decide +kernel
theorem d_M_end_6 : decode b_M_end 6 = .ok (.iadd, 1) := by decide +kernel
theorem d_M_end_7 : decode b_M_end 7 = .ok (.aload_n 0, 1) := by decide +kernel
theorem d_M_end_8 : decode b_M_end 8 = .ok (.getfield 139, 3) := by decide +kernel
theorem d_M_end_11 : decode b_M_end 11 = .ok (.if_icmp .ge 9, 3) := by decide +kernel
theorem d_M_end_14 : decode b_M_end 14 = .ok (.iload_n 1, 1) := by decide +kernel
theorem d_M_end_15 : decode b_M_end 15 = .ok (.iconst 1, 1) := by decide +kernel
theorem d_M_end_16 : decode b_M_end 16 = .ok (.iadd, 1) := by decide +kernel
theorem d_M_end_17 : decode b_M_end 17 = .ok (.goto 4, 3) := by decide +kernel
theorem d_M_end_20 : decode b_M_end 20 = .ok (.iload_n 1, 1) := by decide +kernel
theorem d_M_end_21 : decode b_M_end 21 = .ok (.laload, 1) := by decide +kernel
theorem d_M_end_22 : decode b_M_end 22 = .ok (.lreturn, 1) := by decide +kernel
theorem d_M_total_0 : decode b_M_total 0 = .ok (.aload_n 0, 1) := by decide +kernel
theorem d_M_total_1 : decode b_M_total 1 = .ok (.getfield 139, 3) := by decide +kernel
theorem d_M_total_4 : decode b_M_total 4 = .ok (.ifCond .ne 9, 3) := by decide +kernel
theorem d_M_total_7 : decode b_M_total 7 = .ok (.ldc2_w 160, 3) := by decide +kernel
theorem d_M_total_10 : decode b_M_total 10 = .ok (.goto 21, 3) := by decide +kernel
theorem d_M_total_13 : decode b_M_total 13 = .ok (.aload_n 0, 1) := by decide +kernel
theorem d_M_total_14 : decode b_M_total 14 = .ok (.getfield 22, 3) := by decide +kernel
theorem d_M_total_17 : decode b_M_total 17 = .ok (.aload_n 0, 1) := by decide +kernel
theorem d_M_total_18 : decode b_M_total 18 = .ok (.getfield 139, 3) := by decide +kernel
theorem d_M_total_21 : decode b_M_total 21 = .ok (.iconst 1, 1) := by decide +kernel
theorem d_M_total_22 : decode b_M_total 22 = .ok (.isub, 1) := by decide +kernel
theorem d_M_total_23 : decode b_M_total 23 = .ok (.laload, 1) := by decide +kernel
theorem d_M_total_24 : decode b_M_total 24 = .ok (.aload_n 0, 1) := by decide +kernel
theorem d_M_total_25 : decode b_M_total 25 = .ok (.getfield 22, 3) := by decide +kernel
theorem d_M_total_28 : decode b_M_total 28 = .ok (.iconst 0, 1) := by decide +kernel
theorem d_M_total_29 : decode b_M_total 29 = .ok (.laload, 1) := by decide +kernel
theorem d_M_total_30 : decode b_M_total 30 = .ok (.lsub, 1) := by decide +kernel
theorem d_M_total_31 : decode b_M_total 31 = .ok (.lreturn, 1) := by decide +kernel
theorem d_M_haul_0 : decode b_M_haul 0 = .ok (.aload_n 0, 1) := by decide +kernel
theorem d_M_haul_1 : decode b_M_haul 1 = .ok (.iload_n 1, 1) := by decide +kernel
theorem d_M_haul_2 : decode b_M_haul 2 = .ok (.invokevirtual 169, 3) := by decide +kernel
theorem d_M_haul_5 : decode b_M_haul 5 = .ok (.istore_n 3, 1) := by decide +kernel
theorem d_M_haul_6 : decode b_M_haul 6 = .ok (.iload_n 3, 1) := by decide +kernel
theorem d_M_haul_7 : decode b_M_haul 7 = .ok (.iconst (-1), 1) := by decide +kernel
theorem d_M_haul_8 : decode b_M_haul 8 = .ok (.if_icmp .eq 12, 3) := by decide +kernel
theorem d_M_haul_11 : decode b_M_haul 11 = .ok (.iload_n 2, 1) := by decide +kernel
theorem d_M_haul_12 : decode b_M_haul 12 = .ok (.ifCond .lt 8, 3) := by decide +kernel
theorem d_M_haul_15 : decode b_M_haul 15 = .ok (.iload_n 2, 1) := by decide +kernel
theorem d_M_haul_16 : decode b_M_haul 16 = .ok (.iconst 1, 1) := by decide +kernel
theorem d_M_haul_17 : decode b_M_haul 17 = .ok (.if_icmp .le 5, 3) := by decide +kernel
theorem d_M_haul_20 : decode b_M_haul 20 = .ok (.iconst (-1), 1) := by decide +kernel
theorem d_M_haul_21 : decode b_M_haul 21 = .ok (.ireturn, 1) := by decide +kernel
theorem d_M_haul_22 : decode b_M_haul 22 = .ok (.iload_n 2, 1) := by decide +kernel
theorem d_M_haul_23 : decode b_M_haul 23 = .ok (.ifCond .ne 12, 3) := by decide +kernel
theorem d_M_haul_26 : decode b_M_haul 26 = .ok (.aload_n 0, 1) := by decide +kernel
theorem d_M_haul_27 : decode b_M_haul 27 = .ok (.getfield 22, 3) := by decide +kernel
theorem d_M_haul_30 : decode b_M_haul 30 = .ok (.iload_n 3, 1) := by decide +kernel
theorem d_M_haul_31 : decode b_M_haul 31 = .ok (.laload, 1) := by decide +kernel
theorem d_M_haul_32 : decode b_M_haul 32 = .ok (.goto 12, 3) := by decide +kernel
theorem d_M_haul_35 : decode b_M_haul 35 = .ok (.aload_n 0, 1) := by decide +kernel
theorem d_M_haul_36 : decode b_M_haul 36 = .ok (.aload_n 0, 1) := by decide +kernel
theorem d_M_haul_37 : decode b_M_haul 37 = .ok (.iload_n 3, 1) := by decide +kernel
theorem d_M_haul_38 : decode b_M_haul 38 = .ok (.invokevirtual 172, 3) := by decide +kernel
theorem d_M_haul_41 : decode b_M_haul 41 = .ok (.invokevirtual 165, 3) := by decide +kernel
theorem d_M_haul_44 : decode b_M_haul 44 = .ok (.lstore 4, 2) := by decide +kernel
theorem d_M_haul_46 : decode b_M_haul 46 = .ok (.lload 4, 2) := by decide +kernel
theorem d_M_haul_48 : decode b_M_haul 48 = .ok (.ldc2_w 175, 3) := by decide +kernel
theorem d_M_haul_51 : decode b_M_haul 51 = .ok (.lcmp, 1) := by decide +kernel
theorem d_M_haul_52 : decode b_M_haul 52 = .ok (.ifCond .le 7, 3) := by decide +kernel
theorem d_M_haul_55 : decode b_M_haul 55 = .ok (.iconst (-1), 1) := by decide +kernel
theorem d_M_haul_56 : decode b_M_haul 56 = .ok (.goto 6, 3) := by decide +kernel
theorem d_M_haul_59 : decode b_M_haul 59 = .ok (.lload 4, 2) := by decide +kernel
theorem d_M_haul_61 : decode b_M_haul 61 = .ok (.l2i, 1) := by decide +kernel
theorem d_M_haul_62 : decode b_M_haul 62 = .ok (.ireturn, 1) := by decide +kernel
theorem d_M_first_0 : decode b_M_first 0 = .ok (.iload_n 1, 1) := by decide +kernel
theorem d_M_first_1 : decode b_M_first 1 = .ok (.istore_n 2, 1) := by decide +kernel
theorem d_M_first_2 : decode b_M_first 2 = .ok (.iconst 0, 1) := by decide +kernel
theorem d_M_first_3 : decode b_M_first 3 = .ok (.istore_n 3, 1) := by decide +kernel
theorem d_M_first_4 : decode b_M_first 4 = .ok (.iload_n 3, 1) := by decide +kernel
theorem d_M_first_5 : decode b_M_first 5 = .ok (.aload_n 0, 1) := by decide +kernel
theorem d_M_first_6 : decode b_M_first 6 = .ok (.getfield 139, 3) := by decide +kernel
theorem d_M_first_9 : decode b_M_first 9 = .ok (.if_icmp .ge 48, 3) := by decide +kernel
theorem d_M_first_12 : decode b_M_first 12 = .ok (.iload_n 1, 1) := by decide +kernel
theorem d_M_first_13 : decode b_M_first 13 = .ok (.ifCond .lt 44, 3) := by decide +kernel
theorem d_M_first_16 : decode b_M_first 16 = .ok (.aload_n 0, 1) := by decide +kernel
theorem d_M_first_17 : decode b_M_first 17 = .ok (.getfield 59, 3) := by decide +kernel
theorem d_M_first_20 : decode b_M_first 20 = .ok (.iload_n 3, 1) := by decide +kernel
theorem d_M_first_21 : decode b_M_first 21 = .ok (.iaload, 1) := by decide +kernel
theorem d_M_first_22 : decode b_M_first 22 = .ok (.iconst 3, 1) := by decide +kernel
theorem d_M_first_23 : decode b_M_first 23 = .ok (.if_icmp .ne 28, 3) := by decide +kernel
theorem d_M_first_26 : decode b_M_first 26 = .ok (.iload_n 3, 1) := by decide +kernel
theorem d_M_first_27 : decode b_M_first 27 = .ok (.ifCond .eq 15, 3) := by decide +kernel
theorem d_M_first_30 : decode b_M_first 30 = .ok (.aload_n 0, 1) := by decide +kernel
theorem d_M_first_31 : decode b_M_first 31 = .ok (.getfield 59, 3) := by decide +kernel
theorem d_M_first_34 : decode b_M_first 34 = .ok (.iload_n 3, 1) := by decide +kernel
theorem d_M_first_35 : decode b_M_first 35 = .ok (.iconst 1, 1) := by decide +kernel
theorem d_M_first_36 : decode b_M_first 36 = .ok (.isub, 1) := by decide +kernel
theorem d_M_first_37 : decode b_M_first 37 = .ok (.iaload, 1) := by decide +kernel
theorem d_M_first_38 : decode b_M_first 38 = .ok (.iconst 3, 1) := by decide +kernel
theorem d_M_first_39 : decode b_M_first 39 = .ok (.if_icmp .eq 12, 3) := by decide +kernel
theorem d_M_first_42 : decode b_M_first 42 = .ok (.iload_n 2, 1) := by decide +kernel
theorem d_M_first_43 : decode b_M_first 43 = .ok (.ifCond .ne 5, 3) := by decide +kernel
theorem d_M_first_46 : decode b_M_first 46 = .ok (.iload_n 3, 1) := by decide +kernel
theorem d_M_first_47 : decode b_M_first 47 = .ok (.ireturn, 1) := by decide +kernel
theorem d_M_first_48 : decode b_M_first 48 = .ok (.iinc 2 (-1), 3) := by decide +kernel
theorem d_M_first_51 : decode b_M_first 51 = .ok (.iinc 3 1, 3) := by decide +kernel
theorem d_M_first_54 : decode b_M_first 54 = .ok (.goto (-50), 3) := by decide +kernel
theorem d_M_first_57 : decode b_M_first 57 = .ok (.iconst (-1), 1) := by decide +kernel
theorem d_M_first_58 : decode b_M_first 58 = .ok (.ireturn, 1) := by decide +kernel
theorem d_M_last_0 : decode b_M_last 0 = .ok (.iload_n 1, 1) := by decide +kernel
theorem d_M_last_1 : decode b_M_last 1 = .ok (.istore_n 2, 1) := by decide +kernel
theorem d_M_last_2 : decode b_M_last 2 = .ok (.iload_n 2, 1) := by decide +kernel
theorem d_M_last_3 : decode b_M_last 3 = .ok (.iconst 1, 1) := by decide +kernel
theorem d_M_last_4 : decode b_M_last 4 = .ok (.iadd, 1) := by decide +kernel
theorem d_M_last_5 : decode b_M_last 5 = .ok (.aload_n 0, 1) := by decide +kernel
theorem d_M_last_6 : decode b_M_last 6 = .ok (.getfield 139, 3) := by decide +kernel
theorem d_M_last_9 : decode b_M_last 9 = .ok (.if_icmp .ge 21, 3) := by decide +kernel
theorem d_M_last_12 : decode b_M_last 12 = .ok (.aload_n 0, 1) := by decide +kernel
theorem d_M_last_13 : decode b_M_last 13 = .ok (.getfield 59, 3) := by decide +kernel
theorem d_M_last_16 : decode b_M_last 16 = .ok (.iload_n 2, 1) := by decide +kernel
theorem d_M_last_17 : decode b_M_last 17 = .ok (.iconst 1, 1) := by decide +kernel
theorem d_M_last_18 : decode b_M_last 18 = .ok (.iadd, 1) := by decide +kernel
theorem d_M_last_19 : decode b_M_last 19 = .ok (.iaload, 1) := by decide +kernel
theorem d_M_last_20 : decode b_M_last 20 = .ok (.iconst 3, 1) := by decide +kernel
theorem d_M_last_21 : decode b_M_last 21 = .ok (.if_icmp .ne 9, 3) := by decide +kernel
theorem d_M_last_24 : decode b_M_last 24 = .ok (.iinc 2 1, 3) := by decide +kernel
theorem d_M_last_27 : decode b_M_last 27 = .ok (.goto (-25), 3) := by decide +kernel
theorem d_M_last_30 : decode b_M_last 30 = .ok (.iload_n 2, 1) := by decide +kernel
theorem d_M_last_31 : decode b_M_last 31 = .ok (.ireturn, 1) := by decide +kernel
theorem d_M_gear_0 : decode b_M_gear 0 = .ok (.aload_n 0, 1) := by decide +kernel
theorem d_M_gear_1 : decode b_M_gear 1 = .ok (.iload_n 1, 1) := by decide +kernel
theorem d_M_gear_2 : decode b_M_gear 2 = .ok (.invokevirtual 169, 3) := by decide +kernel
theorem d_M_gear_5 : decode b_M_gear 5 = .ok (.istore_n 2, 1) := by decide +kernel
theorem d_M_gear_6 : decode b_M_gear 6 = .ok (.iload_n 2, 1) := by decide +kernel
theorem d_M_gear_7 : decode b_M_gear 7 = .ok (.iconst (-1), 1) := by decide +kernel
theorem d_M_gear_8 : decode b_M_gear 8 = .ok (.if_icmp .ne 5, 3) := by decide +kernel
theorem d_M_gear_11 : decode b_M_gear 11 = .ok (.iconst (-1), 1) := by decide +kernel
theorem d_M_gear_12 : decode b_M_gear 12 = .ok (.ireturn, 1) := by decide +kernel
theorem d_M_gear_13 : decode b_M_gear 13 = .ok (.iconst 0, 1) := by decide +kernel
theorem d_M_gear_14 : decode b_M_gear 14 = .ok (.istore_n 3, 1) := by decide +kernel
theorem d_M_gear_15 : decode b_M_gear 15 = .ok (.iload_n 2, 1) := by decide +kernel
theorem d_M_gear_16 : decode b_M_gear 16 = .ok (.istore 4, 2) := by decide +kernel
theorem d_M_gear_18 : decode b_M_gear 18 = .ok (.iload 4, 2) := by decide +kernel
theorem d_M_gear_20 : decode b_M_gear 20 = .ok (.aload_n 0, 1) := by decide +kernel
theorem d_M_gear_21 : decode b_M_gear 21 = .ok (.iload_n 2, 1) := by decide +kernel
theorem d_M_gear_22 : decode b_M_gear 22 = .ok (.invokevirtual 172, 3) := by decide +kernel
theorem d_M_gear_25 : decode b_M_gear 25 = .ok (.if_icmp .gt 28, 3) := by decide +kernel
theorem d_M_gear_28 : decode b_M_gear 28 = .ok (.iload_n 3, 1) := by decide +kernel
theorem d_M_gear_29 : decode b_M_gear 29 = .ok (.aload_n 0, 1) := by decide +kernel
theorem d_M_gear_30 : decode b_M_gear 30 = .ok (.getfield 29, 3) := by decide +kernel
theorem d_M_gear_33 : decode b_M_gear 33 = .ok (.iload 4, 2) := by decide +kernel
theorem d_M_gear_35 : decode b_M_gear 35 = .ok (.iaload, 1) := by decide +kernel
theorem d_M_gear_36 : decode b_M_gear 36 = .ok (.iconst 2, 1) := by decide +kernel
theorem d_M_gear_37 : decode b_M_gear 37 = .ok (.if_icmp .lt 7, 3) := by decide +kernel
theorem d_M_gear_40 : decode b_M_gear 40 = .ok (.iconst 1, 1) := by decide +kernel
theorem d_M_gear_41 : decode b_M_gear 41 = .ok (.goto 4, 3) := by decide +kernel
theorem d_M_gear_44 : decode b_M_gear 44 = .ok (.iconst 0, 1) := by decide +kernel
theorem d_M_gear_45 : decode b_M_gear 45 = .ok (.iadd, 1) := by decide +kernel
theorem d_M_gear_46 : decode b_M_gear 46 = .ok (.istore_n 3, 1) := by decide +kernel
theorem d_M_gear_47 : decode b_M_gear 47 = .ok (.iinc 4 1, 3) := by decide +kernel
theorem d_M_gear_50 : decode b_M_gear 50 = .ok (.goto (-32), 3) := by decide +kernel
theorem d_M_gear_53 : decode b_M_gear 53 = .ok (.iconst 2, 1) := by decide +kernel
theorem d_M_gear_54 : decode b_M_gear 54 = .ok (.iload_n 3, 1) := by decide +kernel
theorem d_M_gear_55 : decode b_M_gear 55 = .ok (.imul, 1) := by decide +kernel
theorem d_M_gear_56 : decode b_M_gear 56 = .ok (.aload_n 0, 1) := by decide +kernel
theorem d_M_gear_57 : decode b_M_gear 57 = .ok (.iload_n 2, 1) := by decide +kernel
theorem d_M_gear_58 : decode b_M_gear 58 = .ok (.invokevirtual 172, 3) := by decide +kernel
theorem d_M_gear_61 : decode b_M_gear 61 = .ok (.iload_n 2, 1) := by decide +kernel
theorem d_M_gear_62 : decode b_M_gear 62 = .ok (.isub, 1) := by decide +kernel
theorem d_M_gear_63 : decode b_M_gear 63 = .ok (.iconst 1, 1) := by decide +kernel
theorem d_M_gear_64 : decode b_M_gear 64 = .ok (.iadd, 1) := by decide +kernel
theorem d_M_gear_65 : decode b_M_gear 65 = .ok (.if_icmp .le 7, 3) := by decide +kernel
theorem d_M_gear_68 : decode b_M_gear 68 = .ok (.iconst 1, 1) := by decide +kernel
theorem d_M_gear_69 : decode b_M_gear 69 = .ok (.goto 4, 3) := by decide +kernel
theorem d_M_gear_72 : decode b_M_gear 72 = .ok (.iconst 0, 1) := by decide +kernel
theorem d_M_gear_73 : decode b_M_gear 73 = .ok (.ireturn, 1) := by decide +kernel
theorem d_M_differs_0 : decode b_M_differs 0 = .ok (.iload_n 1, 1) := by decide +kernel
theorem d_M_differs_1 : decode b_M_differs 1 = .ok (.istore_n 3, 1) := by decide +kernel
theorem d_M_differs_2 : decode b_M_differs 2 = .ok (.iconst 0, 1) := by decide +kernel
theorem d_M_differs_3 : decode b_M_differs 3 = .ok (.istore 4, 2) := by decide +kernel
theorem d_M_differs_5 : decode b_M_differs 5 = .ok (.iload 4, 2) := by decide +kernel
theorem d_M_differs_7 : decode b_M_differs 7 = .ok (.aload_n 0, 1) := by decide +kernel
theorem d_M_differs_8 : decode b_M_differs 8 = .ok (.getfield 139, 3) := by decide +kernel
theorem d_M_differs_11 : decode b_M_differs 11 = .ok (.if_icmp .ge 72, 3) := by decide +kernel
theorem d_M_differs_14 : decode b_M_differs 14 = .ok (.iload_n 1, 1) := by decide +kernel
theorem d_M_differs_15 : decode b_M_differs 15 = .ok (.ifCond .lt 68, 3) := by decide +kernel
theorem d_M_differs_18 : decode b_M_differs 18 = .ok (.iload_n 2, 1) := by decide +kernel
theorem d_M_differs_19 : decode b_M_differs 19 = .ok (.ifCond .lt 64, 3) := by decide +kernel
theorem d_M_differs_22 : decode b_M_differs 22 = .ok (.iload_n 2, 1) := by decide +kernel
theorem d_M_differs_23 : decode b_M_differs 23 = .ok (.iconst 2, 1) := by decide +kernel
theorem d_M_differs_24 : decode b_M_differs 24 = .ok (.if_icmp .ge 59, 3) := by decide +kernel
theorem d_M_differs_27 : decode b_M_differs 27 = .ok (.aload_n 0, 1) := by decide +kernel
theorem d_M_differs_28 : decode b_M_differs 28 = .ok (.aload_n 0, 1) := by decide +kernel
theorem d_M_differs_29 : decode b_M_differs 29 = .ok (.getfield 22, 3) := by decide +kernel
theorem d_M_differs_32 : decode b_M_differs 32 = .ok (.iload 4, 2) := by decide +kernel
theorem d_M_differs_34 : decode b_M_differs 34 = .ok (.laload, 1) := by decide +kernel
theorem d_M_differs_35 : decode b_M_differs 35 = .ok (.invokevirtual 177, 3) := by decide +kernel
theorem d_M_differs_38 : decode b_M_differs 38 = .ok (.istore 5, 2) := by decide +kernel
theorem d_M_differs_40 : decode b_M_differs 40 = .ok (.iload 5, 2) := by decide +kernel
theorem d_M_differs_42 : decode b_M_differs 42 = .ok (.iconst (-1), 1) := by decide +kernel
theorem d_M_differs_43 : decode b_M_differs 43 = .ok (.if_icmp .eq 34, 3) := by decide +kernel
theorem d_M_differs_46 : decode b_M_differs 46 = .ok (.iload 5, 2) := by decide +kernel
theorem d_M_differs_48 : decode b_M_differs 48 = .ok (.aload_n 0, 1) := by decide +kernel
theorem d_M_differs_49 : decode b_M_differs 49 = .ok (.getfield 59, 3) := by decide +kernel
theorem d_M_differs_52 : decode b_M_differs 52 = .ok (.iload 4, 2) := by decide +kernel
theorem d_M_differs_54 : decode b_M_differs 54 = .ok (.iaload, 1) := by decide +kernel
theorem d_M_differs_55 : decode b_M_differs 55 = .ok (.if_icmp .eq 22, 3) := by decide +kernel
theorem d_M_differs_58 : decode b_M_differs 58 = .ok (.iload_n 3, 1) := by decide +kernel
theorem d_M_differs_59 : decode b_M_differs 59 = .ok (.ifCond .ne 15, 3) := by decide +kernel
theorem d_M_differs_62 : decode b_M_differs 62 = .ok (.iload_n 2, 1) := by decide +kernel
theorem d_M_differs_63 : decode b_M_differs 63 = .ok (.ifCond .ne 8, 3) := by decide +kernel
theorem d_M_differs_66 : decode b_M_differs 66 = .ok (.iload 4, 2) := by decide +kernel
theorem d_M_differs_68 : decode b_M_differs 68 = .ok (.goto 5, 3) := by decide +kernel
theorem d_M_differs_71 : decode b_M_differs 71 = .ok (.iload 5, 2) := by decide +kernel
theorem d_M_differs_73 : decode b_M_differs 73 = .ok (.ireturn, 1) := by decide +kernel
theorem d_M_differs_74 : decode b_M_differs 74 = .ok (.iinc 3 (-1), 3) := by decide +kernel
theorem d_M_differs_77 : decode b_M_differs 77 = .ok (.iinc 4 1, 3) := by decide +kernel
theorem d_M_differs_80 : decode b_M_differs 80 = .ok (.goto (-75), 3) := by decide +kernel
theorem d_M_differs_83 : decode b_M_differs 83 = .ok (.iconst (-1), 1) := by decide +kernel
theorem d_M_differs_84 : decode b_M_differs 84 = .ok (.ireturn, 1) := by decide +kernel
theorem d_M_told_0 : decode b_M_told 0 = .ok (.aload_n 0, 1) := by decide +kernel
theorem d_M_told_1 : decode b_M_told 1 = .ok (.getfield 110, 3) := by decide +kernel
theorem d_M_told_4 : decode b_M_told 4 = .ok (.iconst 1, 1) := by decide +kernel
theorem d_M_told_5 : decode b_M_told 5 = .ok (.isub, 1) := by decide +kernel
theorem d_M_told_6 : decode b_M_told 6 = .ok (.istore_n 3, 1) := by decide +kernel
theorem d_M_told_7 : decode b_M_told 7 = .ok (.iload_n 3, 1) := by decide +kernel
theorem d_M_told_8 : decode b_M_told 8 = .ok (.ifCond .lt 38, 3) := by decide +kernel
theorem d_M_told_11 : decode b_M_told 11 = .ok (.aload_n 0, 1) := by decide +kernel
theorem d_M_told_12 : decode b_M_told 12 = .ok (.getfield 38, 3) := by decide +kernel
theorem d_M_told_15 : decode b_M_told 15 = .ok (.iload_n 3, 1) := by decide +kernel
theorem d_M_told_16 : decode b_M_told 16 = .ok (.laload, 1) := by decide +kernel
theorem d_M_told_17 : decode b_M_told 17 = .ok (.lload_n 1, 1) := by decide +kernel
theorem d_M_told_18 : decode b_M_told 18 = .ok (.lcmp, 1) := by decide +kernel
theorem d_M_told_19 : decode b_M_told 19 = .ok (.ifCond .gt 21, 3) := by decide +kernel
theorem d_M_told_22 : decode b_M_told 22 = .ok (.lload_n 1, 1) := by decide +kernel
theorem d_M_told_23 : decode b_M_told 23 = .ok (.aload_n 0, 1) := by decide +kernel
theorem d_M_told_24 : decode b_M_told 24 = .ok (.getfield 41, 3) := by decide +kernel
theorem d_M_told_27 : decode b_M_told 27 = .ok (.iload_n 3, 1) := by decide +kernel
theorem d_M_told_28 : decode b_M_told 28 = .ok (.laload, 1) := by decide +kernel
theorem d_M_told_29 : decode b_M_told 29 = .ok (.lcmp, 1) := by decide +kernel
theorem d_M_told_30 : decode b_M_told 30 = .ok (.ifCond .ge 10, 3) := by decide +kernel
theorem d_M_told_33 : decode b_M_told 33 = .ok (.aload_n 0, 1) := by decide +kernel
theorem d_M_told_34 : decode b_M_told 34 = .ok (.getfield 44, 3) := by decide +kernel
theorem d_M_told_37 : decode b_M_told 37 = .ok (.iload_n 3, 1) := by decide +kernel
theorem d_M_told_38 : decode b_M_told 38 = .ok (.iaload, 1) := by decide +kernel
theorem d_M_told_39 : decode b_M_told 39 = .ok (.ireturn, 1) := by decide +kernel
theorem d_M_told_40 : decode b_M_told 40 = .ok (.iinc 3 (-1), 3) := by decide +kernel
theorem d_M_told_43 : decode b_M_told 43 = .ok (.goto (-36), 3) := by decide +kernel
theorem d_M_told_46 : decode b_M_told 46 = .ok (.iconst (-1), 1) := by decide +kernel
theorem d_M_told_47 : decode b_M_told 47 = .ok (.ireturn, 1) := by decide +kernel
theorem d_M_unsure_0 : decode b_M_unsure 0 = .ok (.aload_n 0, 1) := by decide +kernel
theorem d_M_unsure_1 : decode b_M_unsure 1 = .ok (.iload_n 1, 1) := by decide +kernel
theorem d_M_unsure_2 : decode b_M_unsure 2 = .ok (.invokevirtual 162, 3) := by decide +kernel
theorem d_M_unsure_5 : decode b_M_unsure 5 = .ok (.ifCond .eq 35, 3) := by decide +kernel
theorem d_M_unsure_8 : decode b_M_unsure 8 = .ok (.aload_n 0, 1) := by decide +kernel
theorem d_M_unsure_9 : decode b_M_unsure 9 = .ok (.getfield 62, 3) := by decide +kernel
theorem d_M_unsure_12 : decode b_M_unsure 12 = .ok (.iload_n 1, 1) := by decide +kernel
theorem d_M_unsure_13 : decode b_M_unsure 13 = .ok (.iaload, 1) := by decide +kernel
theorem d_M_unsure_14 : decode b_M_unsure 14 = .ok (.iconst (-1), 1) := by decide +kernel
theorem d_M_unsure_15 : decode b_M_unsure 15 = .ok (.if_icmp .eq 25, 3) := by decide +kernel
theorem d_M_unsure_18 : decode b_M_unsure 18 = .ok (.aload_n 0, 1) := by decide +kernel
theorem d_M_unsure_19 : decode b_M_unsure 19 = .ok (.getfield 62, 3) := by decide +kernel
theorem d_M_unsure_22 : decode b_M_unsure 22 = .ok (.iload_n 1, 1) := by decide +kernel
theorem d_M_unsure_23 : decode b_M_unsure 23 = .ok (.iaload, 1) := by decide +kernel
theorem d_M_unsure_24 : decode b_M_unsure 24 = .ok (.aload_n 0, 1) := by decide +kernel
theorem d_M_unsure_25 : decode b_M_unsure 25 = .ok (.getfield 136, 3) := by decide +kernel
theorem d_M_unsure_28 : decode b_M_unsure 28 = .ok (.isub, 1) := by decide +kernel
theorem d_M_unsure_29 : decode b_M_unsure 29 = .ok (.aload_n 0, 1) := by decide +kernel
theorem d_M_unsure_30 : decode b_M_unsure 30 = .ok (.getfield 107, 3) := by decide +kernel
theorem d_M_unsure_33 : decode b_M_unsure 33 = .ok (.if_icmp .gt 7, 3) := by decide +kernel
theorem d_M_unsure_36 : decode b_M_unsure 36 = .ok (.iconst 1, 1) := by decide +kernel
theorem d_M_unsure_37 : decode b_M_unsure 37 = .ok (.goto 4, 3) := by decide +kernel
theorem d_M_unsure_40 : decode b_M_unsure 40 = .ok (.iconst 0, 1) := by decide +kernel
theorem d_M_unsure_41 : decode b_M_unsure 41 = .ok (.ireturn, 1) := by decide +kernel
theorem d_M_tied_0 : decode b_M_tied 0 = .ok (.aload_n 0, 1) := by decide +kernel
theorem d_M_tied_1 : decode b_M_tied 1 = .ok (.iload_n 1, 1) := by decide +kernel
theorem d_M_tied_2 : decode b_M_tied 2 = .ok (.invokevirtual 162, 3) := by decide +kernel
theorem d_M_tied_5 : decode b_M_tied 5 = .ok (.ifCond .eq 20, 3) := by decide +kernel
theorem d_M_tied_8 : decode b_M_tied 8 = .ok (.aload_n 0, 1) := by decide +kernel
theorem d_M_tied_9 : decode b_M_tied 9 = .ok (.getfield 62, 3) := by decide +kernel
theorem d_M_tied_12 : decode b_M_tied 12 = .ok (.iload_n 1, 1) := by decide +kernel
theorem d_M_tied_13 : decode b_M_tied 13 = .ok (.iaload, 1) := by decide +kernel
theorem d_M_tied_14 : decode b_M_tied 14 = .ok (.aload_n 0, 1) := by decide +kernel
theorem d_M_tied_15 : decode b_M_tied 15 = .ok (.getfield 136, 3) := by decide +kernel
theorem d_M_tied_18 : decode b_M_tied 18 = .ok (.if_icmp .ne 7, 3) := by decide +kernel
theorem d_M_tied_21 : decode b_M_tied 21 = .ok (.iconst 1, 1) := by decide +kernel
theorem d_M_tied_22 : decode b_M_tied 22 = .ok (.goto 4, 3) := by decide +kernel
theorem d_M_tied_25 : decode b_M_tied 25 = .ok (.iconst 0, 1) := by decide +kernel
theorem d_M_tied_26 : decode b_M_tied 26 = .ok (.ireturn, 1) := by decide +kernel
theorem d_M_map_0 : decode b_M_map 0 = .ok (.aload_n 0, 1) := by decide +kernel
theorem d_M_map_1 : decode b_M_map 1 = .ok (.getfield 139, 3) := by decide +kernel
theorem d_M_map_4 : decode b_M_map 4 = .ok (.ifCond .eq 23, 3) := by decide +kernel
theorem d_M_map_7 : decode b_M_map 7 = .ok (.iload_n 1, 1) := by decide +kernel
theorem d_M_map_8 : decode b_M_map 8 = .ok (.ifCond .lt 19, 3) := by decide +kernel
theorem d_M_map_11 : decode b_M_map 11 = .ok (.iload_n 1, 1) := by decide +kernel
theorem d_M_map_12 : decode b_M_map 12 = .ok (.bipush 19, 2) := by decide +kernel
theorem d_M_map_14 : decode b_M_map 14 = .ok (.if_icmp .gt 13, 3) := by decide +kernel
theorem d_M_map_17 : decode b_M_map 17 = .ok (.iload_n 2, 1) := by decide +kernel
theorem d_M_map_18 : decode b_M_map 18 = .ok (.ifCond .lt 9, 3) := by decide +kernel
theorem d_M_map_21 : decode b_M_map 21 = .ok (.iload_n 2, 1) := by decide +kernel
theorem d_M_map_22 : decode b_M_map 22 = .ok (.bipush 19, 2) := by decide +kernel
theorem d_M_map_24 : decode b_M_map 24 = .ok (.if_icmp .le 7, 3) := by decide +kernel
theorem d_M_map_27 : decode b_M_map 27 = .ok (.ldc2_w 160, 3) := by decide +kernel
theorem d_M_map_30 : decode b_M_map 30 = .ok (.lreturn, 1) := by decide +kernel
theorem d_M_map_31 : decode b_M_map 31 = .ok (.lconst 0, 1) := by decide +kernel
theorem d_M_map_32 : decode b_M_map 32 = .ok (.lstore_n 3, 1) := by decide +kernel
theorem d_M_map_33 : decode b_M_map 33 = .ok (.iconst 0, 1) := by decide +kernel
theorem d_M_map_34 : decode b_M_map 34 = .ok (.istore 5, 2) := by decide +kernel
theorem d_M_map_36 : decode b_M_map 36 = .ok (.iload 5, 2) := by decide +kernel
theorem d_M_map_38 : decode b_M_map 38 = .ok (.aload_n 0, 1) := by decide +kernel
theorem d_M_map_39 : decode b_M_map 39 = .ok (.getfield 115, 3) := by decide +kernel
theorem d_M_map_42 : decode b_M_map 42 = .ok (.if_icmp .ge 75, 3) := by decide +kernel
theorem d_M_map_45 : decode b_M_map 45 = .ok (.lload_n 3, 1) := by decide +kernel
theorem d_M_map_46 : decode b_M_map 46 = .ok (.aload_n 0, 1) := by decide +kernel
theorem d_M_map_47 : decode b_M_map 47 = .ok (.getfield 50, 3) := by decide +kernel
theorem d_M_map_50 : decode b_M_map 50 = .ok (.iload 5, 2) := by decide +kernel
theorem d_M_map_52 : decode b_M_map 52 = .ok (.iaload, 1) := by decide +kernel
theorem d_M_map_53 : decode b_M_map 53 = .ok (.iload_n 1, 1) := by decide +kernel
theorem d_M_map_54 : decode b_M_map 54 = .ok (.if_icmp .ne 54, 3) := by decide +kernel
theorem d_M_map_57 : decode b_M_map 57 = .ok (.aload_n 0, 1) := by decide +kernel
theorem d_M_map_58 : decode b_M_map 58 = .ok (.getfield 53, 3) := by decide +kernel
theorem d_M_map_61 : decode b_M_map 61 = .ok (.iload 5, 2) := by decide +kernel
theorem d_M_map_63 : decode b_M_map 63 = .ok (.iaload, 1) := by decide +kernel
theorem d_M_map_64 : decode b_M_map 64 = .ok (.iload_n 2, 1) := by decide +kernel
theorem d_M_map_65 : decode b_M_map 65 = .ok (.if_icmp .ne 43, 3) := by decide +kernel
theorem d_M_map_68 : decode b_M_map 68 = .ok (.aload_n 0, 1) := by decide +kernel
theorem d_M_map_69 : decode b_M_map 69 = .ok (.getfield 47, 3) := by decide +kernel
theorem d_M_map_72 : decode b_M_map 72 = .ok (.iload 5, 2) := by decide +kernel
theorem d_M_map_74 : decode b_M_map 74 = .ok (.iaload, 1) := by decide +kernel
theorem d_M_map_75 : decode b_M_map 75 = .ok (.aload_n 0, 1) := by decide +kernel
theorem d_M_map_76 : decode b_M_map 76 = .ok (.getfield 139, 3) := by decide +kernel
theorem d_M_map_79 : decode b_M_map 79 = .ok (.if_icmp .ge 29, 3) := by decide +kernel
theorem d_M_map_82 : decode b_M_map 82 = .ok (.aload_n 0, 1) := by decide +kernel
theorem d_M_map_83 : decode b_M_map 83 = .ok (.getfield 59, 3) := by decide +kernel
theorem d_M_map_86 : decode b_M_map 86 = .ok (.aload_n 0, 1) := by decide +kernel
theorem d_M_map_87 : decode b_M_map 87 = .ok (.getfield 47, 3) := by decide +kernel
theorem d_M_map_90 : decode b_M_map 90 = .ok (.iload 5, 2) := by decide +kernel
theorem d_M_map_92 : decode b_M_map 92 = .ok (.iaload, 1) := by decide +kernel
theorem d_M_map_93 : decode b_M_map 93 = .ok (.iaload, 1) := by decide +kernel
theorem d_M_map_94 : decode b_M_map 94 = .ok (.iconst 3, 1) := by decide +kernel
theorem d_M_map_95 : decode b_M_map 95 = .ok (.if_icmp .ne 13, 3) := by decide +kernel
theorem d_M_map_98 : decode b_M_map 98 = .ok (.aload_n 0, 1) := by decide +kernel
theorem d_M_map_99 : decode b_M_map 99 = .ok (.getfield 56, 3) := by decide +kernel
theorem d_M_map_102 : decode b_M_map 102 = .ok (.iload 5, 2) := by decide +kernel
theorem d_M_map_104 : decode b_M_map 104 = .ok (.laload, 1) := by decide +kernel
theorem d_M_map_105 : decode b_M_map 105 = .ok (.goto 4, 3) := by decide +kernel
theorem d_M_map_108 : decode b_M_map 108 = .ok (.lconst 0, 1) := by decide +kernel
theorem d_M_map_109 : decode b_M_map 109 = .ok (.ladd, 1) := by decide +kernel
theorem d_M_map_110 : decode b_M_map 110 = .ok (.lstore_n 3, 1) := by decide +kernel
theorem d_M_map_111 : decode b_M_map 111 = .ok (.iinc 5 1, 3) := by decide +kernel
theorem d_M_map_114 : decode b_M_map 114 = .ok (.goto (-78), 3) := by decide +kernel
theorem d_M_map_117 : decode b_M_map 117 = .ok (.lload_n 3, 1) := by decide +kernel
theorem d_M_map_118 : decode b_M_map 118 = .ok (.lreturn, 1) := by decide +kernel
end
section
theorem d_L_cell_0 : decode b_L_cell 0 = .ok (.iload_n 1, 1) := by decide +kernel
theorem d_L_cell_1 : decode b_L_cell 1 = .ok (.aload_n 0, 1) := by decide +kernel
theorem d_L_cell_2 : decode b_L_cell 2 = .ok (.arraylength, 1) := by decide +kernel
theorem d_L_cell_3 : decode b_L_cell 3 = .ok (.if_icmp .ge 9, 3) := by decide +kernel
theorem d_L_cell_6 : decode b_L_cell 6 = .ok (.aload_n 0, 1) := by decide +kernel
theorem d_L_cell_7 : decode b_L_cell 7 = .ok (.iload_n 1, 1) := by decide +kernel
theorem d_L_cell_8 : decode b_L_cell 8 = .ok (.iaload, 1) := by decide +kernel
theorem d_L_cell_9 : decode b_L_cell 9 = .ok (.goto 4, 3) := by decide +kernel
theorem d_L_cell_12 : decode b_L_cell 12 = .ok (.iconst 0, 1) := by decide +kernel
theorem d_L_cell_13 : decode b_L_cell 13 = .ok (.ireturn, 1) := by decide +kernel
theorem d_L_law_0 : decode b_L_law 0 = .ok (.new 7, 3) := by decide +kernel
theorem d_L_law_3 : decode b_L_law 3 = .ok (.dup, 1) := by decide +kernel
theorem d_L_law_4 : decode b_L_law 4 = .ok (.aload_n 0, 1) := by decide +kernel
theorem d_L_law_5 : decode b_L_law 5 = .ok (.iconst 0, 1) := by decide +kernel
theorem d_L_law_6 : decode b_L_law 6 = .ok (.invokestatic 9, 3) := by decide +kernel
theorem d_L_law_9 : decode b_L_law 9 = .ok (.invokespecial 15, 3) := by decide +kernel
theorem d_L_law_12 : decode b_L_law 12 = .ok (.astore_n 1, 1) := by decide +kernel
theorem d_L_law_13 : decode b_L_law 13 = .ok (.new 18, 3) := by decide +kernel
theorem d_L_law_16 : decode b_L_law 16 = .ok (.dup, 1) := by decide +kernel
theorem d_L_law_17 : decode b_L_law 17 = .ok (.aload_n 0, 1) := by decide +kernel
theorem d_L_law_18 : decode b_L_law 18 = .ok (.iconst 0, 1) := by decide +kernel
theorem d_L_law_19 : decode b_L_law 19 = .ok (.invokestatic 9, 3) := by decide +kernel
theorem d_L_law_22 : decode b_L_law 22 = .ok (.invokespecial 20, 3) := by decide +kernel
theorem d_L_law_25 : decode b_L_law 25 = .ok (.astore_n 2, 1) := by decide +kernel
theorem d_L_law_26 : decode b_L_law 26 = .ok (.iconst 1, 1) := by decide +kernel
theorem d_L_law_27 : decode b_L_law 27 = .ok (.istore_n 3, 1) := by decide +kernel
theorem d_L_law_28 : decode b_L_law 28 = .ok (.iload_n 3, 1) := by decide +kernel
theorem d_L_law_29 : decode b_L_law 29 = .ok (.aload_n 0, 1) := by decide +kernel
theorem d_L_law_30 : decode b_L_law 30 = .ok (.arraylength, 1) := by decide +kernel
theorem d_L_law_31 : decode b_L_law 31 = .ok (.bipush 6, 2) := by decide +kernel
theorem d_L_law_33 : decode b_L_law 33 = .ok (.isub, 1) := by decide +kernel
theorem d_L_law_34 : decode b_L_law 34 = .ok (.if_icmp .gt 893, 3) := by decide +kernel
theorem d_L_law_37 : decode b_L_law 37 = .ok (.aload_n 0, 1) := by decide +kernel
theorem d_L_law_38 : decode b_L_law 38 = .ok (.iload_n 3, 1) := by decide +kernel
theorem d_L_law_39 : decode b_L_law 39 = .ok (.iaload, 1) := by decide +kernel
theorem d_L_law_40 : decode b_L_law 40 = .ok (.bipush 31, 2) := by decide +kernel
theorem d_L_law_42 : decode b_L_law 42 = .ok (.iand, 1) := by decide +kernel
theorem d_L_law_43 : decode b_L_law 43 = .ok (.tableswitch 878 0 22 #[105, 148, 191, 264, 277, 300, 313, 346, 369, 393, 416, 440, 473, 506, 609, 632, 655, 689, 772, 795, 818, 832, 855], 105) := by decide +kernel
theorem d_L_law_148 : decode b_L_law 148 = .ok (.aload_n 1, 1) := by decide +kernel
theorem d_L_law_149 : decode b_L_law 149 = .ok (.aload_n 0, 1) := by decide +kernel
theorem d_L_law_150 : decode b_L_law 150 = .ok (.iload_n 3, 1) := by decide +kernel
theorem d_L_law_151 : decode b_L_law 151 = .ok (.iconst 1, 1) := by decide +kernel
theorem d_L_law_152 : decode b_L_law 152 = .ok (.iadd, 1) := by decide +kernel
theorem d_L_law_153 : decode b_L_law 153 = .ok (.iaload, 1) := by decide +kernel
theorem d_L_law_154 : decode b_L_law 154 = .ok (.aload_n 0, 1) := by decide +kernel
theorem d_L_law_155 : decode b_L_law 155 = .ok (.iload_n 3, 1) := by decide +kernel
theorem d_L_law_156 : decode b_L_law 156 = .ok (.iconst 2, 1) := by decide +kernel
theorem d_L_law_157 : decode b_L_law 157 = .ok (.iadd, 1) := by decide +kernel
theorem d_L_law_158 : decode b_L_law 158 = .ok (.iaload, 1) := by decide +kernel
theorem d_L_law_159 : decode b_L_law 159 = .ok (.aload_n 0, 1) := by decide +kernel
theorem d_L_law_160 : decode b_L_law 160 = .ok (.iload_n 3, 1) := by decide +kernel
theorem d_L_law_161 : decode b_L_law 161 = .ok (.iconst 3, 1) := by decide +kernel
theorem d_L_law_162 : decode b_L_law 162 = .ok (.iadd, 1) := by decide +kernel
theorem d_L_law_163 : decode b_L_law 163 = .ok (.iaload, 1) := by decide +kernel
theorem d_L_law_164 : decode b_L_law 164 = .ok (.invokevirtual 21, 3) := by decide +kernel
theorem d_L_law_167 : decode b_L_law 167 = .ok (.aload_n 2, 1) := by decide +kernel
theorem d_L_law_168 : decode b_L_law 168 = .ok (.aload_n 0, 1) := by decide +kernel
theorem d_L_law_169 : decode b_L_law 169 = .ok (.iload_n 3, 1) := by decide +kernel
theorem d_L_law_170 : decode b_L_law 170 = .ok (.iconst 1, 1) := by decide +kernel
theorem d_L_law_171 : decode b_L_law 171 = .ok (.iadd, 1) := by decide +kernel
theorem d_L_law_172 : decode b_L_law 172 = .ok (.iaload, 1) := by decide +kernel
theorem d_L_law_173 : decode b_L_law 173 = .ok (.aload_n 0, 1) := by decide +kernel
theorem d_L_law_174 : decode b_L_law 174 = .ok (.iload_n 3, 1) := by decide +kernel
theorem d_L_law_175 : decode b_L_law 175 = .ok (.iconst 2, 1) := by decide +kernel
theorem d_L_law_176 : decode b_L_law 176 = .ok (.iadd, 1) := by decide +kernel
theorem d_L_law_177 : decode b_L_law 177 = .ok (.iaload, 1) := by decide +kernel
theorem d_L_law_178 : decode b_L_law 178 = .ok (.aload_n 0, 1) := by decide +kernel
theorem d_L_law_179 : decode b_L_law 179 = .ok (.iload_n 3, 1) := by decide +kernel
theorem d_L_law_180 : decode b_L_law 180 = .ok (.iconst 3, 1) := by decide +kernel
theorem d_L_law_181 : decode b_L_law 181 = .ok (.iadd, 1) := by decide +kernel
theorem d_L_law_182 : decode b_L_law 182 = .ok (.iaload, 1) := by decide +kernel
theorem d_L_law_183 : decode b_L_law 183 = .ok (.invokevirtual 25, 3) := by decide +kernel
theorem d_L_law_186 : decode b_L_law 186 = .ok (.if_icmp .eq 735, 3) := by decide +kernel
theorem d_L_law_189 : decode b_L_law 189 = .ok (.iconst 0, 1) := by decide +kernel
theorem d_L_law_190 : decode b_L_law 190 = .ok (.ireturn, 1) := by decide +kernel
theorem d_L_law_191 : decode b_L_law 191 = .ok (.aload_n 1, 1) := by decide +kernel
theorem d_L_law_192 : decode b_L_law 192 = .ok (.aload_n 0, 1) := by decide +kernel
theorem d_L_law_193 : decode b_L_law 193 = .ok (.iload_n 3, 1) := by decide +kernel
theorem d_L_law_194 : decode b_L_law 194 = .ok (.iconst 1, 1) := by decide +kernel
theorem d_L_law_195 : decode b_L_law 195 = .ok (.iadd, 1) := by decide +kernel
theorem d_L_law_196 : decode b_L_law 196 = .ok (.iaload, 1) := by decide +kernel
theorem d_L_law_197 : decode b_L_law 197 = .ok (.aload_n 0, 1) := by decide +kernel
theorem d_L_law_198 : decode b_L_law 198 = .ok (.iload_n 3, 1) := by decide +kernel
theorem d_L_law_199 : decode b_L_law 199 = .ok (.iconst 2, 1) := by decide +kernel
theorem d_L_law_200 : decode b_L_law 200 = .ok (.iadd, 1) := by decide +kernel
theorem d_L_law_201 : decode b_L_law 201 = .ok (.iaload, 1) := by decide +kernel
theorem d_L_law_202 : decode b_L_law 202 = .ok (.aload_n 0, 1) := by decide +kernel
theorem d_L_law_203 : decode b_L_law 203 = .ok (.iload_n 3, 1) := by decide +kernel
theorem d_L_law_204 : decode b_L_law 204 = .ok (.iconst 3, 1) := by decide +kernel
theorem d_L_law_205 : decode b_L_law 205 = .ok (.iadd, 1) := by decide +kernel
theorem d_L_law_206 : decode b_L_law 206 = .ok (.iaload, 1) := by decide +kernel
theorem d_L_law_207 : decode b_L_law 207 = .ok (.invokevirtual 26, 3) := by decide +kernel
theorem d_L_law_210 : decode b_L_law 210 = .ok (.aload_n 2, 1) := by decide +kernel
theorem d_L_law_211 : decode b_L_law 211 = .ok (.aload_n 0, 1) := by decide +kernel
theorem d_L_law_212 : decode b_L_law 212 = .ok (.iload_n 3, 1) := by decide +kernel
theorem d_L_law_213 : decode b_L_law 213 = .ok (.iconst 1, 1) := by decide +kernel
theorem d_L_law_214 : decode b_L_law 214 = .ok (.iadd, 1) := by decide +kernel
theorem d_L_law_215 : decode b_L_law 215 = .ok (.iaload, 1) := by decide +kernel
theorem d_L_law_216 : decode b_L_law 216 = .ok (.aload_n 0, 1) := by decide +kernel
theorem d_L_law_217 : decode b_L_law 217 = .ok (.iload_n 3, 1) := by decide +kernel
theorem d_L_law_218 : decode b_L_law 218 = .ok (.iconst 2, 1) := by decide +kernel
theorem d_L_law_219 : decode b_L_law 219 = .ok (.iadd, 1) := by decide +kernel
theorem d_L_law_220 : decode b_L_law 220 = .ok (.iaload, 1) := by decide +kernel
theorem d_L_law_221 : decode b_L_law 221 = .ok (.aload_n 0, 1) := by decide +kernel
theorem d_L_law_222 : decode b_L_law 222 = .ok (.iload_n 3, 1) := by decide +kernel
theorem d_L_law_223 : decode b_L_law 223 = .ok (.iconst 3, 1) := by decide +kernel
theorem d_L_law_224 : decode b_L_law 224 = .ok (.iadd, 1) := by decide +kernel
theorem d_L_law_225 : decode b_L_law 225 = .ok (.iaload, 1) := by decide +kernel
theorem d_L_law_226 : decode b_L_law 226 = .ok (.invokevirtual 29, 3) := by decide +kernel
theorem d_L_law_229 : decode b_L_law 229 = .ok (.if_icmp .eq 692, 3) := by decide +kernel
theorem d_L_law_232 : decode b_L_law 232 = .ok (.iconst 0, 1) := by decide +kernel
theorem d_L_law_233 : decode b_L_law 233 = .ok (.ireturn, 1) := by decide +kernel
theorem d_L_law_234 : decode b_L_law 234 = .ok (.aload_n 1, 1) := by decide +kernel
theorem d_L_law_235 : decode b_L_law 235 = .ok (.aload_n 0, 1) := by decide +kernel
theorem d_L_law_236 : decode b_L_law 236 = .ok (.iload_n 3, 1) := by decide +kernel
theorem d_L_law_237 : decode b_L_law 237 = .ok (.iconst 1, 1) := by decide +kernel
theorem d_L_law_238 : decode b_L_law 238 = .ok (.iadd, 1) := by decide +kernel
theorem d_L_law_239 : decode b_L_law 239 = .ok (.iaload, 1) := by decide +kernel
theorem d_L_law_240 : decode b_L_law 240 = .ok (.i2l, 1) := by decide +kernel
theorem d_L_law_241 : decode b_L_law 241 = .ok (.bipush 32, 2) := by decide +kernel
theorem d_L_law_243 : decode b_L_law 243 = .ok (.lshl, 1) := by decide +kernel
theorem d_L_law_244 : decode b_L_law 244 = .ok (.aload_n 0, 1) := by decide +kernel
theorem d_L_law_245 : decode b_L_law 245 = .ok (.iload_n 3, 1) := by decide +kernel
theorem d_L_law_246 : decode b_L_law 246 = .ok (.iconst 2, 1) := by decide +kernel
theorem d_L_law_247 : decode b_L_law 247 = .ok (.iadd, 1) := by decide +kernel
theorem d_L_law_248 : decode b_L_law 248 = .ok (.iaload, 1) := by decide +kernel
theorem d_L_law_249 : decode b_L_law 249 = .ok (.i2l, 1) := by decide +kernel
theorem d_L_law_250 : decode b_L_law 250 = .ok (.ldc2_w 30, 3) := by decide +kernel
theorem d_L_law_253 : decode b_L_law 253 = .ok (.land, 1) := by decide +kernel
theorem d_L_law_254 : decode b_L_law 254 = .ok (.lor, 1) := by decide +kernel
theorem d_L_law_255 : decode b_L_law 255 = .ok (.aload_n 0, 1) := by decide +kernel
theorem d_L_law_256 : decode b_L_law 256 = .ok (.iload_n 3, 1) := by decide +kernel
theorem d_L_law_257 : decode b_L_law 257 = .ok (.iconst 3, 1) := by decide +kernel
theorem d_L_law_258 : decode b_L_law 258 = .ok (.iadd, 1) := by decide +kernel
theorem d_L_law_259 : decode b_L_law 259 = .ok (.iaload, 1) := by decide +kernel
theorem d_L_law_260 : decode b_L_law 260 = .ok (.aload_n 0, 1) := by decide +kernel
theorem d_L_law_261 : decode b_L_law 261 = .ok (.iload_n 3, 1) := by decide +kernel
theorem d_L_law_262 : decode b_L_law 262 = .ok (.iconst 4, 1) := by decide +kernel
theorem d_L_law_263 : decode b_L_law 263 = .ok (.iadd, 1) := by decide +kernel
theorem d_L_law_264 : decode b_L_law 264 = .ok (.iaload, 1) := by decide +kernel
theorem d_L_law_265 : decode b_L_law 265 = .ok (.invokevirtual 32, 3) := by decide +kernel
theorem d_L_law_268 : decode b_L_law 268 = .ok (.aload_n 2, 1) := by decide +kernel
theorem d_L_law_269 : decode b_L_law 269 = .ok (.aload_n 0, 1) := by decide +kernel
theorem d_L_law_270 : decode b_L_law 270 = .ok (.iload_n 3, 1) := by decide +kernel
theorem d_L_law_271 : decode b_L_law 271 = .ok (.iconst 1, 1) := by decide +kernel
theorem d_L_law_272 : decode b_L_law 272 = .ok (.iadd, 1) := by decide +kernel
theorem d_L_law_273 : decode b_L_law 273 = .ok (.iaload, 1) := by decide +kernel
theorem d_L_law_274 : decode b_L_law 274 = .ok (.i2l, 1) := by decide +kernel
theorem d_L_law_275 : decode b_L_law 275 = .ok (.bipush 32, 2) := by decide +kernel
theorem d_L_law_277 : decode b_L_law 277 = .ok (.lshl, 1) := by decide +kernel
theorem d_L_law_278 : decode b_L_law 278 = .ok (.aload_n 0, 1) := by decide +kernel
theorem d_L_law_279 : decode b_L_law 279 = .ok (.iload_n 3, 1) := by decide +kernel
theorem d_L_law_280 : decode b_L_law 280 = .ok (.iconst 2, 1) := by decide +kernel
theorem d_L_law_281 : decode b_L_law 281 = .ok (.iadd, 1) := by decide +kernel
theorem d_L_law_282 : decode b_L_law 282 = .ok (.iaload, 1) := by decide +kernel
theorem d_L_law_283 : decode b_L_law 283 = .ok (.i2l, 1) := by decide +kernel
theorem d_L_law_284 : decode b_L_law 284 = .ok (.ldc2_w 30, 3) := by decide +kernel
theorem d_L_law_287 : decode b_L_law 287 = .ok (.land, 1) := by decide +kernel
theorem d_L_law_288 : decode b_L_law 288 = .ok (.lor, 1) := by decide +kernel
theorem d_L_law_289 : decode b_L_law 289 = .ok (.aload_n 0, 1) := by decide +kernel
theorem d_L_law_290 : decode b_L_law 290 = .ok (.iload_n 3, 1) := by decide +kernel
theorem d_L_law_291 : decode b_L_law 291 = .ok (.iconst 3, 1) := by decide +kernel
theorem d_L_law_292 : decode b_L_law 292 = .ok (.iadd, 1) := by decide +kernel
theorem d_L_law_293 : decode b_L_law 293 = .ok (.iaload, 1) := by decide +kernel
theorem d_L_law_294 : decode b_L_law 294 = .ok (.aload_n 0, 1) := by decide +kernel
theorem d_L_law_295 : decode b_L_law 295 = .ok (.iload_n 3, 1) := by decide +kernel
theorem d_L_law_296 : decode b_L_law 296 = .ok (.iconst 4, 1) := by decide +kernel
theorem d_L_law_297 : decode b_L_law 297 = .ok (.iadd, 1) := by decide +kernel
theorem d_L_law_298 : decode b_L_law 298 = .ok (.iaload, 1) := by decide +kernel
theorem d_L_law_299 : decode b_L_law 299 = .ok (.invokevirtual 36, 3) := by decide +kernel
theorem d_L_law_302 : decode b_L_law 302 = .ok (.if_icmp .eq 619, 3) := by decide +kernel
theorem d_L_law_305 : decode b_L_law 305 = .ok (.iconst 0, 1) := by decide +kernel
theorem d_L_law_306 : decode b_L_law 306 = .ok (.ireturn, 1) := by decide +kernel
theorem d_L_law_307 : decode b_L_law 307 = .ok (.aload_n 1, 1) := by decide +kernel
theorem d_L_law_308 : decode b_L_law 308 = .ok (.invokevirtual 37, 3) := by decide +kernel
theorem d_L_law_311 : decode b_L_law 311 = .ok (.aload_n 2, 1) := by decide +kernel
theorem d_L_law_312 : decode b_L_law 312 = .ok (.invokevirtual 41, 3) := by decide +kernel
theorem d_L_law_315 : decode b_L_law 315 = .ok (.if_icmp .eq 606, 3) := by decide +kernel
theorem d_L_law_318 : decode b_L_law 318 = .ok (.iconst 0, 1) := by decide +kernel
theorem d_L_law_319 : decode b_L_law 319 = .ok (.ireturn, 1) := by decide +kernel
theorem d_L_law_320 : decode b_L_law 320 = .ok (.aload_n 1, 1) := by decide +kernel
theorem d_L_law_321 : decode b_L_law 321 = .ok (.aload_n 0, 1) := by decide +kernel
theorem d_L_law_322 : decode b_L_law 322 = .ok (.iload_n 3, 1) := by decide +kernel
theorem d_L_law_323 : decode b_L_law 323 = .ok (.iconst 1, 1) := by decide +kernel
theorem d_L_law_324 : decode b_L_law 324 = .ok (.iadd, 1) := by decide +kernel
theorem d_L_law_325 : decode b_L_law 325 = .ok (.iaload, 1) := by decide +kernel
theorem d_L_law_326 : decode b_L_law 326 = .ok (.invokevirtual 42, 3) := by decide +kernel
theorem d_L_law_329 : decode b_L_law 329 = .ok (.aload_n 2, 1) := by decide +kernel
theorem d_L_law_330 : decode b_L_law 330 = .ok (.aload_n 0, 1) := by decide +kernel
theorem d_L_law_331 : decode b_L_law 331 = .ok (.iload_n 3, 1) := by decide +kernel
theorem d_L_law_332 : decode b_L_law 332 = .ok (.iconst 1, 1) := by decide +kernel
theorem d_L_law_333 : decode b_L_law 333 = .ok (.iadd, 1) := by decide +kernel
theorem d_L_law_334 : decode b_L_law 334 = .ok (.iaload, 1) := by decide +kernel
theorem d_L_law_335 : decode b_L_law 335 = .ok (.invokevirtual 46, 3) := by decide +kernel
theorem d_L_law_338 : decode b_L_law 338 = .ok (.if_icmp .eq 583, 3) := by decide +kernel
theorem d_L_law_341 : decode b_L_law 341 = .ok (.iconst 0, 1) := by decide +kernel
theorem d_L_law_342 : decode b_L_law 342 = .ok (.ireturn, 1) := by decide +kernel
theorem d_L_law_343 : decode b_L_law 343 = .ok (.aload_n 1, 1) := by decide +kernel
theorem d_L_law_344 : decode b_L_law 344 = .ok (.invokevirtual 47, 3) := by decide +kernel
theorem d_L_law_347 : decode b_L_law 347 = .ok (.aload_n 2, 1) := by decide +kernel
theorem d_L_law_348 : decode b_L_law 348 = .ok (.invokevirtual 51, 3) := by decide +kernel
theorem d_L_law_351 : decode b_L_law 351 = .ok (.if_icmp .eq 570, 3) := by decide +kernel
theorem d_L_law_354 : decode b_L_law 354 = .ok (.iconst 0, 1) := by decide +kernel
theorem d_L_law_355 : decode b_L_law 355 = .ok (.ireturn, 1) := by decide +kernel
theorem d_L_law_356 : decode b_L_law 356 = .ok (.aload_n 1, 1) := by decide +kernel
theorem d_L_law_357 : decode b_L_law 357 = .ok (.aload_n 0, 1) := by decide +kernel
theorem d_L_law_358 : decode b_L_law 358 = .ok (.iload_n 3, 1) := by decide +kernel
theorem d_L_law_359 : decode b_L_law 359 = .ok (.iconst 1, 1) := by decide +kernel
theorem d_L_law_360 : decode b_L_law 360 = .ok (.iadd, 1) := by decide +kernel
theorem d_L_law_361 : decode b_L_law 361 = .ok (.iaload, 1) := by decide +kernel
theorem d_L_law_362 : decode b_L_law 362 = .ok (.aload_n 0, 1) := by decide +kernel
theorem d_L_law_363 : decode b_L_law 363 = .ok (.iload_n 3, 1) := by decide +kernel
theorem d_L_law_364 : decode b_L_law 364 = .ok (.iconst 2, 1) := by decide +kernel
theorem d_L_law_365 : decode b_L_law 365 = .ok (.iadd, 1) := by decide +kernel
theorem d_L_law_366 : decode b_L_law 366 = .ok (.iaload, 1) := by decide +kernel
theorem d_L_law_367 : decode b_L_law 367 = .ok (.invokevirtual 52, 3) := by decide +kernel
theorem d_L_law_370 : decode b_L_law 370 = .ok (.aload_n 2, 1) := by decide +kernel
theorem d_L_law_371 : decode b_L_law 371 = .ok (.aload_n 0, 1) := by decide +kernel
theorem d_L_law_372 : decode b_L_law 372 = .ok (.iload_n 3, 1) := by decide +kernel
theorem d_L_law_373 : decode b_L_law 373 = .ok (.iconst 1, 1) := by decide +kernel
theorem d_L_law_374 : decode b_L_law 374 = .ok (.iadd, 1) := by decide +kernel
theorem d_L_law_375 : decode b_L_law 375 = .ok (.iaload, 1) := by decide +kernel
theorem d_L_law_376 : decode b_L_law 376 = .ok (.aload_n 0, 1) := by decide +kernel
theorem d_L_law_377 : decode b_L_law 377 = .ok (.iload_n 3, 1) := by decide +kernel
theorem d_L_law_378 : decode b_L_law 378 = .ok (.iconst 2, 1) := by decide +kernel
theorem d_L_law_379 : decode b_L_law 379 = .ok (.iadd, 1) := by decide +kernel
theorem d_L_law_380 : decode b_L_law 380 = .ok (.iaload, 1) := by decide +kernel
theorem d_L_law_381 : decode b_L_law 381 = .ok (.invokevirtual 56, 3) := by decide +kernel
theorem d_L_law_384 : decode b_L_law 384 = .ok (.if_icmp .eq 537, 3) := by decide +kernel
theorem d_L_law_387 : decode b_L_law 387 = .ok (.iconst 0, 1) := by decide +kernel
theorem d_L_law_388 : decode b_L_law 388 = .ok (.ireturn, 1) := by decide +kernel
theorem d_L_law_389 : decode b_L_law 389 = .ok (.aload_n 1, 1) := by decide +kernel
theorem d_L_law_390 : decode b_L_law 390 = .ok (.aload_n 0, 1) := by decide +kernel
theorem d_L_law_391 : decode b_L_law 391 = .ok (.iload_n 3, 1) := by decide +kernel
theorem d_L_law_392 : decode b_L_law 392 = .ok (.iconst 1, 1) := by decide +kernel
theorem d_L_law_393 : decode b_L_law 393 = .ok (.iadd, 1) := by decide +kernel
theorem d_L_law_394 : decode b_L_law 394 = .ok (.iaload, 1) := by decide +kernel
theorem d_L_law_395 : decode b_L_law 395 = .ok (.invokevirtual 57, 3) := by decide +kernel
theorem d_L_law_398 : decode b_L_law 398 = .ok (.aload_n 2, 1) := by decide +kernel
theorem d_L_law_399 : decode b_L_law 399 = .ok (.aload_n 0, 1) := by decide +kernel
theorem d_L_law_400 : decode b_L_law 400 = .ok (.iload_n 3, 1) := by decide +kernel
theorem d_L_law_401 : decode b_L_law 401 = .ok (.iconst 1, 1) := by decide +kernel
theorem d_L_law_402 : decode b_L_law 402 = .ok (.iadd, 1) := by decide +kernel
theorem d_L_law_403 : decode b_L_law 403 = .ok (.iaload, 1) := by decide +kernel
theorem d_L_law_404 : decode b_L_law 404 = .ok (.invokevirtual 60, 3) := by decide +kernel
theorem d_L_law_407 : decode b_L_law 407 = .ok (.if_icmp .eq 514, 3) := by decide +kernel
theorem d_L_law_410 : decode b_L_law 410 = .ok (.iconst 0, 1) := by decide +kernel
theorem d_L_law_411 : decode b_L_law 411 = .ok (.ireturn, 1) := by decide +kernel
theorem d_L_law_412 : decode b_L_law 412 = .ok (.aload_n 1, 1) := by decide +kernel
theorem d_L_law_413 : decode b_L_law 413 = .ok (.aload_n 0, 1) := by decide +kernel
theorem d_L_law_414 : decode b_L_law 414 = .ok (.iload_n 3, 1) := by decide +kernel
theorem d_L_law_415 : decode b_L_law 415 = .ok (.iconst 1, 1) := by decide +kernel
theorem d_L_law_416 : decode b_L_law 416 = .ok (.iadd, 1) := by decide +kernel
theorem d_L_law_417 : decode b_L_law 417 = .ok (.iaload, 1) := by decide +kernel
theorem d_L_law_418 : decode b_L_law 418 = .ok (.invokevirtual 61, 3) := by decide +kernel
theorem d_L_law_421 : decode b_L_law 421 = .ok (.aload_n 2, 1) := by decide +kernel
theorem d_L_law_422 : decode b_L_law 422 = .ok (.aload_n 0, 1) := by decide +kernel
theorem d_L_law_423 : decode b_L_law 423 = .ok (.iload_n 3, 1) := by decide +kernel
theorem d_L_law_424 : decode b_L_law 424 = .ok (.iconst 1, 1) := by decide +kernel
theorem d_L_law_425 : decode b_L_law 425 = .ok (.iadd, 1) := by decide +kernel
theorem d_L_law_426 : decode b_L_law 426 = .ok (.iaload, 1) := by decide +kernel
theorem d_L_law_427 : decode b_L_law 427 = .ok (.invokevirtual 65, 3) := by decide +kernel
theorem d_L_law_430 : decode b_L_law 430 = .ok (.lcmp, 1) := by decide +kernel
theorem d_L_law_431 : decode b_L_law 431 = .ok (.ifCond .eq 490, 3) := by decide +kernel
theorem d_L_law_434 : decode b_L_law 434 = .ok (.iconst 0, 1) := by decide +kernel
theorem d_L_law_435 : decode b_L_law 435 = .ok (.ireturn, 1) := by decide +kernel
theorem d_L_law_436 : decode b_L_law 436 = .ok (.aload_n 1, 1) := by decide +kernel
theorem d_L_law_437 : decode b_L_law 437 = .ok (.aload_n 0, 1) := by decide +kernel
theorem d_L_law_438 : decode b_L_law 438 = .ok (.iload_n 3, 1) := by decide +kernel
theorem d_L_law_439 : decode b_L_law 439 = .ok (.iconst 1, 1) := by decide +kernel
theorem d_L_law_440 : decode b_L_law 440 = .ok (.iadd, 1) := by decide +kernel
theorem d_L_law_441 : decode b_L_law 441 = .ok (.iaload, 1) := by decide +kernel
theorem d_L_law_442 : decode b_L_law 442 = .ok (.invokevirtual 66, 3) := by decide +kernel
theorem d_L_law_445 : decode b_L_law 445 = .ok (.aload_n 2, 1) := by decide +kernel
theorem d_L_law_446 : decode b_L_law 446 = .ok (.aload_n 0, 1) := by decide +kernel
theorem d_L_law_447 : decode b_L_law 447 = .ok (.iload_n 3, 1) := by decide +kernel
theorem d_L_law_448 : decode b_L_law 448 = .ok (.iconst 1, 1) := by decide +kernel
theorem d_L_law_449 : decode b_L_law 449 = .ok (.iadd, 1) := by decide +kernel
theorem d_L_law_450 : decode b_L_law 450 = .ok (.iaload, 1) := by decide +kernel
theorem d_L_law_451 : decode b_L_law 451 = .ok (.invokevirtual 69, 3) := by decide +kernel
theorem d_L_law_454 : decode b_L_law 454 = .ok (.if_icmp .eq 467, 3) := by decide +kernel
theorem d_L_law_457 : decode b_L_law 457 = .ok (.iconst 0, 1) := by decide +kernel
theorem d_L_law_458 : decode b_L_law 458 = .ok (.ireturn, 1) := by decide +kernel
theorem d_L_law_459 : decode b_L_law 459 = .ok (.aload_n 1, 1) := by decide +kernel
theorem d_L_law_460 : decode b_L_law 460 = .ok (.aload_n 0, 1) := by decide +kernel
theorem d_L_law_461 : decode b_L_law 461 = .ok (.iload_n 3, 1) := by decide +kernel
theorem d_L_law_462 : decode b_L_law 462 = .ok (.iconst 1, 1) := by decide +kernel
theorem d_L_law_463 : decode b_L_law 463 = .ok (.iadd, 1) := by decide +kernel
theorem d_L_law_464 : decode b_L_law 464 = .ok (.iaload, 1) := by decide +kernel
theorem d_L_law_465 : decode b_L_law 465 = .ok (.invokevirtual 70, 3) := by decide +kernel
theorem d_L_law_468 : decode b_L_law 468 = .ok (.aload_n 2, 1) := by decide +kernel
theorem d_L_law_469 : decode b_L_law 469 = .ok (.aload_n 0, 1) := by decide +kernel
theorem d_L_law_470 : decode b_L_law 470 = .ok (.iload_n 3, 1) := by decide +kernel
theorem d_L_law_471 : decode b_L_law 471 = .ok (.iconst 1, 1) := by decide +kernel
theorem d_L_law_472 : decode b_L_law 472 = .ok (.iadd, 1) := by decide +kernel
theorem d_L_law_473 : decode b_L_law 473 = .ok (.iaload, 1) := by decide +kernel
theorem d_L_law_474 : decode b_L_law 474 = .ok (.invokevirtual 73, 3) := by decide +kernel
theorem d_L_law_477 : decode b_L_law 477 = .ok (.lcmp, 1) := by decide +kernel
theorem d_L_law_478 : decode b_L_law 478 = .ok (.ifCond .eq 443, 3) := by decide +kernel
theorem d_L_law_481 : decode b_L_law 481 = .ok (.iconst 0, 1) := by decide +kernel
theorem d_L_law_482 : decode b_L_law 482 = .ok (.ireturn, 1) := by decide +kernel
theorem d_L_law_483 : decode b_L_law 483 = .ok (.aload_n 1, 1) := by decide +kernel
theorem d_L_law_484 : decode b_L_law 484 = .ok (.aload_n 0, 1) := by decide +kernel
theorem d_L_law_485 : decode b_L_law 485 = .ok (.iload_n 3, 1) := by decide +kernel
theorem d_L_law_486 : decode b_L_law 486 = .ok (.iconst 1, 1) := by decide +kernel
theorem d_L_law_487 : decode b_L_law 487 = .ok (.iadd, 1) := by decide +kernel
theorem d_L_law_488 : decode b_L_law 488 = .ok (.iaload, 1) := by decide +kernel
theorem d_L_law_489 : decode b_L_law 489 = .ok (.aload_n 0, 1) := by decide +kernel
theorem d_L_law_490 : decode b_L_law 490 = .ok (.iload_n 3, 1) := by decide +kernel
theorem d_L_law_491 : decode b_L_law 491 = .ok (.iconst 2, 1) := by decide +kernel
theorem d_L_law_492 : decode b_L_law 492 = .ok (.iadd, 1) := by decide +kernel
theorem d_L_law_493 : decode b_L_law 493 = .ok (.iaload, 1) := by decide +kernel
theorem d_L_law_494 : decode b_L_law 494 = .ok (.invokevirtual 74, 3) := by decide +kernel
theorem d_L_law_497 : decode b_L_law 497 = .ok (.aload_n 2, 1) := by decide +kernel
theorem d_L_law_498 : decode b_L_law 498 = .ok (.aload_n 0, 1) := by decide +kernel
theorem d_L_law_499 : decode b_L_law 499 = .ok (.iload_n 3, 1) := by decide +kernel
theorem d_L_law_500 : decode b_L_law 500 = .ok (.iconst 1, 1) := by decide +kernel
theorem d_L_law_501 : decode b_L_law 501 = .ok (.iadd, 1) := by decide +kernel
theorem d_L_law_502 : decode b_L_law 502 = .ok (.iaload, 1) := by decide +kernel
theorem d_L_law_503 : decode b_L_law 503 = .ok (.aload_n 0, 1) := by decide +kernel
theorem d_L_law_504 : decode b_L_law 504 = .ok (.iload_n 3, 1) := by decide +kernel
theorem d_L_law_505 : decode b_L_law 505 = .ok (.iconst 2, 1) := by decide +kernel
theorem d_L_law_506 : decode b_L_law 506 = .ok (.iadd, 1) := by decide +kernel
theorem d_L_law_507 : decode b_L_law 507 = .ok (.iaload, 1) := by decide +kernel
theorem d_L_law_508 : decode b_L_law 508 = .ok (.invokevirtual 78, 3) := by decide +kernel
theorem d_L_law_511 : decode b_L_law 511 = .ok (.if_icmp .eq 410, 3) := by decide +kernel
theorem d_L_law_514 : decode b_L_law 514 = .ok (.iconst 0, 1) := by decide +kernel
theorem d_L_law_515 : decode b_L_law 515 = .ok (.ireturn, 1) := by decide +kernel
theorem d_L_law_516 : decode b_L_law 516 = .ok (.aload_n 1, 1) := by decide +kernel
theorem d_L_law_517 : decode b_L_law 517 = .ok (.aload_n 0, 1) := by decide +kernel
theorem d_L_law_518 : decode b_L_law 518 = .ok (.iload_n 3, 1) := by decide +kernel
theorem d_L_law_519 : decode b_L_law 519 = .ok (.iconst 1, 1) := by decide +kernel
theorem d_L_law_520 : decode b_L_law 520 = .ok (.iadd, 1) := by decide +kernel
theorem d_L_law_521 : decode b_L_law 521 = .ok (.iaload, 1) := by decide +kernel
theorem d_L_law_522 : decode b_L_law 522 = .ok (.aload_n 0, 1) := by decide +kernel
theorem d_L_law_523 : decode b_L_law 523 = .ok (.iload_n 3, 1) := by decide +kernel
theorem d_L_law_524 : decode b_L_law 524 = .ok (.iconst 2, 1) := by decide +kernel
theorem d_L_law_525 : decode b_L_law 525 = .ok (.iadd, 1) := by decide +kernel
theorem d_L_law_526 : decode b_L_law 526 = .ok (.iaload, 1) := by decide +kernel
theorem d_L_law_527 : decode b_L_law 527 = .ok (.invokevirtual 79, 3) := by decide +kernel
theorem d_L_law_530 : decode b_L_law 530 = .ok (.aload_n 2, 1) := by decide +kernel
theorem d_L_law_531 : decode b_L_law 531 = .ok (.aload_n 0, 1) := by decide +kernel
theorem d_L_law_532 : decode b_L_law 532 = .ok (.iload_n 3, 1) := by decide +kernel
theorem d_L_law_533 : decode b_L_law 533 = .ok (.iconst 1, 1) := by decide +kernel
theorem d_L_law_534 : decode b_L_law 534 = .ok (.iadd, 1) := by decide +kernel
theorem d_L_law_535 : decode b_L_law 535 = .ok (.iaload, 1) := by decide +kernel
theorem d_L_law_536 : decode b_L_law 536 = .ok (.aload_n 0, 1) := by decide +kernel
theorem d_L_law_537 : decode b_L_law 537 = .ok (.iload_n 3, 1) := by decide +kernel
theorem d_L_law_538 : decode b_L_law 538 = .ok (.iconst 2, 1) := by decide +kernel
theorem d_L_law_539 : decode b_L_law 539 = .ok (.iadd, 1) := by decide +kernel
theorem d_L_law_540 : decode b_L_law 540 = .ok (.iaload, 1) := by decide +kernel
theorem d_L_law_541 : decode b_L_law 541 = .ok (.invokevirtual 82, 3) := by decide +kernel
theorem d_L_law_544 : decode b_L_law 544 = .ok (.if_icmp .eq 377, 3) := by decide +kernel
theorem d_L_law_547 : decode b_L_law 547 = .ok (.iconst 0, 1) := by decide +kernel
theorem d_L_law_548 : decode b_L_law 548 = .ok (.ireturn, 1) := by decide +kernel
theorem d_L_law_549 : decode b_L_law 549 = .ok (.aload_n 1, 1) := by decide +kernel
theorem d_L_law_550 : decode b_L_law 550 = .ok (.aload_n 0, 1) := by decide +kernel
theorem d_L_law_551 : decode b_L_law 551 = .ok (.iload_n 3, 1) := by decide +kernel
theorem d_L_law_552 : decode b_L_law 552 = .ok (.iconst 1, 1) := by decide +kernel
theorem d_L_law_553 : decode b_L_law 553 = .ok (.iadd, 1) := by decide +kernel
theorem d_L_law_554 : decode b_L_law 554 = .ok (.iaload, 1) := by decide +kernel
theorem d_L_law_555 : decode b_L_law 555 = .ok (.i2l, 1) := by decide +kernel
theorem d_L_law_556 : decode b_L_law 556 = .ok (.bipush 32, 2) := by decide +kernel
theorem d_L_law_558 : decode b_L_law 558 = .ok (.lshl, 1) := by decide +kernel
theorem d_L_law_559 : decode b_L_law 559 = .ok (.aload_n 0, 1) := by decide +kernel
theorem d_L_law_560 : decode b_L_law 560 = .ok (.iload_n 3, 1) := by decide +kernel
theorem d_L_law_561 : decode b_L_law 561 = .ok (.iconst 2, 1) := by decide +kernel
theorem d_L_law_562 : decode b_L_law 562 = .ok (.iadd, 1) := by decide +kernel
theorem d_L_law_563 : decode b_L_law 563 = .ok (.iaload, 1) := by decide +kernel
theorem d_L_law_564 : decode b_L_law 564 = .ok (.i2l, 1) := by decide +kernel
theorem d_L_law_565 : decode b_L_law 565 = .ok (.ldc2_w 30, 3) := by decide +kernel
theorem d_L_law_568 : decode b_L_law 568 = .ok (.land, 1) := by decide +kernel
theorem d_L_law_569 : decode b_L_law 569 = .ok (.lor, 1) := by decide +kernel
theorem d_L_law_570 : decode b_L_law 570 = .ok (.aload_n 0, 1) := by decide +kernel
theorem d_L_law_571 : decode b_L_law 571 = .ok (.iload_n 3, 1) := by decide +kernel
theorem d_L_law_572 : decode b_L_law 572 = .ok (.iconst 3, 1) := by decide +kernel
theorem d_L_law_573 : decode b_L_law 573 = .ok (.iadd, 1) := by decide +kernel
theorem d_L_law_574 : decode b_L_law 574 = .ok (.iaload, 1) := by decide +kernel
theorem d_L_law_575 : decode b_L_law 575 = .ok (.i2l, 1) := by decide +kernel
theorem d_L_law_576 : decode b_L_law 576 = .ok (.bipush 32, 2) := by decide +kernel
theorem d_L_law_578 : decode b_L_law 578 = .ok (.lshl, 1) := by decide +kernel
theorem d_L_law_579 : decode b_L_law 579 = .ok (.aload_n 0, 1) := by decide +kernel
theorem d_L_law_580 : decode b_L_law 580 = .ok (.iload_n 3, 1) := by decide +kernel
theorem d_L_law_581 : decode b_L_law 581 = .ok (.iconst 4, 1) := by decide +kernel
theorem d_L_law_582 : decode b_L_law 582 = .ok (.iadd, 1) := by decide +kernel
theorem d_L_law_583 : decode b_L_law 583 = .ok (.iaload, 1) := by decide +kernel
theorem d_L_law_584 : decode b_L_law 584 = .ok (.i2l, 1) := by decide +kernel
theorem d_L_law_585 : decode b_L_law 585 = .ok (.ldc2_w 30, 3) := by decide +kernel
theorem d_L_law_588 : decode b_L_law 588 = .ok (.land, 1) := by decide +kernel
theorem d_L_law_589 : decode b_L_law 589 = .ok (.lor, 1) := by decide +kernel
theorem d_L_law_590 : decode b_L_law 590 = .ok (.aload_n 0, 1) := by decide +kernel
theorem d_L_law_591 : decode b_L_law 591 = .ok (.iload_n 3, 1) := by decide +kernel
theorem d_L_law_592 : decode b_L_law 592 = .ok (.iconst 5, 1) := by decide +kernel
theorem d_L_law_593 : decode b_L_law 593 = .ok (.iadd, 1) := by decide +kernel
theorem d_L_law_594 : decode b_L_law 594 = .ok (.iaload, 1) := by decide +kernel
theorem d_L_law_595 : decode b_L_law 595 = .ok (.invokevirtual 83, 3) := by decide +kernel
theorem d_L_law_598 : decode b_L_law 598 = .ok (.aload_n 2, 1) := by decide +kernel
theorem d_L_law_599 : decode b_L_law 599 = .ok (.aload_n 0, 1) := by decide +kernel
theorem d_L_law_600 : decode b_L_law 600 = .ok (.iload_n 3, 1) := by decide +kernel
theorem d_L_law_601 : decode b_L_law 601 = .ok (.iconst 1, 1) := by decide +kernel
theorem d_L_law_602 : decode b_L_law 602 = .ok (.iadd, 1) := by decide +kernel
theorem d_L_law_603 : decode b_L_law 603 = .ok (.iaload, 1) := by decide +kernel
theorem d_L_law_604 : decode b_L_law 604 = .ok (.i2l, 1) := by decide +kernel
theorem d_L_law_605 : decode b_L_law 605 = .ok (.bipush 32, 2) := by decide +kernel
theorem d_L_law_607 : decode b_L_law 607 = .ok (.lshl, 1) := by decide +kernel
theorem d_L_law_608 : decode b_L_law 608 = .ok (.aload_n 0, 1) := by decide +kernel
theorem d_L_law_609 : decode b_L_law 609 = .ok (.iload_n 3, 1) := by decide +kernel
theorem d_L_law_610 : decode b_L_law 610 = .ok (.iconst 2, 1) := by decide +kernel
theorem d_L_law_611 : decode b_L_law 611 = .ok (.iadd, 1) := by decide +kernel
theorem d_L_law_612 : decode b_L_law 612 = .ok (.iaload, 1) := by decide +kernel
theorem d_L_law_613 : decode b_L_law 613 = .ok (.i2l, 1) := by decide +kernel
theorem d_L_law_614 : decode b_L_law 614 = .ok (.ldc2_w 30, 3) := by decide +kernel
theorem d_L_law_617 : decode b_L_law 617 = .ok (.land, 1) := by decide +kernel
theorem d_L_law_618 : decode b_L_law 618 = .ok (.lor, 1) := by decide +kernel
theorem d_L_law_619 : decode b_L_law 619 = .ok (.aload_n 0, 1) := by decide +kernel
theorem d_L_law_620 : decode b_L_law 620 = .ok (.iload_n 3, 1) := by decide +kernel
theorem d_L_law_621 : decode b_L_law 621 = .ok (.iconst 3, 1) := by decide +kernel
theorem d_L_law_622 : decode b_L_law 622 = .ok (.iadd, 1) := by decide +kernel
theorem d_L_law_623 : decode b_L_law 623 = .ok (.iaload, 1) := by decide +kernel
theorem d_L_law_624 : decode b_L_law 624 = .ok (.i2l, 1) := by decide +kernel
theorem d_L_law_625 : decode b_L_law 625 = .ok (.bipush 32, 2) := by decide +kernel
theorem d_L_law_627 : decode b_L_law 627 = .ok (.lshl, 1) := by decide +kernel
theorem d_L_law_628 : decode b_L_law 628 = .ok (.aload_n 0, 1) := by decide +kernel
theorem d_L_law_629 : decode b_L_law 629 = .ok (.iload_n 3, 1) := by decide +kernel
theorem d_L_law_630 : decode b_L_law 630 = .ok (.iconst 4, 1) := by decide +kernel
theorem d_L_law_631 : decode b_L_law 631 = .ok (.iadd, 1) := by decide +kernel
theorem d_L_law_632 : decode b_L_law 632 = .ok (.iaload, 1) := by decide +kernel
theorem d_L_law_633 : decode b_L_law 633 = .ok (.i2l, 1) := by decide +kernel
theorem d_L_law_634 : decode b_L_law 634 = .ok (.ldc2_w 30, 3) := by decide +kernel
theorem d_L_law_637 : decode b_L_law 637 = .ok (.land, 1) := by decide +kernel
theorem d_L_law_638 : decode b_L_law 638 = .ok (.lor, 1) := by decide +kernel
theorem d_L_law_639 : decode b_L_law 639 = .ok (.aload_n 0, 1) := by decide +kernel
theorem d_L_law_640 : decode b_L_law 640 = .ok (.iload_n 3, 1) := by decide +kernel
theorem d_L_law_641 : decode b_L_law 641 = .ok (.iconst 5, 1) := by decide +kernel
theorem d_L_law_642 : decode b_L_law 642 = .ok (.iadd, 1) := by decide +kernel
theorem d_L_law_643 : decode b_L_law 643 = .ok (.iaload, 1) := by decide +kernel
theorem d_L_law_644 : decode b_L_law 644 = .ok (.invokevirtual 87, 3) := by decide +kernel
theorem d_L_law_647 : decode b_L_law 647 = .ok (.if_icmp .eq 274, 3) := by decide +kernel
theorem d_L_law_650 : decode b_L_law 650 = .ok (.iconst 0, 1) := by decide +kernel
theorem d_L_law_651 : decode b_L_law 651 = .ok (.ireturn, 1) := by decide +kernel
theorem d_L_law_652 : decode b_L_law 652 = .ok (.aload_n 1, 1) := by decide +kernel
theorem d_L_law_653 : decode b_L_law 653 = .ok (.aload_n 0, 1) := by decide +kernel
theorem d_L_law_654 : decode b_L_law 654 = .ok (.iload_n 3, 1) := by decide +kernel
theorem d_L_law_655 : decode b_L_law 655 = .ok (.iconst 1, 1) := by decide +kernel
theorem d_L_law_656 : decode b_L_law 656 = .ok (.iadd, 1) := by decide +kernel
theorem d_L_law_657 : decode b_L_law 657 = .ok (.iaload, 1) := by decide +kernel
theorem d_L_law_658 : decode b_L_law 658 = .ok (.invokevirtual 88, 3) := by decide +kernel
theorem d_L_law_661 : decode b_L_law 661 = .ok (.aload_n 2, 1) := by decide +kernel
theorem d_L_law_662 : decode b_L_law 662 = .ok (.aload_n 0, 1) := by decide +kernel
theorem d_L_law_663 : decode b_L_law 663 = .ok (.iload_n 3, 1) := by decide +kernel
theorem d_L_law_664 : decode b_L_law 664 = .ok (.iconst 1, 1) := by decide +kernel
theorem d_L_law_665 : decode b_L_law 665 = .ok (.iadd, 1) := by decide +kernel
theorem d_L_law_666 : decode b_L_law 666 = .ok (.iaload, 1) := by decide +kernel
theorem d_L_law_667 : decode b_L_law 667 = .ok (.invokevirtual 92, 3) := by decide +kernel
theorem d_L_law_670 : decode b_L_law 670 = .ok (.if_icmp .eq 251, 3) := by decide +kernel
theorem d_L_law_673 : decode b_L_law 673 = .ok (.iconst 0, 1) := by decide +kernel
theorem d_L_law_674 : decode b_L_law 674 = .ok (.ireturn, 1) := by decide +kernel
theorem d_L_law_675 : decode b_L_law 675 = .ok (.aload_n 1, 1) := by decide +kernel
theorem d_L_law_676 : decode b_L_law 676 = .ok (.aload_n 0, 1) := by decide +kernel
theorem d_L_law_677 : decode b_L_law 677 = .ok (.iload_n 3, 1) := by decide +kernel
theorem d_L_law_678 : decode b_L_law 678 = .ok (.iconst 1, 1) := by decide +kernel
theorem d_L_law_679 : decode b_L_law 679 = .ok (.iadd, 1) := by decide +kernel
theorem d_L_law_680 : decode b_L_law 680 = .ok (.iaload, 1) := by decide +kernel
theorem d_L_law_681 : decode b_L_law 681 = .ok (.invokevirtual 93, 3) := by decide +kernel
theorem d_L_law_684 : decode b_L_law 684 = .ok (.aload_n 2, 1) := by decide +kernel
theorem d_L_law_685 : decode b_L_law 685 = .ok (.aload_n 0, 1) := by decide +kernel
theorem d_L_law_686 : decode b_L_law 686 = .ok (.iload_n 3, 1) := by decide +kernel
theorem d_L_law_687 : decode b_L_law 687 = .ok (.iconst 1, 1) := by decide +kernel
theorem d_L_law_688 : decode b_L_law 688 = .ok (.iadd, 1) := by decide +kernel
theorem d_L_law_689 : decode b_L_law 689 = .ok (.iaload, 1) := by decide +kernel
theorem d_L_law_690 : decode b_L_law 690 = .ok (.invokevirtual 96, 3) := by decide +kernel
theorem d_L_law_693 : decode b_L_law 693 = .ok (.if_icmp .eq 228, 3) := by decide +kernel
theorem d_L_law_696 : decode b_L_law 696 = .ok (.iconst 0, 1) := by decide +kernel
theorem d_L_law_697 : decode b_L_law 697 = .ok (.ireturn, 1) := by decide +kernel
theorem d_L_law_698 : decode b_L_law 698 = .ok (.aload_n 1, 1) := by decide +kernel
theorem d_L_law_699 : decode b_L_law 699 = .ok (.aload_n 0, 1) := by decide +kernel
theorem d_L_law_700 : decode b_L_law 700 = .ok (.iload_n 3, 1) := by decide +kernel
theorem d_L_law_701 : decode b_L_law 701 = .ok (.iconst 1, 1) := by decide +kernel
theorem d_L_law_702 : decode b_L_law 702 = .ok (.iadd, 1) := by decide +kernel
theorem d_L_law_703 : decode b_L_law 703 = .ok (.iaload, 1) := by decide +kernel
theorem d_L_law_704 : decode b_L_law 704 = .ok (.aload_n 0, 1) := by decide +kernel
theorem d_L_law_705 : decode b_L_law 705 = .ok (.iload_n 3, 1) := by decide +kernel
theorem d_L_law_706 : decode b_L_law 706 = .ok (.iconst 2, 1) := by decide +kernel
theorem d_L_law_707 : decode b_L_law 707 = .ok (.iadd, 1) := by decide +kernel
theorem d_L_law_708 : decode b_L_law 708 = .ok (.iaload, 1) := by decide +kernel
theorem d_L_law_709 : decode b_L_law 709 = .ok (.invokevirtual 97, 3) := by decide +kernel
theorem d_L_law_712 : decode b_L_law 712 = .ok (.aload_n 2, 1) := by decide +kernel
theorem d_L_law_713 : decode b_L_law 713 = .ok (.aload_n 0, 1) := by decide +kernel
theorem d_L_law_714 : decode b_L_law 714 = .ok (.iload_n 3, 1) := by decide +kernel
theorem d_L_law_715 : decode b_L_law 715 = .ok (.iconst 1, 1) := by decide +kernel
theorem d_L_law_716 : decode b_L_law 716 = .ok (.iadd, 1) := by decide +kernel
theorem d_L_law_717 : decode b_L_law 717 = .ok (.iaload, 1) := by decide +kernel
theorem d_L_law_718 : decode b_L_law 718 = .ok (.aload_n 0, 1) := by decide +kernel
theorem d_L_law_719 : decode b_L_law 719 = .ok (.iload_n 3, 1) := by decide +kernel
theorem d_L_law_720 : decode b_L_law 720 = .ok (.iconst 2, 1) := by decide +kernel
theorem d_L_law_721 : decode b_L_law 721 = .ok (.iadd, 1) := by decide +kernel
theorem d_L_law_722 : decode b_L_law 722 = .ok (.iaload, 1) := by decide +kernel
theorem d_L_law_723 : decode b_L_law 723 = .ok (.invokevirtual 101, 3) := by decide +kernel
theorem d_L_law_726 : decode b_L_law 726 = .ok (.lcmp, 1) := by decide +kernel
theorem d_L_law_727 : decode b_L_law 727 = .ok (.ifCond .eq 194, 3) := by decide +kernel
theorem d_L_law_730 : decode b_L_law 730 = .ok (.iconst 0, 1) := by decide +kernel
theorem d_L_law_731 : decode b_L_law 731 = .ok (.ireturn, 1) := by decide +kernel
theorem d_L_law_732 : decode b_L_law 732 = .ok (.aload_n 1, 1) := by decide +kernel
theorem d_L_law_733 : decode b_L_law 733 = .ok (.aload_n 0, 1) := by decide +kernel
theorem d_L_law_734 : decode b_L_law 734 = .ok (.iload_n 3, 1) := by decide +kernel
theorem d_L_law_735 : decode b_L_law 735 = .ok (.iconst 1, 1) := by decide +kernel
theorem d_L_law_736 : decode b_L_law 736 = .ok (.iadd, 1) := by decide +kernel
theorem d_L_law_737 : decode b_L_law 737 = .ok (.iaload, 1) := by decide +kernel
theorem d_L_law_738 : decode b_L_law 738 = .ok (.aload_n 0, 1) := by decide +kernel
theorem d_L_law_739 : decode b_L_law 739 = .ok (.iload_n 3, 1) := by decide +kernel
theorem d_L_law_740 : decode b_L_law 740 = .ok (.iconst 2, 1) := by decide +kernel
theorem d_L_law_741 : decode b_L_law 741 = .ok (.iadd, 1) := by decide +kernel
theorem d_L_law_742 : decode b_L_law 742 = .ok (.iaload, 1) := by decide +kernel
theorem d_L_law_743 : decode b_L_law 743 = .ok (.aload_n 0, 1) := by decide +kernel
theorem d_L_law_744 : decode b_L_law 744 = .ok (.iload_n 3, 1) := by decide +kernel
theorem d_L_law_745 : decode b_L_law 745 = .ok (.iconst 3, 1) := by decide +kernel
theorem d_L_law_746 : decode b_L_law 746 = .ok (.iadd, 1) := by decide +kernel
theorem d_L_law_747 : decode b_L_law 747 = .ok (.iaload, 1) := by decide +kernel
theorem d_L_law_748 : decode b_L_law 748 = .ok (.aload_n 0, 1) := by decide +kernel
theorem d_L_law_749 : decode b_L_law 749 = .ok (.iload_n 3, 1) := by decide +kernel
theorem d_L_law_750 : decode b_L_law 750 = .ok (.iconst 4, 1) := by decide +kernel
theorem d_L_law_751 : decode b_L_law 751 = .ok (.iadd, 1) := by decide +kernel
theorem d_L_law_752 : decode b_L_law 752 = .ok (.iaload, 1) := by decide +kernel
theorem d_L_law_753 : decode b_L_law 753 = .ok (.i2l, 1) := by decide +kernel
theorem d_L_law_754 : decode b_L_law 754 = .ok (.bipush 32, 2) := by decide +kernel
theorem d_L_law_756 : decode b_L_law 756 = .ok (.lshl, 1) := by decide +kernel
theorem d_L_law_757 : decode b_L_law 757 = .ok (.aload_n 0, 1) := by decide +kernel
theorem d_L_law_758 : decode b_L_law 758 = .ok (.iload_n 3, 1) := by decide +kernel
theorem d_L_law_759 : decode b_L_law 759 = .ok (.iconst 5, 1) := by decide +kernel
theorem d_L_law_760 : decode b_L_law 760 = .ok (.iadd, 1) := by decide +kernel
theorem d_L_law_761 : decode b_L_law 761 = .ok (.iaload, 1) := by decide +kernel
theorem d_L_law_762 : decode b_L_law 762 = .ok (.i2l, 1) := by decide +kernel
theorem d_L_law_763 : decode b_L_law 763 = .ok (.ldc2_w 30, 3) := by decide +kernel
theorem d_L_law_766 : decode b_L_law 766 = .ok (.land, 1) := by decide +kernel
theorem d_L_law_767 : decode b_L_law 767 = .ok (.lor, 1) := by decide +kernel
theorem d_L_law_768 : decode b_L_law 768 = .ok (.invokevirtual 102, 3) := by decide +kernel
theorem d_L_law_771 : decode b_L_law 771 = .ok (.aload_n 2, 1) := by decide +kernel
theorem d_L_law_772 : decode b_L_law 772 = .ok (.aload_n 0, 1) := by decide +kernel
theorem d_L_law_773 : decode b_L_law 773 = .ok (.iload_n 3, 1) := by decide +kernel
theorem d_L_law_774 : decode b_L_law 774 = .ok (.iconst 1, 1) := by decide +kernel
theorem d_L_law_775 : decode b_L_law 775 = .ok (.iadd, 1) := by decide +kernel
theorem d_L_law_776 : decode b_L_law 776 = .ok (.iaload, 1) := by decide +kernel
theorem d_L_law_777 : decode b_L_law 777 = .ok (.aload_n 0, 1) := by decide +kernel
theorem d_L_law_778 : decode b_L_law 778 = .ok (.iload_n 3, 1) := by decide +kernel
theorem d_L_law_779 : decode b_L_law 779 = .ok (.iconst 2, 1) := by decide +kernel
theorem d_L_law_780 : decode b_L_law 780 = .ok (.iadd, 1) := by decide +kernel
theorem d_L_law_781 : decode b_L_law 781 = .ok (.iaload, 1) := by decide +kernel
theorem d_L_law_782 : decode b_L_law 782 = .ok (.aload_n 0, 1) := by decide +kernel
theorem d_L_law_783 : decode b_L_law 783 = .ok (.iload_n 3, 1) := by decide +kernel
theorem d_L_law_784 : decode b_L_law 784 = .ok (.iconst 3, 1) := by decide +kernel
theorem d_L_law_785 : decode b_L_law 785 = .ok (.iadd, 1) := by decide +kernel
theorem d_L_law_786 : decode b_L_law 786 = .ok (.iaload, 1) := by decide +kernel
theorem d_L_law_787 : decode b_L_law 787 = .ok (.aload_n 0, 1) := by decide +kernel
theorem d_L_law_788 : decode b_L_law 788 = .ok (.iload_n 3, 1) := by decide +kernel
theorem d_L_law_789 : decode b_L_law 789 = .ok (.iconst 4, 1) := by decide +kernel
theorem d_L_law_790 : decode b_L_law 790 = .ok (.iadd, 1) := by decide +kernel
theorem d_L_law_791 : decode b_L_law 791 = .ok (.iaload, 1) := by decide +kernel
theorem d_L_law_792 : decode b_L_law 792 = .ok (.i2l, 1) := by decide +kernel
theorem d_L_law_793 : decode b_L_law 793 = .ok (.bipush 32, 2) := by decide +kernel
theorem d_L_law_795 : decode b_L_law 795 = .ok (.lshl, 1) := by decide +kernel
theorem d_L_law_796 : decode b_L_law 796 = .ok (.aload_n 0, 1) := by decide +kernel
theorem d_L_law_797 : decode b_L_law 797 = .ok (.iload_n 3, 1) := by decide +kernel
theorem d_L_law_798 : decode b_L_law 798 = .ok (.iconst 5, 1) := by decide +kernel
theorem d_L_law_799 : decode b_L_law 799 = .ok (.iadd, 1) := by decide +kernel
theorem d_L_law_800 : decode b_L_law 800 = .ok (.iaload, 1) := by decide +kernel
theorem d_L_law_801 : decode b_L_law 801 = .ok (.i2l, 1) := by decide +kernel
theorem d_L_law_802 : decode b_L_law 802 = .ok (.ldc2_w 30, 3) := by decide +kernel
theorem d_L_law_805 : decode b_L_law 805 = .ok (.land, 1) := by decide +kernel
theorem d_L_law_806 : decode b_L_law 806 = .ok (.lor, 1) := by decide +kernel
theorem d_L_law_807 : decode b_L_law 807 = .ok (.invokevirtual 105, 3) := by decide +kernel
theorem d_L_law_810 : decode b_L_law 810 = .ok (.if_icmp .eq 111, 3) := by decide +kernel
theorem d_L_law_813 : decode b_L_law 813 = .ok (.iconst 0, 1) := by decide +kernel
theorem d_L_law_814 : decode b_L_law 814 = .ok (.ireturn, 1) := by decide +kernel
theorem d_L_law_815 : decode b_L_law 815 = .ok (.aload_n 1, 1) := by decide +kernel
theorem d_L_law_816 : decode b_L_law 816 = .ok (.aload_n 0, 1) := by decide +kernel
theorem d_L_law_817 : decode b_L_law 817 = .ok (.iload_n 3, 1) := by decide +kernel
theorem d_L_law_818 : decode b_L_law 818 = .ok (.iconst 1, 1) := by decide +kernel
theorem d_L_law_819 : decode b_L_law 819 = .ok (.iadd, 1) := by decide +kernel
theorem d_L_law_820 : decode b_L_law 820 = .ok (.iaload, 1) := by decide +kernel
theorem d_L_law_821 : decode b_L_law 821 = .ok (.invokevirtual 106, 3) := by decide +kernel
theorem d_L_law_824 : decode b_L_law 824 = .ok (.aload_n 2, 1) := by decide +kernel
theorem d_L_law_825 : decode b_L_law 825 = .ok (.aload_n 0, 1) := by decide +kernel
theorem d_L_law_826 : decode b_L_law 826 = .ok (.iload_n 3, 1) := by decide +kernel
theorem d_L_law_827 : decode b_L_law 827 = .ok (.iconst 1, 1) := by decide +kernel
theorem d_L_law_828 : decode b_L_law 828 = .ok (.iadd, 1) := by decide +kernel
theorem d_L_law_829 : decode b_L_law 829 = .ok (.iaload, 1) := by decide +kernel
theorem d_L_law_830 : decode b_L_law 830 = .ok (.invokevirtual 109, 3) := by decide +kernel
theorem d_L_law_833 : decode b_L_law 833 = .ok (.if_icmp .eq 88, 3) := by decide +kernel
theorem d_L_law_836 : decode b_L_law 836 = .ok (.iconst 0, 1) := by decide +kernel
theorem d_L_law_837 : decode b_L_law 837 = .ok (.ireturn, 1) := by decide +kernel
theorem d_L_law_838 : decode b_L_law 838 = .ok (.aload_n 1, 1) := by decide +kernel
theorem d_L_law_839 : decode b_L_law 839 = .ok (.aload_n 0, 1) := by decide +kernel
theorem d_L_law_840 : decode b_L_law 840 = .ok (.iload_n 3, 1) := by decide +kernel
theorem d_L_law_841 : decode b_L_law 841 = .ok (.iconst 1, 1) := by decide +kernel
theorem d_L_law_842 : decode b_L_law 842 = .ok (.iadd, 1) := by decide +kernel
theorem d_L_law_843 : decode b_L_law 843 = .ok (.iaload, 1) := by decide +kernel
theorem d_L_law_844 : decode b_L_law 844 = .ok (.invokevirtual 110, 3) := by decide +kernel
theorem d_L_law_847 : decode b_L_law 847 = .ok (.aload_n 2, 1) := by decide +kernel
theorem d_L_law_848 : decode b_L_law 848 = .ok (.aload_n 0, 1) := by decide +kernel
theorem d_L_law_849 : decode b_L_law 849 = .ok (.iload_n 3, 1) := by decide +kernel
theorem d_L_law_850 : decode b_L_law 850 = .ok (.iconst 1, 1) := by decide +kernel
theorem d_L_law_851 : decode b_L_law 851 = .ok (.iadd, 1) := by decide +kernel
theorem d_L_law_852 : decode b_L_law 852 = .ok (.iaload, 1) := by decide +kernel
theorem d_L_law_853 : decode b_L_law 853 = .ok (.invokevirtual 113, 3) := by decide +kernel
theorem d_L_law_856 : decode b_L_law 856 = .ok (.if_icmp .eq 65, 3) := by decide +kernel
theorem d_L_law_859 : decode b_L_law 859 = .ok (.iconst 0, 1) := by decide +kernel
theorem d_L_law_860 : decode b_L_law 860 = .ok (.ireturn, 1) := by decide +kernel
theorem d_L_law_861 : decode b_L_law 861 = .ok (.aload_n 1, 1) := by decide +kernel
theorem d_L_law_862 : decode b_L_law 862 = .ok (.invokevirtual 114, 3) := by decide +kernel
theorem d_L_law_865 : decode b_L_law 865 = .ok (.aload_n 2, 1) := by decide +kernel
theorem d_L_law_866 : decode b_L_law 866 = .ok (.invokevirtual 118, 3) := by decide +kernel
theorem d_L_law_869 : decode b_L_law 869 = .ok (.lcmp, 1) := by decide +kernel
theorem d_L_law_870 : decode b_L_law 870 = .ok (.ifCond .eq 51, 3) := by decide +kernel
theorem d_L_law_873 : decode b_L_law 873 = .ok (.iconst 0, 1) := by decide +kernel
theorem d_L_law_874 : decode b_L_law 874 = .ok (.ireturn, 1) := by decide +kernel
theorem d_L_law_875 : decode b_L_law 875 = .ok (.aload_n 1, 1) := by decide +kernel
theorem d_L_law_876 : decode b_L_law 876 = .ok (.aload_n 0, 1) := by decide +kernel
theorem d_L_law_877 : decode b_L_law 877 = .ok (.iload_n 3, 1) := by decide +kernel
theorem d_L_law_878 : decode b_L_law 878 = .ok (.iconst 1, 1) := by decide +kernel
theorem d_L_law_879 : decode b_L_law 879 = .ok (.iadd, 1) := by decide +kernel
theorem d_L_law_880 : decode b_L_law 880 = .ok (.iaload, 1) := by decide +kernel
theorem d_L_law_881 : decode b_L_law 881 = .ok (.invokevirtual 119, 3) := by decide +kernel
theorem d_L_law_884 : decode b_L_law 884 = .ok (.aload_n 2, 1) := by decide +kernel
theorem d_L_law_885 : decode b_L_law 885 = .ok (.aload_n 0, 1) := by decide +kernel
theorem d_L_law_886 : decode b_L_law 886 = .ok (.iload_n 3, 1) := by decide +kernel
theorem d_L_law_887 : decode b_L_law 887 = .ok (.iconst 1, 1) := by decide +kernel
theorem d_L_law_888 : decode b_L_law 888 = .ok (.iadd, 1) := by decide +kernel
theorem d_L_law_889 : decode b_L_law 889 = .ok (.iaload, 1) := by decide +kernel
theorem d_L_law_890 : decode b_L_law 890 = .ok (.invokevirtual 122, 3) := by decide +kernel
theorem d_L_law_893 : decode b_L_law 893 = .ok (.if_icmp .eq 28, 3) := by decide +kernel
theorem d_L_law_896 : decode b_L_law 896 = .ok (.iconst 0, 1) := by decide +kernel
theorem d_L_law_897 : decode b_L_law 897 = .ok (.ireturn, 1) := by decide +kernel
theorem d_L_law_898 : decode b_L_law 898 = .ok (.aload_n 1, 1) := by decide +kernel
theorem d_L_law_899 : decode b_L_law 899 = .ok (.aload_n 0, 1) := by decide +kernel
theorem d_L_law_900 : decode b_L_law 900 = .ok (.iload_n 3, 1) := by decide +kernel
theorem d_L_law_901 : decode b_L_law 901 = .ok (.iconst 1, 1) := by decide +kernel
theorem d_L_law_902 : decode b_L_law 902 = .ok (.iadd, 1) := by decide +kernel
theorem d_L_law_903 : decode b_L_law 903 = .ok (.iaload, 1) := by decide +kernel
theorem d_L_law_904 : decode b_L_law 904 = .ok (.invokevirtual 123, 3) := by decide +kernel
theorem d_L_law_907 : decode b_L_law 907 = .ok (.aload_n 2, 1) := by decide +kernel
theorem d_L_law_908 : decode b_L_law 908 = .ok (.aload_n 0, 1) := by decide +kernel
theorem d_L_law_909 : decode b_L_law 909 = .ok (.iload_n 3, 1) := by decide +kernel
theorem d_L_law_910 : decode b_L_law 910 = .ok (.iconst 1, 1) := by decide +kernel
theorem d_L_law_911 : decode b_L_law 911 = .ok (.iadd, 1) := by decide +kernel
theorem d_L_law_912 : decode b_L_law 912 = .ok (.iaload, 1) := by decide +kernel
theorem d_L_law_913 : decode b_L_law 913 = .ok (.invokevirtual 126, 3) := by decide +kernel
theorem d_L_law_916 : decode b_L_law 916 = .ok (.if_icmp .eq 5, 3) := by decide +kernel
theorem d_L_law_919 : decode b_L_law 919 = .ok (.iconst 0, 1) := by decide +kernel
theorem d_L_law_920 : decode b_L_law 920 = .ok (.ireturn, 1) := by decide +kernel
theorem d_L_law_921 : decode b_L_law 921 = .ok (.iinc 3 6, 3) := by decide +kernel
theorem d_L_law_924 : decode b_L_law 924 = .ok (.goto (-896), 3) := by decide +kernel
theorem d_L_law_927 : decode b_L_law 927 = .ok (.iconst 1, 1) := by decide +kernel
theorem d_L_law_928 : decode b_L_law 928 = .ok (.ireturn, 1) := by decide +kernel
end
section
/-! What every contract of the system speaks of -/
abbrev gTy (cI cJ cG : ClassId) : List (ClassId × FieldType) := [(cI, .int), (cJ, .long), (cG, .array .int)]
theorem gNl_ok : ∀ w ∈ gNl, gNk w := by
  intro w hw
  have h := (List.mem_filter.mp hw).2
  cases w <;> first | exact Or.inr ⟨_, _, _, _, rfl⟩ | cases h
theorem wA_good {cy cz : Cond} (h : cz ∈ wA) : GoodIn (cy :: wA) (cz :: wA) := by
  intro w hw
  have hw2 : w ∈ wA := by
    rcases List.mem_cons.mp hw with rfl | q
    · exact h
    · exact q
  exact ⟨List.mem_cons_of_mem _ hw2, good_of_word (List.mem_filter.mp hw2).2⟩
theorem wA_goodA {cz : Cond} (h : cz ∈ wA) : GoodIn wA (cz :: wA) := by
  intro w hw
  have hw2 : w ∈ wA := by
    rcases List.mem_cons.mp hw with rfl | q
    · exact h
    · exact q
  exact ⟨hw2, good_of_word (List.mem_filter.mp hw2).2⟩
section GCW
variable {R : Room} {s : State} {args : Array Value} {own C host : String} {index maxL fr lo mc ms : Nat} {y : MethodName} {bytes : ByteArray} {ret : Option FieldType}
theorem gcwB (n : Nat) (hts : ∀ w ∈ wA, w.before args s = true) (hc : Cond.code y bytes maxL ret ∈ wA) (hl : Cond.methodLink own index y ∈ wA) (hini : Cond.initialized y.cls ∈ wA) (hd : y.cls ≠ "java/lang/invoke/MethodHandle" ∧ y.cls ≠ "java/lang/invoke/VarHandle" ∧ (parseMethodDescriptor y.desc).map (fun d => d.parameters.length) = some n) (hR : fr + 1 ≤ R.frames ∧ 8 + (maxL + 11) + lo ≤ R.locals) :
    CallB R s args own index y bytes maxL ret (Cond.code y bytes maxL ret :: wA) { frames := fr, cells := mc, slots := ms, locals := lo } mc ms n :=
  callB_of n hts (wA_goodA hc) rfl rfl rfl (hts _ hini) (hts _ hl) hd hR
theorem gcwV (n : Nat) (hts : ∀ w ∈ wA, w.before args s = true) (hc : Cond.code y bytes maxL ret ∈ wA) (hl : Cond.methodLink own index y ∈ wA) (hi : Cond.instanceMethod y ∈ wA) (hs : Cond.selects C y y ∈ wA) (hini : Cond.initialized y.cls ∈ wA) (hd : y.cls ≠ "java/lang/invoke/MethodHandle" ∧ y.cls ≠ "java/lang/invoke/VarHandle" ∧ (parseMethodDescriptor y.desc).map (fun d => d.parameters.length) = some n) (hR : fr + 1 ≤ R.frames ∧ 8 + (maxL + 11) + lo ≤ R.locals) :
    CallW R s args own C index y bytes maxL ret (Cond.code y bytes maxL ret :: wA) { frames := fr, cells := mc, slots := ms, locals := lo } mc ms n :=
  ⟨gcwB n hts hc hl hini hd hR, hts _ hi, hts _ hs⟩
theorem gcwS (n : Nat) (hts : ∀ w ∈ wA, w.before args s = true) (hc : Cond.code y bytes maxL ret ∈ wA) (hl : Cond.methodLink own index y ∈ wA) (hi : Cond.static y ∈ wA) (hini : Cond.initialized y.cls ∈ wA) (hd : y.cls ≠ "java/lang/invoke/MethodHandle" ∧ y.cls ≠ "java/lang/invoke/VarHandle" ∧ (parseMethodDescriptor y.desc).map (fun d => d.parameters.length) = some n) (hR : fr + 1 ≤ R.frames ∧ 8 + (maxL + 11) + lo ≤ R.locals) :
    CallB R s args own index y bytes maxL ret (Cond.code y bytes maxL ret :: wA) { frames := fr, cells := mc, slots := ms, locals := lo } mc ms n ∧ (Cond.static y).before args s = true :=
  ⟨gcwB n hts hc hl hini hd hR, hts _ hi⟩
theorem gcwSN (n : Nat) (hts : ∀ w ∈ wA, w.before args s = true) (hc : Cond.code y bytes maxL ret ∈ wA) (hl : va_Nw (.methodLinkNest own index y host) s) (hi : Cond.static y ∈ wA) (hini : Cond.initialized y.cls ∈ wA) (hd : y.cls ≠ "java/lang/invoke/MethodHandle" ∧ y.cls ≠ "java/lang/invoke/VarHandle" ∧ (parseMethodDescriptor y.desc).map (fun d => d.parameters.length) = some n) (hR : fr + 1 ≤ R.frames ∧ 8 + (maxL + 11) + lo ≤ R.locals) :
    va_CN R s args own index y host bytes maxL ret (Cond.code y bytes maxL ret :: wA) { frames := fr, cells := mc, slots := ms, locals := lo } mc ms n ∧ (Cond.static y).before args s = true ∧ True :=
  ⟨va_cnB n hts (wA_goodA hc) rfl rfl rfl hl (hts _ hini) hd hR, hts _ hi, trivial⟩
end GCW
set_option maxRecDepth 20000 in
theorem qn_28 : (Cond.methodLinkNest "ActChains" (24 : Nat) ({ cls := "ActChains$Tracks", name := "<init>", desc := "()V" } : Jvm.MethodName) "ActChains") ∈ gNl := List.mem_filter.mpr ⟨List.mem_of_getElem? (i := 28) rfl, rfl⟩
set_option maxRecDepth 20000 in
theorem qn_116 : (Cond.methodLinkNest "ActChains" (53 : Nat) ({ cls := "ActChains$LatestRun", name := "<init>", desc := "()V" } : Jvm.MethodName) "ActChains") ∈ gNl := List.mem_filter.mpr ⟨List.mem_of_getElem? (i := 116) rfl, rfl⟩
set_option maxRecDepth 20000 in
theorem qn_139 : (Cond.methodLinkNest "ActChains" (60 : Nat) ({ cls := "ActChains$Pages", name := "<init>", desc := "()V" } : Jvm.MethodName) "ActChains") ∈ gNl := List.mem_filter.mpr ⟨List.mem_of_getElem? (i := 139) rfl, rfl⟩
set_option maxRecDepth 20000 in
theorem qn_159 : (Cond.methodLinkNest "ActChains" (67 : Nat) ({ cls := "ActChains$Cells", name := "<init>", desc := "()V" } : Jvm.MethodName) "ActChains") ∈ gNl := List.mem_filter.mpr ⟨List.mem_of_getElem? (i := 159) rfl, rfl⟩
set_option maxRecDepth 20000 in
theorem qn_302 : (Cond.methodLinkNest "ActChains$LatestRun" (42 : Nat) ({ cls := "ActChains", name := "isBelow", desc := "(II)Z" } : Jvm.MethodName) "ActChains") ∈ gNl := List.mem_filter.mpr ⟨List.mem_of_getElem? (i := 302) rfl, rfl⟩
end
section
theorem inB_neg {x : Int32} {n : Nat} (h : x < 0) : inB x n = false := by
  cases hb : inB x n with
  | false => rfl
  | true => exact absurd (Or.inl h) (inB_vp.mp hb)
theorem inB_ge {j n : Nat} (hj : j < 2 ^ 31) (h : n ≤ j) : inB (nI j) n = false := by
  rw [inB_nI hj]
  exact decide_eq_false (by omega)
theorem inB_lt {j n : Nat} (hj : j < n) (hn : n < 2 ^ 31) : inB (nI j) n = true := by
  rw [inB_nI (by omega)]
  exact decide_eq_true hj
theorem bI_t : bI true = nI 1 := by decide
theorem bI_f : bI false = nI 0 := by decide
theorem bI_1 {b : Bool} (h : b = true) : nI 1 = bI b := by rw [h]; decide
theorem bI_0 {b : Bool} (h : b = false) : nI 0 = bI b := by rw [h]; decide
theorem bI_narrow (b : Bool) : narrow .boolean (.int (bI b)) = .int (bI b) := by cases b <;> rfl
/-- ActChainsModel: its object, by its numbers -/
abbrev mO (ad : Nat → Nat) (a rw sh pg ce mg kn cs sm : Nat) : va_E := .inr (7, [.int (nI a), .ref (ad 401), .ref (ad 402), .ref (ad 403), .ref (ad 404), .int (nI rw), .ref (ad 405), .ref (ad 406), .ref (ad 407), .ref (ad 408), .ref (ad 409), .int (nI sh), .int (nI pg), .ref (ad 410), .ref (ad 411), .ref (ad 412), .int (nI ce), .ref (ad 413), .ref (ad 414), .ref (ad 415), .ref (ad 416), .int (nI mg), .int (nI kn), .ref (ad 417), .int (nI cs), .ref (ad 418), .int (nI sm), .ref (ad 419), .ref (ad 420), .ref (ad 421), .ref (ad 422), .ref (ad 423), .ref (ad 424), .ref (ad 425), .ref (ad 426)])
/-- a true line may have act b at row k, the truths of ship w left out -/
def alw (tr sh : Nat → Int32) (w : Int32) (k b : Nat) : Bool := decide (tr k = -1) || decide (tr k = nI b) || decide (sh k = w)
/-- row f is before row g among the first n places -/
def lexL (f g : Nat → Int32) (n : Nat) : Bool := (List.range n).any (fun k => decide (f k < g k) && (List.range k).all (fun i => decide (f i = g i)))
theorem lexL_iff {f g : Nat → Int32} {n : Nat} : lexL f g n = true ↔ ∃ k, k < n ∧ f k < g k ∧ ∀ i, i < k → f i = g i := by
  unfold lexL
  rw [List.any_eq_true]
  constructor
  · rintro ⟨k, hk, h⟩
    rw [Bool.and_eq_true, decide_eq_true_eq, List.all_eq_true] at h
    exact ⟨k, List.mem_range.mp hk, h.1, fun i hi => of_decide_eq_true (h.2 i (List.mem_range.mpr hi))⟩
  · rintro ⟨k, hk, h1, h2⟩
    refine ⟨k, List.mem_range.mpr hk, ?_⟩
    rw [Bool.and_eq_true, decide_eq_true_eq, List.all_eq_true]
    exact ⟨h1, fun i hi => decide_eq_true (h2 i (List.mem_range.mp hi))⟩
theorem lexL_eq {f g : Nat → Int32} {n : Nat} (h : ∀ i, i < n → f i = g i) : lexL f g n = false := by
  cases hb : lexL f g n with
  | false => rfl
  | true =>
    obtain ⟨k, hk, h1, -⟩ := lexL_iff.mp hb
    rw [h k hk] at h1
    exact absurd h1 Int32.lt_irrefl
theorem lexL_yes {f g : Nat → Int32} {n k : Nat} (hk : k < n) (h : ∀ i, i < k → f i = g i) (h3 : f k < g k) : lexL f g n = true := lexL_iff.mpr ⟨k, hk, h3, h⟩
theorem lexL_no {f g : Nat → Int32} {n k : Nat} (hk : k < n) (h : ∀ i, i < k → f i = g i) (hne : ¬ f k = g k) (h3 : g k ≤ f k) : lexL f g n = false := by
  cases hb : lexL f g n with
  | false => rfl
  | true =>
    obtain ⟨q, hq, h1, h2⟩ := lexL_iff.mp hb
    rcases Nat.lt_trichotomy q k with hlt | heq | hgt
    · rw [h q hlt] at h1
      exact absurd h1 Int32.lt_irrefl
    · subst heq
      exact absurd h1 (Int32.not_lt.mpr h3)
    · exact absurd (h2 k hgt) hne
/-! What is told is taken, or refused -/
def okMove (a : Nat) (x y c : Int32) : Bool := inB x a && inB y a && inB c 10001
def okSpeed (a : Nat) (x k c : Int32) : Bool := inB x a && inB k 10 && inB c 10001
def okRow (n : Nat) (sec : Nat → Int64) (s : Int64) (k t : Int32) : Bool := decide (n < 200) && decide (0 ≤ s) && (decide (n = 0) || decide (sec (n - 1) < s)) && inB k 10 && inB t 4
def okTruth (n a : Nat) (k b : Int32) : Bool := inB k n && inB b a
def okPage (a pg : Nat) (f t : Int64) (b : Int32) : Bool := inB b a && decide (0 ≤ f) && decide (f < t) && decide (pg < 50)
def okCell (n ce : Nat) (k x y : Int32) (s : Int64) : Bool := inB k n && inB x 20 && inB y 20 && decide (1 ≤ s) && decide (s ≤ 1000000) && decide (ce < 300)
theorem bI_n0 : bI false = nI 0 := by decide
theorem lc_lt {x y : Int64} (h : lg_cmp x y < 0) : x < y := (lg_cmp_lt x y).mp h
theorem lc_nlt {x y : Int64} (h : ¬ lg_cmp x y < 0) : y ≤ x := Int64.not_lt.mp (fun q => h ((lg_cmp_lt x y).mpr q))
theorem lc_le {x y : Int64} (h : lg_cmp x y ≤ 0) : x ≤ y := (lg_cmp_le x y).mp h
theorem lc_nle {x y : Int64} (h : ¬ lg_cmp x y ≤ 0) : y < x := Int64.not_le.mp (fun q => h ((lg_cmp_le x y).mpr q))
theorem lc_ge {x y : Int64} (h : 0 ≤ lg_cmp x y) : y ≤ x := (lg_cmp_ge x y).mp h
theorem lc_nge {x y : Int64} (h : ¬ 0 ≤ lg_cmp x y) : x < y := Int64.not_le.mp (fun q => h ((lg_cmp_ge x y).mpr q))
theorem lc_gt {x y : Int64} (h : 0 < lg_cmp x y) : y < x := (lg_cmp_gt x y).mp h
theorem lc_ngt {x y : Int64} (h : ¬ 0 < lg_cmp x y) : x ≤ y := Int64.not_lt.mp (fun q => h ((lg_cmp_gt x y).mpr q))
theorem L_nlt {x y : Int64} (h : x < y) : ¬ y ≤ x := Int64.not_le.mpr h
theorem L_nle {x y : Int64} (h : x ≤ y) : ¬ y < x := Int64.not_lt.mpr h
end
section
/-! The answers, by what is kept: raw rows of numbers, as both sides have them -/
def sEnd (kn : Nat) (sec : Nat → Int64) (j : Nat) : Int64 := sec (if j + 1 < kn then j + 1 else j)
def sHours (kn : Nat) (ln : Nat → Int32) (sec : Nat → Int64) (b : Int32) : Nat → Int64
  | 0 => 0
  | k + 1 => sHours kn ln sec b k + (if ln k = b then sEnd kn sec k - sec k else 0)
def sTotal (kn : Nat) (sec : Nat → Int64) : Int64 := if kn = 0 then -1 else sec (kn - 1) - sec 0
/-- the q-th place from k on, among d places, that p has; -1 when there is none -/
def nthF (p : Nat → Bool) : Nat → Nat → Nat → Int32
  | 0, _, _ => -1
  | d + 1, k, q => if p k then (if q = 0 then nI k else nthF p d (k + 1) (q - 1)) else nthF p d (k + 1) q
def sStart (ln : Nat → Int32) (k : Nat) : Bool := decide (ln k = nI 3) && (decide (k = 0) || decide (¬ ln (k - 1) = nI 3))
def sFirst (kn : Nat) (ln : Nat → Int32) (x : Int32) : Int32 := if x < 0 then -1 else nthF (sStart ln) kn 0 x.toNatClampNeg
def lastF (kn : Nat) (ln : Nat → Int32) : Nat → Nat → Nat
  | 0, k => k
  | d + 1, k => if k + 1 < kn ∧ ln (k + 1) = nI 3 then lastF kn ln d (k + 1) else k
def sLast (kn : Nat) (ln : Nat → Int32) (k : Nat) : Nat := lastF kn ln kn k
/-- how many of the rows k .. k + d - 1 have a turn of 2 or more -/
def turnsF (trn : Nat → Int32) (k : Nat) : Nat → Nat
  | 0 => 0
  | d + 1 => turnsF trn k d + (if nI 2 ≤ trn (k + d) then 1 else 0)
def sGearF (kn : Nat) (ln trn : Nat → Int32) (f : Nat) : Int32 := bI (decide (sLast kn ln f - f + 1 < 2 * turnsF trn f (sLast kn ln f - f + 1)))
def sGear (kn : Nat) (ln trn : Nat → Int32) (x : Int32) : Int32 := if sFirst kn ln x = -1 then -1 else sGearF kn ln trn (sFirst kn ln x).toNatClampNeg
def sHaulF (kn : Nat) (ln : Nat → Int32) (sec : Nat → Int64) (f : Nat) (e : Int32) : Int32 :=
  if inB e 2 then
    (if 2147483647 < (if e = 0 then sec f else sEnd kn sec (sLast kn ln f)) then -1 else (if e = 0 then sec f else sEnd kn sec (sLast kn ln f)).toInt32) else -1
def sHaul (kn : Nat) (ln : Nat → Int32) (sec : Nat → Int64) (x e : Int32) : Int32 := if sFirst kn ln x = -1 then -1 else sHaulF kn ln sec (sFirst kn ln x).toNatClampNeg e
def toldF (pf pt : Nat → Int64) (pa : Nat → Int32) (x : Int64) : Nat → Int32
  | 0 => -1
  | q + 1 => if pf q ≤ x ∧ x < pt q then pa q else toldF pf pt pa x q
def sDif (pg : Nat) (pf pt : Nat → Int64) (pa : Nat → Int32) (ln : Nat → Int32) (sec : Nat → Int64) (i : Nat) : Bool := decide (¬ toldF pf pt pa (sec i) pg = -1) && decide (¬ toldF pf pt pa (sec i) pg = ln i)
def sDiffers (kn pg : Nat) (pf pt : Nat → Int64) (pa : Nat → Int32) (ln : Nat → Int32) (sec : Nat → Int64) (x e : Int32) : Int32 :=
  if x < 0 then -1 else if inB e 2 then
    (if nthF (sDif pg pf pt pa ln sec) kn 0 x.toNatClampNeg = -1 then -1 else if e = 0 then nthF (sDif pg pf pt pa ln sec) kn 0 x.toNatClampNeg else toldF pf pt pa (sec (nthF (sDif pg pf pt pa ln sec) kn 0 x.toNatClampNeg).toNatClampNeg) pg) else -1
def sMap (kn : Nat) (ln cr cx cy : Nat → Int32) (ct : Nat → Int64) (x y : Int32) : Nat → Int64
  | 0 => 0
  | k + 1 => sMap kn ln cr cx cy ct x y k + (if cx k = x ∧ cy k = y ∧ cr k < nI kn ∧ ln (cr k).toNatClampNeg = nI 3 then ct k else 0)
def sNight (v : Int64) : Int32 := bI (decide (v - v / 86400 * 86400 < 21600) || decide (64800 ≤ v - v / 86400 * 86400))
def sUnsure (kn mg cs : Nat) (nx : Nat → Int32) (x : Int32) : Bool := inB x kn && decide (¬ nx x.toNatClampNeg = -1) && decide (nx x.toNatClampNeg - nI cs ≤ nI mg)
def sTied (kn cs : Nat) (nx : Nat → Int32) (x : Int32) : Bool := inB x kn && decide (nx x.toNatClampNeg = nI cs)
theorem nthF_lt {p : Nat → Bool} : ∀ {d k q : Nat}, k + d < 2 ^ 31 → ¬ nthF p d k q = -1 → ∃ j, nthF p d k q = nI j ∧ k ≤ j ∧ j < k + d
  | 0, k, q, _, h => absurd rfl h
  | d + 1, k, q, hd, h => by
    unfold nthF at h ⊢
    by_cases hp : p k = true
    · rw [if_pos hp] at h ⊢
      by_cases hq : q = 0
      · rw [if_pos hq]
        exact ⟨k, rfl, Nat.le_refl k, by omega⟩
      · rw [if_neg hq] at h ⊢
        obtain ⟨j, h1, h2, h3⟩ := nthF_lt (by omega) h
        exact ⟨j, h1, by omega, by omega⟩
    · rw [if_neg hp] at h ⊢
      obtain ⟨j, h1, h2, h3⟩ := nthF_lt (by omega) h
      exact ⟨j, h1, by omega, by omega⟩
theorem nI_ne_m1 {j : Nat} (h : j < 2 ^ 31) : ¬ nI j = -1 := fun q => by
  have := congrArg Int32.toInt q
  rw [nI_toInt h] at this
  have h2 : (-1 : Int32).toInt = -1 := by decide
  omega
theorem sFirst_lt {kn : Nat} {ln : Nat → Int32} {x : Int32} (hn : kn < 2 ^ 31) (h1 : ¬ sFirst kn ln x = -1) : ∃ f, sFirst kn ln x = nI f ∧ f < kn := by
  unfold sFirst at h1 ⊢
  by_cases hx0 : x < 0
  · rw [if_pos hx0] at h1; exact absurd rfl h1
  · rw [if_neg hx0] at h1 ⊢
    obtain ⟨j, h2, h3, h4⟩ := nthF_lt (by omega) h1
    exact ⟨j, h2, by omega⟩
theorem lastF_ge {kn : Nat} {ln : Nat → Int32} : ∀ {d k : Nat}, k ≤ lastF kn ln d k
  | 0, k => Nat.le_refl k
  | d + 1, k => by
    unfold lastF
    split
    · have := lastF_ge (kn := kn) (ln := ln) (d := d) (k := k + 1)
      omega
    · exact Nat.le_refl k
theorem lastF_lt {kn : Nat} {ln : Nat → Int32} : ∀ {d k : Nat}, k < kn → lastF kn ln d k < kn
  | 0, k, h => h
  | d + 1, k, h => by
    unfold lastF
    split
    · rename_i h1
      exact lastF_lt h1.1
    · exact h
end
section
/-! The least cost of lines, from both ends; the best line -/
def BIG : Nat := 1000000000
/-- the least of f over the places below k that p has; BIG when there is none such or all are more -/
def rmin (p : Nat → Bool) (f : Nat → Nat) : Nat → Nat
  | 0 => BIG
  | c + 1 => if p c then min (rmin p f c) (f c) else rmin p f c
theorem rmin_le_big (p : Nat → Bool) (f : Nat → Nat) : ∀ k, rmin p f k ≤ BIG
  | 0 => Nat.le_refl _
  | k + 1 => by
    have := rmin_le_big p f k
    unfold rmin
    split <;> omega
theorem rmin_le {p : Nat → Bool} {f : Nat → Nat} : ∀ {k c : Nat}, c < k → p c = true → rmin p f k ≤ f c
  | 0, c, h, _ => absurd h (Nat.not_lt_zero c)
  | k + 1, c, h, hp => by
    by_cases hc : c = k
    · subst hc
      unfold rmin
      rw [if_pos hp]
      omega
    · have := rmin_le (p := p) (f := f) (show c < k by omega) hp
      unfold rmin
      split <;> omega
theorem rmin_at {p : Nat → Bool} {f : Nat → Nat} : ∀ {k : Nat}, rmin p f k < BIG → ∃ c, c < k ∧ p c = true ∧ rmin p f k = f c
  | 0, h => absurd h (Nat.lt_irrefl _)
  | k + 1, h => by
    unfold rmin at h ⊢
    by_cases hp : p k = true
    · rw [if_pos hp] at h ⊢
      by_cases hm : f k ≤ rmin p f k
      · exact ⟨k, Nat.lt_succ_self k, hp, by omega⟩
      · obtain ⟨c, h1, h2, h3⟩ := rmin_at (p := p) (f := f) (k := k) (by omega)
        exact ⟨c, by omega, h2, by omega⟩
    · rw [if_neg hp] at h ⊢
      obtain ⟨c, h1, h2, h3⟩ := rmin_at (p := p) (f := f) (k := k) h
      exact ⟨c, by omega, h2, h3⟩
theorem rmin_congr {p q : Nat → Bool} {f g : Nat → Nat} : ∀ {k : Nat}, (∀ c, c < k → p c = q c) → (∀ c, c < k → p c = true → f c = g c) → rmin p f k = rmin q g k
  | 0, _, _ => rfl
  | k + 1, h1, h2 => by
    have ih := rmin_congr (p := p) (q := q) (f := f) (g := g) (k := k) (fun c h => h1 c (by omega)) (fun c h => h2 c (by omega))
    unfold rmin
    rw [ih, ← h1 k (by omega)]
    by_cases hp : p k = true
    · rw [if_pos hp, if_pos hp, h2 k (by omega) hp]
    · rw [if_neg hp, if_neg hp]
/-- the first least place of f is one that p has, and its value the least, where the others are BIG -/
theorem amin_rmin {p : Nat → Bool} {f : Nat → Nat} {a : Nat} (h1 : ∃ c, c < a ∧ p c = true ∧ f c < BIG) (h2 : ∀ c, c < a → p c = false → BIG ≤ f c) :
    amin f (a - 1) < a ∧ p (amin f (a - 1)) = true ∧ f (amin f (a - 1)) = rmin p f a := by
  obtain ⟨c, hc, hp, hf⟩ := h1
  have hle := amin_le f (a - 1)
  have hlt : amin f (a - 1) < a := by omega
  have hm := amin_min f (a - 1) c (by omega)
  have hpa : p (amin f (a - 1)) = true := by
    cases hq : p (amin f (a - 1)) with
    | true => rfl
    | false =>
      have := h2 _ hlt hq
      omega
  refine ⟨hlt, hpa, ?_⟩
  have l1 := rmin_le (f := f) hlt hpa
  obtain ⟨z, z1, z2, z3⟩ := rmin_at (p := p) (f := f) (k := a) (by omega)
  have l2 := amin_min f (a - 1) z (by omega)
  omega
section DP
variable (a : Nat) (al : Nat → Nat → Bool) (cl : Nat → Nat) (mv sp : Nat → Nat → Nat)
/-- the least cost of rows r .. r + d, row r having act b -/
def tgA : Nat → Nat → Nat → Nat
  | 0, r, b => if al r b then sp b (cl r) else BIG
  | d + 1, r, b => if al r b then sp b (cl r) + rmin (al (r + 1)) (fun c => mv b c + tgA d (r + 1) c) a else BIG
/-- the same, to row n - 1 -/
def tgo (n r b : Nat) : Nat := tgA a al cl mv sp (n - 1 - r) r b
/-- the least cost of what is ahead of row k, with the change to act b -/
def bfo : Nat → Nat → Nat
  | 0, _ => 0
  | k + 1, b => rmin (al k) (fun c => bfo k c + sp c (cl k) + mv c b) a
/-- the best line, chosen from the first row on -/
def bln (n : Nat) : Nat → Nat
  | 0 => amin (fun b => tgo a al cl mv sp n 0 b) (a - 1)
  | k + 1 => amin (fun b => mv (bln n k) b + tgo a al cl mv sp n (k + 1) b) (a - 1)
/-- cost of rows 0 .. k of a line -/
def pcs (X : Nat → Nat) : Nat → Nat
  | 0 => sp (X 0) (cl 0)
  | k + 1 => pcs X k + mv (X k) (X (k + 1)) + sp (X (k + 1)) (cl (k + 1))
/-- cost of rows r .. r + d of a line -/
def sfc (X : Nat → Nat) : Nat → Nat → Nat
  | 0, r => sp (X r) (cl r)
  | d + 1, r => sp (X r) (cl r) + mv (X r) (X (r + 1)) + sfc X d (r + 1)
def vld (X : Nat → Nat) (k : Nat) : Prop := ∀ i, i ≤ k → X i < a ∧ al i (X i) = true
end DP
def lxl (X Y : Nat → Nat) (n : Nat) : Prop := ∃ j, j < n ∧ X j < Y j ∧ ∀ i, i < j → X i = Y i
theorem lxl_total (X Y : Nat → Nat) : ∀ n, lxl X Y n ∨ lxl Y X n ∨ ∀ i, i < n → X i = Y i
  | 0 => Or.inr (Or.inr (fun i h => absurd h (Nat.not_lt_zero i)))
  | n + 1 => by
    rcases lxl_total X Y n with h | h | h
    · obtain ⟨j, h1, h2, h3⟩ := h
      exact Or.inl ⟨j, by omega, h2, h3⟩
    · obtain ⟨j, h1, h2, h3⟩ := h
      exact Or.inr (Or.inl ⟨j, by omega, h2, h3⟩)
    · rcases Nat.lt_trichotomy (X n) (Y n) with q | q | q
      · exact Or.inl ⟨n, by omega, q, h⟩
      · refine Or.inr (Or.inr (fun i hi => ?_))
        by_cases hn : i = n
        · rw [hn]; exact q
        · exact h i (by omega)
      · exact Or.inr (Or.inl ⟨n, by omega, q, fun i hi => (h i hi).symm⟩)
theorem lxl_trans {X Y Z : Nat → Nat} {n : Nat} (h1 : lxl X Y n) (h2 : lxl Y Z n) : lxl X Z n := by
  obtain ⟨j, a1, a2, a3⟩ := h1
  obtain ⟨k, b1, b2, b3⟩ := h2
  rcases Nat.lt_trichotomy j k with q | q | q
  · exact ⟨j, a1, by rw [← b3 j q]; exact a2, fun i hi => (a3 i hi).trans (b3 i (by omega))⟩
  · subst q
    exact ⟨j, a1, by omega, fun i hi => (a3 i hi).trans (b3 i hi)⟩
  · exact ⟨k, b1, by rw [a3 k q]; exact b2, fun i hi => (a3 i (by omega)).trans (b3 i hi)⟩
theorem lxl_irr {X : Nat → Nat} {n : Nat} (h : lxl X X n) : False := by
  obtain ⟨j, a1, a2, a3⟩ := h
  omega
/-- not before, and not before: the first isn't before the last -/
theorem lxl_le {X Y Z : Nat → Nat} {n : Nat} (h1 : ¬ lxl X Y n) (h2 : ¬ lxl Y Z n) : ¬ lxl X Z n := by
  intro h
  rcases lxl_total X Y n with q | q | q
  · exact h1 q
  · exact h2 (lxl_trans q h)
  · obtain ⟨j, a1, a2, a3⟩ := h
    exact h2 ⟨j, a1, by rw [← q j a1]; exact a2, fun i hi => by rw [← q i (by omega)]; exact a3 i hi⟩
section DPT
variable {a : Nat} {al : Nat → Nat → Bool} {cl : Nat → Nat} {mv sp : Nat → Nat → Nat}
theorem pcs_sfc (X : Nat → Nat) : ∀ d r, pcs cl mv sp X r + mv (X r) (X (r + 1)) + sfc cl mv sp X d (r + 1) = pcs cl mv sp X (r + 1 + d)
  | 0, r => rfl
  | d + 1, r => by
    have h := pcs_sfc X d (r + 1)
    rw [show r + 1 + (d + 1) = r + 1 + 1 + d by omega, ← h]
    show _ + (_ + _ + _) = _
    rw [show pcs cl mv sp X (r + 1) = pcs cl mv sp X r + mv (X r) (X (r + 1)) + sp (X (r + 1)) (cl (r + 1)) from rfl]
    omega
theorem pcs_eq (X : Nat → Nat) (d : Nat) : sfc cl mv sp X d 0 = pcs cl mv sp X d := by
  cases d with
  | zero => rfl
  | succ d =>
    have h := pcs_sfc (cl := cl) (mv := mv) (sp := sp) X d 0
    rw [show d + 1 = 0 + 1 + d by omega, ← h]
    rw [show 0 + 1 + d = d + 1 by omega]
    rfl
/-- what holds of the numbers: costs are small, each row has an act that is true -/
def okN (a : Nat) (al : Nat → Nat → Bool) (cl : Nat → Nat) (mv sp : Nat → Nat → Nat) (n : Nat) : Prop :=
  0 < n ∧ n ≤ 200 ∧ 0 < a ∧ (∀ b c, b < a → c < a → mv b c ≤ 10000) ∧ (∀ b k, b < a → k < n → sp b (cl k) ≤ 10000) ∧ ∀ k, k < n → ∃ b, b < a ∧ al k b = true
theorem tgA_le {n : Nat} (h : okN a al cl mv sp n) : ∀ d r b, r + d < n → b < a → al r b = true → tgA a al cl mv sp d r b ≤ 20000 * (d + 1)
  | 0, r, b, hr, hb, hal => by
    have := h.2.2.2.2.1 b r hb (by omega)
    unfold tgA
    rw [if_pos hal]
    omega
  | d + 1, r, b, hr, hb, hal => by
    have h1 := h.2.2.2.2.1 b r hb (by omega)
    obtain ⟨c, hc, hca⟩ := h.2.2.2.2.2 (r + 1) (by omega)
    have h2 := tgA_le h d (r + 1) c (by omega) hc hca
    have h3 := h.2.2.2.1 b c hb hc
    have h4 := rmin_le (p := al (r + 1)) (f := fun c => mv b c + tgA a al cl mv sp d (r + 1) c) hc hca
    unfold tgA
    rw [if_pos hal]
    omega
theorem tgA_big {d r b : Nat} (h : al r b = false) : tgA a al cl mv sp d r b = BIG := by
  cases d <;> (unfold tgA; rw [if_neg (by rw [h]; decide)])
/-- the choice of the next act -/
theorem tg_pick {n : Nat} (h : okN a al cl mv sp n) {d r : Nat} (hr : r + d < n) (g : Nat → Nat) (hg : ∀ c, c < a → g c ≤ 10000) :
    amin (fun c => g c + tgA a al cl mv sp d r c) (a - 1) < a ∧ al r (amin (fun c => g c + tgA a al cl mv sp d r c) (a - 1)) = true ∧
      g (amin (fun c => g c + tgA a al cl mv sp d r c) (a - 1)) + tgA a al cl mv sp d r (amin (fun c => g c + tgA a al cl mv sp d r c) (a - 1)) = rmin (al r) (fun c => g c + tgA a al cl mv sp d r c) a := by
  obtain ⟨c, hc, hca⟩ := h.2.2.2.2.2 r (by omega)
  have h1 := tgA_le h d r c hr hc hca
  have h2 := hg c hc
  have hn := h.2.1
  have hk := amin_rmin (p := al r) (f := fun c => g c + tgA a al cl mv sp d r c) (a := a) ⟨c, hc, hca, by show g c + _ < BIG; unfold BIG; omega⟩ (fun c _ hf => by
    show BIG ≤ g c + _
    rw [tgA_big hf]
    omega)
  exact hk
theorem tgA_lb {n : Nat} {Y : Nat → Nat} : ∀ d r, r + d < n → (∀ i, r ≤ i → i ≤ r + d → Y i < a ∧ al i (Y i) = true) → tgA a al cl mv sp d r (Y r) ≤ sfc cl mv sp Y d r
  | 0, r, _, h => by
    unfold tgA sfc
    rw [if_pos (h r (by omega) (by omega)).2]
    omega
  | d + 1, r, hr, h => by
    have ih := tgA_lb (n := n) (Y := Y) d (r + 1) (by omega) (fun i h1 h2 => h i (by omega) (by omega))
    have h1 := h (r + 1) (by omega) (by omega)
    have h2 := rmin_le (p := al (r + 1)) (f := fun c => mv (Y r) c + tgA a al cl mv sp d (r + 1) c) h1.1 h1.2
    unfold tgA sfc
    rw [if_pos (h r (by omega) (by omega)).2]
    have h3 : (fun c => mv (Y r) c + tgA a al cl mv sp d (r + 1) c) (Y (r + 1)) = mv (Y r) (Y (r + 1)) + tgA a al cl mv sp d (r + 1) (Y (r + 1)) := rfl
    omega
theorem tgo_eq {n r : Nat} (hr : r + 1 < n) (b : Nat) : tgo a al cl mv sp n r b = if al r b then sp b (cl r) + rmin (al (r + 1)) (fun c => mv b c + tgo a al cl mv sp n (r + 1) c) a else BIG := by
  unfold tgo
  rw [show n - 1 - r = (n - 1 - (r + 1)) + 1 by omega]
  rfl
theorem tgo_last {n : Nat} (hn : 0 < n) (b : Nat) : tgo a al cl mv sp n (n - 1) b = if al (n - 1) b then sp b (cl (n - 1)) else BIG := by
  unfold tgo
  rw [show n - 1 - (n - 1) = 0 by omega]
  rfl
theorem tgo_le {n r b : Nat} (h : okN a al cl mv sp n) (hr : r < n) (hb : b < a) (hal : al r b = true) : tgo a al cl mv sp n r b ≤ 20000 * (n - r) := by
  have := tgA_le h (n - 1 - r) r b (by omega) hb hal
  unfold tgo
  rw [show n - r = n - 1 - r + 1 by omega]
  exact this
theorem tgo_big {n r b : Nat} (h : al r b = false) : tgo a al cl mv sp n r b = BIG := tgA_big h
theorem bln_ok {n : Nat} (h : okN a al cl mv sp n) : ∀ k, k < n → bln a al cl mv sp n k < a ∧ al k (bln a al cl mv sp n k) = true
  | 0, hk => by
    have := tg_pick h (d := n - 1 - 0) (r := 0) (by omega) (fun _ => 0) (fun _ _ => by omega)
    simp only [Nat.zero_add] at this
    exact ⟨this.1, this.2.1⟩
  | k + 1, hk => by
    have ih := bln_ok h k (by omega)
    have := tg_pick h (d := n - 1 - (k + 1)) (r := k + 1) (by omega) (fun c => mv (bln a al cl mv sp n k) c) (fun c hc => h.2.2.2.1 _ _ ih.1 hc)
    exact ⟨this.1, this.2.1⟩
theorem bln_sfc {n : Nat} (h : okN a al cl mv sp n) : ∀ d r, r + d + 1 = n → sfc cl mv sp (bln a al cl mv sp n) d r = tgA a al cl mv sp d r (bln a al cl mv sp n r)
  | 0, r, hr => by
    unfold tgA sfc
    rw [if_pos (bln_ok h r (by omega)).2]
  | d + 1, r, hr => by
    have ih := bln_sfc h d (r + 1) (by omega)
    have hb := bln_ok h r (by omega)
    have hp := tg_pick h (d := n - 1 - (r + 1)) (r := r + 1) (by omega) (fun c => mv (bln a al cl mv sp n r) c) (fun c hc => h.2.2.2.1 _ _ hb.1 hc)
    have hd : n - 1 - (r + 1) = d := by omega
    have e : bln a al cl mv sp n (r + 1) = amin (fun c => mv (bln a al cl mv sp n r) c + tgA a al cl mv sp (n - 1 - (r + 1)) (r + 1) c) (a - 1) := rfl
    rw [← e, hd] at hp
    unfold tgA sfc
    rw [if_pos hb.2, ih]
    have h3 := hp.2.2
    omega
/-- the cost of the best line -/
def bcs (a : Nat) (al : Nat → Nat → Bool) (cl : Nat → Nat) (mv sp : Nat → Nat → Nat) (n : Nat) : Nat := tgo a al cl mv sp n 0 (bln a al cl mv sp n 0)
theorem bln_cost {n : Nat} (h : okN a al cl mv sp n) : pcs cl mv sp (bln a al cl mv sp n) (n - 1) = bcs a al cl mv sp n := by
  have hn := h.1
  have := bln_sfc h (n - 1) 0 (by omega)
  rw [pcs_eq] at this
  rw [this]
  rfl
/-- a line is best: true, none costs less, none of the same cost is ahead of it -/
def isBest (a : Nat) (al : Nat → Nat → Bool) (cl : Nat → Nat) (mv sp : Nat → Nat → Nat) (n : Nat) (X : Nat → Nat) : Prop :=
  vld a al X (n - 1) ∧ ∀ Y, vld a al Y (n - 1) → pcs cl mv sp X (n - 1) ≤ pcs cl mv sp Y (n - 1) ∧ (pcs cl mv sp X (n - 1) = pcs cl mv sp Y (n - 1) → ¬ lxl Y X n)
theorem bln_best {n : Nat} (h : okN a al cl mv sp n) : isBest a al cl mv sp n (bln a al cl mv sp n) := by
  have hn := h.1
  refine ⟨fun i hi => bln_ok h i (by omega), fun Y hY => ?_⟩
  have hlb : ∀ r, r < n → tgo a al cl mv sp n r (Y r) ≤ sfc cl mv sp Y (n - 1 - r) r := fun r hr => tgA_lb (n := n) (n - 1 - r) r (by omega) (fun i h1 h2 => hY i (by omega))
  have h0 := hlb 0 (by omega)
  rw [show n - 1 - 0 = n - 1 by omega, pcs_eq] at h0
  have hm := amin_min (fun b => tgo a al cl mv sp n 0 b) (a - 1) (Y 0) (by have := (hY 0 (by omega)).1; omega)
  have hc := bln_cost h
  have hb : bcs a al cl mv sp n = tgo a al cl mv sp n 0 (amin (fun b => tgo a al cl mv sp n 0 b) (a - 1)) := rfl
  refine ⟨by omega, fun heq hlx => ?_⟩
  obtain ⟨j, hj, hlt, hpre⟩ := hlx
  cases j with
  | zero =>
    have hf := amin_first (fun b => tgo a al cl mv sp n 0 b) (a - 1) (Y 0) hlt
    omega
  | succ j =>
    have hf := amin_first (fun b => mv (bln a al cl mv sp n j) b + tgo a al cl mv sp n (j + 1) b) (a - 1) (Y (j + 1)) hlt
    have e1 : amin (fun b => mv (bln a al cl mv sp n j) b + tgo a al cl mv sp n (j + 1) b) (a - 1) = bln a al cl mv sp n (j + 1) := rfl
    rw [e1] at hf
    have hf : mv (bln a al cl mv sp n j) (bln a al cl mv sp n (j + 1)) + tgo a al cl mv sp n (j + 1) (bln a al cl mv sp n (j + 1)) < mv (bln a al cl mv sp n j) (Y (j + 1)) + tgo a al cl mv sp n (j + 1) (Y (j + 1)) := hf
    have hl := hlb (j + 1) hj
    have s1 := pcs_sfc (cl := cl) (mv := mv) (sp := sp) Y (n - 1 - (j + 1)) j
    have s2 := pcs_sfc (cl := cl) (mv := mv) (sp := sp) (bln a al cl mv sp n) (n - 1 - (j + 1)) j
    have s3 := bln_sfc h (n - 1 - (j + 1)) (j + 1) (by omega)
    rw [show j + 1 + (n - 1 - (j + 1)) = n - 1 by omega] at s1 s2
    have hpc : ∀ k, k ≤ j → pcs cl mv sp Y k = pcs cl mv sp (bln a al cl mv sp n) k := by
      intro k
      induction k with
      | zero =>
        intro _
        unfold pcs
        rw [hpre 0 (by omega)]
      | succ k ih =>
        intro hk
        unfold pcs
        rw [ih (by omega), hpre k (by omega), hpre (k + 1) (by omega)]
    have e2 := hpc j (Nat.le_refl j)
    have e3 := hpre j (by omega)
    rw [e3] at s1
    have e4 : tgo a al cl mv sp n (j + 1) (bln a al cl mv sp n (j + 1)) = tgA a al cl mv sp (n - 1 - (j + 1)) (j + 1) (bln a al cl mv sp n (j + 1)) := rfl
    omega
/-- there is but one best line -/
theorem best_uniq {n : Nat} {X Z : Nat → Nat} (hX : isBest a al cl mv sp n X) (hZ : isBest a al cl mv sp n Z) : ∀ i, i < n → X i = Z i := by
  have h1 := hX.2 Z hZ.1
  have h2 := hZ.2 X hX.1
  rcases lxl_total X Z n with h | h | h
  · exact absurd h (h2.2 (by omega))
  · exact absurd h (h1.2 (by omega))
  · exact h
end DPT
end
section
/-! The best ways to an act, from the first row on -/
theorem pcs_congr {cl : Nat → Nat} {mv sp : Nat → Nat → Nat} {X Y : Nat → Nat} : ∀ {k : Nat}, (∀ i, i ≤ k → X i = Y i) → pcs cl mv sp X k = pcs cl mv sp Y k
  | 0, h => by unfold pcs; rw [h 0 (by omega)]
  | k + 1, h => by
    have ih := pcs_congr (cl := cl) (mv := mv) (sp := sp) (X := X) (Y := Y) (k := k) (fun i hi => h i (by omega))
    unfold pcs
    rw [ih, h k (by omega), h (k + 1) (by omega)]
theorem vld_congr {a : Nat} {al : Nat → Nat → Bool} {X Y : Nat → Nat} {k : Nat} (h : ∀ i, i ≤ k → X i = Y i) (hv : vld a al X k) : vld a al Y k := fun i hi => by
  rw [← h i hi]
  exact hv i hi
theorem lxl_congr {X Y X' Y' : Nat → Nat} {n : Nat} (h1 : ∀ i, i < n → X i = X' i) (h2 : ∀ i, i < n → Y i = Y' i) (h : lxl X Y n) : lxl X' Y' n := by
  obtain ⟨j, a1, a2, a3⟩ := h
  exact ⟨j, a1, by rw [← h1 j a1, ← h2 j a1]; exact a2, fun i hi => by rw [← h1 i (by omega), ← h2 i (by omega)]; exact a3 i hi⟩
section OPT
variable {a : Nat} {al : Nat → Nat → Bool} {cl : Nat → Nat} {mv sp : Nat → Nat → Nat}
def opt (a : Nat) (al : Nat → Nat → Bool) (cl : Nat → Nat) (mv sp : Nat → Nat → Nat) (k b : Nat) (X : Nat → Nat) : Prop :=
  vld a al X k ∧ X k = b ∧ ∀ Y, vld a al Y k → Y k = b → pcs cl mv sp X k ≤ pcs cl mv sp Y k ∧ (pcs cl mv sp X k = pcs cl mv sp Y k → ¬ lxl Y X (k + 1))
/-- way c is no worse than way z for the next act b -/
def noW (cl : Nat → Nat) (mv sp : Nat → Nat → Nat) (k b : Nat) (P : Nat → Nat → Nat) (c z : Nat) : Prop :=
  pcs cl mv sp (P c) k + mv c b < pcs cl mv sp (P z) k + mv z b ∨ (pcs cl mv sp (P c) k + mv c b = pcs cl mv sp (P z) k + mv z b ∧ ¬ lxl (P z) (P c) (k + 1))
theorem noW_trans {k b c z y : Nat} {P : Nat → Nat → Nat} (h1 : noW cl mv sp k b P c z) (h2 : noW cl mv sp k b P z y) : noW cl mv sp k b P c y := by
  rcases h1 with h1 | ⟨h1, g1⟩ <;> rcases h2 with h2 | ⟨h2, g2⟩
  · exact Or.inl (by omega)
  · exact Or.inl (by omega)
  · exact Or.inl (by omega)
  · exact Or.inr ⟨by omega, lxl_le g2 g1⟩
theorem noW_refl {k b c : Nat} {P : Nat → Nat → Nat} : noW cl mv sp k b P c c := Or.inr ⟨rfl, fun h => lxl_irr h⟩
theorem opt_0 {b : Nat} {X : Nat → Nat} (hb : b < a) (hal : al 0 b = true) (hX : X 0 = b) : opt a al cl mv sp 0 b X := by
  refine ⟨fun i hi => ?_, hX, fun Y _ hY => ?_⟩
  · rw [Nat.le_zero.mp hi, hX]
    exact ⟨hb, hal⟩
  · have e : pcs cl mv sp X 0 = pcs cl mv sp Y 0 := by unfold pcs; rw [hX, hY]
    refine ⟨by omega, fun _ h => ?_⟩
    obtain ⟨j, h1, h2, -⟩ := h
    rw [show j = 0 by omega, hX, hY] at h2
    omega
theorem opt_step {k b c : Nat} {P : Nat → Nat → Nat} {X : Nat → Nat} (hP : ∀ z, z < a → al k z = true → opt a al cl mv sp k z (P z)) (hc : c < a) (hca : al k c = true) (hbest : ∀ z, z < a → al k z = true → noW cl mv sp k b P c z) (hb : b < a) (hal : al (k + 1) b = true) (hX : ∀ i, i ≤ k → X i = P c i) (hXb : X (k + 1) = b) : opt a al cl mv sp (k + 1) b X := by
  have hPc := hP c hc hca
  have e1 : pcs cl mv sp X k = pcs cl mv sp (P c) k := pcs_congr hX
  have e2 : X k = c := by rw [hX k (Nat.le_refl k)]; exact hPc.2.1
  have e3 : pcs cl mv sp X (k + 1) = pcs cl mv sp (P c) k + mv c b + sp b (cl (k + 1)) := by
    show pcs cl mv sp X k + mv (X k) (X (k + 1)) + sp (X (k + 1)) (cl (k + 1)) = _
    rw [e1, e2, hXb]
  refine ⟨fun i hi => ?_, hXb, fun Y hY hYb => ?_⟩
  · by_cases hik : i = k + 1
    · rw [hik, hXb]; exact ⟨hb, hal⟩
    · rw [hX i (by omega)]
      exact hPc.1 i (by omega)
  · have hz := hY k (by omega)
    have hPz := (hP (Y k) hz.1 hz.2).2.2 Y (fun i hi => hY i (by omega)) rfl
    have f3 : pcs cl mv sp Y (k + 1) = pcs cl mv sp Y k + mv (Y k) b + sp b (cl (k + 1)) := by
      show pcs cl mv sp Y k + mv (Y k) (Y (k + 1)) + sp (Y (k + 1)) (cl (k + 1)) = _
      rw [hYb]
    rcases hbest (Y k) hz.1 hz.2 with h | ⟨h, g⟩
    · exact ⟨by omega, fun q => by omega⟩
    · refine ⟨by omega, fun q hl => ?_⟩
      have g2 := hPz.2 (by omega)
      have g3 : ¬ lxl Y (P c) (k + 1) := lxl_le g2 g
      obtain ⟨j, h1, h2, h3⟩ := hl
      by_cases hj : j = k + 1
      · rw [hj, hYb, hXb] at h2
        omega
      · exact g3 ⟨j, by omega, by rw [← hX j (by omega)]; exact h2, fun i hi => by rw [← hX i (by omega)]; exact h3 i hi⟩
/-- way c is no worse than way z at the end -/
def noE (cl : Nat → Nat) (mv sp : Nat → Nat → Nat) (k : Nat) (P : Nat → Nat → Nat) (c z : Nat) : Prop :=
  pcs cl mv sp (P c) k < pcs cl mv sp (P z) k ∨ (pcs cl mv sp (P c) k = pcs cl mv sp (P z) k ∧ ¬ lxl (P z) (P c) (k + 1))
theorem noE_trans {k c z y : Nat} {P : Nat → Nat → Nat} (h1 : noE cl mv sp k P c z) (h2 : noE cl mv sp k P z y) : noE cl mv sp k P c y := by
  rcases h1 with h1 | ⟨h1, g1⟩ <;> rcases h2 with h2 | ⟨h2, g2⟩
  · exact Or.inl (by omega)
  · exact Or.inl (by omega)
  · exact Or.inl (by omega)
  · exact Or.inr ⟨by omega, lxl_le g2 g1⟩
theorem noE_refl {k c : Nat} {P : Nat → Nat → Nat} : noE cl mv sp k P c c := Or.inr ⟨rfl, fun h => lxl_irr h⟩
theorem opt_end {n c : Nat} {P : Nat → Nat → Nat} (hn : 0 < n) (hP : ∀ z, z < a → al (n - 1) z = true → opt a al cl mv sp (n - 1) z (P z)) (hc : c < a) (hca : al (n - 1) c = true) (hbest : ∀ z, z < a → al (n - 1) z = true → noE cl mv sp (n - 1) P c z) : isBest a al cl mv sp n (P c) := by
  refine ⟨(hP c hc hca).1, fun Y hY => ?_⟩
  have hz := hY (n - 1) (Nat.le_refl _)
  have hPz := (hP (Y (n - 1)) hz.1 hz.2).2.2 Y hY rfl
  rw [show n - 1 + 1 = n by omega] at hPz
  rcases hbest (Y (n - 1)) hz.1 hz.2 with h | ⟨h, g⟩
  · exact ⟨by omega, fun q => by omega⟩
  · rw [show n - 1 + 1 = n by omega] at g
    exact ⟨by omega, fun q => lxl_le (hPz.2 (by omega)) g⟩
theorem pcs_le {n : Nat} {X : Nat → Nat} (h : okN a al cl mv sp n) : ∀ k, k < n → vld a al X k → pcs cl mv sp X k ≤ 20000 * (k + 1)
  | 0, hk, hv => by
    have := h.2.2.2.2.1 (X 0) 0 (hv 0 (by omega)).1 hk
    unfold pcs
    omega
  | k + 1, hk, hv => by
    have ih := pcs_le (X := X) h k (by omega) (fun i hi => hv i (by omega))
    have h1 := h.2.2.2.2.1 (X (k + 1)) (k + 1) (hv (k + 1) (by omega)).1 hk
    have h2 := h.2.2.2.1 (X k) (X (k + 1)) (hv k (by omega)).1 (hv (k + 1) (by omega)).1
    unfold pcs
    omega
end OPT
theorem lexL_lxl {f g : Nat → Int32} {F G : Nat → Nat} {n : Nat} (hf : ∀ i, i < n → f i = nI (F i) ∧ F i < 2 ^ 31) (hg : ∀ i, i < n → g i = nI (G i) ∧ G i < 2 ^ 31) : lexL f g n = true ↔ lxl F G n := by
  rw [lexL_iff]
  constructor
  · rintro ⟨k, hk, h1, h2⟩
    refine ⟨k, hk, ?_, fun i hi => ?_⟩
    · rw [(hf k hk).1, (hg k hk).1] at h1
      exact (nI_ltI (hf k hk).2 (hg k hk).2).mp h1
    · have := h2 i hi
      rw [(hf i (by omega)).1, (hg i (by omega)).1] at this
      exact (nI_eq (hf i (by omega)).2 (hg i (by omega)).2).mp this
  · rintro ⟨k, hk, h1, h2⟩
    refine ⟨k, hk, ?_, fun i hi => ?_⟩
    · rw [(hf k hk).1, (hg k hk).1]
      exact (nI_ltI (hf k hk).2 (hg k hk).2).mpr h1
    · rw [(hf i (by omega)).1, (hg i (by omega)).1, h2 i hi]
end
section
theorem rmin_lt {p : Nat → Bool} {f : Nat → Nat} {c : Nat} (hp : p c = true) (h : f c < rmin p f c) : rmin p f (c + 1) = f c := by
  unfold rmin
  rw [if_pos hp]
  omega
theorem rmin_ge {p : Nat → Bool} {f : Nat → Nat} {c : Nat} (hp : p c = true) (h : rmin p f c ≤ f c) : rmin p f (c + 1) = rmin p f c := by
  conv => lhs; unfold rmin
  rw [if_pos hp]
  omega
theorem rmin_no {p : Nat → Bool} {f : Nat → Nat} {c : Nat} (hp : p c = false) : rmin p f (c + 1) = rmin p f c := by
  conv => lhs; unfold rmin
  rw [if_neg (by rw [hp]; decide)]
section DP2
variable {a : Nat} {al : Nat → Nat → Bool} {cl : Nat → Nat} {mv sp : Nat → Nat → Nat}
theorem bfo_le {n : Nat} (h : okN a al cl mv sp n) : ∀ k b, k < n → b < a → bfo a al cl mv sp k b ≤ 20000 * k
  | 0, b, _, _ => Nat.le_refl 0
  | k + 1, b, hk, hb => by
    obtain ⟨c, hc, hca⟩ := h.2.2.2.2.2 k (by omega)
    have h1 := bfo_le h k c (by omega) hc
    have h2 := h.2.2.2.2.1 c k hc (by omega)
    have h3 := h.2.2.2.1 c b hc hb
    have h4 := rmin_le (p := al k) (f := fun c => bfo a al cl mv sp k c + sp c (cl k) + mv c b) hc hca
    have h5 : (fun c => bfo a al cl mv sp k c + sp c (cl k) + mv c b) c = bfo a al cl mv sp k c + sp c (cl k) + mv c b := rfl
    show rmin (al k) (fun c => bfo a al cl mv sp k c + sp c (cl k) + mv c b) a ≤ _
    omega
theorem tgr_le {n k b : Nat} (h : okN a al cl mv sp n) (hk : k + 1 < n) (hb : b < a) : rmin (al (k + 1)) (fun c => mv b c + tgo a al cl mv sp n (k + 1) c) a ≤ 10000 + 20000 * (n - (k + 1)) := by
  obtain ⟨c, hc, hca⟩ := h.2.2.2.2.2 (k + 1) (by omega)
  have h1 := tgo_le h hk hc hca
  have h3 := h.2.2.2.1 b c hb hc
  have h4 := rmin_le (p := al (k + 1)) (f := fun c => mv b c + tgo a al cl mv sp n (k + 1) c) hc hca
  have h5 : (fun c => mv b c + tgo a al cl mv sp n (k + 1) c) c = mv b c + tgo a al cl mv sp n (k + 1) c := rfl
  omega
end DP2
end
section
set_option maxHeartbeats 4000000 in
set_option maxRecDepth 100000 in
/-- isAct: a place below acts -/
theorem c_M_isAct (l : Launch) {D : va_G} {cI cJ cG : ClassId} {ad : Nat → Nat} {co : Nat → va_E} {dl : List Nat} {a rw sh pg ce mg kn cs sm : Nat} (hdl : ∀ i, 400 ≤ i → i < 427 → i ∈ dl) (h400 : co 400 = mO ad a rw sh pg ce mg kn cs sm)   (x : Int32) (hb9 : a < 2 ^ 31) : gMi l y_M_isAct (Cond.code y_M_isAct b_M_isAct 2 (some .boolean) :: wA) ({ frames := 0, cells := 0, slots := 0, locals := 0 }) D gCl (gTy cI cJ cG) gNl [.ref (ad 400), .int x] ad co dl (fun r co' => r = bI (inB x a) ∧ co' = co) := by
  refine gMi_of (cc := b_M_isAct) (maxL := 2) (ret := some .boolean) (by decide) rfl (Nat.le_of_ble_eq_true rfl) ?_
  intro pp ee s mm below meth cd ls hC hW hS hl
  obtain ⟨hx, hb, hr, hts0, hown, hlocks, hml, hK, hN⟩ := hC
  have hts : ∀ w ∈ wA, w.before _ s = true := fun w h => hts0 w (List.mem_cons_of_mem _ h)
  have hA : ∀ q, s.heap.size ≤ q → gA ad co dl s.heap.size q := fun q h => Or.inr h
  have hl : lv_has ls 2 [(0, .ref (ad 400)), (1, .int x)] := hl
  have hown : s.vm.findClass R_M = some mm.cls := hown
  refine lv_iload_n hx hb d_M_isAct_0 rfl (lv_at hl 1 rfl) ?_
  refine lv_if_lt (tgt := 16) hx hb d_M_isAct_1 (by decide) (fun h1 => ?_) (fun h1 => ?_)
  · refine lv_iconst (v := nI 0) hx hb d_M_isAct_16 (by decide) ?_
    exact g_zret hx hb hr (by rfl) hlocks hW hS (⟨bI_0 (inB_neg h1), rfl⟩) d_M_isAct_17
  · obtain ⟨j, hj, rfl⟩ := nI_of h1
    refine lv_iload_n hx hb d_M_isAct_4 rfl (lv_at hl 1 rfl) ?_
    refine lv_aload_n hx hb d_M_isAct_5 rfl (lv_at hl 0 rfl) ?_
    refine g_get (C := R_M) (T := F_M) (N := 35) hx hb hts i_M hown hK hW (i := 400) (hdl 400 (by decide) (by decide)) h400 rfl 0 (by decide) (hts _ q_488) (fun _ h9 => h9) rfl d_M_isAct_6 ?_
    refine n_icmp_ge (tgt := 16) hx hb (by omega) (by omega) d_M_isAct_9 (by decide) (fun h2 => ?_) (fun h2 => ?_)
    · refine lv_iconst (v := nI 0) hx hb d_M_isAct_16 (by decide) ?_
      exact g_zret hx hb hr (by rfl) hlocks hW hS (⟨bI_0 (inB_ge hj h2), rfl⟩) d_M_isAct_17
    · refine lv_iconst (v := nI 1) hx hb d_M_isAct_12 (by decide) ?_
      refine lv_goto (tgt := 17) hx hb d_M_isAct_13 (by decide) ?_
      exact g_zret hx hb hr (by rfl) hlocks hW hS (⟨bI_1 (inB_lt h2 hb9), rfl⟩) d_M_isAct_17
set_option maxHeartbeats 4000000 in
set_option maxRecDepth 100000 in
/-- isRow: a place below rows -/
theorem c_M_isRow (l : Launch) {D : va_G} {cI cJ cG : ClassId} {ad : Nat → Nat} {co : Nat → va_E} {dl : List Nat} {a rw sh pg ce mg kn cs sm : Nat} (hdl : ∀ i, 400 ≤ i → i < 427 → i ∈ dl) (h400 : co 400 = mO ad a rw sh pg ce mg kn cs sm)   (x : Int32) (hb9 : rw < 2 ^ 31) : gMi l y_M_isRow (Cond.code y_M_isRow b_M_isRow 2 (some .boolean) :: wA) ({ frames := 0, cells := 0, slots := 0, locals := 0 }) D gCl (gTy cI cJ cG) gNl [.ref (ad 400), .int x] ad co dl (fun r co' => r = bI (inB x rw) ∧ co' = co) := by
  refine gMi_of (cc := b_M_isRow) (maxL := 2) (ret := some .boolean) (by decide) rfl (Nat.le_of_ble_eq_true rfl) ?_
  intro pp ee s mm below meth cd ls hC hW hS hl
  obtain ⟨hx, hb, hr, hts0, hown, hlocks, hml, hK, hN⟩ := hC
  have hts : ∀ w ∈ wA, w.before _ s = true := fun w h => hts0 w (List.mem_cons_of_mem _ h)
  have hA : ∀ q, s.heap.size ≤ q → gA ad co dl s.heap.size q := fun q h => Or.inr h
  have hl : lv_has ls 2 [(0, .ref (ad 400)), (1, .int x)] := hl
  have hown : s.vm.findClass R_M = some mm.cls := hown
  refine lv_iload_n hx hb d_M_isRow_0 rfl (lv_at hl 1 rfl) ?_
  refine lv_if_lt (tgt := 16) hx hb d_M_isRow_1 (by decide) (fun h1 => ?_) (fun h1 => ?_)
  · refine lv_iconst (v := nI 0) hx hb d_M_isRow_16 (by decide) ?_
    exact g_zret hx hb hr (by rfl) hlocks hW hS (⟨bI_0 (inB_neg h1), rfl⟩) d_M_isRow_17
  · obtain ⟨j, hj, rfl⟩ := nI_of h1
    refine lv_iload_n hx hb d_M_isRow_4 rfl (lv_at hl 1 rfl) ?_
    refine lv_aload_n hx hb d_M_isRow_5 rfl (lv_at hl 0 rfl) ?_
    refine g_get (C := R_M) (T := F_M) (N := 35) hx hb hts i_M hown hK hW (i := 400) (hdl 400 (by decide) (by decide)) h400 rfl 5 (by decide) (hts _ q_493) (fun _ h9 => h9) rfl d_M_isRow_6 ?_
    refine n_icmp_ge (tgt := 16) hx hb (by omega) (by omega) d_M_isRow_9 (by decide) (fun h2 => ?_) (fun h2 => ?_)
    · refine lv_iconst (v := nI 0) hx hb d_M_isRow_16 (by decide) ?_
      exact g_zret hx hb hr (by rfl) hlocks hW hS (⟨bI_0 (inB_ge hj h2), rfl⟩) d_M_isRow_17
    · refine lv_iconst (v := nI 1) hx hb d_M_isRow_12 (by decide) ?_
      refine lv_goto (tgt := 17) hx hb d_M_isRow_13 (by decide) ?_
      exact g_zret hx hb hr (by rfl) hlocks hW hS (⟨bI_1 (inB_lt h2 hb9), rfl⟩) d_M_isRow_17
set_option maxHeartbeats 4000000 in
set_option maxRecDepth 100000 in
/-- isKnown: a place below known -/
theorem c_M_isKnown (l : Launch) {D : va_G} {cI cJ cG : ClassId} {ad : Nat → Nat} {co : Nat → va_E} {dl : List Nat} {a rw sh pg ce mg kn cs sm : Nat} (hdl : ∀ i, 400 ≤ i → i < 427 → i ∈ dl) (h400 : co 400 = mO ad a rw sh pg ce mg kn cs sm)   (x : Int32) (hb9 : kn < 2 ^ 31) : gMi l y_M_isKnown (Cond.code y_M_isKnown b_M_isKnown 2 (some .boolean) :: wA) ({ frames := 0, cells := 0, slots := 0, locals := 0 }) D gCl (gTy cI cJ cG) gNl [.ref (ad 400), .int x] ad co dl (fun r co' => r = bI (inB x kn) ∧ co' = co) := by
  refine gMi_of (cc := b_M_isKnown) (maxL := 2) (ret := some .boolean) (by decide) rfl (Nat.le_of_ble_eq_true rfl) ?_
  intro pp ee s mm below meth cd ls hC hW hS hl
  obtain ⟨hx, hb, hr, hts0, hown, hlocks, hml, hK, hN⟩ := hC
  have hts : ∀ w ∈ wA, w.before _ s = true := fun w h => hts0 w (List.mem_cons_of_mem _ h)
  have hA : ∀ q, s.heap.size ≤ q → gA ad co dl s.heap.size q := fun q h => Or.inr h
  have hl : lv_has ls 2 [(0, .ref (ad 400)), (1, .int x)] := hl
  have hown : s.vm.findClass R_M = some mm.cls := hown
  refine lv_iload_n hx hb d_M_isKnown_0 rfl (lv_at hl 1 rfl) ?_
  refine lv_if_lt (tgt := 16) hx hb d_M_isKnown_1 (by decide) (fun h1 => ?_) (fun h1 => ?_)
  · refine lv_iconst (v := nI 0) hx hb d_M_isKnown_16 (by decide) ?_
    exact g_zret hx hb hr (by rfl) hlocks hW hS (⟨bI_0 (inB_neg h1), rfl⟩) d_M_isKnown_17
  · obtain ⟨j, hj, rfl⟩ := nI_of h1
    refine lv_iload_n hx hb d_M_isKnown_4 rfl (lv_at hl 1 rfl) ?_
    refine lv_aload_n hx hb d_M_isKnown_5 rfl (lv_at hl 0 rfl) ?_
    refine g_get (C := R_M) (T := F_M) (N := 35) hx hb hts i_M hown hK hW (i := 400) (hdl 400 (by decide) (by decide)) h400 rfl 22 (by decide) (hts _ q_510) (fun _ h9 => h9) rfl d_M_isKnown_6 ?_
    refine n_icmp_ge (tgt := 16) hx hb (by omega) (by omega) d_M_isKnown_9 (by decide) (fun h2 => ?_) (fun h2 => ?_)
    · refine lv_iconst (v := nI 0) hx hb d_M_isKnown_16 (by decide) ?_
      exact g_zret hx hb hr (by rfl) hlocks hW hS (⟨bI_0 (inB_ge hj h2), rfl⟩) d_M_isKnown_17
    · refine lv_iconst (v := nI 1) hx hb d_M_isKnown_12 (by decide) ?_
      refine lv_goto (tgt := 17) hx hb d_M_isKnown_13 (by decide) ?_
      exact g_zret hx hb hr (by rfl) hlocks hW hS (⟨bI_1 (inB_lt h2 hb9), rfl⟩) d_M_isKnown_17
end
section
set_option maxHeartbeats 4000000 in
set_option maxRecDepth 100000 in
/-- may(k, b, w) -/
theorem c_M_may (l : Launch) {D : va_G} {cI cJ cG : ClassId} {ad : Nat → Nat} {co : Nat → va_E} {dl : List Nat} {a rw sh pg ce mg kn cs sm : Nat} (hdl : ∀ i, 400 ≤ i → i < 427 → i ∈ dl) (h400 : co 400 = mO ad a rw sh pg ce mg kn cs sm) {shp : Nat → Int32} {tr : Nat → Int32} (h408 : co 408 = .inl (cI, 200, .inl shp)) (h409 : co 409 = .inl (cI, 200, .inl tr)) (j b : Nat) (w : Int32) (hj : j < 200) (hs : shp j ≠ -1) : gMi l y_M_may (Cond.code y_M_may b_M_may 4 (some .boolean) :: wA) ({ frames := 0, cells := 0, slots := 0, locals := 0 }) D gCl (gTy cI cJ cG) gNl [.ref (ad 400), .int (nI j), .int (nI b), .int w] ad co dl (fun r co' => r = bI (alw tr shp w j b) ∧ co' = co) := by
  refine gMi_of (cc := b_M_may) (maxL := 4) (ret := some .boolean) (by decide) rfl (Nat.le_of_ble_eq_true rfl) ?_
  intro pp ee s mm below meth cd ls hC hW hS hl
  obtain ⟨hx, hb, hr, hts0, hown, hlocks, hml, hK, hN⟩ := hC
  have hts : ∀ w ∈ wA, w.before _ s = true := fun w h => hts0 w (List.mem_cons_of_mem _ h)
  have hA : ∀ q, s.heap.size ≤ q → gA ad co dl s.heap.size q := fun q h => Or.inr h
  have hl : lv_has ls 4 [(0, .ref (ad 400)), (1, .int (nI j)), (2, .int (nI b)), (3, .int w)] := hl
  have hown : s.vm.findClass R_M = some mm.cls := hown
  refine lv_aload_n hx hb d_M_may_0 rfl (lv_at hl 0 rfl) ?_
  refine g_get (C := R_M) (T := F_M) (N := 35) hx hb hts i_M hown hK hW (i := 400) (hdl 400 (by decide) (by decide)) h400 rfl 10 (by decide) (hts _ q_498) (fun _ h9 => h9) rfl d_M_may_1 ?_
  refine lv_iload_n hx hb d_M_may_4 rfl (lv_at hl 1 rfl) ?_
  refine n_iald hx hb hK hW 0 (q := 409) (hdl 409 (by decide) (by decide)) h409 rfl (j := j) (by omega) (by omega) d_M_may_5 ?_
  refine lv_iconst (v := (-1)) hx hb d_M_may_6 (by decide) ?_
  refine lv_icmp_eq (tgt := 35) hx hb d_M_may_7 (by decide) (fun h1 => ?_) (fun h1 => ?_)
  · refine lv_iconst (v := nI 1) hx hb d_M_may_35 (by decide) ?_
    refine lv_goto (tgt := 40) hx hb d_M_may_36 (by decide) ?_
    exact g_zret hx hb hr (by rfl) hlocks hW hS (⟨bI_1 (by simp [alw, h1]), rfl⟩) d_M_may_40
  · refine lv_iload_n hx hb d_M_may_10 rfl (lv_at hl 3 rfl) ?_
    refine lv_iconst (v := (-1)) hx hb d_M_may_11 (by decide) ?_
    refine lv_icmp_eq (tgt := 25) hx hb d_M_may_12 (by decide) (fun h2 => ?_) (fun h2 => ?_)
    · refine lv_aload_n hx hb d_M_may_25 rfl (lv_at hl 0 rfl) ?_
      refine g_get (C := R_M) (T := F_M) (N := 35) hx hb hts i_M hown hK hW (i := 400) (hdl 400 (by decide) (by decide)) h400 rfl 10 (by decide) (hts _ q_498) (fun _ h9 => h9) rfl d_M_may_26 ?_
      refine lv_iload_n hx hb d_M_may_29 rfl (lv_at hl 1 rfl) ?_
      refine n_iald hx hb hK hW 0 (q := 409) (hdl 409 (by decide) (by decide)) h409 rfl (j := j) (by omega) (by omega) d_M_may_30 ?_
      refine lv_iload_n hx hb d_M_may_31 rfl (lv_at hl 2 rfl) ?_
      refine lv_icmp_ne (tgt := 39) hx hb d_M_may_32 (by decide) (fun h4 => ?_) (fun h4 => ?_)
      · refine lv_iconst (v := nI 0) hx hb d_M_may_39 (by decide) ?_
        exact g_zret hx hb hr (by rfl) hlocks hW hS (⟨bI_0 (by simp [alw, h1, h4, h2, hs]), rfl⟩) d_M_may_40
      · refine lv_iconst (v := nI 1) hx hb d_M_may_35 (by decide) ?_
        refine lv_goto (tgt := 40) hx hb d_M_may_36 (by decide) ?_
        exact g_zret hx hb hr (by rfl) hlocks hW hS (⟨bI_1 (by simp [alw, h4]), rfl⟩) d_M_may_40
    · refine lv_aload_n hx hb d_M_may_15 rfl (lv_at hl 0 rfl) ?_
      refine g_get (C := R_M) (T := F_M) (N := 35) hx hb hts i_M hown hK hW (i := 400) (hdl 400 (by decide) (by decide)) h400 rfl 9 (by decide) (hts _ q_497) (fun _ h9 => h9) rfl d_M_may_16 ?_
      refine lv_iload_n hx hb d_M_may_19 rfl (lv_at hl 1 rfl) ?_
      refine n_iald hx hb hK hW 0 (q := 408) (hdl 408 (by decide) (by decide)) h408 rfl (j := j) (by omega) (by omega) d_M_may_20 ?_
      refine lv_iload_n hx hb d_M_may_21 rfl (lv_at hl 3 rfl) ?_
      refine lv_icmp_eq (tgt := 35) hx hb d_M_may_22 (by decide) (fun h3 => ?_) (fun h3 => ?_)
      · refine lv_iconst (v := nI 1) hx hb d_M_may_35 (by decide) ?_
        refine lv_goto (tgt := 40) hx hb d_M_may_36 (by decide) ?_
        exact g_zret hx hb hr (by rfl) hlocks hW hS (⟨bI_1 (by simp [alw, h3]), rfl⟩) d_M_may_40
      · refine lv_aload_n hx hb d_M_may_25 rfl (lv_at hl 0 rfl) ?_
        refine g_get (C := R_M) (T := F_M) (N := 35) hx hb hts i_M hown hK hW (i := 400) (hdl 400 (by decide) (by decide)) h400 rfl 10 (by decide) (hts _ q_498) (fun _ h9 => h9) rfl d_M_may_26 ?_
        refine lv_iload_n hx hb d_M_may_29 rfl (lv_at hl 1 rfl) ?_
        refine n_iald hx hb hK hW 0 (q := 409) (hdl 409 (by decide) (by decide)) h409 rfl (j := j) (by omega) (by omega) d_M_may_30 ?_
        refine lv_iload_n hx hb d_M_may_31 rfl (lv_at hl 2 rfl) ?_
        refine lv_icmp_ne (tgt := 39) hx hb d_M_may_32 (by decide) (fun h4 => ?_) (fun h4 => ?_)
        · refine lv_iconst (v := nI 0) hx hb d_M_may_39 (by decide) ?_
          exact g_zret hx hb hr (by rfl) hlocks hW hS (⟨bI_0 (by simp [alw, h1, h4, h3]), rfl⟩) d_M_may_40
        · refine lv_iconst (v := nI 1) hx hb d_M_may_35 (by decide) ?_
          refine lv_goto (tgt := 40) hx hb d_M_may_36 (by decide) ?_
          exact g_zret hx hb hr (by rfl) hlocks hW hS (⟨bI_1 (by simp [alw, h4]), rfl⟩) d_M_may_40
set_option maxHeartbeats 4000000 in
set_option maxRecDepth 100000 in
/-- isFirst(x, y, n) -/
theorem c_M_isFirst (l : Launch) {D : va_G} {cI cJ cG : ClassId} {ad : Nat → Nat} {co : Nat → va_E} {dl : List Nat} {a rw sh pg ce mg kn cs sm : Nat} (hdl : ∀ i, 400 ≤ i → i < 427 → i ∈ dl) (h400 : co 400 = mO ad a rw sh pg ce mg kn cs sm) {so : Nat → Int32} (h420 : co 420 = .inl (cI, 2400, .inl so)) (x y n : Nat) (hx9 : x < 12) (hy9 : y < 12) (hn9 : n ≤ 200) : gMi l y_M_isFirst (Cond.code y_M_isFirst b_M_isFirst 5 (some .boolean) :: wA) ({ frames := 0, cells := 0, slots := 0, locals := 0 }) D gCl (gTy cI cJ cG) gNl [.ref (ad 400), .int (nI x), .int (nI y), .int (nI n)] ad co dl (fun r co' => r = bI (lexL (fun k => so (200 * x + k)) (fun k => so (200 * y + k)) n) ∧ co' = co) := by
  refine gMi_of (cc := b_M_isFirst) (maxL := 5) (ret := some .boolean) (by decide) rfl (Nat.le_of_ble_eq_true rfl) ?_
  intro pp ee s mm below meth cd ls hC hW hS hl
  obtain ⟨hx, hb, hr, hts0, hown, hlocks, hml, hK, hN⟩ := hC
  have hts : ∀ w ∈ wA, w.before _ s = true := fun w h => hts0 w (List.mem_cons_of_mem _ h)
  have hA : ∀ q, s.heap.size ≤ q → gA ad co dl s.heap.size q := fun q h => Or.inr h
  have hl : lv_has ls 5 [(0, .ref (ad 400)), (1, .int (nI x)), (2, .int (nI y)), (3, .int (nI n))] := hl
  have hown : s.vm.findClass R_M = some mm.cls := hown
  refine lv_iconst (v := nI 0) hx hb d_M_isFirst_0 (by decide) ?_
  refine lv_istore (lv' := [(4, .int (nI 0)), (0, .ref (ad 400)), (1, .int (nI x)), (2, .int (nI y)), (3, .int (nI n))]) hx hb d_M_isFirst_1 hl (by decide) rfl (fun ls hl => ?_)
  suffices hloop : ∀ (d k : Nat) (ls : Array Slot), k ≤ n → n + 1 ≤ k + d → (∀ i, i < k → so (200 * x + i) = so (200 * y + i)) → lv_has ls 5 [(4, .int (nI k)), (0, .ref (ad 400)), (1, .int (nI x)), (2, .int (nI y)), (3, .int (nI n))] → W pp l ee _ s mm _ below meth cd s.heap [] 0 0 _ (F0 mm 3 ls []) by
    exact hloop (n + 1) 0 ls (by omega) (by omega) (fun i h => absurd h (Nat.not_lt_zero i)) hl
  intro d
  induction d with
  | zero => intro k ls h1 h2; exact absurd h2 (by omega)
  | succ d ih =>
    intro k ls hk hd heq hl
    refine lv_iload hx hb d_M_isFirst_3 (lv_at hl 0 rfl) ?_
    refine lv_iload_n hx hb d_M_isFirst_5 rfl (lv_at hl 4 rfl) ?_
    refine n_icmp_ge (tgt := 79) hx hb (by omega) (by omega) d_M_isFirst_6 (by decide) (fun h1 => ?_) (fun h1 => ?_)
    · refine lv_iconst (v := nI 0) hx hb d_M_isFirst_79 (by decide) ?_
      exact g_zret hx hb hr (by rfl) hlocks hW hS (⟨bI_0 (lexL_eq (fun i hi => heq i (by omega))), rfl⟩) d_M_isFirst_80
    · refine lv_aload_n hx hb d_M_isFirst_9 rfl (lv_at hl 1 rfl) ?_
      refine g_get (C := R_M) (T := F_M) (N := 35) hx hb hts i_M hown hK hW (i := 400) (hdl 400 (by decide) (by decide)) h400 rfl 28 (by decide) (hts _ q_516) (fun _ h9 => h9) rfl d_M_isFirst_10 ?_
      refine lv_sipush (v := nI 200) hx hb d_M_isFirst_13 (by decide) ?_
      refine lv_iload_n hx hb d_M_isFirst_16 rfl (lv_at hl 2 rfl) ?_
      refine n_mul hx hb d_M_isFirst_17 ?_
      refine lv_iload hx hb d_M_isFirst_18 (lv_at hl 0 rfl) ?_
      refine n_add hx hb d_M_isFirst_20 ?_
      refine n_iald hx hb hK hW 0 (q := 420) (hdl 420 (by decide) (by decide)) h420 rfl (j := (200 * x) + k) (by omega) (by omega) d_M_isFirst_21 ?_
      refine lv_aload_n hx hb d_M_isFirst_22 rfl (lv_at hl 1 rfl) ?_
      refine g_get (C := R_M) (T := F_M) (N := 35) hx hb hts i_M hown hK hW (i := 400) (hdl 400 (by decide) (by decide)) h400 rfl 28 (by decide) (hts _ q_516) (fun _ h9 => h9) rfl d_M_isFirst_23 ?_
      refine lv_sipush (v := nI 200) hx hb d_M_isFirst_26 (by decide) ?_
      refine lv_iload_n hx hb d_M_isFirst_29 rfl (lv_at hl 3 rfl) ?_
      refine n_mul hx hb d_M_isFirst_30 ?_
      refine lv_iload hx hb d_M_isFirst_31 (lv_at hl 0 rfl) ?_
      refine n_add hx hb d_M_isFirst_33 ?_
      refine n_iald hx hb hK hW 0 (q := 420) (hdl 420 (by decide) (by decide)) h420 rfl (j := (200 * y) + k) (by omega) (by omega) d_M_isFirst_34 ?_
      refine lv_icmp_eq (tgt := 73) hx hb d_M_isFirst_35 (by decide) (fun h2 => ?_) (fun h2 => ?_)
      · refine n_iinc (lv' := [(4, .int (nI (k + 1))), (0, .ref (ad 400)), (1, .int (nI x)), (2, .int (nI y)), (3, .int (nI n))]) hx hb d_M_isFirst_73 hl (k := 0) rfl (by decide) rfl (fun ls hl => ?_)
        refine lv_goto (tgt := 3) hx hb d_M_isFirst_76 (by decide) ?_
        exact ih (k + 1) ls (by omega) (by omega) (lt_s heq h2) hl
      · refine lv_aload_n hx hb d_M_isFirst_38 rfl (lv_at hl 1 rfl) ?_
        refine g_get (C := R_M) (T := F_M) (N := 35) hx hb hts i_M hown hK hW (i := 400) (hdl 400 (by decide) (by decide)) h400 rfl 28 (by decide) (hts _ q_516) (fun _ h9 => h9) rfl d_M_isFirst_39 ?_
        refine lv_sipush (v := nI 200) hx hb d_M_isFirst_42 (by decide) ?_
        refine lv_iload_n hx hb d_M_isFirst_45 rfl (lv_at hl 2 rfl) ?_
        refine n_mul hx hb d_M_isFirst_46 ?_
        refine lv_iload hx hb d_M_isFirst_47 (lv_at hl 0 rfl) ?_
        refine n_add hx hb d_M_isFirst_49 ?_
        refine n_iald hx hb hK hW 0 (q := 420) (hdl 420 (by decide) (by decide)) h420 rfl (j := (200 * x) + k) (by omega) (by omega) d_M_isFirst_50 ?_
        refine lv_aload_n hx hb d_M_isFirst_51 rfl (lv_at hl 1 rfl) ?_
        refine g_get (C := R_M) (T := F_M) (N := 35) hx hb hts i_M hown hK hW (i := 400) (hdl 400 (by decide) (by decide)) h400 rfl 28 (by decide) (hts _ q_516) (fun _ h9 => h9) rfl d_M_isFirst_52 ?_
        refine lv_sipush (v := nI 200) hx hb d_M_isFirst_55 (by decide) ?_
        refine lv_iload_n hx hb d_M_isFirst_58 rfl (lv_at hl 3 rfl) ?_
        refine n_mul hx hb d_M_isFirst_59 ?_
        refine lv_iload hx hb d_M_isFirst_60 (lv_at hl 0 rfl) ?_
        refine n_add hx hb d_M_isFirst_62 ?_
        refine n_iald hx hb hK hW 0 (q := 420) (hdl 420 (by decide) (by decide)) h420 rfl (j := (200 * y) + k) (by omega) (by omega) d_M_isFirst_63 ?_
        refine lv_icmp_ge (tgt := 71) hx hb d_M_isFirst_64 (by decide) (fun h3 => ?_) (fun h3 => ?_)
        · refine lv_iconst (v := nI 0) hx hb d_M_isFirst_71 (by decide) ?_
          exact g_zret hx hb hr (by rfl) hlocks hW hS (⟨bI_0 (lexL_no h1 heq h2 h3), rfl⟩) d_M_isFirst_72
        · refine lv_iconst (v := nI 1) hx hb d_M_isFirst_67 (by decide) ?_
          refine lv_goto (tgt := 72) hx hb d_M_isFirst_68 (by decide) ?_
          exact g_zret hx hb hr (by rfl) hlocks hW hS (⟨bI_1 (lexL_yes h1 heq (Int32.not_le.mp h3)), rfl⟩) d_M_isFirst_72
end
section
set_option maxHeartbeats 4000000 in
set_option maxRecDepth 100000 in
/-- move -/
theorem c_M_move (l : Launch) {D : va_G} {cI cJ cG : ClassId} {ad : Nat → Nat} {co : Nat → va_E} {dl : List Nat} {a rw sh pg ce mg kn cs sm : Nat} (hdl : ∀ i, 400 ≤ i → i < 427 → i ∈ dl) (h400 : co 400 = mO ad a rw sh pg ce mg kn cs sm) {mv : Nat → Int32} (h401 : co 401 = .inl (cI, 144, .inl mv)) (x y c : Int32) (ha : a ≤ 12) : gMi l y_M_move (Cond.code y_M_move b_M_move 4 (some .boolean) :: wA) ({ frames := 1, cells := 0, slots := 0, locals := 21 }) D gCl (gTy cI cJ cG) gNl [.ref (ad 400), .int x, .int y, .int c] ad co dl (fun r co' => r = bI (okMove a x y c) ∧ co' = if okMove a x y c then va_up co 401 (.inl (cI, 144, .inl (upd mv (12 * x.toNatClampNeg + y.toNatClampNeg) c))) else co) := by
  refine gMi_of (cc := b_M_move) (maxL := 4) (ret := some .boolean) (by decide) rfl (Nat.le_of_ble_eq_true rfl) ?_
  intro pp ee s mm below meth cd ls hC hW hS hl
  obtain ⟨hx, hb, hr, hts0, hown, hlocks, hml, hK, hN⟩ := hC
  have hts : ∀ w ∈ wA, w.before _ s = true := fun w h => hts0 w (List.mem_cons_of_mem _ h)
  have hA : ∀ q, s.heap.size ≤ q → gA ad co dl s.heap.size q := fun q h => Or.inr h
  have hl : lv_has ls 4 [(0, .ref (ad 400)), (1, .int x), (2, .int y), (3, .int c)] := hl
  have hown : s.vm.findClass R_M = some mm.cls := hown
  refine lv_aload_n hx hb d_M_move_0 rfl (lv_at hl 0 rfl) ?_
  refine lv_iload_n hx hb d_M_move_1 rfl (lv_at hl 1 rfl) ?_
  refine g_cVi (As := [.int x]) (rest := []) ⟨hx, hb, hml, hown, hts⟩ (c_M_isAct l hdl h400 x (by omega)) (gcwV 1 hts q_601 q_598 q_600 qs_8 q_9 (by decide +kernel) ⟨(Nat.le_of_ble_eq_true rfl), (Nat.le_of_ble_eq_true rfl)⟩) gNl_ok hN hK hW hS hA (hdl 400 (by decide) (by decide)) h400 rfl rfl hl.1 rfl (Nat.le_of_ble_eq_true rfl) d_M_move_2 ⟨Nat.zero_le _, Nat.zero_le _⟩ (fun r co9 H locs hp9 hW hS => ?_)
  obtain ⟨rfl, hco9⟩ := hp9
  rw [hco9] at hW
  refine n_ifz_eq (tgt := 27) hx hb d_M_move_5 (by decide) (fun g1 => ?_) (fun g1 => ?_)
  · refine lv_iconst (v := nI 0) hx hb d_M_move_27 (by decide) ?_
    exact g_zret hx hb hr (by rfl) hlocks hW hS (⟨bI_0 (by simp [okMove, g1]), (if_neg (by simp [okMove, g1])).symm⟩) d_M_move_28
  · refine lv_aload_n hx hb d_M_move_8 rfl (lv_at hl 0 rfl) ?_
    refine lv_iload_n hx hb d_M_move_9 rfl (lv_at hl 2 rfl) ?_
    refine g_cVi (As := [.int y]) (rest := []) ⟨hx, hb, hml, hown, hts⟩ (c_M_isAct l hdl h400 y (by omega)) (gcwV 1 hts q_601 q_598 q_600 qs_8 q_9 (by decide +kernel) ⟨(Nat.le_of_ble_eq_true rfl), (Nat.le_of_ble_eq_true rfl)⟩) gNl_ok hN hK hW hS hA (hdl 400 (by decide) (by decide)) h400 rfl rfl hl.1 rfl (Nat.le_of_ble_eq_true rfl) d_M_move_10 ⟨Nat.zero_le _, Nat.zero_le _⟩ (fun r co9 H locs hp9 hW hS => ?_)
    obtain ⟨rfl, hco9⟩ := hp9
    rw [hco9] at hW
    refine n_ifz_eq (tgt := 27) hx hb d_M_move_13 (by decide) (fun g2 => ?_) (fun g2 => ?_)
    · refine lv_iconst (v := nI 0) hx hb d_M_move_27 (by decide) ?_
      exact g_zret hx hb hr (by rfl) hlocks hW hS (⟨bI_0 (by simp [okMove, g2]), (if_neg (by simp [okMove, g2])).symm⟩) d_M_move_28
    · obtain ⟨i, hi, rfl⟩ := inB_of (by omega) g1
      obtain ⟨j, hj, rfl⟩ := inB_of (by omega) g2
      refine lv_iload_n hx hb d_M_move_16 rfl (lv_at hl 3 rfl) ?_
      refine lv_if_lt (tgt := 27) hx hb d_M_move_17 (by decide) (fun g3 => ?_) (fun g3 => ?_)
      · refine lv_iconst (v := nI 0) hx hb d_M_move_27 (by decide) ?_
        exact g_zret hx hb hr (by rfl) hlocks hW hS (⟨bI_0 (by simp [okMove, inB_neg g3]), (if_neg (by simp [okMove, inB_neg g3])).symm⟩) d_M_move_28
      · obtain ⟨k, hkp, rfl⟩ := nI_of g3
        refine lv_iload_n hx hb d_M_move_20 rfl (lv_at hl 3 rfl) ?_
        refine lv_sipush (v := nI 10000) hx hb d_M_move_21 (by decide) ?_
        refine n_icmp_le (tgt := 29) hx hb (by omega) (by omega) d_M_move_24 (by decide) (fun hk => ?_) (fun hk => ?_)
        · have g9 : okMove a (nI i) (nI j) (nI k) = true := by simp [okMove, g1, g2, inB_lt (n := 10001) (show k < 10001 by omega) (by decide)]
          refine lv_aload_n hx hb d_M_move_29 rfl (lv_at hl 0 rfl) ?_
          refine g_get (C := R_M) (T := F_M) (N := 35) hx hb hts i_M hown hK hW (i := 400) (hdl 400 (by decide) (by decide)) h400 rfl 1 (by decide) (hts _ q_489) (fun _ h9 => h9) rfl d_M_move_30 ?_
          refine lv_bipush (v := nI 12) hx hb d_M_move_33 (by decide) ?_
          refine lv_iload_n hx hb d_M_move_35 rfl (lv_at hl 1 rfl) ?_
          refine n_mul hx hb d_M_move_36 ?_
          refine lv_iload_n hx hb d_M_move_37 rfl (lv_at hl 2 rfl) ?_
          refine n_add hx hb d_M_move_38 ?_
          refine lv_iload_n hx hb d_M_move_39 rfl (lv_at hl 3 rfl) ?_
          refine n_iast (x := nI k) hx hb hK hW hS 0 (q := 401) (hdl 401 (by decide) (by decide)) h401 rfl (j := (12 * i) + j) (by omega) (by omega) d_M_move_40 (fun H locs hW hS => ?_)
          refine lv_iconst (v := nI 1) hx hb d_M_move_41 (by decide) ?_
          exact g_zret hx hb hr (by rfl) hlocks hW hS (⟨bI_1 g9, by rw [if_pos g9, nI_clamp (show i < 2 ^ 31 by omega), nI_clamp (show j < 2 ^ 31 by omega)]⟩) d_M_move_42
        · refine lv_iconst (v := nI 0) hx hb d_M_move_27 (by decide) ?_
          exact g_zret hx hb hr (by rfl) hlocks hW hS (⟨bI_0 (by simp [okMove, inB_ge hkp (show 10001 ≤ k by omega)]), (if_neg (by simp [okMove, inB_ge hkp (show 10001 ≤ k by omega)])).symm⟩) d_M_move_28
set_option maxHeartbeats 4000000 in
set_option maxRecDepth 100000 in
/-- speed -/
theorem c_M_speed (l : Launch) {D : va_G} {cI cJ cG : ClassId} {ad : Nat → Nat} {co : Nat → va_E} {dl : List Nat} {a rw sh pg ce mg kn cs sm : Nat} (hdl : ∀ i, 400 ≤ i → i < 427 → i ∈ dl) (h400 : co 400 = mO ad a rw sh pg ce mg kn cs sm) {sp : Nat → Int32} (h402 : co 402 = .inl (cI, 120, .inl sp)) (x y c : Int32) (ha : a ≤ 12) : gMi l y_M_speed (Cond.code y_M_speed b_M_speed 4 (some .boolean) :: wA) ({ frames := 1, cells := 0, slots := 0, locals := 21 }) D gCl (gTy cI cJ cG) gNl [.ref (ad 400), .int x, .int y, .int c] ad co dl (fun r co' => r = bI (okSpeed a x y c) ∧ co' = if okSpeed a x y c then va_up co 402 (.inl (cI, 120, .inl (upd sp (10 * x.toNatClampNeg + y.toNatClampNeg) c))) else co) := by
  refine gMi_of (cc := b_M_speed) (maxL := 4) (ret := some .boolean) (by decide) rfl (Nat.le_of_ble_eq_true rfl) ?_
  intro pp ee s mm below meth cd ls hC hW hS hl
  obtain ⟨hx, hb, hr, hts0, hown, hlocks, hml, hK, hN⟩ := hC
  have hts : ∀ w ∈ wA, w.before _ s = true := fun w h => hts0 w (List.mem_cons_of_mem _ h)
  have hA : ∀ q, s.heap.size ≤ q → gA ad co dl s.heap.size q := fun q h => Or.inr h
  have hl : lv_has ls 4 [(0, .ref (ad 400)), (1, .int x), (2, .int y), (3, .int c)] := hl
  have hown : s.vm.findClass R_M = some mm.cls := hown
  refine lv_aload_n hx hb d_M_speed_0 rfl (lv_at hl 0 rfl) ?_
  refine lv_iload_n hx hb d_M_speed_1 rfl (lv_at hl 1 rfl) ?_
  refine g_cVi (As := [.int x]) (rest := []) ⟨hx, hb, hml, hown, hts⟩ (c_M_isAct l hdl h400 x (by omega)) (gcwV 1 hts q_601 q_598 q_600 qs_8 q_9 (by decide +kernel) ⟨(Nat.le_of_ble_eq_true rfl), (Nat.le_of_ble_eq_true rfl)⟩) gNl_ok hN hK hW hS hA (hdl 400 (by decide) (by decide)) h400 rfl rfl hl.1 rfl (Nat.le_of_ble_eq_true rfl) d_M_speed_2 ⟨Nat.zero_le _, Nat.zero_le _⟩ (fun r co9 H locs hp9 hW hS => ?_)
  obtain ⟨rfl, hco9⟩ := hp9
  rw [hco9] at hW
  refine n_ifz_eq (tgt := 29) hx hb d_M_speed_5 (by decide) (fun g1 => ?_) (fun g1 => ?_)
  · refine lv_iconst (v := nI 0) hx hb d_M_speed_29 (by decide) ?_
    exact g_zret hx hb hr (by rfl) hlocks hW hS (⟨bI_0 (by simp [okSpeed, g1]), (if_neg (by simp [okSpeed, g1])).symm⟩) d_M_speed_30
  · refine lv_iload_n hx hb d_M_speed_8 rfl (lv_at hl 2 rfl) ?_
    refine lv_if_lt (tgt := 29) hx hb d_M_speed_9 (by decide) (fun g2 => ?_) (fun g2 => ?_)
    · refine lv_iconst (v := nI 0) hx hb d_M_speed_29 (by decide) ?_
      exact g_zret hx hb hr (by rfl) hlocks hW hS (⟨bI_0 (by simp [okSpeed, inB_neg g2]), (if_neg (by simp [okSpeed, inB_neg g2])).symm⟩) d_M_speed_30
    · obtain ⟨j, hjp, rfl⟩ := nI_of g2
      refine lv_iload_n hx hb d_M_speed_12 rfl (lv_at hl 2 rfl) ?_
      refine lv_bipush (v := nI 9) hx hb d_M_speed_13 (by decide) ?_
      refine n_icmp_gt (tgt := 29) hx hb (by omega) (by omega) d_M_speed_15 (by decide) (fun hj => ?_) (fun hj => ?_)
      · refine lv_iconst (v := nI 0) hx hb d_M_speed_29 (by decide) ?_
        exact g_zret hx hb hr (by rfl) hlocks hW hS (⟨bI_0 (by simp [okSpeed, inB_ge hjp (show 10 ≤ j by omega)]), (if_neg (by simp [okSpeed, inB_ge hjp (show 10 ≤ j by omega)])).symm⟩) d_M_speed_30
      · obtain ⟨i, hi, rfl⟩ := inB_of (by omega) g1
        refine lv_iload_n hx hb d_M_speed_18 rfl (lv_at hl 3 rfl) ?_
        refine lv_if_lt (tgt := 29) hx hb d_M_speed_19 (by decide) (fun g3 => ?_) (fun g3 => ?_)
        · refine lv_iconst (v := nI 0) hx hb d_M_speed_29 (by decide) ?_
          exact g_zret hx hb hr (by rfl) hlocks hW hS (⟨bI_0 (by simp [okSpeed, inB_neg g3]), (if_neg (by simp [okSpeed, inB_neg g3])).symm⟩) d_M_speed_30
        · obtain ⟨k, hkp, rfl⟩ := nI_of g3
          refine lv_iload_n hx hb d_M_speed_22 rfl (lv_at hl 3 rfl) ?_
          refine lv_sipush (v := nI 10000) hx hb d_M_speed_23 (by decide) ?_
          refine n_icmp_le (tgt := 31) hx hb (by omega) (by omega) d_M_speed_26 (by decide) (fun hk => ?_) (fun hk => ?_)
          · have g9 : okSpeed a (nI i) (nI j) (nI k) = true := by simp [okSpeed, g1, inB_lt (n := 10) (show j < 10 by omega) (by decide), inB_lt (n := 10001) (show k < 10001 by omega) (by decide)]
            refine lv_aload_n hx hb d_M_speed_31 rfl (lv_at hl 0 rfl) ?_
            refine g_get (C := R_M) (T := F_M) (N := 35) hx hb hts i_M hown hK hW (i := 400) (hdl 400 (by decide) (by decide)) h400 rfl 2 (by decide) (hts _ q_490) (fun _ h9 => h9) rfl d_M_speed_32 ?_
            refine lv_bipush (v := nI 10) hx hb d_M_speed_35 (by decide) ?_
            refine lv_iload_n hx hb d_M_speed_37 rfl (lv_at hl 1 rfl) ?_
            refine n_mul hx hb d_M_speed_38 ?_
            refine lv_iload_n hx hb d_M_speed_39 rfl (lv_at hl 2 rfl) ?_
            refine n_add hx hb d_M_speed_40 ?_
            refine lv_iload_n hx hb d_M_speed_41 rfl (lv_at hl 3 rfl) ?_
            refine n_iast (x := nI k) hx hb hK hW hS 0 (q := 402) (hdl 402 (by decide) (by decide)) h402 rfl (j := (10 * i) + j) (by omega) (by omega) d_M_speed_42 (fun H locs hW hS => ?_)
            refine lv_iconst (v := nI 1) hx hb d_M_speed_43 (by decide) ?_
            exact g_zret hx hb hr (by rfl) hlocks hW hS (⟨bI_1 g9, by rw [if_pos g9, nI_clamp (show i < 2 ^ 31 by omega), nI_clamp (show j < 2 ^ 31 by omega)]⟩) d_M_speed_44
          · refine lv_iconst (v := nI 0) hx hb d_M_speed_29 (by decide) ?_
            exact g_zret hx hb hr (by rfl) hlocks hW hS (⟨bI_0 (by simp [okSpeed, inB_ge hkp (show 10001 ≤ k by omega)]), (if_neg (by simp [okSpeed, inB_ge hkp (show 10001 ≤ k by omega)])).symm⟩) d_M_speed_30
set_option maxHeartbeats 4000000 in
set_option maxRecDepth 100000 in
/-- ship -/
theorem c_M_ship (l : Launch) {D : va_G} {cI cJ cG : ClassId} {ad : Nat → Nat} {co : Nat → va_E} {dl : List Nat} {a rw sh pg ce mg kn cs sm : Nat} (hdl : ∀ i, 400 ≤ i → i < 427 → i ∈ dl) (h400 : co 400 = mO ad a rw sh pg ce mg kn cs sm)   (x : Int32) : gMi l y_M_ship (Cond.code y_M_ship b_M_ship 2 (some .boolean) :: wA) ({ frames := 0, cells := 0, slots := 0, locals := 0 }) D gCl (gTy cI cJ cG) gNl [.ref (ad 400), .int x] ad co dl (fun r co' => r = bI (inB x 10) ∧ co' = if inB x 10 then va_up co 400 (mO ad a rw (x.toNatClampNeg) pg ce mg kn cs sm) else co) := by
  refine gMi_of (cc := b_M_ship) (maxL := 2) (ret := some .boolean) (by decide) rfl (Nat.le_of_ble_eq_true rfl) ?_
  intro pp ee s mm below meth cd ls hC hW hS hl
  obtain ⟨hx, hb, hr, hts0, hown, hlocks, hml, hK, hN⟩ := hC
  have hts : ∀ w ∈ wA, w.before _ s = true := fun w h => hts0 w (List.mem_cons_of_mem _ h)
  have hA : ∀ q, s.heap.size ≤ q → gA ad co dl s.heap.size q := fun q h => Or.inr h
  have hl : lv_has ls 2 [(0, .ref (ad 400)), (1, .int x)] := hl
  have hown : s.vm.findClass R_M = some mm.cls := hown
  refine lv_iload_n hx hb d_M_ship_0 rfl (lv_at hl 1 rfl) ?_
  refine lv_if_lt (tgt := 10) hx hb d_M_ship_1 (by decide) (fun g1 => ?_) (fun g1 => ?_)
  · refine lv_iconst (v := nI 0) hx hb d_M_ship_10 (by decide) ?_
    exact g_zret hx hb hr (by rfl) hlocks hW hS (⟨bI_0 (inB_neg g1), (if_neg (by simp [inB_neg g1])).symm⟩) d_M_ship_11
  · obtain ⟨j, hjp, rfl⟩ := nI_of g1
    refine lv_iload_n hx hb d_M_ship_4 rfl (lv_at hl 1 rfl) ?_
    refine lv_bipush (v := nI 9) hx hb d_M_ship_5 (by decide) ?_
    refine n_icmp_le (tgt := 12) hx hb (by omega) (by omega) d_M_ship_7 (by decide) (fun hj => ?_) (fun hj => ?_)
    · have g9 : inB (nI j) 10 = true := inB_lt (by omega) (by decide)
      refine lv_aload_n hx hb d_M_ship_12 rfl (lv_at hl 0 rfl) ?_
      refine lv_iload_n hx hb d_M_ship_13 rfl (lv_at hl 1 rfl) ?_
      refine g_put (ty := .int) (v := .int (nI j)) (C := R_M) (T := F_M) (N := 35) hx hb hts i_M fy_M fy_M_ok fn_M hown hK hW hS (i := 400) (hdl 400 (by decide) (by decide)) h400 rfl 11 (by decide) (hts _ q_499) (fun _ h9 => h9) rfl (by decide +kernel) rfl rfl (Nat.le_of_ble_eq_true rfl) d_M_ship_14 (fun H locs hW hS => ?_)
      refine lv_iconst (v := nI 1) hx hb d_M_ship_17 (by decide) ?_
      exact g_zret hx hb hr (by rfl) hlocks hW hS (⟨bI_1 g9, by rw [if_pos g9, nI_clamp hjp]; rfl⟩) d_M_ship_18
    · refine lv_iconst (v := nI 0) hx hb d_M_ship_10 (by decide) ?_
      exact g_zret hx hb hr (by rfl) hlocks hW hS (⟨bI_0 (inB_ge hjp (show 10 ≤ j by omega)), (if_neg (by simp [inB_ge hjp (show 10 ≤ j by omega)])).symm⟩) d_M_ship_11
set_option maxHeartbeats 4000000 in
set_option maxRecDepth 100000 in
/-- margin -/
theorem c_M_margin (l : Launch) {D : va_G} {cI cJ cG : ClassId} {ad : Nat → Nat} {co : Nat → va_E} {dl : List Nat} {a rw sh pg ce mg kn cs sm : Nat} (hdl : ∀ i, 400 ≤ i → i < 427 → i ∈ dl) (h400 : co 400 = mO ad a rw sh pg ce mg kn cs sm)   (x : Int32) : gMi l y_M_margin (Cond.code y_M_margin b_M_margin 2 (some .boolean) :: wA) ({ frames := 0, cells := 0, slots := 0, locals := 0 }) D gCl (gTy cI cJ cG) gNl [.ref (ad 400), .int x] ad co dl (fun r co' => r = bI (inB x 100001) ∧ co' = if inB x 100001 then va_up co 400 (mO ad a rw sh pg ce (x.toNatClampNeg) kn cs sm) else co) := by
  refine gMi_of (cc := b_M_margin) (maxL := 2) (ret := some .boolean) (by decide) rfl (Nat.le_of_ble_eq_true rfl) ?_
  intro pp ee s mm below meth cd ls hC hW hS hl
  obtain ⟨hx, hb, hr, hts0, hown, hlocks, hml, hK, hN⟩ := hC
  have hts : ∀ w ∈ wA, w.before _ s = true := fun w h => hts0 w (List.mem_cons_of_mem _ h)
  have hA : ∀ q, s.heap.size ≤ q → gA ad co dl s.heap.size q := fun q h => Or.inr h
  have hl : lv_has ls 2 [(0, .ref (ad 400)), (1, .int x)] := hl
  have hown : s.vm.findClass R_M = some mm.cls := hown
  refine lv_iload_n hx hb d_M_margin_0 rfl (lv_at hl 1 rfl) ?_
  refine lv_if_lt (tgt := 10) hx hb d_M_margin_1 (by decide) (fun g1 => ?_) (fun g1 => ?_)
  · refine lv_iconst (v := nI 0) hx hb d_M_margin_10 (by decide) ?_
    exact g_zret hx hb hr (by rfl) hlocks hW hS (⟨bI_0 (inB_neg g1), (if_neg (by simp [inB_neg g1])).symm⟩) d_M_margin_11
  · obtain ⟨j, hjp, rfl⟩ := nI_of g1
    refine lv_iload_n hx hb d_M_margin_4 rfl (lv_at hl 1 rfl) ?_
    refine lv_ldc hx hb hown (hts _ q_626) d_M_margin_5 ?_
    refine n_topi (show (100000 : Int32) = nI 100000 by decide) ?_
    refine n_icmp_le (tgt := 12) hx hb (by omega) (by omega) d_M_margin_7 (by decide) (fun hj => ?_) (fun hj => ?_)
    · have g9 : inB (nI j) 100001 = true := inB_lt (by omega) (by decide)
      refine lv_aload_n hx hb d_M_margin_12 rfl (lv_at hl 0 rfl) ?_
      refine lv_iload_n hx hb d_M_margin_13 rfl (lv_at hl 1 rfl) ?_
      refine g_put (ty := .int) (v := .int (nI j)) (C := R_M) (T := F_M) (N := 35) hx hb hts i_M fy_M fy_M_ok fn_M hown hK hW hS (i := 400) (hdl 400 (by decide) (by decide)) h400 rfl 21 (by decide) (hts _ q_509) (fun _ h9 => h9) rfl (by decide +kernel) rfl rfl (Nat.le_of_ble_eq_true rfl) d_M_margin_14 (fun H locs hW hS => ?_)
      refine lv_iconst (v := nI 1) hx hb d_M_margin_17 (by decide) ?_
      exact g_zret hx hb hr (by rfl) hlocks hW hS (⟨bI_1 g9, by rw [if_pos g9, nI_clamp hjp]; rfl⟩) d_M_margin_18
    · refine lv_iconst (v := nI 0) hx hb d_M_margin_10 (by decide) ?_
      exact g_zret hx hb hr (by rfl) hlocks hW hS (⟨bI_0 (inB_ge hjp (show 100001 ≤ j by omega)), (if_neg (by simp [inB_ge hjp (show 100001 ≤ j by omega)])).symm⟩) d_M_margin_11
set_option maxHeartbeats 4000000 in
set_option maxRecDepth 100000 in
/-- truth -/
theorem c_M_truth (l : Launch) {D : va_G} {cI cJ cG : ClassId} {ad : Nat → Nat} {co : Nat → va_E} {dl : List Nat} {a rw sh pg ce mg kn cs sm : Nat} (hdl : ∀ i, 400 ≤ i → i < 427 → i ∈ dl) (h400 : co 400 = mO ad a rw sh pg ce mg kn cs sm) {tr : Nat → Int32} (h409 : co 409 = .inl (cI, 200, .inl tr)) (x y : Int32) (ha : a ≤ 12) (hn : rw ≤ 200) : gMi l y_M_truth (Cond.code y_M_truth b_M_truth 3 (some .boolean) :: wA) ({ frames := 1, cells := 0, slots := 0, locals := 21 }) D gCl (gTy cI cJ cG) gNl [.ref (ad 400), .int x, .int y] ad co dl (fun r co' => r = bI (okTruth rw a x y) ∧ co' = if okTruth rw a x y then va_up co 409 (.inl (cI, 200, .inl (upd tr x.toNatClampNeg y))) else co) := by
  refine gMi_of (cc := b_M_truth) (maxL := 3) (ret := some .boolean) (by decide) rfl (Nat.le_of_ble_eq_true rfl) ?_
  intro pp ee s mm below meth cd ls hC hW hS hl
  obtain ⟨hx, hb, hr, hts0, hown, hlocks, hml, hK, hN⟩ := hC
  have hts : ∀ w ∈ wA, w.before _ s = true := fun w h => hts0 w (List.mem_cons_of_mem _ h)
  have hA : ∀ q, s.heap.size ≤ q → gA ad co dl s.heap.size q := fun q h => Or.inr h
  have hl : lv_has ls 3 [(0, .ref (ad 400)), (1, .int x), (2, .int y)] := hl
  have hown : s.vm.findClass R_M = some mm.cls := hown
  refine lv_aload_n hx hb d_M_truth_0 rfl (lv_at hl 0 rfl) ?_
  refine lv_iload_n hx hb d_M_truth_1 rfl (lv_at hl 1 rfl) ?_
  refine g_cVi (As := [.int x]) (rest := []) ⟨hx, hb, hml, hown, hts⟩ (c_M_isRow l hdl h400 x (by omega)) (gcwV 1 hts q_621 q_618 q_620 qs_9 q_9 (by decide +kernel) ⟨(Nat.le_of_ble_eq_true rfl), (Nat.le_of_ble_eq_true rfl)⟩) gNl_ok hN hK hW hS hA (hdl 400 (by decide) (by decide)) h400 rfl rfl hl.1 rfl (Nat.le_of_ble_eq_true rfl) d_M_truth_2 ⟨Nat.zero_le _, Nat.zero_le _⟩ (fun r co9 H locs hp9 hW hS => ?_)
  obtain ⟨rfl, hco9⟩ := hp9
  rw [hco9] at hW
  refine n_ifz_eq (tgt := 16) hx hb d_M_truth_5 (by decide) (fun g1 => ?_) (fun g1 => ?_)
  · refine lv_iconst (v := nI 0) hx hb d_M_truth_16 (by decide) ?_
    exact g_zret hx hb hr (by rfl) hlocks hW hS (⟨bI_0 (by simp [okTruth, g1]), (if_neg (by simp [okTruth, g1])).symm⟩) d_M_truth_17
  · refine lv_aload_n hx hb d_M_truth_8 rfl (lv_at hl 0 rfl) ?_
    refine lv_iload_n hx hb d_M_truth_9 rfl (lv_at hl 2 rfl) ?_
    refine g_cVi (As := [.int y]) (rest := []) ⟨hx, hb, hml, hown, hts⟩ (c_M_isAct l hdl h400 y (by omega)) (gcwV 1 hts q_601 q_598 q_600 qs_8 q_9 (by decide +kernel) ⟨(Nat.le_of_ble_eq_true rfl), (Nat.le_of_ble_eq_true rfl)⟩) gNl_ok hN hK hW hS hA (hdl 400 (by decide) (by decide)) h400 rfl rfl hl.1 rfl (Nat.le_of_ble_eq_true rfl) d_M_truth_10 ⟨Nat.zero_le _, Nat.zero_le _⟩ (fun r co9 H locs hp9 hW hS => ?_)
    obtain ⟨rfl, hco9⟩ := hp9
    rw [hco9] at hW
    refine n_ifz_ne (tgt := 18) hx hb d_M_truth_13 (by decide) (fun g2 => ?_) (fun g2 => ?_)
    · obtain ⟨i, hi, rfl⟩ := inB_of (by omega) g1
      obtain ⟨j, hj, rfl⟩ := inB_of (by omega) g2
      have g9 : okTruth rw a (nI i) (nI j) = true := by simp [okTruth, g1, g2]
      refine lv_aload_n hx hb d_M_truth_18 rfl (lv_at hl 0 rfl) ?_
      refine g_get (C := R_M) (T := F_M) (N := 35) hx hb hts i_M hown hK hW (i := 400) (hdl 400 (by decide) (by decide)) h400 rfl 10 (by decide) (hts _ q_498) (fun _ h9 => h9) rfl d_M_truth_19 ?_
      refine lv_iload_n hx hb d_M_truth_22 rfl (lv_at hl 1 rfl) ?_
      refine lv_iload_n hx hb d_M_truth_23 rfl (lv_at hl 2 rfl) ?_
      refine n_iast (x := nI j) hx hb hK hW hS 0 (q := 409) (hdl 409 (by decide) (by decide)) h409 rfl (j := i) (by omega) (by omega) d_M_truth_24 (fun H locs hW hS => ?_)
      refine lv_iconst (v := nI 1) hx hb d_M_truth_25 (by decide) ?_
      exact g_zret hx hb hr (by rfl) hlocks hW hS (⟨bI_1 g9, by rw [if_pos g9, nI_clamp (show i < 2 ^ 31 by omega)]⟩) d_M_truth_26
    · refine lv_iconst (v := nI 0) hx hb d_M_truth_16 (by decide) ?_
      exact g_zret hx hb hr (by rfl) hlocks hW hS (⟨bI_0 (by simp [okTruth, g2]), (if_neg (by simp [okTruth, g2])).symm⟩) d_M_truth_17
end
section
set_option maxHeartbeats 4000000 in
set_option maxRecDepth 100000 in
/-- end -/
theorem c_M_end (l : Launch) {D : va_G} {cI cJ cG : ClassId} {ad : Nat → Nat} {co : Nat → va_E} {dl : List Nat} {a rw sh pg ce mg kn cs sm : Nat} (hdl : ∀ i, 400 ≤ i → i < 427 → i ∈ dl) (h400 : co 400 = mO ad a rw sh pg ce mg kn cs sm) {sec : Nat → Int64} (h405 : co 405 = .inl (cJ, 200, .inr (.inl sec))) (j : Nat) (hj : j < kn) (hn : kn ≤ 200) : gMl l y_M_end (Cond.code y_M_end b_M_end 2 (some .long) :: wA) ({ frames := 0, cells := 0, slots := 0, locals := 0 }) D gCl (gTy cI cJ cG) gNl [.ref (ad 400), .int (nI j)] ad co dl (fun r co' => r = sEnd kn sec j ∧ co' = co) := by
  refine gMl_of (cc := b_M_end) (maxL := 2) (ret := some .long) (by decide) rfl (Nat.le_of_ble_eq_true rfl) ?_
  intro pp ee s mm below meth cd ls hC hW hS hl
  obtain ⟨hx, hb, hr, hts0, hown, hlocks, hml, hK, hN⟩ := hC
  have hts : ∀ w ∈ wA, w.before _ s = true := fun w h => hts0 w (List.mem_cons_of_mem _ h)
  have hA : ∀ q, s.heap.size ≤ q → gA ad co dl s.heap.size q := fun q h => Or.inr h
  have hl : lv_has ls 2 [(0, .ref (ad 400)), (1, .int (nI j))] := hl
  have hown : s.vm.findClass R_M = some mm.cls := hown
  refine lv_aload_n hx hb d_M_end_0 rfl (lv_at hl 0 rfl) ?_
  refine g_get (C := R_M) (T := F_M) (N := 35) hx hb hts i_M hown hK hW (i := 400) (hdl 400 (by decide) (by decide)) h400 rfl 6 (by decide) (hts _ q_494) (fun _ h9 => h9) rfl d_M_end_1 ?_
  refine lv_iload_n hx hb d_M_end_4 rfl (lv_at hl 1 rfl) ?_
  refine lv_iconst (v := nI 1) hx hb d_M_end_5 (by decide) ?_
  refine n_add hx hb d_M_end_6 ?_
  refine lv_aload_n hx hb d_M_end_7 rfl (lv_at hl 0 rfl) ?_
  refine g_get (C := R_M) (T := F_M) (N := 35) hx hb hts i_M hown hK hW (i := 400) (hdl 400 (by decide) (by decide)) h400 rfl 22 (by decide) (hts _ q_510) (fun _ h9 => h9) rfl d_M_end_8 ?_
  refine n_icmp_ge (tgt := 20) hx hb (by omega) (by omega) d_M_end_11 (by decide) (fun h1 => ?_) (fun h1 => ?_)
  · refine lv_iload_n hx hb d_M_end_20 rfl (lv_at hl 1 rfl) ?_
    refine n_lald hx hb hK hW 1 (q := 405) (hdl 405 (by decide) (by decide)) h405 rfl (j := j) (by omega) (by omega) d_M_end_21 ?_
    exact g_lret hx hb hr hlocks hW hS (⟨by rw [sEnd, if_neg (by omega)], rfl⟩) d_M_end_22
  · refine lv_iload_n hx hb d_M_end_14 rfl (lv_at hl 1 rfl) ?_
    refine lv_iconst (v := nI 1) hx hb d_M_end_15 (by decide) ?_
    refine n_add hx hb d_M_end_16 ?_
    refine lv_goto (tgt := 21) hx hb d_M_end_17 (by decide) ?_
    refine n_lald hx hb hK hW 1 (q := 405) (hdl 405 (by decide) (by decide)) h405 rfl (j := j + 1) (by omega) (by omega) d_M_end_21 ?_
    exact g_lret hx hb hr hlocks hW hS (⟨by rw [sEnd, if_pos h1], rfl⟩) d_M_end_22
set_option maxHeartbeats 4000000 in
set_option maxRecDepth 100000 in
/-- act -/
theorem c_M_act (l : Launch) {D : va_G} {cI cJ cG : ClassId} {ad : Nat → Nat} {co : Nat → va_E} {dl : List Nat} {a rw sh pg ce mg kn cs sm : Nat} (hdl : ∀ i, 400 ≤ i → i < 427 → i ∈ dl) (h400 : co 400 = mO ad a rw sh pg ce mg kn cs sm) {ln : Nat → Int32} (h417 : co 417 = .inl (cI, 200, .inl ln)) (x : Int32) (hn : kn ≤ 200) : gMi l y_M_act (Cond.code y_M_act b_M_act 2 (some .int) :: wA) ({ frames := 1, cells := 0, slots := 0, locals := 21 }) D gCl (gTy cI cJ cG) gNl [.ref (ad 400), .int x] ad co dl (fun r co' => r = (if inB x kn then ln x.toNatClampNeg else -1) ∧ co' = co) := by
  refine gMi_of (cc := b_M_act) (maxL := 2) (ret := some .int) (by decide) rfl (Nat.le_of_ble_eq_true rfl) ?_
  intro pp ee s mm below meth cd ls hC hW hS hl
  obtain ⟨hx, hb, hr, hts0, hown, hlocks, hml, hK, hN⟩ := hC
  have hts : ∀ w ∈ wA, w.before _ s = true := fun w h => hts0 w (List.mem_cons_of_mem _ h)
  have hA : ∀ q, s.heap.size ≤ q → gA ad co dl s.heap.size q := fun q h => Or.inr h
  have hl : lv_has ls 2 [(0, .ref (ad 400)), (1, .int x)] := hl
  have hown : s.vm.findClass R_M = some mm.cls := hown
  refine lv_aload_n hx hb d_M_act_0 rfl (lv_at hl 0 rfl) ?_
  refine lv_iload_n hx hb d_M_act_1 rfl (lv_at hl 1 rfl) ?_
  refine g_cVi (As := [.int x]) (rest := []) ⟨hx, hb, hml, hown, hts⟩ (c_M_isKnown l hdl h400 x (by omega)) (gcwV 1 hts q_697 q_694 q_696 qs_17 q_9 (by decide +kernel) ⟨(Nat.le_of_ble_eq_true rfl), (Nat.le_of_ble_eq_true rfl)⟩) gNl_ok hN hK hW hS hA (hdl 400 (by decide) (by decide)) h400 rfl rfl hl.1 rfl (Nat.le_of_ble_eq_true rfl) d_M_act_2 ⟨Nat.zero_le _, Nat.zero_le _⟩ (fun r co9 H locs hp9 hW hS => ?_)
  obtain ⟨rfl, hco9⟩ := hp9
  rw [hco9] at hW
  refine n_ifz_eq (tgt := 17) hx hb d_M_act_5 (by decide) (fun g1 => ?_) (fun g1 => ?_)
  · refine lv_iconst (v := (-1)) hx hb d_M_act_17 (by decide) ?_
    exact g_iret hx hb hr hlocks hW hS (⟨by simp [g1], rfl⟩) d_M_act_18
  · obtain ⟨j, hj, rfl⟩ := inB_of (by omega) g1
    refine lv_aload_n hx hb d_M_act_8 rfl (lv_at hl 0 rfl) ?_
    refine g_get (C := R_M) (T := F_M) (N := 35) hx hb hts i_M hown hK hW (i := 400) (hdl 400 (by decide) (by decide)) h400 rfl 23 (by decide) (hts _ q_511) (fun _ h9 => h9) rfl d_M_act_9 ?_
    refine lv_iload_n hx hb d_M_act_12 rfl (lv_at hl 1 rfl) ?_
    refine n_iald hx hb hK hW 0 (q := 417) (hdl 417 (by decide) (by decide)) h417 rfl (j := j) (by omega) (by omega) d_M_act_13 ?_
    refine lv_goto (tgt := 18) hx hb d_M_act_14 (by decide) ?_
    exact g_iret hx hb hr hlocks hW hS (⟨by rw [if_pos g1, nI_clamp (show j < 2 ^ 31 by omega)], rfl⟩) d_M_act_18
set_option maxHeartbeats 4000000 in
set_option maxRecDepth 100000 in
/-- greatest -/
theorem c_M_greatest (l : Launch) {D : va_G} {cI cJ cG : ClassId} {ad : Nat → Nat} {co : Nat → va_E} {dl : List Nat} {a rw sh pg ce mg kn cs sm : Nat} (hdl : ∀ i, 400 ≤ i → i < 427 → i ∈ dl) (h400 : co 400 = mO ad a rw sh pg ce mg kn cs sm)   (hn : kn ≤ 200) : gMi l y_M_greatest (Cond.code y_M_greatest b_M_greatest 1 (some .boolean) :: wA) ({ frames := 0, cells := 0, slots := 0, locals := 0 }) D gCl (gTy cI cJ cG) gNl [.ref (ad 400)] ad co dl (fun r co' => r = bI (decide (0 < kn)) ∧ co' = co) := by
  refine gMi_of (cc := b_M_greatest) (maxL := 1) (ret := some .boolean) (by decide) rfl (Nat.le_of_ble_eq_true rfl) ?_
  intro pp ee s mm below meth cd ls hC hW hS hl
  obtain ⟨hx, hb, hr, hts0, hown, hlocks, hml, hK, hN⟩ := hC
  have hts : ∀ w ∈ wA, w.before _ s = true := fun w h => hts0 w (List.mem_cons_of_mem _ h)
  have hA : ∀ q, s.heap.size ≤ q → gA ad co dl s.heap.size q := fun q h => Or.inr h
  have hl : lv_has ls 1 [(0, .ref (ad 400))] := hl
  have hown : s.vm.findClass R_M = some mm.cls := hown
  refine lv_aload_n hx hb d_M_greatest_0 rfl (lv_at hl 0 rfl) ?_
  refine g_get (C := R_M) (T := F_M) (N := 35) hx hb hts i_M hown hK hW (i := 400) (hdl 400 (by decide) (by decide)) h400 rfl 22 (by decide) (hts _ q_510) (fun _ h9 => h9) rfl d_M_greatest_1 ?_
  refine n_if_le (tgt := 11) hx hb (by omega) d_M_greatest_4 (by decide) (fun h1 => ?_) (fun h1 => ?_)
  · refine lv_iconst (v := nI 0) hx hb d_M_greatest_11 (by decide) ?_
    exact g_zret hx hb hr (by rfl) hlocks hW hS (⟨bI_0 (decide_eq_false (by omega)), rfl⟩) d_M_greatest_12
  · refine lv_iconst (v := nI 1) hx hb d_M_greatest_7 (by decide) ?_
    refine lv_goto (tgt := 12) hx hb d_M_greatest_8 (by decide) ?_
    exact g_zret hx hb hr (by rfl) hlocks hW hS (⟨bI_1 (decide_eq_true h1), rfl⟩) d_M_greatest_12
set_option maxHeartbeats 4000000 in
set_option maxRecDepth 100000 in
/-- total -/
theorem c_M_total (l : Launch) {D : va_G} {cI cJ cG : ClassId} {ad : Nat → Nat} {co : Nat → va_E} {dl : List Nat} {a rw sh pg ce mg kn cs sm : Nat} (hdl : ∀ i, 400 ≤ i → i < 427 → i ∈ dl) (h400 : co 400 = mO ad a rw sh pg ce mg kn cs sm) {sec : Nat → Int64} (h405 : co 405 = .inl (cJ, 200, .inr (.inl sec))) (hn : kn ≤ 200) : gMl l y_M_total (Cond.code y_M_total b_M_total 1 (some .long) :: wA) ({ frames := 0, cells := 0, slots := 0, locals := 0 }) D gCl (gTy cI cJ cG) gNl [.ref (ad 400)] ad co dl (fun r co' => r = sTotal kn sec ∧ co' = co) := by
  refine gMl_of (cc := b_M_total) (maxL := 1) (ret := some .long) (by decide) rfl (Nat.le_of_ble_eq_true rfl) ?_
  intro pp ee s mm below meth cd ls hC hW hS hl
  obtain ⟨hx, hb, hr, hts0, hown, hlocks, hml, hK, hN⟩ := hC
  have hts : ∀ w ∈ wA, w.before _ s = true := fun w h => hts0 w (List.mem_cons_of_mem _ h)
  have hA : ∀ q, s.heap.size ≤ q → gA ad co dl s.heap.size q := fun q h => Or.inr h
  have hl : lv_has ls 1 [(0, .ref (ad 400))] := hl
  have hown : s.vm.findClass R_M = some mm.cls := hown
  refine lv_aload_n hx hb d_M_total_0 rfl (lv_at hl 0 rfl) ?_
  refine g_get (C := R_M) (T := F_M) (N := 35) hx hb hts i_M hown hK hW (i := 400) (hdl 400 (by decide) (by decide)) h400 rfl 22 (by decide) (hts _ q_510) (fun _ h9 => h9) rfl d_M_total_1 ?_
  refine n_if_ne (tgt := 13) hx hb (by omega) d_M_total_4 (by decide) (fun h1 => ?_) (fun h1 => ?_)
  · refine lv_aload_n hx hb d_M_total_13 rfl (lv_at hl 0 rfl) ?_
    refine g_get (C := R_M) (T := F_M) (N := 35) hx hb hts i_M hown hK hW (i := 400) (hdl 400 (by decide) (by decide)) h400 rfl 6 (by decide) (hts _ q_494) (fun _ h9 => h9) rfl d_M_total_14 ?_
    refine lv_aload_n hx hb d_M_total_17 rfl (lv_at hl 0 rfl) ?_
    refine g_get (C := R_M) (T := F_M) (N := 35) hx hb hts i_M hown hK hW (i := 400) (hdl 400 (by decide) (by decide)) h400 rfl 22 (by decide) (hts _ q_510) (fun _ h9 => h9) rfl d_M_total_18 ?_
    refine lv_iconst (v := nI 1) hx hb d_M_total_21 (by decide) ?_
    refine n_sub hx hb (by omega) d_M_total_22 ?_
    refine n_lald hx hb hK hW 1 (q := 405) (hdl 405 (by decide) (by decide)) h405 rfl (j := kn - 1) (by omega) (by omega) d_M_total_23 ?_
    refine lv_aload_n hx hb d_M_total_24 rfl (lv_at hl 0 rfl) ?_
    refine g_get (C := R_M) (T := F_M) (N := 35) hx hb hts i_M hown hK hW (i := 400) (hdl 400 (by decide) (by decide)) h400 rfl 6 (by decide) (hts _ q_494) (fun _ h9 => h9) rfl d_M_total_25 ?_
    refine lv_iconst (v := nI 0) hx hb d_M_total_28 (by decide) ?_
    refine n_lald hx hb hK hW 1 (q := 405) (hdl 405 (by decide) (by decide)) h405 rfl (j := 0) (by omega) (by omega) d_M_total_29 ?_
    refine lv_lsub hx hb d_M_total_30 ?_
    exact g_lret hx hb hr hlocks hW hS (⟨by rw [sTotal, if_neg (by omega)], rfl⟩) d_M_total_31
  · refine lv_ldc2 hx hb hown (hts _ q_685) d_M_total_7 ?_
    refine lv_goto (tgt := 31) hx hb d_M_total_10 (by decide) ?_
    exact g_lret hx hb hr hlocks hW hS (⟨by rw [sTotal, if_pos h1], rfl⟩) d_M_total_31
set_option maxHeartbeats 4000000 in
set_option maxRecDepth 100000 in
/-- hours -/
theorem c_M_hours (l : Launch) {D : va_G} {cI cJ cG : ClassId} {ad : Nat → Nat} {co : Nat → va_E} {dl : List Nat} {a rw sh pg ce mg kn cs sm : Nat} (hdl : ∀ i, 400 ≤ i → i < 427 → i ∈ dl) (h400 : co 400 = mO ad a rw sh pg ce mg kn cs sm) {sec : Nat → Int64} {ln : Nat → Int32} (h405 : co 405 = .inl (cJ, 200, .inr (.inl sec))) (h417 : co 417 = .inl (cI, 200, .inl ln)) (x : Int32) (ha : a ≤ 12) (hn : kn ≤ 200) : gMl l y_M_hours (Cond.code y_M_hours b_M_hours 5 (some .long) :: wA) ({ frames := 1, cells := 0, slots := 0, locals := 21 }) D gCl (gTy cI cJ cG) gNl [.ref (ad 400), .int x] ad co dl (fun r co' => r = (if inB x a = true ∧ 0 < kn then sHours kn ln sec x kn else -1) ∧ co' = co) := by
  refine gMl_of (cc := b_M_hours) (maxL := 5) (ret := some .long) (by decide) rfl (Nat.le_of_ble_eq_true rfl) ?_
  intro pp ee s mm below meth cd ls hC hW hS hl
  obtain ⟨hx, hb, hr, hts0, hown, hlocks, hml, hK, hN⟩ := hC
  have hts : ∀ w ∈ wA, w.before _ s = true := fun w h => hts0 w (List.mem_cons_of_mem _ h)
  have hA : ∀ q, s.heap.size ≤ q → gA ad co dl s.heap.size q := fun q h => Or.inr h
  have hl : lv_has ls 5 [(0, .ref (ad 400)), (1, .int x)] := hl
  have hown : s.vm.findClass R_M = some mm.cls := hown
  refine lv_aload_n hx hb d_M_hours_0 rfl (lv_at hl 0 rfl) ?_
  refine lv_iload_n hx hb d_M_hours_1 rfl (lv_at hl 1 rfl) ?_
  refine g_cVi (As := [.int x]) (rest := []) ⟨hx, hb, hml, hown, hts⟩ (c_M_isAct l hdl h400 x (by omega)) (gcwV 1 hts q_601 q_598 q_600 qs_8 q_9 (by decide +kernel) ⟨(Nat.le_of_ble_eq_true rfl), (Nat.le_of_ble_eq_true rfl)⟩) gNl_ok hN hK hW hS hA (hdl 400 (by decide) (by decide)) h400 rfl rfl hl.1 rfl (Nat.le_of_ble_eq_true rfl) d_M_hours_2 ⟨Nat.zero_le _, Nat.zero_le _⟩ (fun r co9 H locs hp9 hW hS => ?_)
  obtain ⟨rfl, hco9⟩ := hp9
  rw [hco9] at hW
  refine n_ifz_eq (tgt := 15) hx hb d_M_hours_5 (by decide) (fun g1 => ?_) (fun g1 => ?_)
  · refine lv_ldc2 hx hb hown (hts _ q_685) d_M_hours_15 ?_
    exact g_lret hx hb hr hlocks hW hS (⟨by simp [g1], rfl⟩) d_M_hours_18
  · refine lv_aload_n hx hb d_M_hours_8 rfl (lv_at hl 0 rfl) ?_
    refine g_get (C := R_M) (T := F_M) (N := 35) hx hb hts i_M hown hK hW (i := 400) (hdl 400 (by decide) (by decide)) h400 rfl 22 (by decide) (hts _ q_510) (fun _ h9 => h9) rfl d_M_hours_9 ?_
    refine n_if_ne (tgt := 19) hx hb (by omega) d_M_hours_12 (by decide) (fun h1 => ?_) (fun h1 => ?_)
    · refine lv_lconst (v := 0) hx hb d_M_hours_19 (by decide) ?_
      refine lv_lstore_n (lv' := [(2, .long 0), (0, .ref (ad 400)), (1, .int x)]) hx hb d_M_hours_20 rfl hl (by decide) rfl (fun ls hl => ?_)
      refine lv_iconst (v := nI 0) hx hb d_M_hours_21 (by decide) ?_
      refine lv_istore (lv' := [(4, .int (nI 0)), (2, .long 0), (0, .ref (ad 400)), (1, .int x)]) hx hb d_M_hours_22 hl (by decide) rfl (fun ls hl => ?_)
      suffices hloop : ∀ (d k : Nat) (H : Heap) (locs : List Loc) (ls : Array Slot), (k ≤ kn) → (kn + 1 ≤ k + d) → gW D gCl (gA ad co dl s.heap.size) ad co dl H → va_S (gA ad co dl s.heap.size) s.heap H locs → lv_has ls 5 [(0, .ref (ad 400)), (1, .int x), (2, .long (sHours kn ln sec x k)), (4, .int (nI k))] → W pp l ee _ s mm _ below meth cd H locs 0 0 _ (F0 mm 24 ls []) by
        exact hloop (kn + 1) 0 _ _ ls (by omega) (by omega) hW hS (lv_sub hl [2, 3, 1, 0] rfl)
      clear hW hS hl
      intro d
      induction d with
      | zero => intro k H locs ls hk hd; omega
      | succ d ih =>
        intro k H locs ls hk hd hW hS hl
        refine lv_iload hx hb d_M_hours_24 (lv_at hl 3 rfl) ?_
        refine lv_aload_n hx hb d_M_hours_26 rfl (lv_at hl 0 rfl) ?_
        refine g_get (C := R_M) (T := F_M) (N := 35) hx hb hts i_M hown hK hW (i := 400) (hdl 400 (by decide) (by decide)) h400 rfl 22 (by decide) (hts _ q_510) (fun _ h9 => h9) rfl d_M_hours_27 ?_
        refine n_icmp_ge (tgt := 71) hx hb (by omega) (by omega) d_M_hours_30 (by decide) (fun h2 => ?_) (fun h2 => ?_)
        · have hkk : k = kn := by omega
          subst hkk
          refine lv_lload_n hx hb d_M_hours_71 rfl (lv_at hl 2 rfl) ?_
          exact g_lret hx hb hr hlocks hW hS (⟨by rw [if_pos ⟨g1, h1⟩], rfl⟩) d_M_hours_72
        · refine lv_lload_n hx hb d_M_hours_33 rfl (lv_at hl 2 rfl) ?_
          refine lv_aload_n hx hb d_M_hours_34 rfl (lv_at hl 0 rfl) ?_
          refine g_get (C := R_M) (T := F_M) (N := 35) hx hb hts i_M hown hK hW (i := 400) (hdl 400 (by decide) (by decide)) h400 rfl 23 (by decide) (hts _ q_511) (fun _ h9 => h9) rfl d_M_hours_35 ?_
          refine lv_iload hx hb d_M_hours_38 (lv_at hl 3 rfl) ?_
          refine n_iald hx hb hK hW 0 (q := 417) (hdl 417 (by decide) (by decide)) h417 rfl (j := k) (by omega) (by omega) d_M_hours_40 ?_
          refine lv_iload_n hx hb d_M_hours_41 rfl (lv_at hl 1 rfl) ?_
          refine lv_icmp_ne (tgt := 62) hx hb d_M_hours_42 (by decide) (fun h3 => ?_) (fun h3 => ?_)
          · refine lv_lconst (v := 0) hx hb d_M_hours_62 (by decide) ?_
            refine lv_ladd hx hb d_M_hours_63 ?_
            refine n_topl (show _ = sHours kn ln sec x (k + 1) by rw [sHours, if_neg h3]) ?_
            refine lv_lstore_n (lv' := [(2, .long (sHours kn ln sec x (k + 1))), (0, .ref (ad 400)), (1, .int x), (4, .int (nI k))]) hx hb d_M_hours_64 rfl hl (by decide) rfl (fun ls hl => ?_)
            refine n_iinc (lv' := [(4, .int (nI (k + 1))), (2, .long (sHours kn ln sec x (k + 1))), (0, .ref (ad 400)), (1, .int x)]) hx hb d_M_hours_65 hl (k := 3) rfl (by decide) rfl (fun ls hl => ?_)
            refine lv_goto (tgt := 24) hx hb d_M_hours_68 (by decide) ?_
            exact ih (k + 1) _ _ ls (by omega) (by omega) hW hS (lv_sub hl [2, 3, 1, 0] rfl)
          · refine lv_aload_n hx hb d_M_hours_45 rfl (lv_at hl 0 rfl) ?_
            refine lv_iload hx hb d_M_hours_46 (lv_at hl 3 rfl) ?_
            refine g_cVl (As := [.int (nI k)]) (rest := [.long (sHours kn ln sec x k)]) ⟨hx, hb, hml, hown, hts⟩ (c_M_end l hdl h400 h405 k h2 hn) (gcwV 1 hts q_709 q_706 q_708 qs_18 q_9 (by decide +kernel) ⟨(Nat.le_of_ble_eq_true rfl), (Nat.le_of_ble_eq_true rfl)⟩) gNl_ok hN hK hW hS hA (hdl 400 (by decide) (by decide)) h400 rfl rfl hl.1 rfl (Nat.le_of_ble_eq_true rfl) d_M_hours_48 ⟨Nat.zero_le _, Nat.zero_le _⟩ (fun r co9 H locs hp9 hW hS => ?_)
            obtain ⟨rfl, hco9⟩ := hp9
            rw [hco9] at hW
            refine lv_aload_n hx hb d_M_hours_51 rfl (lv_at hl 0 rfl) ?_
            refine g_get (C := R_M) (T := F_M) (N := 35) hx hb hts i_M hown hK hW (i := 400) (hdl 400 (by decide) (by decide)) h400 rfl 6 (by decide) (hts _ q_494) (fun _ h9 => h9) rfl d_M_hours_52 ?_
            refine lv_iload hx hb d_M_hours_55 (lv_at hl 3 rfl) ?_
            refine n_lald hx hb hK hW 1 (q := 405) (hdl 405 (by decide) (by decide)) h405 rfl (j := k) (by omega) (by omega) d_M_hours_57 ?_
            refine lv_lsub hx hb d_M_hours_58 ?_
            refine lv_goto (tgt := 63) hx hb d_M_hours_59 (by decide) ?_
            refine lv_ladd hx hb d_M_hours_63 ?_
            refine n_topl (show _ = sHours kn ln sec x (k + 1) by rw [sHours, if_pos h3]) ?_
            refine lv_lstore_n (lv' := [(2, .long (sHours kn ln sec x (k + 1))), (0, .ref (ad 400)), (1, .int x), (4, .int (nI k))]) hx hb d_M_hours_64 rfl hl (by decide) rfl (fun ls hl => ?_)
            refine n_iinc (lv' := [(4, .int (nI (k + 1))), (2, .long (sHours kn ln sec x (k + 1))), (0, .ref (ad 400)), (1, .int x)]) hx hb d_M_hours_65 hl (k := 3) rfl (by decide) rfl (fun ls hl => ?_)
            refine lv_goto (tgt := 24) hx hb d_M_hours_68 (by decide) ?_
            exact ih (k + 1) _ _ ls (by omega) (by omega) hW hS (lv_sub hl [2, 3, 1, 0] rfl)
    · refine lv_ldc2 hx hb hown (hts _ q_685) d_M_hours_15 ?_
      exact g_lret hx hb hr hlocks hW hS (⟨by simp [h1], rfl⟩) d_M_hours_18
end
section
set_option maxHeartbeats 4000000 in
set_option maxRecDepth 100000 in
/-- sum -/
theorem c_M_sum (l : Launch) {D : va_G} {cI cJ cG : ClassId} {ad : Nat → Nat} {co : Nat → va_E} {dl : List Nat} {a rw sh pg ce mg kn cs sm : Nat} (hdl : ∀ i, 400 ≤ i → i < 427 → i ∈ dl) (h400 : co 400 = mO ad a rw sh pg ce mg kn cs sm) {su : Nat → Int64} (h419 : co 419 = .inl (cJ, 21, .inr (.inl su))) (x : Int32) (hm : sm ≤ 21) : gMl l y_M_sum (Cond.code y_M_sum b_M_sum 2 (some .long) :: wA) ({ frames := 0, cells := 0, slots := 0, locals := 0 }) D gCl (gTy cI cJ cG) gNl [.ref (ad 400), .int x] ad co dl (fun r co' => r = (if inB x sm then su x.toNatClampNeg else -1) ∧ co' = co) := by
  refine gMl_of (cc := b_M_sum) (maxL := 2) (ret := some .long) (by decide) rfl (Nat.le_of_ble_eq_true rfl) ?_
  intro pp ee s mm below meth cd ls hC hW hS hl
  obtain ⟨hx, hb, hr, hts0, hown, hlocks, hml, hK, hN⟩ := hC
  have hts : ∀ w ∈ wA, w.before _ s = true := fun w h => hts0 w (List.mem_cons_of_mem _ h)
  have hA : ∀ q, s.heap.size ≤ q → gA ad co dl s.heap.size q := fun q h => Or.inr h
  have hl : lv_has ls 2 [(0, .ref (ad 400)), (1, .int x)] := hl
  have hown : s.vm.findClass R_M = some mm.cls := hown
  refine lv_iload_n hx hb d_M_sum_0 rfl (lv_at hl 1 rfl) ?_
  refine lv_if_lt (tgt := 12) hx hb d_M_sum_1 (by decide) (fun h1 => ?_) (fun h1 => ?_)
  · refine lv_ldc2 hx hb hown (hts _ q_685) d_M_sum_12 ?_
    refine lv_goto (tgt := 24) hx hb d_M_sum_15 (by decide) ?_
    exact g_lret hx hb hr hlocks hW hS (⟨by simp [inB_neg h1], rfl⟩) d_M_sum_24
  · obtain ⟨j, hj, rfl⟩ := nI_of h1
    refine lv_iload_n hx hb d_M_sum_4 rfl (lv_at hl 1 rfl) ?_
    refine lv_aload_n hx hb d_M_sum_5 rfl (lv_at hl 0 rfl) ?_
    refine g_get (C := R_M) (T := F_M) (N := 35) hx hb hts i_M hown hK hW (i := 400) (hdl 400 (by decide) (by decide)) h400 rfl 26 (by decide) (hts _ q_514) (fun _ h9 => h9) rfl d_M_sum_6 ?_
    refine n_icmp_lt (tgt := 18) hx hb (by omega) (by omega) d_M_sum_9 (by decide) (fun h2 => ?_) (fun h2 => ?_)
    · refine lv_aload_n hx hb d_M_sum_18 rfl (lv_at hl 0 rfl) ?_
      refine g_get (C := R_M) (T := F_M) (N := 35) hx hb hts i_M hown hK hW (i := 400) (hdl 400 (by decide) (by decide)) h400 rfl 27 (by decide) (hts _ q_515) (fun _ h9 => h9) rfl d_M_sum_19 ?_
      refine lv_iload_n hx hb d_M_sum_22 rfl (lv_at hl 1 rfl) ?_
      refine n_lald hx hb hK hW 1 (q := 419) (hdl 419 (by decide) (by decide)) h419 rfl (j := j) (by omega) (by omega) d_M_sum_23 ?_
      exact g_lret hx hb hr hlocks hW hS (⟨by rw [if_pos (inB_lt h2 (by omega)), nI_clamp hj], rfl⟩) d_M_sum_24
    · refine lv_ldc2 hx hb hown (hts _ q_685) d_M_sum_12 ?_
      refine lv_goto (tgt := 24) hx hb d_M_sum_15 (by decide) ?_
      exact g_lret hx hb hr hlocks hW hS (⟨by simp [inB_ge hj h2], rfl⟩) d_M_sum_24
set_option maxHeartbeats 4000000 in
set_option maxRecDepth 100000 in
/-- tied -/
theorem c_M_tied (l : Launch) {D : va_G} {cI cJ cG : ClassId} {ad : Nat → Nat} {co : Nat → va_E} {dl : List Nat} {a rw sh pg ce mg kn cs sm : Nat} (hdl : ∀ i, 400 ≤ i → i < 427 → i ∈ dl) (h400 : co 400 = mO ad a rw sh pg ce mg kn cs sm) {nx : Nat → Int32} (h418 : co 418 = .inl (cI, 200, .inl nx)) (x : Int32) (hn : kn ≤ 200) : gMi l y_M_tied (Cond.code y_M_tied b_M_tied 2 (some .boolean) :: wA) ({ frames := 1, cells := 0, slots := 0, locals := 21 }) D gCl (gTy cI cJ cG) gNl [.ref (ad 400), .int x] ad co dl (fun r co' => r = bI (sTied kn cs nx x) ∧ co' = co) := by
  refine gMi_of (cc := b_M_tied) (maxL := 2) (ret := some .boolean) (by decide) rfl (Nat.le_of_ble_eq_true rfl) ?_
  intro pp ee s mm below meth cd ls hC hW hS hl
  obtain ⟨hx, hb, hr, hts0, hown, hlocks, hml, hK, hN⟩ := hC
  have hts : ∀ w ∈ wA, w.before _ s = true := fun w h => hts0 w (List.mem_cons_of_mem _ h)
  have hA : ∀ q, s.heap.size ≤ q → gA ad co dl s.heap.size q := fun q h => Or.inr h
  have hl : lv_has ls 2 [(0, .ref (ad 400)), (1, .int x)] := hl
  have hown : s.vm.findClass R_M = some mm.cls := hown
  refine lv_aload_n hx hb d_M_tied_0 rfl (lv_at hl 0 rfl) ?_
  refine lv_iload_n hx hb d_M_tied_1 rfl (lv_at hl 1 rfl) ?_
  refine g_cVi (As := [.int x]) (rest := []) ⟨hx, hb, hml, hown, hts⟩ (c_M_isKnown l hdl h400 x (by omega)) (gcwV 1 hts q_697 q_694 q_696 qs_17 q_9 (by decide +kernel) ⟨(Nat.le_of_ble_eq_true rfl), (Nat.le_of_ble_eq_true rfl)⟩) gNl_ok hN hK hW hS hA (hdl 400 (by decide) (by decide)) h400 rfl rfl hl.1 rfl (Nat.le_of_ble_eq_true rfl) d_M_tied_2 ⟨Nat.zero_le _, Nat.zero_le _⟩ (fun r co9 H locs hp9 hW hS => ?_)
  obtain ⟨rfl, hco9⟩ := hp9
  rw [hco9] at hW
  refine n_ifz_eq (tgt := 25) hx hb d_M_tied_5 (by decide) (fun g1 => ?_) (fun g1 => ?_)
  · refine lv_iconst (v := nI 0) hx hb d_M_tied_25 (by decide) ?_
    exact g_zret hx hb hr (by rfl) hlocks hW hS (⟨bI_0 (by simp [sTied, g1]), rfl⟩) d_M_tied_26
  · obtain ⟨j, hj, rfl⟩ := inB_of (by omega) g1
    refine lv_aload_n hx hb d_M_tied_8 rfl (lv_at hl 0 rfl) ?_
    refine g_get (C := R_M) (T := F_M) (N := 35) hx hb hts i_M hown hK hW (i := 400) (hdl 400 (by decide) (by decide)) h400 rfl 25 (by decide) (hts _ q_513) (fun _ h9 => h9) rfl d_M_tied_9 ?_
    refine lv_iload_n hx hb d_M_tied_12 rfl (lv_at hl 1 rfl) ?_
    refine n_iald hx hb hK hW 0 (q := 418) (hdl 418 (by decide) (by decide)) h418 rfl (j := j) (by omega) (by omega) d_M_tied_13 ?_
    refine lv_aload_n hx hb d_M_tied_14 rfl (lv_at hl 0 rfl) ?_
    refine g_get (C := R_M) (T := F_M) (N := 35) hx hb hts i_M hown hK hW (i := 400) (hdl 400 (by decide) (by decide)) h400 rfl 24 (by decide) (hts _ q_512) (fun _ h9 => h9) rfl d_M_tied_15 ?_
    refine lv_icmp_ne (tgt := 25) hx hb d_M_tied_18 (by decide) (fun h1 => ?_) (fun h1 => ?_)
    · refine lv_iconst (v := nI 0) hx hb d_M_tied_25 (by decide) ?_
      exact g_zret hx hb hr (by rfl) hlocks hW hS (⟨bI_0 (by simp [sTied, nI_clamp (show j < 2 ^ 31 by omega), h1]), rfl⟩) d_M_tied_26
    · refine lv_iconst (v := nI 1) hx hb d_M_tied_21 (by decide) ?_
      refine lv_goto (tgt := 26) hx hb d_M_tied_22 (by decide) ?_
      exact g_zret hx hb hr (by rfl) hlocks hW hS (⟨bI_1 (by simp [sTied, g1, nI_clamp (show j < 2 ^ 31 by omega), h1]), rfl⟩) d_M_tied_26
set_option maxHeartbeats 4000000 in
set_option maxRecDepth 100000 in
/-- unsure -/
theorem c_M_unsure (l : Launch) {D : va_G} {cI cJ cG : ClassId} {ad : Nat → Nat} {co : Nat → va_E} {dl : List Nat} {a rw sh pg ce mg kn cs sm : Nat} (hdl : ∀ i, 400 ≤ i → i < 427 → i ∈ dl) (h400 : co 400 = mO ad a rw sh pg ce mg kn cs sm) {nx : Nat → Int32} (h418 : co 418 = .inl (cI, 200, .inl nx)) (x : Int32) (hn : kn ≤ 200) : gMi l y_M_unsure (Cond.code y_M_unsure b_M_unsure 2 (some .boolean) :: wA) ({ frames := 1, cells := 0, slots := 0, locals := 21 }) D gCl (gTy cI cJ cG) gNl [.ref (ad 400), .int x] ad co dl (fun r co' => r = bI (sUnsure kn mg cs nx x) ∧ co' = co) := by
  refine gMi_of (cc := b_M_unsure) (maxL := 2) (ret := some .boolean) (by decide) rfl (Nat.le_of_ble_eq_true rfl) ?_
  intro pp ee s mm below meth cd ls hC hW hS hl
  obtain ⟨hx, hb, hr, hts0, hown, hlocks, hml, hK, hN⟩ := hC
  have hts : ∀ w ∈ wA, w.before _ s = true := fun w h => hts0 w (List.mem_cons_of_mem _ h)
  have hA : ∀ q, s.heap.size ≤ q → gA ad co dl s.heap.size q := fun q h => Or.inr h
  have hl : lv_has ls 2 [(0, .ref (ad 400)), (1, .int x)] := hl
  have hown : s.vm.findClass R_M = some mm.cls := hown
  refine lv_aload_n hx hb d_M_unsure_0 rfl (lv_at hl 0 rfl) ?_
  refine lv_iload_n hx hb d_M_unsure_1 rfl (lv_at hl 1 rfl) ?_
  refine g_cVi (As := [.int x]) (rest := []) ⟨hx, hb, hml, hown, hts⟩ (c_M_isKnown l hdl h400 x (by omega)) (gcwV 1 hts q_697 q_694 q_696 qs_17 q_9 (by decide +kernel) ⟨(Nat.le_of_ble_eq_true rfl), (Nat.le_of_ble_eq_true rfl)⟩) gNl_ok hN hK hW hS hA (hdl 400 (by decide) (by decide)) h400 rfl rfl hl.1 rfl (Nat.le_of_ble_eq_true rfl) d_M_unsure_2 ⟨Nat.zero_le _, Nat.zero_le _⟩ (fun r co9 H locs hp9 hW hS => ?_)
  obtain ⟨rfl, hco9⟩ := hp9
  rw [hco9] at hW
  refine n_ifz_eq (tgt := 40) hx hb d_M_unsure_5 (by decide) (fun g1 => ?_) (fun g1 => ?_)
  · refine lv_iconst (v := nI 0) hx hb d_M_unsure_40 (by decide) ?_
    exact g_zret hx hb hr (by rfl) hlocks hW hS (⟨bI_0 (by simp [sUnsure, g1]), rfl⟩) d_M_unsure_41
  · obtain ⟨j, hj, rfl⟩ := inB_of (by omega) g1
    refine lv_aload_n hx hb d_M_unsure_8 rfl (lv_at hl 0 rfl) ?_
    refine g_get (C := R_M) (T := F_M) (N := 35) hx hb hts i_M hown hK hW (i := 400) (hdl 400 (by decide) (by decide)) h400 rfl 25 (by decide) (hts _ q_513) (fun _ h9 => h9) rfl d_M_unsure_9 ?_
    refine lv_iload_n hx hb d_M_unsure_12 rfl (lv_at hl 1 rfl) ?_
    refine n_iald hx hb hK hW 0 (q := 418) (hdl 418 (by decide) (by decide)) h418 rfl (j := j) (by omega) (by omega) d_M_unsure_13 ?_
    refine lv_iconst (v := (-1)) hx hb d_M_unsure_14 (by decide) ?_
    refine lv_icmp_eq (tgt := 40) hx hb d_M_unsure_15 (by decide) (fun h1 => ?_) (fun h1 => ?_)
    · refine lv_iconst (v := nI 0) hx hb d_M_unsure_40 (by decide) ?_
      exact g_zret hx hb hr (by rfl) hlocks hW hS (⟨bI_0 (by simp [sUnsure, nI_clamp (show j < 2 ^ 31 by omega), h1]), rfl⟩) d_M_unsure_41
    · refine lv_aload_n hx hb d_M_unsure_18 rfl (lv_at hl 0 rfl) ?_
      refine g_get (C := R_M) (T := F_M) (N := 35) hx hb hts i_M hown hK hW (i := 400) (hdl 400 (by decide) (by decide)) h400 rfl 25 (by decide) (hts _ q_513) (fun _ h9 => h9) rfl d_M_unsure_19 ?_
      refine lv_iload_n hx hb d_M_unsure_22 rfl (lv_at hl 1 rfl) ?_
      refine n_iald hx hb hK hW 0 (q := 418) (hdl 418 (by decide) (by decide)) h418 rfl (j := j) (by omega) (by omega) d_M_unsure_23 ?_
      refine lv_aload_n hx hb d_M_unsure_24 rfl (lv_at hl 0 rfl) ?_
      refine g_get (C := R_M) (T := F_M) (N := 35) hx hb hts i_M hown hK hW (i := 400) (hdl 400 (by decide) (by decide)) h400 rfl 24 (by decide) (hts _ q_512) (fun _ h9 => h9) rfl d_M_unsure_25 ?_
      refine lv_isub hx hb d_M_unsure_28 ?_
      refine lv_aload_n hx hb d_M_unsure_29 rfl (lv_at hl 0 rfl) ?_
      refine g_get (C := R_M) (T := F_M) (N := 35) hx hb hts i_M hown hK hW (i := 400) (hdl 400 (by decide) (by decide)) h400 rfl 21 (by decide) (hts _ q_509) (fun _ h9 => h9) rfl d_M_unsure_30 ?_
      refine lv_icmp_gt (tgt := 40) hx hb d_M_unsure_33 (by decide) (fun h2 => ?_) (fun h2 => ?_)
      · refine lv_iconst (v := nI 0) hx hb d_M_unsure_40 (by decide) ?_
        exact g_zret hx hb hr (by rfl) hlocks hW hS (⟨bI_0 (by simp [sUnsure, nI_clamp (show j < 2 ^ 31 by omega), Int32.not_le.mpr h2]), rfl⟩) d_M_unsure_41
      · refine lv_iconst (v := nI 1) hx hb d_M_unsure_36 (by decide) ?_
        refine lv_goto (tgt := 41) hx hb d_M_unsure_37 (by decide) ?_
        exact g_zret hx hb hr (by rfl) hlocks hW hS (⟨bI_1 (by simp [sUnsure, g1, nI_clamp (show j < 2 ^ 31 by omega), h1, Int32.not_lt.mp h2]), rfl⟩) d_M_unsure_41
set_option maxHeartbeats 4000000 in
set_option maxRecDepth 100000 in
/-- first -/
theorem c_M_first (l : Launch) {D : va_G} {cI cJ cG : ClassId} {ad : Nat → Nat} {co : Nat → va_E} {dl : List Nat} {a rw sh pg ce mg kn cs sm : Nat} (hdl : ∀ i, 400 ≤ i → i < 427 → i ∈ dl) (h400 : co 400 = mO ad a rw sh pg ce mg kn cs sm) {ln : Nat → Int32} (h417 : co 417 = .inl (cI, 200, .inl ln)) (x : Int32) (hn : kn ≤ 200) : gMi l y_M_first (Cond.code y_M_first b_M_first 4 (some .int) :: wA) ({ frames := 0, cells := 0, slots := 0, locals := 0 }) D gCl (gTy cI cJ cG) gNl [.ref (ad 400), .int x] ad co dl (fun r co' => r = sFirst kn ln x ∧ co' = co) := by
  refine gMi_of (cc := b_M_first) (maxL := 4) (ret := some .int) (by decide) rfl (Nat.le_of_ble_eq_true rfl) ?_
  intro pp ee s mm below meth cd ls hC hW hS hl
  obtain ⟨hx, hb, hr, hts0, hown, hlocks, hml, hK, hN⟩ := hC
  have hts : ∀ w ∈ wA, w.before _ s = true := fun w h => hts0 w (List.mem_cons_of_mem _ h)
  have hA : ∀ q, s.heap.size ≤ q → gA ad co dl s.heap.size q := fun q h => Or.inr h
  have hl : lv_has ls 4 [(0, .ref (ad 400)), (1, .int x)] := hl
  have hown : s.vm.findClass R_M = some mm.cls := hown
  by_cases hx0 : x < 0
  · refine lv_iload_n hx hb d_M_first_0 rfl (lv_at hl 1 rfl) ?_
    refine lv_istore_n (lv' := [(2, .int x), (0, .ref (ad 400)), (1, .int x)]) hx hb d_M_first_1 rfl hl (by decide) rfl (fun ls hl => ?_)
    refine lv_iconst (v := nI 0) hx hb d_M_first_2 (by decide) ?_
    refine lv_istore_n (lv' := [(3, .int (nI 0)), (2, .int x), (0, .ref (ad 400)), (1, .int x)]) hx hb d_M_first_3 rfl hl (by decide) rfl (fun ls hl => ?_)
    refine lv_iload_n hx hb d_M_first_4 rfl (lv_at hl 0 rfl) ?_
    refine lv_aload_n hx hb d_M_first_5 rfl (lv_at hl 2 rfl) ?_
    refine g_get (C := R_M) (T := F_M) (N := 35) hx hb hts i_M hown hK hW (i := 400) (hdl 400 (by decide) (by decide)) h400 rfl 22 (by decide) (hts _ q_510) (fun _ h9 => h9) rfl d_M_first_6 ?_
    refine n_icmp_ge (tgt := 57) hx hb (by omega) (by omega) d_M_first_9 (by decide) (fun h1 => ?_) (fun h1 => ?_)
    · refine lv_iconst (v := (-1)) hx hb d_M_first_57 (by decide) ?_
      exact g_iret hx hb hr hlocks hW hS (⟨by rw [sFirst, if_pos hx0], rfl⟩) d_M_first_58
    · refine lv_iload_n hx hb d_M_first_12 rfl (lv_at hl 3 rfl) ?_
      refine lv_if_lt (tgt := 57) hx hb d_M_first_13 (by decide) (fun h2 => ?_) (fun h2 => ?_)
      · refine lv_iconst (v := (-1)) hx hb d_M_first_57 (by decide) ?_
        exact g_iret hx hb hr hlocks hW hS (⟨by rw [sFirst, if_pos hx0], rfl⟩) d_M_first_58
      · exact absurd hx0 h2
  · obtain ⟨j, hj, rfl⟩ := nI_of hx0
    refine lv_iload_n hx hb d_M_first_0 rfl (lv_at hl 1 rfl) ?_
    refine lv_istore_n (lv' := [(2, .int (nI j)), (0, .ref (ad 400)), (1, .int (nI j))]) hx hb d_M_first_1 rfl hl (by decide) rfl (fun ls hl => ?_)
    refine lv_iconst (v := nI 0) hx hb d_M_first_2 (by decide) ?_
    refine lv_istore_n (lv' := [(3, .int (nI 0)), (2, .int (nI j)), (0, .ref (ad 400)), (1, .int (nI j))]) hx hb d_M_first_3 rfl hl (by decide) rfl (fun ls hl => ?_)
    suffices hloop : ∀ (d k q : Nat) (H : Heap) (locs : List Loc) (ls : Array Slot), (k ≤ kn) → (kn + 1 ≤ k + d) → (q ≤ j) → (sFirst kn ln (nI j) = nthF (sStart ln) (kn - k) k q) → gW D gCl (gA ad co dl s.heap.size) ad co dl H → va_S (gA ad co dl s.heap.size) s.heap H locs → lv_has ls 4 [(0, .ref (ad 400)), (1, .int (nI j)), (2, .int (nI q)), (3, .int (nI k))] → W pp l ee _ s mm _ below meth cd H locs 0 0 _ (F0 mm 4 ls []) by
      exact hloop (kn + 1) 0 j _ _ ls (by omega) (by omega) (Nat.le_refl j) (by rw [sFirst, if_neg (nI_pos hj), nI_clamp hj]; rfl) hW hS (lv_sub hl [2, 3, 1, 0] rfl)
    clear hW hS hl
    intro d
    induction d with
    | zero => intro k q H locs ls hk hd hq hv; omega
    | succ d ih =>
      intro k q H locs ls hk hd hq hv hW hS hl
      refine lv_iload_n hx hb d_M_first_4 rfl (lv_at hl 3 rfl) ?_
      refine lv_aload_n hx hb d_M_first_5 rfl (lv_at hl 0 rfl) ?_
      refine g_get (C := R_M) (T := F_M) (N := 35) hx hb hts i_M hown hK hW (i := 400) (hdl 400 (by decide) (by decide)) h400 rfl 22 (by decide) (hts _ q_510) (fun _ h9 => h9) rfl d_M_first_6 ?_
      refine n_icmp_ge (tgt := 57) hx hb (by omega) (by omega) d_M_first_9 (by decide) (fun h1 => ?_) (fun h1 => ?_)
      · have hkk : k = kn := by omega
        subst hkk
        refine lv_iconst (v := (-1)) hx hb d_M_first_57 (by decide) ?_
        exact g_iret hx hb hr hlocks hW hS (⟨by rw [hv, Nat.sub_self]; rfl, rfl⟩) d_M_first_58
      · have hs : kn - k = (kn - (k + 1)) + 1 := by omega
        refine lv_iload_n hx hb d_M_first_12 rfl (lv_at hl 1 rfl) ?_
        refine n_if_lt (tgt := 57) hx hb (by omega) d_M_first_13 (by decide) ?_
        refine lv_aload_n hx hb d_M_first_16 rfl (lv_at hl 0 rfl) ?_
        refine g_get (C := R_M) (T := F_M) (N := 35) hx hb hts i_M hown hK hW (i := 400) (hdl 400 (by decide) (by decide)) h400 rfl 23 (by decide) (hts _ q_511) (fun _ h9 => h9) rfl d_M_first_17 ?_
        refine lv_iload_n hx hb d_M_first_20 rfl (lv_at hl 3 rfl) ?_
        refine n_iald hx hb hK hW 0 (q := 417) (hdl 417 (by decide) (by decide)) h417 rfl (j := k) (by omega) (by omega) d_M_first_21 ?_
        refine lv_iconst (v := nI 3) hx hb d_M_first_22 (by decide) ?_
        refine lv_icmp_ne (tgt := 51) hx hb d_M_first_23 (by decide) (fun h3 => ?_) (fun h3 => ?_)
        · refine n_iinc (lv' := [(3, .int (nI (k + 1))), (0, .ref (ad 400)), (1, .int (nI j)), (2, .int (nI q))]) hx hb d_M_first_51 hl (k := 3) rfl (by decide) rfl (fun ls hl => ?_)
          refine lv_goto (tgt := 4) hx hb d_M_first_54 (by decide) ?_
          exact ih (k + 1) q _ _ ls (by omega) (by omega) hq (by rw [hv, hs, nthF, if_neg (by simp [sStart, h3])]) hW hS (lv_sub hl [1, 2, 3, 0] rfl)
        · refine lv_iload_n hx hb d_M_first_26 rfl (lv_at hl 3 rfl) ?_
          refine n_if_eq (tgt := 42) hx hb (by omega) d_M_first_27 (by decide) (fun h4 => ?_) (fun h4 => ?_)
          · have hst : sStart ln k = true := by rw [sStart, decide_eq_true h3, decide_eq_true h4]; rfl
            refine lv_iload_n hx hb d_M_first_42 rfl (lv_at hl 2 rfl) ?_
            refine n_if_ne (tgt := 48) hx hb (by omega) d_M_first_43 (by decide) (fun h6 => ?_) (fun h6 => ?_)
            · obtain ⟨q, rfl⟩ : ∃ z, q = z + 1 := ⟨q - 1, by omega⟩
              refine n_idec (lv' := [(2, .int (nI q)), (0, .ref (ad 400)), (1, .int (nI j)), (3, .int (nI k))]) hx hb d_M_first_48 hl (k := 2) rfl (by decide) rfl (fun ls hl => ?_)
              refine n_iinc (lv' := [(3, .int (nI (k + 1))), (2, .int (nI q)), (0, .ref (ad 400)), (1, .int (nI j))]) hx hb d_M_first_51 hl (k := 3) rfl (by decide) rfl (fun ls hl => ?_)
              refine lv_goto (tgt := 4) hx hb d_M_first_54 (by decide) ?_
              exact ih (k + 1) q _ _ ls (by omega) (by omega) (by omega) (by rw [hv, hs, nthF, if_pos hst, if_neg (by omega)]; rfl) hW hS (lv_sub hl [2, 3, 1, 0] rfl)
            · refine lv_iload_n hx hb d_M_first_46 rfl (lv_at hl 3 rfl) ?_
              exact g_iret hx hb hr hlocks hW hS (⟨by rw [hv, hs, nthF, if_pos hst, if_pos h6], rfl⟩) d_M_first_47
          · refine lv_aload_n hx hb d_M_first_30 rfl (lv_at hl 0 rfl) ?_
            refine g_get (C := R_M) (T := F_M) (N := 35) hx hb hts i_M hown hK hW (i := 400) (hdl 400 (by decide) (by decide)) h400 rfl 23 (by decide) (hts _ q_511) (fun _ h9 => h9) rfl d_M_first_31 ?_
            refine lv_iload_n hx hb d_M_first_34 rfl (lv_at hl 3 rfl) ?_
            refine lv_iconst (v := nI 1) hx hb d_M_first_35 (by decide) ?_
            refine n_sub hx hb (by omega) d_M_first_36 ?_
            refine n_iald hx hb hK hW 0 (q := 417) (hdl 417 (by decide) (by decide)) h417 rfl (j := k - 1) (by omega) (by omega) d_M_first_37 ?_
            refine lv_iconst (v := nI 3) hx hb d_M_first_38 (by decide) ?_
            refine lv_icmp_eq (tgt := 51) hx hb d_M_first_39 (by decide) (fun h5 => ?_) (fun h5 => ?_)
            · refine n_iinc (lv' := [(3, .int (nI (k + 1))), (0, .ref (ad 400)), (1, .int (nI j)), (2, .int (nI q))]) hx hb d_M_first_51 hl (k := 3) rfl (by decide) rfl (fun ls hl => ?_)
              refine lv_goto (tgt := 4) hx hb d_M_first_54 (by decide) ?_
              exact ih (k + 1) q _ _ ls (by omega) (by omega) hq (by rw [hv, hs, nthF, if_neg (by simp [sStart, h3, h5]; omega)]) hW hS (lv_sub hl [1, 2, 3, 0] rfl)
            · have hst : sStart ln k = true := by simp [sStart, h3, h5]
              refine lv_iload_n hx hb d_M_first_42 rfl (lv_at hl 2 rfl) ?_
              refine n_if_ne (tgt := 48) hx hb (by omega) d_M_first_43 (by decide) (fun h6 => ?_) (fun h6 => ?_)
              · obtain ⟨q, rfl⟩ : ∃ z, q = z + 1 := ⟨q - 1, by omega⟩
                refine n_idec (lv' := [(2, .int (nI q)), (0, .ref (ad 400)), (1, .int (nI j)), (3, .int (nI k))]) hx hb d_M_first_48 hl (k := 2) rfl (by decide) rfl (fun ls hl => ?_)
                refine n_iinc (lv' := [(3, .int (nI (k + 1))), (2, .int (nI q)), (0, .ref (ad 400)), (1, .int (nI j))]) hx hb d_M_first_51 hl (k := 3) rfl (by decide) rfl (fun ls hl => ?_)
                refine lv_goto (tgt := 4) hx hb d_M_first_54 (by decide) ?_
                exact ih (k + 1) q _ _ ls (by omega) (by omega) (by omega) (by rw [hv, hs, nthF, if_pos hst, if_neg (by omega)]; rfl) hW hS (lv_sub hl [2, 3, 1, 0] rfl)
              · refine lv_iload_n hx hb d_M_first_46 rfl (lv_at hl 3 rfl) ?_
                exact g_iret hx hb hr hlocks hW hS (⟨by rw [hv, hs, nthF, if_pos hst, if_pos h6], rfl⟩) d_M_first_47
set_option maxHeartbeats 4000000 in
set_option maxRecDepth 100000 in
/-- last -/
theorem c_M_last (l : Launch) {D : va_G} {cI cJ cG : ClassId} {ad : Nat → Nat} {co : Nat → va_E} {dl : List Nat} {a rw sh pg ce mg kn cs sm : Nat} (hdl : ∀ i, 400 ≤ i → i < 427 → i ∈ dl) (h400 : co 400 = mO ad a rw sh pg ce mg kn cs sm) {ln : Nat → Int32} (h417 : co 417 = .inl (cI, 200, .inl ln)) (j : Nat) (hj : j < kn) (hn : kn ≤ 200) : gMi l y_M_last (Cond.code y_M_last b_M_last 3 (some .int) :: wA) ({ frames := 0, cells := 0, slots := 0, locals := 0 }) D gCl (gTy cI cJ cG) gNl [.ref (ad 400), .int (nI j)] ad co dl (fun r co' => r = nI (sLast kn ln j) ∧ co' = co) := by
  refine gMi_of (cc := b_M_last) (maxL := 3) (ret := some .int) (by decide) rfl (Nat.le_of_ble_eq_true rfl) ?_
  intro pp ee s mm below meth cd ls hC hW hS hl
  obtain ⟨hx, hb, hr, hts0, hown, hlocks, hml, hK, hN⟩ := hC
  have hts : ∀ w ∈ wA, w.before _ s = true := fun w h => hts0 w (List.mem_cons_of_mem _ h)
  have hA : ∀ q, s.heap.size ≤ q → gA ad co dl s.heap.size q := fun q h => Or.inr h
  have hl : lv_has ls 3 [(0, .ref (ad 400)), (1, .int (nI j))] := hl
  have hown : s.vm.findClass R_M = some mm.cls := hown
  refine lv_iload_n hx hb d_M_last_0 rfl (lv_at hl 1 rfl) ?_
  refine lv_istore_n (lv' := [(2, .int (nI j)), (0, .ref (ad 400)), (1, .int (nI j))]) hx hb d_M_last_1 rfl hl (by decide) rfl (fun ls hl => ?_)
  suffices hloop : ∀ (d k : Nat) (H : Heap) (locs : List Loc) (ls : Array Slot), (k < kn) → (kn ≤ k + d) → (sLast kn ln j = lastF kn ln d k) → gW D gCl (gA ad co dl s.heap.size) ad co dl H → va_S (gA ad co dl s.heap.size) s.heap H locs → lv_has ls 3 [(0, .ref (ad 400)), (1, .int (nI j)), (2, .int (nI k))] → W pp l ee _ s mm _ below meth cd H locs 0 0 _ (F0 mm 2 ls []) by
    exact hloop kn j _ _ ls hj (by omega) rfl hW hS (lv_sub hl [1, 2, 0] rfl)
  clear hW hS hl
  intro d
  induction d with
  | zero => intro k H locs ls hk hd hv; omega
  | succ d ih =>
    intro k H locs ls hk hd hv hW hS hl
    refine lv_iload_n hx hb d_M_last_2 rfl (lv_at hl 2 rfl) ?_
    refine lv_iconst (v := nI 1) hx hb d_M_last_3 (by decide) ?_
    refine n_add hx hb d_M_last_4 ?_
    refine lv_aload_n hx hb d_M_last_5 rfl (lv_at hl 0 rfl) ?_
    refine g_get (C := R_M) (T := F_M) (N := 35) hx hb hts i_M hown hK hW (i := 400) (hdl 400 (by decide) (by decide)) h400 rfl 22 (by decide) (hts _ q_510) (fun _ h9 => h9) rfl d_M_last_6 ?_
    refine n_icmp_ge (tgt := 30) hx hb (by omega) (by omega) d_M_last_9 (by decide) (fun h1 => ?_) (fun h1 => ?_)
    · refine lv_iload_n hx hb d_M_last_30 rfl (lv_at hl 2 rfl) ?_
      exact g_iret hx hb hr hlocks hW hS (⟨by rw [hv, lastF, if_neg (by omega)], rfl⟩) d_M_last_31
    · refine lv_aload_n hx hb d_M_last_12 rfl (lv_at hl 0 rfl) ?_
      refine g_get (C := R_M) (T := F_M) (N := 35) hx hb hts i_M hown hK hW (i := 400) (hdl 400 (by decide) (by decide)) h400 rfl 23 (by decide) (hts _ q_511) (fun _ h9 => h9) rfl d_M_last_13 ?_
      refine lv_iload_n hx hb d_M_last_16 rfl (lv_at hl 2 rfl) ?_
      refine lv_iconst (v := nI 1) hx hb d_M_last_17 (by decide) ?_
      refine n_add hx hb d_M_last_18 ?_
      refine n_iald hx hb hK hW 0 (q := 417) (hdl 417 (by decide) (by decide)) h417 rfl (j := k + 1) (by omega) (by omega) d_M_last_19 ?_
      refine lv_iconst (v := nI 3) hx hb d_M_last_20 (by decide) ?_
      refine lv_icmp_ne (tgt := 30) hx hb d_M_last_21 (by decide) (fun h2 => ?_) (fun h2 => ?_)
      · refine lv_iload_n hx hb d_M_last_30 rfl (lv_at hl 2 rfl) ?_
        exact g_iret hx hb hr hlocks hW hS (⟨by rw [hv, lastF, if_neg (fun q => h2 q.2)], rfl⟩) d_M_last_31
      · refine n_iinc (lv' := [(2, .int (nI (k + 1))), (0, .ref (ad 400)), (1, .int (nI j))]) hx hb d_M_last_24 hl (k := 2) rfl (by decide) rfl (fun ls hl => ?_)
        refine lv_goto (tgt := 2) hx hb d_M_last_27 (by decide) ?_
        exact ih (k + 1) _ _ ls h1 (by omega) (by rw [hv, lastF, if_pos ⟨h1, h2⟩]) hW hS (lv_sub hl [1, 2, 0] rfl)
set_option maxHeartbeats 4000000 in
set_option maxRecDepth 100000 in
/-- told -/
theorem c_M_told (l : Launch) {D : va_G} {cI cJ cG : ClassId} {ad : Nat → Nat} {co : Nat → va_E} {dl : List Nat} {a rw sh pg ce mg kn cs sm : Nat} (hdl : ∀ i, 400 ≤ i → i < 427 → i ∈ dl) (h400 : co 400 = mO ad a rw sh pg ce mg kn cs sm) {pf : Nat → Int64} {pt : Nat → Int64} {pa : Nat → Int32} (h410 : co 410 = .inl (cJ, 50, .inr (.inl pf))) (h411 : co 411 = .inl (cJ, 50, .inr (.inl pt))) (h412 : co 412 = .inl (cI, 50, .inl pa)) (x : Int64) (hp : pg ≤ 50) : gMi l y_M_told (Cond.code y_M_told b_M_told 4 (some .int) :: wA) ({ frames := 0, cells := 0, slots := 0, locals := 0 }) D gCl (gTy cI cJ cG) gNl [.ref (ad 400), .long x] ad co dl (fun r co' => r = toldF pf pt pa x pg ∧ co' = co) := by
  refine gMi_of (cc := b_M_told) (maxL := 4) (ret := some .int) (by decide) rfl (Nat.le_of_ble_eq_true rfl) ?_
  intro pp ee s mm below meth cd ls hC hW hS hl
  obtain ⟨hx, hb, hr, hts0, hown, hlocks, hml, hK, hN⟩ := hC
  have hts : ∀ w ∈ wA, w.before _ s = true := fun w h => hts0 w (List.mem_cons_of_mem _ h)
  have hA : ∀ q, s.heap.size ≤ q → gA ad co dl s.heap.size q := fun q h => Or.inr h
  have hl : lv_has ls 4 [(0, .ref (ad 400)), (1, .long x)] := hl
  have hown : s.vm.findClass R_M = some mm.cls := hown
  have hpg : pg = 0 ∨ ∃ z, pg = z + 1 := by rcases Nat.eq_zero_or_pos pg with h | h; exact Or.inl h; exact Or.inr ⟨pg - 1, by omega⟩
  refine lv_aload_n hx hb d_M_told_0 rfl (lv_at hl 0 rfl) ?_
  refine g_get (C := R_M) (T := F_M) (N := 35) hx hb hts i_M hown hK hW (i := 400) (hdl 400 (by decide) (by decide)) h400 rfl 12 (by decide) (hts _ q_500) (fun _ h9 => h9) rfl d_M_told_1 ?_
  refine lv_iconst (v := nI 1) hx hb d_M_told_4 (by decide) ?_
  refine lv_isub hx hb d_M_told_5 ?_
  refine lv_istore_n (lv' := [(3, .int ((nI pg) - (nI 1))), (0, .ref (ad 400)), (1, .long x)]) hx hb d_M_told_6 rfl hl (by decide) rfl (fun ls hl => ?_)
  suffices hloop : ∀ (d q : Nat) (H : Heap) (locs : List Loc) (ls : Array Slot), (q ≤ pg) → (q + 1 ≤ d) → (toldF pf pt pa x pg = toldF pf pt pa x q) → gW D gCl (gA ad co dl s.heap.size) ad co dl H → va_S (gA ad co dl s.heap.size) s.heap H locs → lv_has ls 4 [(0, .ref (ad 400)), (1, .long x), (3, .int (nI q - nI 1))] → W pp l ee _ s mm _ below meth cd H locs 0 0 _ (F0 mm 7 ls []) by
    exact hloop (pg + 1) pg _ _ ls (Nat.le_refl _) (Nat.le_refl _) rfl hW hS (lv_sub hl [1, 2, 0] rfl)
  clear hW hS hl
  intro d
  induction d with
  | zero => intro q H locs ls hq hd hv; omega
  | succ d ih =>
    intro q H locs ls hq hd hv hW hS hl
    rcases Nat.eq_zero_or_pos q with h0 | h0
    · subst h0
      refine lv_iload_n hx hb d_M_told_7 rfl (lv_at hl 2 rfl) ?_
      refine lv_if_lt (tgt := 46) hx hb d_M_told_8 (by decide) (fun h1 => ?_) (fun h1 => ?_)
      · refine lv_iconst (v := (-1)) hx hb d_M_told_46 (by decide) ?_
        exact g_iret hx hb hr hlocks hW hS (⟨by rw [hv]; rfl, rfl⟩) d_M_told_47
      · exact absurd (by decide) h1
    · obtain ⟨q, rfl⟩ : ∃ z, q = z + 1 := ⟨q - 1, by omega⟩
      rw [show nI (q + 1) - nI 1 = nI q from nI_pred q] at hl
      refine lv_iload_n hx hb d_M_told_7 rfl (lv_at hl 2 rfl) ?_
      refine n_if_lt (tgt := 46) hx hb (by omega) d_M_told_8 (by decide) ?_
      refine lv_aload_n hx hb d_M_told_11 rfl (lv_at hl 0 rfl) ?_
      refine g_get (C := R_M) (T := F_M) (N := 35) hx hb hts i_M hown hK hW (i := 400) (hdl 400 (by decide) (by decide)) h400 rfl 13 (by decide) (hts _ q_501) (fun _ h9 => h9) rfl d_M_told_12 ?_
      refine lv_iload_n hx hb d_M_told_15 rfl (lv_at hl 2 rfl) ?_
      refine n_lald hx hb hK hW 1 (q := 410) (hdl 410 (by decide) (by decide)) h410 rfl (j := q) (by omega) (by omega) d_M_told_16 ?_
      refine lv_lload_n hx hb d_M_told_17 rfl (lv_at hl 1 rfl) ?_
      refine W.lcmp hx hb d_M_told_18 ?_
      refine lv_if_gt (tgt := 40) hx hb d_M_told_19 (by decide) (fun h2 => ?_) (fun h2 => ?_)
      · refine lv_iinc (v := (nI q) + (-1)) (lv' := [(3, .int ((nI q) + (-1))), (0, .ref (ad 400)), (1, .long x)]) hx hb d_M_told_40 hl (k := 2) rfl rfl (by decide) rfl (fun ls hl => ?_)
        rw [show nI q + (-1) = nI q - nI 1 by rw [Int32.sub_eq_add_neg]; rfl] at hl
        refine lv_goto (tgt := 7) hx hb d_M_told_43 (by decide) ?_
        exact ih q _ _ ls (by omega) (by omega) (by rw [hv, toldF, if_neg (fun z => L_nle z.1 (lc_gt h2))]) hW hS (lv_sub hl [1, 2, 0] rfl)
      · refine lv_lload_n hx hb d_M_told_22 rfl (lv_at hl 1 rfl) ?_
        refine lv_aload_n hx hb d_M_told_23 rfl (lv_at hl 0 rfl) ?_
        refine g_get (C := R_M) (T := F_M) (N := 35) hx hb hts i_M hown hK hW (i := 400) (hdl 400 (by decide) (by decide)) h400 rfl 14 (by decide) (hts _ q_502) (fun _ h9 => h9) rfl d_M_told_24 ?_
        refine lv_iload_n hx hb d_M_told_27 rfl (lv_at hl 2 rfl) ?_
        refine n_lald hx hb hK hW 1 (q := 411) (hdl 411 (by decide) (by decide)) h411 rfl (j := q) (by omega) (by omega) d_M_told_28 ?_
        refine W.lcmp hx hb d_M_told_29 ?_
        refine lv_if_ge (tgt := 40) hx hb d_M_told_30 (by decide) (fun h3 => ?_) (fun h3 => ?_)
        · refine lv_iinc (v := (nI q) + (-1)) (lv' := [(3, .int ((nI q) + (-1))), (0, .ref (ad 400)), (1, .long x)]) hx hb d_M_told_40 hl (k := 2) rfl rfl (by decide) rfl (fun ls hl => ?_)
          rw [show nI q + (-1) = nI q - nI 1 by rw [Int32.sub_eq_add_neg]; rfl] at hl
          refine lv_goto (tgt := 7) hx hb d_M_told_43 (by decide) ?_
          exact ih q _ _ ls (by omega) (by omega) (by rw [hv, toldF, if_neg (fun z => L_nlt z.2 (lc_ge h3))]) hW hS (lv_sub hl [1, 2, 0] rfl)
        · refine lv_aload_n hx hb d_M_told_33 rfl (lv_at hl 0 rfl) ?_
          refine g_get (C := R_M) (T := F_M) (N := 35) hx hb hts i_M hown hK hW (i := 400) (hdl 400 (by decide) (by decide)) h400 rfl 15 (by decide) (hts _ q_503) (fun _ h9 => h9) rfl d_M_told_34 ?_
          refine lv_iload_n hx hb d_M_told_37 rfl (lv_at hl 2 rfl) ?_
          refine n_iald hx hb hK hW 0 (q := 412) (hdl 412 (by decide) (by decide)) h412 rfl (j := q) (by omega) (by omega) d_M_told_38 ?_
          exact g_iret hx hb hr hlocks hW hS (⟨by rw [hv, toldF, if_pos ⟨lc_ngt h2, lc_nge h3⟩], rfl⟩) d_M_told_39
end
section
set_option maxHeartbeats 4000000 in
set_option maxRecDepth 100000 in
/-- night -/
theorem c_M_night (l : Launch) {D : va_G} {cI cJ cG : ClassId} {ad : Nat → Nat} {co : Nat → va_E} {dl : List Nat} {a rw sh pg ce mg kn cs sm : Nat} (hdl : ∀ i, 400 ≤ i → i < 427 → i ∈ dl) (h400 : co 400 = mO ad a rw sh pg ce mg kn cs sm) {sec : Nat → Int64} (h405 : co 405 = .inl (cJ, 200, .inr (.inl sec))) (x : Int32) (hn : rw ≤ 200) : gMi l y_M_night (Cond.code y_M_night b_M_night 4 (some .int) :: wA) ({ frames := 1, cells := 0, slots := 0, locals := 21 }) D gCl (gTy cI cJ cG) gNl [.ref (ad 400), .int x] ad co dl (fun r co' => r = (if inB x rw then sNight (sec x.toNatClampNeg) else -1) ∧ co' = co) := by
  refine gMi_of (cc := b_M_night) (maxL := 4) (ret := some .int) (by decide) rfl (Nat.le_of_ble_eq_true rfl) ?_
  intro pp ee s mm below meth cd ls hC hW hS hl
  obtain ⟨hx, hb, hr, hts0, hown, hlocks, hml, hK, hN⟩ := hC
  have hts : ∀ w ∈ wA, w.before _ s = true := fun w h => hts0 w (List.mem_cons_of_mem _ h)
  have hA : ∀ q, s.heap.size ≤ q → gA ad co dl s.heap.size q := fun q h => Or.inr h
  have hl : lv_has ls 4 [(0, .ref (ad 400)), (1, .int x)] := hl
  have hown : s.vm.findClass R_M = some mm.cls := hown
  refine lv_aload_n hx hb d_M_night_0 rfl (lv_at hl 0 rfl) ?_
  refine lv_iload_n hx hb d_M_night_1 rfl (lv_at hl 1 rfl) ?_
  refine g_cVi (As := [.int x]) (rest := []) ⟨hx, hb, hml, hown, hts⟩ (c_M_isRow l hdl h400 x (by omega)) (gcwV 1 hts q_621 q_618 q_620 qs_9 q_9 (by decide +kernel) ⟨(Nat.le_of_ble_eq_true rfl), (Nat.le_of_ble_eq_true rfl)⟩) gNl_ok hN hK hW hS hA (hdl 400 (by decide) (by decide)) h400 rfl rfl hl.1 rfl (Nat.le_of_ble_eq_true rfl) d_M_night_2 ⟨Nat.zero_le _, Nat.zero_le _⟩ (fun r co9 H locs hp9 hW hS => ?_)
  obtain ⟨rfl, hco9⟩ := hp9
  rw [hco9] at hW
  refine n_ifz_ne (tgt := 10) hx hb d_M_night_5 (by decide) (fun g1 => ?_) (fun g1 => ?_)
  · obtain ⟨j, hj, rfl⟩ := inB_of (by omega) g1
    rw [if_pos g1, nI_clamp (show j < 2 ^ 31 by omega)]
    refine lv_aload_n hx hb d_M_night_10 rfl (lv_at hl 0 rfl) ?_
    refine g_get (C := R_M) (T := F_M) (N := 35) hx hb hts i_M hown hK hW (i := 400) (hdl 400 (by decide) (by decide)) h400 rfl 6 (by decide) (hts _ q_494) (fun _ h9 => h9) rfl d_M_night_11 ?_
    refine lv_iload_n hx hb d_M_night_14 rfl (lv_at hl 1 rfl) ?_
    refine n_lald hx hb hK hW 1 (q := 405) (hdl 405 (by decide) (by decide)) h405 rfl (j := j) (by omega) (by omega) d_M_night_15 ?_
    refine lv_ldc2 hx hb hown (hts _ q_640) d_M_night_16 ?_
    refine lv_lrem hx hb d_M_night_19 (by decide) ?_
    refine lv_lstore_n (lv' := [(2, .long (sec j - sec j / 86400 * 86400)), (0, .ref (ad 400)), (1, .int (nI j))]) hx hb d_M_night_20 rfl hl (by decide) rfl (fun ls hl => ?_)
    refine lv_lload_n hx hb d_M_night_21 rfl (lv_at hl 0 rfl) ?_
    refine lv_ldc2 hx hb hown (hts _ q_641) d_M_night_22 ?_
    refine W.lcmp hx hb d_M_night_25 ?_
    refine lv_if_lt (tgt := 37) hx hb d_M_night_26 (by decide) (fun h1 => ?_) (fun h1 => ?_)
    · refine lv_iconst (v := nI 1) hx hb d_M_night_37 (by decide) ?_
      refine lv_goto (tgt := 42) hx hb d_M_night_38 (by decide) ?_
      exact g_iret hx hb hr hlocks hW hS (⟨bI_1 (by simp [lc_lt h1]), rfl⟩) d_M_night_42
    · refine lv_lload_n hx hb d_M_night_29 rfl (lv_at hl 0 rfl) ?_
      refine lv_ldc2 hx hb hown (hts _ q_642) d_M_night_30 ?_
      refine W.lcmp hx hb d_M_night_33 ?_
      refine lv_if_lt (tgt := 41) hx hb d_M_night_34 (by decide) (fun h2 => ?_) (fun h2 => ?_)
      · refine lv_iconst (v := nI 0) hx hb d_M_night_41 (by decide) ?_
        exact g_iret hx hb hr hlocks hW hS (⟨bI_0 (by simp [L_nle (lc_nlt h1), L_nlt (lc_lt h2)]), rfl⟩) d_M_night_42
      · refine lv_iconst (v := nI 1) hx hb d_M_night_37 (by decide) ?_
        refine lv_goto (tgt := 42) hx hb d_M_night_38 (by decide) ?_
        exact g_iret hx hb hr hlocks hW hS (⟨bI_1 (by simp [lc_nlt h2]), rfl⟩) d_M_night_42
  · refine lv_iconst (v := (-1)) hx hb d_M_night_8 (by decide) ?_
    exact g_iret hx hb hr hlocks hW hS (⟨by simp [g1], rfl⟩) d_M_night_9
set_option maxHeartbeats 4000000 in
set_option maxRecDepth 100000 in
/-- haul -/
theorem c_M_haul (l : Launch) {D : va_G} {cI cJ cG : ClassId} {ad : Nat → Nat} {co : Nat → va_E} {dl : List Nat} {a rw sh pg ce mg kn cs sm : Nat} (hdl : ∀ i, 400 ≤ i → i < 427 → i ∈ dl) (h400 : co 400 = mO ad a rw sh pg ce mg kn cs sm) {sec : Nat → Int64} {ln : Nat → Int32} (h405 : co 405 = .inl (cJ, 200, .inr (.inl sec))) (h417 : co 417 = .inl (cI, 200, .inl ln)) (x e9 : Int32) (hn : kn ≤ 200) : gMi l y_M_haul (Cond.code y_M_haul b_M_haul 6 (some .int) :: wA) ({ frames := 1, cells := 0, slots := 0, locals := 23 }) D gCl (gTy cI cJ cG) gNl [.ref (ad 400), .int x, .int e9] ad co dl (fun r co' => r = sHaul kn ln sec x e9 ∧ co' = co) := by
  refine gMi_of (cc := b_M_haul) (maxL := 6) (ret := some .int) (by decide) rfl (Nat.le_of_ble_eq_true rfl) ?_
  intro pp ee s mm below meth cd ls hC hW hS hl
  obtain ⟨hx, hb, hr, hts0, hown, hlocks, hml, hK, hN⟩ := hC
  have hts : ∀ w ∈ wA, w.before _ s = true := fun w h => hts0 w (List.mem_cons_of_mem _ h)
  have hA : ∀ q, s.heap.size ≤ q → gA ad co dl s.heap.size q := fun q h => Or.inr h
  have hl : lv_has ls 6 [(0, .ref (ad 400)), (1, .int x), (2, .int e9)] := hl
  have hown : s.vm.findClass R_M = some mm.cls := hown
  refine lv_aload_n hx hb d_M_haul_0 rfl (lv_at hl 0 rfl) ?_
  refine lv_iload_n hx hb d_M_haul_1 rfl (lv_at hl 1 rfl) ?_
  refine g_cVi (As := [.int x]) (rest := []) ⟨hx, hb, hml, hown, hts⟩ (c_M_first l hdl h400 h417 x hn) (gcwV 1 hts q_721 q_718 q_720 qs_19 q_9 (by decide +kernel) ⟨(Nat.le_of_ble_eq_true rfl), (Nat.le_of_ble_eq_true rfl)⟩) gNl_ok hN hK hW hS hA (hdl 400 (by decide) (by decide)) h400 rfl rfl hl.1 rfl (Nat.le_of_ble_eq_true rfl) d_M_haul_2 ⟨Nat.zero_le _, Nat.zero_le _⟩ (fun r co9 H locs hp9 hW hS => ?_)
  obtain ⟨rfl, hco9⟩ := hp9
  rw [hco9] at hW
  refine lv_istore_n (lv' := [(3, .int (sFirst kn ln x)), (0, .ref (ad 400)), (1, .int x), (2, .int e9)]) hx hb d_M_haul_5 rfl hl (by decide) rfl (fun ls hl => ?_)
  refine lv_iload_n hx hb d_M_haul_6 rfl (lv_at hl 0 rfl) ?_
  refine lv_iconst (v := (-1)) hx hb d_M_haul_7 (by decide) ?_
  refine lv_icmp_eq (tgt := 20) hx hb d_M_haul_8 (by decide) (fun h1 => ?_) (fun h1 => ?_)
  · refine lv_iconst (v := (-1)) hx hb d_M_haul_20 (by decide) ?_
    exact g_iret hx hb hr hlocks hW hS (⟨by rw [sHaul, if_pos h1], rfl⟩) d_M_haul_21
  · obtain ⟨f, hf, hf1⟩ := sFirst_lt (by omega) h1
    have hsp : sHaul kn ln sec x e9 = sHaulF kn ln sec f e9 := by rw [sHaul, if_neg h1, hf, nI_clamp (show f < 2 ^ 31 by omega)]
    rw [hf] at hl
    refine lv_iload_n hx hb d_M_haul_11 rfl (lv_at hl 3 rfl) ?_
    refine lv_if_lt (tgt := 20) hx hb d_M_haul_12 (by decide) (fun h2 => ?_) (fun h2 => ?_)
    · refine lv_iconst (v := (-1)) hx hb d_M_haul_20 (by decide) ?_
      exact g_iret hx hb hr hlocks hW hS (⟨by rw [hsp, sHaulF, if_neg (by simp [inB_neg h2])], rfl⟩) d_M_haul_21
    · obtain ⟨j, hj, rfl⟩ := nI_of h2
      refine lv_iload_n hx hb d_M_haul_15 rfl (lv_at hl 3 rfl) ?_
      refine lv_iconst (v := nI 1) hx hb d_M_haul_16 (by decide) ?_
      refine n_icmp_le (tgt := 22) hx hb (by omega) (by omega) d_M_haul_17 (by decide) (fun h3 => ?_) (fun h3 => ?_)
      · have hin : inB (nI j) 2 = true := inB_lt (by omega) (by decide)
        refine lv_iload_n hx hb d_M_haul_22 rfl (lv_at hl 3 rfl) ?_
        refine n_if_ne (tgt := 35) hx hb (by omega) d_M_haul_23 (by decide) (fun h4 => ?_) (fun h4 => ?_)
        · refine lv_aload_n hx hb d_M_haul_35 rfl (lv_at hl 1 rfl) ?_
          refine lv_aload_n hx hb d_M_haul_36 rfl (lv_at hl 1 rfl) ?_
          refine lv_iload_n hx hb d_M_haul_37 rfl (lv_at hl 0 rfl) ?_
          refine g_cVi (As := [.int (nI f)]) (rest := [.ref (ad 400)]) ⟨hx, hb, hml, hown, hts⟩ (c_M_last l hdl h400 h417 f (by omega) hn) (gcwV 1 hts q_725 q_722 q_724 qs_20 q_9 (by decide +kernel) ⟨(Nat.le_of_ble_eq_true rfl), (Nat.le_of_ble_eq_true rfl)⟩) gNl_ok hN hK hW hS hA (hdl 400 (by decide) (by decide)) h400 rfl rfl hl.1 rfl (Nat.le_of_ble_eq_true rfl) d_M_haul_38 ⟨Nat.zero_le _, Nat.zero_le _⟩ (fun r co9 H locs hp8 hW hS => ?_)
          obtain ⟨rfl, hco9⟩ := hp8
          rw [hco9] at hW
          refine g_cVl (As := [.int (nI (sLast kn ln f))]) (rest := []) ⟨hx, hb, hml, hown, hts⟩ (c_M_end l hdl h400 h405 (sLast kn ln f) (lastF_lt (by omega)) hn) (gcwV 1 hts q_709 q_706 q_708 qs_18 q_9 (by decide +kernel) ⟨(Nat.le_of_ble_eq_true rfl), (Nat.le_of_ble_eq_true rfl)⟩) gNl_ok hN hK hW hS hA (hdl 400 (by decide) (by decide)) h400 rfl rfl hl.1 rfl (Nat.le_of_ble_eq_true rfl) d_M_haul_41 ⟨Nat.zero_le _, Nat.zero_le _⟩ (fun r co9 H locs hp9 hW hS => ?_)
          obtain ⟨rfl, hco9⟩ := hp9
          rw [hco9] at hW
          refine lv_lstore (lv' := [(4, .long (sEnd kn sec (sLast kn ln f))), (3, .int (nI f)), (0, .ref (ad 400)), (1, .int x), (2, .int (nI j))]) hx hb d_M_haul_44 hl (by decide) rfl (fun ls hl => ?_)
          refine lv_lload hx hb d_M_haul_46 (lv_at hl 0 rfl) ?_
          refine lv_ldc2 hx hb hown (hts _ q_726) d_M_haul_48 ?_
          refine W.lcmp hx hb d_M_haul_51 ?_
          refine lv_if_le (tgt := 59) hx hb d_M_haul_52 (by decide) (fun h5 => ?_) (fun h5 => ?_)
          · refine lv_lload hx hb d_M_haul_59 (lv_at hl 0 rfl) ?_
            refine lv_l2i (v := (sEnd kn sec (sLast kn ln f)).toInt32) hx hb d_M_haul_61 rfl ?_
            exact g_iret hx hb hr hlocks hW hS (⟨by rw [hsp, sHaulF, if_pos hin, if_neg (show ¬ nI j = 0 from nI_ne0 h4 hj), if_neg (L_nle (lc_le h5))], rfl⟩) d_M_haul_62
          · refine lv_iconst (v := (-1)) hx hb d_M_haul_55 (by decide) ?_
            refine lv_goto (tgt := 62) hx hb d_M_haul_56 (by decide) ?_
            exact g_iret hx hb hr hlocks hW hS (⟨by rw [hsp, sHaulF, if_pos hin, if_neg (show ¬ nI j = 0 from nI_ne0 h4 hj), if_pos (lc_nle h5)], rfl⟩) d_M_haul_62
        · refine lv_aload_n hx hb d_M_haul_26 rfl (lv_at hl 1 rfl) ?_
          refine g_get (C := R_M) (T := F_M) (N := 35) hx hb hts i_M hown hK hW (i := 400) (hdl 400 (by decide) (by decide)) h400 rfl 6 (by decide) (hts _ q_494) (fun _ h9 => h9) rfl d_M_haul_27 ?_
          refine lv_iload_n hx hb d_M_haul_30 rfl (lv_at hl 0 rfl) ?_
          refine n_lald hx hb hK hW 1 (q := 405) (hdl 405 (by decide) (by decide)) h405 rfl (j := f) (by omega) (by omega) d_M_haul_31 ?_
          refine lv_goto (tgt := 44) hx hb d_M_haul_32 (by decide) ?_
          refine lv_lstore (lv' := [(4, .long (sec f)), (3, .int (nI f)), (0, .ref (ad 400)), (1, .int x), (2, .int (nI j))]) hx hb d_M_haul_44 hl (by decide) rfl (fun ls hl => ?_)
          refine lv_lload hx hb d_M_haul_46 (lv_at hl 0 rfl) ?_
          refine lv_ldc2 hx hb hown (hts _ q_726) d_M_haul_48 ?_
          refine W.lcmp hx hb d_M_haul_51 ?_
          refine lv_if_le (tgt := 59) hx hb d_M_haul_52 (by decide) (fun h5 => ?_) (fun h5 => ?_)
          · refine lv_lload hx hb d_M_haul_59 (lv_at hl 0 rfl) ?_
            refine lv_l2i (v := (sec f).toInt32) hx hb d_M_haul_61 rfl ?_
            exact g_iret hx hb hr hlocks hW hS (⟨by rw [hsp, sHaulF, if_pos hin, if_pos (show nI j = 0 by rw [h4]; exact nI_0), if_neg (L_nle (lc_le h5))], rfl⟩) d_M_haul_62
          · refine lv_iconst (v := (-1)) hx hb d_M_haul_55 (by decide) ?_
            refine lv_goto (tgt := 62) hx hb d_M_haul_56 (by decide) ?_
            exact g_iret hx hb hr hlocks hW hS (⟨by rw [hsp, sHaulF, if_pos hin, if_pos (show nI j = 0 by rw [h4]; exact nI_0), if_pos (lc_nle h5)], rfl⟩) d_M_haul_62
      · refine lv_iconst (v := (-1)) hx hb d_M_haul_20 (by decide) ?_
        exact g_iret hx hb hr hlocks hW hS (⟨by rw [hsp, sHaulF, if_neg (by simp [inB_ge hj (show 2 ≤ j by omega)])], rfl⟩) d_M_haul_21
set_option maxHeartbeats 4000000 in
set_option maxRecDepth 100000 in
/-- gear -/
theorem c_M_gear (l : Launch) {D : va_G} {cI cJ cG : ClassId} {ad : Nat → Nat} {co : Nat → va_E} {dl : List Nat} {a rw sh pg ce mg kn cs sm : Nat} (hdl : ∀ i, 400 ≤ i → i < 427 → i ∈ dl) (h400 : co 400 = mO ad a rw sh pg ce mg kn cs sm) {trn : Nat → Int32} {ln : Nat → Int32} (h407 : co 407 = .inl (cI, 200, .inl trn)) (h417 : co 417 = .inl (cI, 200, .inl ln)) (x : Int32) (hn : kn ≤ 200) : gMi l y_M_gear (Cond.code y_M_gear b_M_gear 5 (some .int) :: wA) ({ frames := 1, cells := 0, slots := 0, locals := 23 }) D gCl (gTy cI cJ cG) gNl [.ref (ad 400), .int x] ad co dl (fun r co' => r = sGear kn ln trn x ∧ co' = co) := by
  refine gMi_of (cc := b_M_gear) (maxL := 5) (ret := some .int) (by decide) rfl (Nat.le_of_ble_eq_true rfl) ?_
  intro pp ee s mm below meth cd ls hC hW hS hl
  obtain ⟨hx, hb, hr, hts0, hown, hlocks, hml, hK, hN⟩ := hC
  have hts : ∀ w ∈ wA, w.before _ s = true := fun w h => hts0 w (List.mem_cons_of_mem _ h)
  have hA : ∀ q, s.heap.size ≤ q → gA ad co dl s.heap.size q := fun q h => Or.inr h
  have hl : lv_has ls 5 [(0, .ref (ad 400)), (1, .int x)] := hl
  have hown : s.vm.findClass R_M = some mm.cls := hown
  refine lv_aload_n hx hb d_M_gear_0 rfl (lv_at hl 0 rfl) ?_
  refine lv_iload_n hx hb d_M_gear_1 rfl (lv_at hl 1 rfl) ?_
  refine g_cVi (As := [.int x]) (rest := []) ⟨hx, hb, hml, hown, hts⟩ (c_M_first l hdl h400 h417 x hn) (gcwV 1 hts q_721 q_718 q_720 qs_19 q_9 (by decide +kernel) ⟨(Nat.le_of_ble_eq_true rfl), (Nat.le_of_ble_eq_true rfl)⟩) gNl_ok hN hK hW hS hA (hdl 400 (by decide) (by decide)) h400 rfl rfl hl.1 rfl (Nat.le_of_ble_eq_true rfl) d_M_gear_2 ⟨Nat.zero_le _, Nat.zero_le _⟩ (fun r co9 H locs hp9 hW hS => ?_)
  obtain ⟨rfl, hco9⟩ := hp9
  rw [hco9] at hW
  refine lv_istore_n (lv' := [(2, .int (sFirst kn ln x)), (0, .ref (ad 400)), (1, .int x)]) hx hb d_M_gear_5 rfl hl (by decide) rfl (fun ls hl => ?_)
  refine lv_iload_n hx hb d_M_gear_6 rfl (lv_at hl 0 rfl) ?_
  refine lv_iconst (v := (-1)) hx hb d_M_gear_7 (by decide) ?_
  refine lv_icmp_ne (tgt := 13) hx hb d_M_gear_8 (by decide) (fun h1 => ?_) (fun h1 => ?_)
  · obtain ⟨f, hf, hf1⟩ := sFirst_lt (by omega) h1
    have hsp : sGear kn ln trn x = sGearF kn ln trn f := by rw [sGear, if_neg h1, hf, nI_clamp (show f < 2 ^ 31 by omega)]
    obtain ⟨g, hg⟩ : ∃ g, g = sLast kn ln f := ⟨_, rfl⟩
    have hg0 : f ≤ g := by rw [hg]; exact lastF_ge
    have hg1 : g < kn := by rw [hg]; exact lastF_lt (by omega)
    rw [sGearF, ← hg] at hsp
    have hT : ∀ d, turnsF trn f d ≤ d := by
      intro d
      induction d with
      | zero => exact Nat.le_refl 0
      | succ d ih => unfold turnsF; split <;> omega
    rw [hf] at hl
    refine lv_iconst (v := nI 0) hx hb d_M_gear_13 (by decide) ?_
    refine lv_istore_n (lv' := [(3, .int (nI 0)), (2, .int (nI f)), (0, .ref (ad 400)), (1, .int x)]) hx hb d_M_gear_14 rfl hl (by decide) rfl (fun ls hl => ?_)
    refine lv_iload_n hx hb d_M_gear_15 rfl (lv_at hl 1 rfl) ?_
    refine lv_istore (lv' := [(4, .int (nI f)), (3, .int (nI 0)), (2, .int (nI f)), (0, .ref (ad 400)), (1, .int x)]) hx hb d_M_gear_16 hl (by decide) rfl (fun ls hl => ?_)
    suffices hloop : ∀ (d z : Nat) (H : Heap) (locs : List Loc) (ls : Array Slot), (f + z ≤ g + 1) → (g + 2 ≤ f + z + d) → gW D gCl (gA ad co dl s.heap.size) ad co dl H → va_S (gA ad co dl s.heap.size) s.heap H locs → lv_has ls 5 [(0, .ref (ad 400)), (1, .int x), (2, .int (nI f)), (3, .int (nI (turnsF trn f z))), (4, .int (nI (f + z)))] → W pp l ee _ s mm _ below meth cd H locs 0 0 _ (F0 mm 18 ls []) by
      exact hloop (g + 2 - f) 0 _ _ ls (by omega) (by omega) hW hS (lv_sub hl [3, 4, 2, 1, 0] rfl)
    clear hW hS hl
    intro d
    induction d with
    | zero => intro z H locs ls hz hd; omega
    | succ d ih =>
      intro z H locs ls hz hd hW hS hl
      have hTz := hT z
      refine lv_iload hx hb d_M_gear_18 (lv_at hl 4 rfl) ?_
      refine lv_aload_n hx hb d_M_gear_20 rfl (lv_at hl 0 rfl) ?_
      refine lv_iload_n hx hb d_M_gear_21 rfl (lv_at hl 2 rfl) ?_
      refine g_cVi (As := [.int (nI f)]) (rest := [.int (nI (f + z))]) ⟨hx, hb, hml, hown, hts⟩ (c_M_last l hdl h400 h417 f (by omega) hn) (gcwV 1 hts q_725 q_722 q_724 qs_20 q_9 (by decide +kernel) ⟨(Nat.le_of_ble_eq_true rfl), (Nat.le_of_ble_eq_true rfl)⟩) gNl_ok hN hK hW hS hA (hdl 400 (by decide) (by decide)) h400 rfl rfl hl.1 rfl (Nat.le_of_ble_eq_true rfl) d_M_gear_22 ⟨Nat.zero_le _, Nat.zero_le _⟩ (fun r co9 H locs hp8 hW hS => ?_)
      obtain ⟨rfl, hco9⟩ := hp8
      rw [hco9] at hW
      rw [← hg]
      refine n_icmp_gt (tgt := 53) hx hb (by omega) (by omega) d_M_gear_25 (by decide) (fun h2 => ?_) (fun h2 => ?_)
      · have hzz : z = g - f + 1 := by omega
        refine lv_iconst (v := nI 2) hx hb d_M_gear_53 (by decide) ?_
        refine lv_iload_n hx hb d_M_gear_54 rfl (lv_at hl 3 rfl) ?_
        refine n_mul hx hb d_M_gear_55 ?_
        refine lv_aload_n hx hb d_M_gear_56 rfl (lv_at hl 0 rfl) ?_
        refine lv_iload_n hx hb d_M_gear_57 rfl (lv_at hl 2 rfl) ?_
        refine g_cVi (As := [.int (nI f)]) (rest := [.int (nI (2 * (turnsF trn f z)))]) ⟨hx, hb, hml, hown, hts⟩ (c_M_last l hdl h400 h417 f (by omega) hn) (gcwV 1 hts q_725 q_722 q_724 qs_20 q_9 (by decide +kernel) ⟨(Nat.le_of_ble_eq_true rfl), (Nat.le_of_ble_eq_true rfl)⟩) gNl_ok hN hK hW hS hA (hdl 400 (by decide) (by decide)) h400 rfl rfl hl.1 rfl (Nat.le_of_ble_eq_true rfl) d_M_gear_58 ⟨Nat.zero_le _, Nat.zero_le _⟩ (fun r co9 H locs hp8 hW hS => ?_)
        obtain ⟨rfl, hco9⟩ := hp8
        rw [hco9] at hW
        rw [← hg]
        refine lv_iload_n hx hb d_M_gear_61 rfl (lv_at hl 2 rfl) ?_
        refine n_sub hx hb (by omega) d_M_gear_62 ?_
        refine lv_iconst (v := nI 1) hx hb d_M_gear_63 (by decide) ?_
        refine n_add hx hb d_M_gear_64 ?_
        refine n_icmp_le (tgt := 72) hx hb (by omega) (by omega) d_M_gear_65 (by decide) (fun h3 => ?_) (fun h3 => ?_)
        · refine lv_iconst (v := nI 0) hx hb d_M_gear_72 (by decide) ?_
          exact g_iret hx hb hr hlocks hW hS (⟨by rw [hsp, ← hzz]; exact bI_0 (decide_eq_false (by omega)), rfl⟩) d_M_gear_73
        · refine lv_iconst (v := nI 1) hx hb d_M_gear_68 (by decide) ?_
          refine lv_goto (tgt := 73) hx hb d_M_gear_69 (by decide) ?_
          exact g_iret hx hb hr hlocks hW hS (⟨by rw [hsp, ← hzz]; exact bI_1 (decide_eq_true (by omega)), rfl⟩) d_M_gear_73
      · refine lv_iload_n hx hb d_M_gear_28 rfl (lv_at hl 3 rfl) ?_
        refine lv_aload_n hx hb d_M_gear_29 rfl (lv_at hl 0 rfl) ?_
        refine g_get (C := R_M) (T := F_M) (N := 35) hx hb hts i_M hown hK hW (i := 400) (hdl 400 (by decide) (by decide)) h400 rfl 8 (by decide) (hts _ q_496) (fun _ h9 => h9) rfl d_M_gear_30 ?_
        refine lv_iload hx hb d_M_gear_33 (lv_at hl 4 rfl) ?_
        refine n_iald hx hb hK hW 0 (q := 407) (hdl 407 (by decide) (by decide)) h407 rfl (j := f + z) (by omega) (by omega) d_M_gear_35 ?_
        refine lv_iconst (v := nI 2) hx hb d_M_gear_36 (by decide) ?_
        refine lv_icmp_lt (tgt := 44) hx hb d_M_gear_37 (by decide) (fun h3 => ?_) (fun h3 => ?_)
        · refine lv_iconst (v := nI 0) hx hb d_M_gear_44 (by decide) ?_
          refine n_add hx hb d_M_gear_45 ?_
          refine n_topi (show nI ((turnsF trn f z) + 0) = nI (turnsF trn f (z + 1)) from by rw [turnsF, if_neg (Int32.not_le.mpr h3)]) ?_
          refine lv_istore_n (lv' := [(3, .int (nI (turnsF trn f (z + 1)))), (0, .ref (ad 400)), (1, .int x), (2, .int (nI f)), (4, .int (nI (f + z)))]) hx hb d_M_gear_46 rfl hl (by decide) rfl (fun ls hl => ?_)
          refine n_iinc (lv' := [(4, .int (nI (f + z + 1))), (3, .int (nI (turnsF trn f (z + 1)))), (0, .ref (ad 400)), (1, .int x), (2, .int (nI f))]) hx hb d_M_gear_47 hl (k := 4) rfl (by decide) rfl (fun ls hl => ?_)
          refine lv_goto (tgt := 18) hx hb d_M_gear_50 (by decide) ?_
          exact ih (z + 1) _ _ ls (by omega) (by omega) hW hS (lv_sub hl [2, 3, 4, 1, 0] rfl)
        · refine lv_iconst (v := nI 1) hx hb d_M_gear_40 (by decide) ?_
          refine lv_goto (tgt := 45) hx hb d_M_gear_41 (by decide) ?_
          refine n_add hx hb d_M_gear_45 ?_
          refine n_topi (show nI ((turnsF trn f z) + 1) = nI (turnsF trn f (z + 1)) from by rw [turnsF, if_pos (Int32.not_lt.mp h3)]) ?_
          refine lv_istore_n (lv' := [(3, .int (nI (turnsF trn f (z + 1)))), (0, .ref (ad 400)), (1, .int x), (2, .int (nI f)), (4, .int (nI (f + z)))]) hx hb d_M_gear_46 rfl hl (by decide) rfl (fun ls hl => ?_)
          refine n_iinc (lv' := [(4, .int (nI (f + z + 1))), (3, .int (nI (turnsF trn f (z + 1)))), (0, .ref (ad 400)), (1, .int x), (2, .int (nI f))]) hx hb d_M_gear_47 hl (k := 4) rfl (by decide) rfl (fun ls hl => ?_)
          refine lv_goto (tgt := 18) hx hb d_M_gear_50 (by decide) ?_
          exact ih (z + 1) _ _ ls (by omega) (by omega) hW hS (lv_sub hl [2, 3, 4, 1, 0] rfl)
  · refine lv_iconst (v := (-1)) hx hb d_M_gear_11 (by decide) ?_
    exact g_iret hx hb hr hlocks hW hS (⟨by rw [sGear, if_pos h1], rfl⟩) d_M_gear_12
end
section
set_option maxHeartbeats 4000000 in
set_option maxRecDepth 100000 in
/-- differs -/
theorem c_M_differs (l : Launch) {D : va_G} {cI cJ cG : ClassId} {ad : Nat → Nat} {co : Nat → va_E} {dl : List Nat} {a rw sh pg ce mg kn cs sm : Nat} (hdl : ∀ i, 400 ≤ i → i < 427 → i ∈ dl) (h400 : co 400 = mO ad a rw sh pg ce mg kn cs sm) {sec : Nat → Int64} {pf : Nat → Int64} {pt : Nat → Int64} {pa : Nat → Int32} {ln : Nat → Int32} (h405 : co 405 = .inl (cJ, 200, .inr (.inl sec))) (h410 : co 410 = .inl (cJ, 50, .inr (.inl pf))) (h411 : co 411 = .inl (cJ, 50, .inr (.inl pt))) (h412 : co 412 = .inl (cI, 50, .inl pa)) (h417 : co 417 = .inl (cI, 200, .inl ln)) (x e9 : Int32) (hn : kn ≤ 200) (hp : pg ≤ 50) : gMi l y_M_differs (Cond.code y_M_differs b_M_differs 6 (some .int) :: wA) ({ frames := 1, cells := 0, slots := 0, locals := 23 }) D gCl (gTy cI cJ cG) gNl [.ref (ad 400), .int x, .int e9] ad co dl (fun r co' => r = sDiffers kn pg pf pt pa ln sec x e9 ∧ co' = co) := by
  refine gMi_of (cc := b_M_differs) (maxL := 6) (ret := some .int) (by decide) rfl (Nat.le_of_ble_eq_true rfl) ?_
  intro pp ee s mm below meth cd ls hC hW hS hl
  obtain ⟨hx, hb, hr, hts0, hown, hlocks, hml, hK, hN⟩ := hC
  have hts : ∀ w ∈ wA, w.before _ s = true := fun w h => hts0 w (List.mem_cons_of_mem _ h)
  have hA : ∀ q, s.heap.size ≤ q → gA ad co dl s.heap.size q := fun q h => Or.inr h
  have hl : lv_has ls 6 [(0, .ref (ad 400)), (1, .int x), (2, .int e9)] := hl
  have hown : s.vm.findClass R_M = some mm.cls := hown
  by_cases hx0 : x < 0
  · refine lv_iload_n hx hb d_M_differs_0 rfl (lv_at hl 1 rfl) ?_
    refine lv_istore_n (lv' := [(3, .int x), (0, .ref (ad 400)), (1, .int x), (2, .int e9)]) hx hb d_M_differs_1 rfl hl (by decide) rfl (fun ls hl => ?_)
    refine lv_iconst (v := nI 0) hx hb d_M_differs_2 (by decide) ?_
    refine lv_istore (lv' := [(4, .int (nI 0)), (3, .int x), (0, .ref (ad 400)), (1, .int x), (2, .int e9)]) hx hb d_M_differs_3 hl (by decide) rfl (fun ls hl => ?_)
    refine lv_iload hx hb d_M_differs_5 (lv_at hl 0 rfl) ?_
    refine lv_aload_n hx hb d_M_differs_7 rfl (lv_at hl 2 rfl) ?_
    refine g_get (C := R_M) (T := F_M) (N := 35) hx hb hts i_M hown hK hW (i := 400) (hdl 400 (by decide) (by decide)) h400 rfl 22 (by decide) (hts _ q_510) (fun _ h9 => h9) rfl d_M_differs_8 ?_
    refine n_icmp_ge (tgt := 83) hx hb (by omega) (by omega) d_M_differs_11 (by decide) (fun h1 => ?_) (fun h1 => ?_)
    · refine lv_iconst (v := (-1)) hx hb d_M_differs_83 (by decide) ?_
      exact g_iret hx hb hr hlocks hW hS (⟨by rw [sDiffers, if_pos hx0], rfl⟩) d_M_differs_84
    · refine lv_iload_n hx hb d_M_differs_14 rfl (lv_at hl 3 rfl) ?_
      refine lv_if_lt (tgt := 83) hx hb d_M_differs_15 (by decide) (fun h2 => ?_) (fun h2 => ?_)
      · refine lv_iconst (v := (-1)) hx hb d_M_differs_83 (by decide) ?_
        exact g_iret hx hb hr hlocks hW hS (⟨by rw [sDiffers, if_pos hx0], rfl⟩) d_M_differs_84
      · exact absurd hx0 h2
  · have hsp : sDiffers kn pg pf pt pa ln sec x e9 = _ := if_neg hx0
    obtain ⟨j, hj, rfl⟩ := nI_of hx0
    rw [nI_clamp hj] at hsp
    by_cases he0 : e9 < 0
    · refine lv_iload_n hx hb d_M_differs_0 rfl (lv_at hl 1 rfl) ?_
      refine lv_istore_n (lv' := [(3, .int (nI j)), (0, .ref (ad 400)), (1, .int (nI j)), (2, .int e9)]) hx hb d_M_differs_1 rfl hl (by decide) rfl (fun ls hl => ?_)
      refine lv_iconst (v := nI 0) hx hb d_M_differs_2 (by decide) ?_
      refine lv_istore (lv' := [(4, .int (nI 0)), (3, .int (nI j)), (0, .ref (ad 400)), (1, .int (nI j)), (2, .int e9)]) hx hb d_M_differs_3 hl (by decide) rfl (fun ls hl => ?_)
      refine lv_iload hx hb d_M_differs_5 (lv_at hl 0 rfl) ?_
      refine lv_aload_n hx hb d_M_differs_7 rfl (lv_at hl 2 rfl) ?_
      refine g_get (C := R_M) (T := F_M) (N := 35) hx hb hts i_M hown hK hW (i := 400) (hdl 400 (by decide) (by decide)) h400 rfl 22 (by decide) (hts _ q_510) (fun _ h9 => h9) rfl d_M_differs_8 ?_
      refine n_icmp_ge (tgt := 83) hx hb (by omega) (by omega) d_M_differs_11 (by decide) (fun h1 => ?_) (fun h1 => ?_)
      · refine lv_iconst (v := (-1)) hx hb d_M_differs_83 (by decide) ?_
        exact g_iret hx hb hr hlocks hW hS (⟨by rw [hsp, if_neg (by simp [inB_neg he0])], rfl⟩) d_M_differs_84
      · refine lv_iload_n hx hb d_M_differs_14 rfl (lv_at hl 3 rfl) ?_
        refine n_if_lt (tgt := 83) hx hb (by omega) d_M_differs_15 (by decide) ?_
        refine lv_iload_n hx hb d_M_differs_18 rfl (lv_at hl 4 rfl) ?_
        refine lv_if_lt (tgt := 83) hx hb d_M_differs_19 (by decide) (fun h3 => ?_) (fun h3 => ?_)
        · refine lv_iconst (v := (-1)) hx hb d_M_differs_83 (by decide) ?_
          exact g_iret hx hb hr hlocks hW hS (⟨by rw [hsp, if_neg (by simp [inB_neg he0])], rfl⟩) d_M_differs_84
        · exact absurd he0 h3
    · obtain ⟨u, hu, rfl⟩ := nI_of he0
      by_cases he2 : 2 ≤ u
      · refine lv_iload_n hx hb d_M_differs_0 rfl (lv_at hl 1 rfl) ?_
        refine lv_istore_n (lv' := [(3, .int (nI j)), (0, .ref (ad 400)), (1, .int (nI j)), (2, .int (nI u))]) hx hb d_M_differs_1 rfl hl (by decide) rfl (fun ls hl => ?_)
        refine lv_iconst (v := nI 0) hx hb d_M_differs_2 (by decide) ?_
        refine lv_istore (lv' := [(4, .int (nI 0)), (3, .int (nI j)), (0, .ref (ad 400)), (1, .int (nI j)), (2, .int (nI u))]) hx hb d_M_differs_3 hl (by decide) rfl (fun ls hl => ?_)
        refine lv_iload hx hb d_M_differs_5 (lv_at hl 0 rfl) ?_
        refine lv_aload_n hx hb d_M_differs_7 rfl (lv_at hl 2 rfl) ?_
        refine g_get (C := R_M) (T := F_M) (N := 35) hx hb hts i_M hown hK hW (i := 400) (hdl 400 (by decide) (by decide)) h400 rfl 22 (by decide) (hts _ q_510) (fun _ h9 => h9) rfl d_M_differs_8 ?_
        refine n_icmp_ge (tgt := 83) hx hb (by omega) (by omega) d_M_differs_11 (by decide) (fun h1 => ?_) (fun h1 => ?_)
        · refine lv_iconst (v := (-1)) hx hb d_M_differs_83 (by decide) ?_
          exact g_iret hx hb hr hlocks hW hS (⟨by rw [hsp, if_neg (by simp [inB_ge hu he2])], rfl⟩) d_M_differs_84
        · refine lv_iload_n hx hb d_M_differs_14 rfl (lv_at hl 3 rfl) ?_
          refine n_if_lt (tgt := 83) hx hb (by omega) d_M_differs_15 (by decide) ?_
          refine lv_iload_n hx hb d_M_differs_18 rfl (lv_at hl 4 rfl) ?_
          refine n_if_lt (tgt := 83) hx hb (by omega) d_M_differs_19 (by decide) ?_
          refine lv_iload_n hx hb d_M_differs_22 rfl (lv_at hl 4 rfl) ?_
          refine lv_iconst (v := nI 2) hx hb d_M_differs_23 (by decide) ?_
          refine n_icmp_ge (tgt := 83) hx hb (by omega) (by omega) d_M_differs_24 (by decide) (fun h4 => ?_) (fun h4 => ?_)
          · refine lv_iconst (v := (-1)) hx hb d_M_differs_83 (by decide) ?_
            exact g_iret hx hb hr hlocks hW hS (⟨by rw [hsp, if_neg (by simp [inB_ge hu he2])], rfl⟩) d_M_differs_84
          · omega
      · rw [if_pos (inB_lt (by omega) (by decide))] at hsp
        refine lv_iload_n hx hb d_M_differs_0 rfl (lv_at hl 1 rfl) ?_
        refine lv_istore_n (lv' := [(3, .int (nI j)), (0, .ref (ad 400)), (1, .int (nI j)), (2, .int (nI u))]) hx hb d_M_differs_1 rfl hl (by decide) rfl (fun ls hl => ?_)
        refine lv_iconst (v := nI 0) hx hb d_M_differs_2 (by decide) ?_
        refine lv_istore (lv' := [(4, .int (nI 0)), (3, .int (nI j)), (0, .ref (ad 400)), (1, .int (nI j)), (2, .int (nI u))]) hx hb d_M_differs_3 hl (by decide) rfl (fun ls hl => ?_)
        suffices hloop : ∀ (d k q : Nat) (H : Heap) (locs : List Loc) (ls : Array Slot), (k ≤ kn) → (kn + 1 ≤ k + d) → (nthF (sDif pg pf pt pa ln sec) kn 0 j = nthF (sDif pg pf pt pa ln sec) (kn - k) k q) → (q ≤ j) → gW D gCl (gA ad co dl s.heap.size) ad co dl H → va_S (gA ad co dl s.heap.size) s.heap H locs → lv_has ls 6 [(0, .ref (ad 400)), (1, .int (nI j)), (2, .int (nI u)), (3, .int (nI q)), (4, .int (nI k))] → W pp l ee _ s mm _ below meth cd H locs 0 0 _ (F0 mm 5 ls []) by
          exact hloop (kn + 1) 0 j _ _ ls (by omega) (by omega) rfl (Nat.le_refl j) hW hS (lv_sub hl [2, 3, 4, 1, 0] rfl)
        clear hW hS hl
        intro d
        induction d with
        | zero => intro k q H locs ls hk hd hv hqj; omega
        | succ d ih =>
          intro k q H locs ls hk hd hv hqj hW hS hl
          refine lv_iload hx hb d_M_differs_5 (lv_at hl 4 rfl) ?_
          refine lv_aload_n hx hb d_M_differs_7 rfl (lv_at hl 0 rfl) ?_
          refine g_get (C := R_M) (T := F_M) (N := 35) hx hb hts i_M hown hK hW (i := 400) (hdl 400 (by decide) (by decide)) h400 rfl 22 (by decide) (hts _ q_510) (fun _ h9 => h9) rfl d_M_differs_8 ?_
          refine n_icmp_ge (tgt := 83) hx hb (by omega) (by omega) d_M_differs_11 (by decide) (fun h1 => ?_) (fun h1 => ?_)
          · have hkk : k = kn := by omega
            subst hkk
            rw [Nat.sub_self] at hv
            have hv : nthF (sDif pg pf pt pa ln sec) k 0 j = -1 := hv
            refine lv_iconst (v := (-1)) hx hb d_M_differs_83 (by decide) ?_
            exact g_iret hx hb hr hlocks hW hS (⟨by rw [hsp, if_pos hv], rfl⟩) d_M_differs_84
          · have hs : kn - k = (kn - (k + 1)) + 1 := by omega
            refine lv_iload_n hx hb d_M_differs_14 rfl (lv_at hl 1 rfl) ?_
            refine n_if_lt (tgt := 83) hx hb (by omega) d_M_differs_15 (by decide) ?_
            refine lv_iload_n hx hb d_M_differs_18 rfl (lv_at hl 2 rfl) ?_
            refine n_if_lt (tgt := 83) hx hb (by omega) d_M_differs_19 (by decide) ?_
            refine lv_iload_n hx hb d_M_differs_22 rfl (lv_at hl 2 rfl) ?_
            refine lv_iconst (v := nI 2) hx hb d_M_differs_23 (by decide) ?_
            refine n_icmp_ge (tgt := 83) hx hb (by omega) (by omega) d_M_differs_24 (by decide) (fun h2 => ?_) (fun h2 => ?_)
            · omega
            · refine lv_aload_n hx hb d_M_differs_27 rfl (lv_at hl 0 rfl) ?_
              refine lv_aload_n hx hb d_M_differs_28 rfl (lv_at hl 0 rfl) ?_
              refine g_get (C := R_M) (T := F_M) (N := 35) hx hb hts i_M hown hK hW (i := 400) (hdl 400 (by decide) (by decide)) h400 rfl 6 (by decide) (hts _ q_494) (fun _ h9 => h9) rfl d_M_differs_29 ?_
              refine lv_iload hx hb d_M_differs_32 (lv_at hl 4 rfl) ?_
              refine n_lald hx hb hK hW 1 (q := 405) (hdl 405 (by decide) (by decide)) h405 rfl (j := k) (by omega) (by omega) d_M_differs_34 ?_
              refine g_cVi (As := [.long (sec k)]) (rest := []) ⟨hx, hb, hml, hown, hts⟩ (c_M_told l hdl h400 h410 h411 h412 (sec k) hp) (gcwV 1 hts q_738 q_735 q_737 qs_21 q_9 (by decide +kernel) ⟨(Nat.le_of_ble_eq_true rfl), (Nat.le_of_ble_eq_true rfl)⟩) gNl_ok hN hK hW hS hA (hdl 400 (by decide) (by decide)) h400 rfl rfl hl.1 rfl (Nat.le_of_ble_eq_true rfl) d_M_differs_35 ⟨Nat.zero_le _, Nat.zero_le _⟩ (fun r co9 H locs hp9 hW hS => ?_)
              obtain ⟨rfl, hco9⟩ := hp9
              rw [hco9] at hW
              refine lv_istore (lv' := [(5, .int (toldF pf pt pa (sec k) pg)), (0, .ref (ad 400)), (1, .int (nI j)), (2, .int (nI u)), (3, .int (nI q)), (4, .int (nI k))]) hx hb d_M_differs_38 hl (by decide) rfl (fun ls hl => ?_)
              refine lv_iload hx hb d_M_differs_40 (lv_at hl 0 rfl) ?_
              refine lv_iconst (v := (-1)) hx hb d_M_differs_42 (by decide) ?_
              refine lv_icmp_eq (tgt := 77) hx hb d_M_differs_43 (by decide) (fun h3 => ?_) (fun h3 => ?_)
              · refine n_iinc (lv' := [(4, .int (nI (k + 1))), (5, .int (toldF pf pt pa (sec k) pg)), (0, .ref (ad 400)), (1, .int (nI j)), (2, .int (nI u)), (3, .int (nI q))]) hx hb d_M_differs_77 hl (k := 5) rfl (by decide) rfl (fun ls hl => ?_)
                refine lv_goto (tgt := 5) hx hb d_M_differs_80 (by decide) ?_
                exact ih (k + 1) q _ _ ls (by omega) (by omega) (by rw [hv, hs, nthF, if_neg (by simp [sDif, h3])]) hqj hW hS (lv_sub hl [2, 3, 4, 5, 0] rfl)
              · refine lv_iload hx hb d_M_differs_46 (lv_at hl 0 rfl) ?_
                refine lv_aload_n hx hb d_M_differs_48 rfl (lv_at hl 1 rfl) ?_
                refine g_get (C := R_M) (T := F_M) (N := 35) hx hb hts i_M hown hK hW (i := 400) (hdl 400 (by decide) (by decide)) h400 rfl 23 (by decide) (hts _ q_511) (fun _ h9 => h9) rfl d_M_differs_49 ?_
                refine lv_iload hx hb d_M_differs_52 (lv_at hl 5 rfl) ?_
                refine n_iald hx hb hK hW 0 (q := 417) (hdl 417 (by decide) (by decide)) h417 rfl (j := k) (by omega) (by omega) d_M_differs_54 ?_
                refine lv_icmp_eq (tgt := 77) hx hb d_M_differs_55 (by decide) (fun h4 => ?_) (fun h4 => ?_)
                · refine n_iinc (lv' := [(4, .int (nI (k + 1))), (5, .int (toldF pf pt pa (sec k) pg)), (0, .ref (ad 400)), (1, .int (nI j)), (2, .int (nI u)), (3, .int (nI q))]) hx hb d_M_differs_77 hl (k := 5) rfl (by decide) rfl (fun ls hl => ?_)
                  refine lv_goto (tgt := 5) hx hb d_M_differs_80 (by decide) ?_
                  exact ih (k + 1) q _ _ ls (by omega) (by omega) (by rw [hv, hs, nthF, if_neg (by simp [sDif, h4])]) hqj hW hS (lv_sub hl [2, 3, 4, 5, 0] rfl)
                · have hst : (sDif pg pf pt pa ln sec) k = true := by simp [sDif, h3, h4]
                  refine lv_iload_n hx hb d_M_differs_58 rfl (lv_at hl 4 rfl) ?_
                  refine n_if_ne (tgt := 74) hx hb (by omega) d_M_differs_59 (by decide) (fun h5 => ?_) (fun h5 => ?_)
                  · obtain ⟨q, rfl⟩ : ∃ z, q = z + 1 := ⟨q - 1, by omega⟩
                    refine n_idec (lv' := [(3, .int (nI q)), (5, .int (toldF pf pt pa (sec k) pg)), (0, .ref (ad 400)), (1, .int (nI j)), (2, .int (nI u)), (4, .int (nI k))]) hx hb d_M_differs_74 hl (k := 4) rfl (by decide) rfl (fun ls hl => ?_)
                    refine n_iinc (lv' := [(4, .int (nI (k + 1))), (3, .int (nI q)), (5, .int (toldF pf pt pa (sec k) pg)), (0, .ref (ad 400)), (1, .int (nI j)), (2, .int (nI u))]) hx hb d_M_differs_77 hl (k := 5) rfl (by decide) rfl (fun ls hl => ?_)
                    refine lv_goto (tgt := 5) hx hb d_M_differs_80 (by decide) ?_
                    exact ih (k + 1) q _ _ ls (by omega) (by omega) (by rw [hv, hs, nthF, if_pos hst, if_neg (by omega)]; rfl) (by omega) hW hS (lv_sub hl [3, 4, 5, 1, 0] rfl)
                  · rw [hs, nthF, if_pos hst, if_pos h5] at hv
                    rw [hv, if_neg (nI_ne_m1 (by omega)), nI_clamp (show k < 2 ^ 31 by omega)] at hsp
                    refine lv_iload_n hx hb d_M_differs_62 rfl (lv_at hl 3 rfl) ?_
                    refine n_if_ne (tgt := 71) hx hb (by omega) d_M_differs_63 (by decide) (fun h6 => ?_) (fun h6 => ?_)
                    · refine lv_iload hx hb d_M_differs_71 (lv_at hl 0 rfl) ?_
                      exact g_iret hx hb hr hlocks hW hS (⟨by rw [hsp, if_neg (nI_ne0 h6 hu)], rfl⟩) d_M_differs_73
                    · refine lv_iload hx hb d_M_differs_66 (lv_at hl 5 rfl) ?_
                      refine lv_goto (tgt := 73) hx hb d_M_differs_68 (by decide) ?_
                      exact g_iret hx hb hr hlocks hW hS (⟨by rw [hsp, if_pos (show nI u = 0 by rw [h6]; exact nI_0)], rfl⟩) d_M_differs_73
set_option maxHeartbeats 4000000 in
set_option maxRecDepth 100000 in
/-- map -/
theorem c_M_map (l : Launch) {D : va_G} {cI cJ cG : ClassId} {ad : Nat → Nat} {co : Nat → va_E} {dl : List Nat} {a rw sh pg ce mg kn cs sm : Nat} (hdl : ∀ i, 400 ≤ i → i < 427 → i ∈ dl) (h400 : co 400 = mO ad a rw sh pg ce mg kn cs sm) {cr : Nat → Int32} {cx : Nat → Int32} {cy : Nat → Int32} {ct : Nat → Int64} {ln : Nat → Int32} (h413 : co 413 = .inl (cI, 300, .inl cr)) (h414 : co 414 = .inl (cI, 300, .inl cx)) (h415 : co 415 = .inl (cI, 300, .inl cy)) (h416 : co 416 = .inl (cJ, 300, .inr (.inl ct))) (h417 : co 417 = .inl (cI, 200, .inl ln)) (x y : Int32) (hn : kn ≤ 200) (hc : ce ≤ 300) (hcr : ∀ i, i < ce → ∃ r, cr i = nI r ∧ r < 200) : gMl l y_M_map (Cond.code y_M_map b_M_map 6 (some .long) :: wA) ({ frames := 0, cells := 0, slots := 0, locals := 0 }) D gCl (gTy cI cJ cG) gNl [.ref (ad 400), .int x, .int y] ad co dl (fun r co' => r = (if 0 < kn ∧ inB x 20 = true ∧ inB y 20 = true then sMap kn ln cr cx cy ct x y ce else -1) ∧ co' = co) := by
  refine gMl_of (cc := b_M_map) (maxL := 6) (ret := some .long) (by decide) rfl (Nat.le_of_ble_eq_true rfl) ?_
  intro pp ee s mm below meth cd ls hC hW hS hl
  obtain ⟨hx, hb, hr, hts0, hown, hlocks, hml, hK, hN⟩ := hC
  have hts : ∀ w ∈ wA, w.before _ s = true := fun w h => hts0 w (List.mem_cons_of_mem _ h)
  have hA : ∀ q, s.heap.size ≤ q → gA ad co dl s.heap.size q := fun q h => Or.inr h
  have hl : lv_has ls 6 [(0, .ref (ad 400)), (1, .int x), (2, .int y)] := hl
  have hown : s.vm.findClass R_M = some mm.cls := hown
  refine lv_aload_n hx hb d_M_map_0 rfl (lv_at hl 0 rfl) ?_
  refine g_get (C := R_M) (T := F_M) (N := 35) hx hb hts i_M hown hK hW (i := 400) (hdl 400 (by decide) (by decide)) h400 rfl 22 (by decide) (hts _ q_510) (fun _ h9 => h9) rfl d_M_map_1 ?_
  refine n_if_eq (tgt := 27) hx hb (by omega) d_M_map_4 (by decide) (fun h1 => ?_) (fun h1 => ?_)
  · refine lv_ldc2 hx hb hown (hts _ q_685) d_M_map_27 ?_
    exact g_lret hx hb hr hlocks hW hS (⟨by rw [if_neg (by simp [h1])], rfl⟩) d_M_map_30
  · refine lv_iload_n hx hb d_M_map_7 rfl (lv_at hl 1 rfl) ?_
    refine lv_if_lt (tgt := 27) hx hb d_M_map_8 (by decide) (fun h2 => ?_) (fun h2 => ?_)
    · refine lv_ldc2 hx hb hown (hts _ q_685) d_M_map_27 ?_
      exact g_lret hx hb hr hlocks hW hS (⟨by rw [if_neg (by simp [inB_neg h2])], rfl⟩) d_M_map_30
    · obtain ⟨i, hi, rfl⟩ := nI_of h2
      refine lv_iload_n hx hb d_M_map_11 rfl (lv_at hl 1 rfl) ?_
      refine lv_bipush (v := nI 19) hx hb d_M_map_12 (by decide) ?_
      refine n_icmp_gt (tgt := 27) hx hb (by omega) (by omega) d_M_map_14 (by decide) (fun h3 => ?_) (fun h3 => ?_)
      · refine lv_ldc2 hx hb hown (hts _ q_685) d_M_map_27 ?_
        exact g_lret hx hb hr hlocks hW hS (⟨by rw [if_neg (by simp [inB_ge hi (show 20 ≤ i by omega)])], rfl⟩) d_M_map_30
      · refine lv_iload_n hx hb d_M_map_17 rfl (lv_at hl 2 rfl) ?_
        refine lv_if_lt (tgt := 27) hx hb d_M_map_18 (by decide) (fun h4 => ?_) (fun h4 => ?_)
        · refine lv_ldc2 hx hb hown (hts _ q_685) d_M_map_27 ?_
          exact g_lret hx hb hr hlocks hW hS (⟨by rw [if_neg (by simp [inB_neg h4])], rfl⟩) d_M_map_30
        · obtain ⟨j, hj, rfl⟩ := nI_of h4
          refine lv_iload_n hx hb d_M_map_21 rfl (lv_at hl 2 rfl) ?_
          refine lv_bipush (v := nI 19) hx hb d_M_map_22 (by decide) ?_
          refine n_icmp_le (tgt := 31) hx hb (by omega) (by omega) d_M_map_24 (by decide) (fun h5 => ?_) (fun h5 => ?_)
          · refine lv_lconst (v := 0) hx hb d_M_map_31 (by decide) ?_
            refine lv_lstore_n (lv' := [(3, .long 0), (0, .ref (ad 400)), (1, .int (nI i)), (2, .int (nI j))]) hx hb d_M_map_32 rfl hl (by decide) rfl (fun ls hl => ?_)
            refine lv_iconst (v := nI 0) hx hb d_M_map_33 (by decide) ?_
            refine lv_istore (lv' := [(5, .int (nI 0)), (3, .long 0), (0, .ref (ad 400)), (1, .int (nI i)), (2, .int (nI j))]) hx hb d_M_map_34 hl (by decide) rfl (fun ls hl => ?_)
            suffices hloop : ∀ (d k : Nat) (H : Heap) (locs : List Loc) (ls : Array Slot), (k ≤ ce) → (ce + 1 ≤ k + d) → gW D gCl (gA ad co dl s.heap.size) ad co dl H → va_S (gA ad co dl s.heap.size) s.heap H locs → lv_has ls 6 [(0, .ref (ad 400)), (1, .int (nI i)), (2, .int (nI j)), (3, .long (sMap kn ln cr cx cy ct (nI i) (nI j) k)), (5, .int (nI k))] → W pp l ee _ s mm _ below meth cd H locs 0 0 _ (F0 mm 36 ls []) by
              exact hloop (ce + 1) 0 _ _ ls (by omega) (by omega) hW hS (lv_sub hl [2, 3, 4, 1, 0] rfl)
            clear hW hS hl
            intro d
            induction d with
            | zero => intro k H locs ls hk hd; omega
            | succ d ih =>
              intro k H locs ls hk hd hW hS hl
              refine lv_iload hx hb d_M_map_36 (lv_at hl 4 rfl) ?_
              refine lv_aload_n hx hb d_M_map_38 rfl (lv_at hl 0 rfl) ?_
              refine g_get (C := R_M) (T := F_M) (N := 35) hx hb hts i_M hown hK hW (i := 400) (hdl 400 (by decide) (by decide)) h400 rfl 16 (by decide) (hts _ q_504) (fun _ h9 => h9) rfl d_M_map_39 ?_
              refine n_icmp_ge (tgt := 117) hx hb (by omega) (by omega) d_M_map_42 (by decide) (fun h6 => ?_) (fun h6 => ?_)
              · have hkk : k = ce := by omega
                subst hkk
                refine lv_lload_n hx hb d_M_map_117 rfl (lv_at hl 3 rfl) ?_
                exact g_lret hx hb hr hlocks hW hS (⟨by rw [if_pos ⟨by omega, inB_lt (by omega) (by decide), inB_lt (by omega) (by decide)⟩], rfl⟩) d_M_map_118
              · refine lv_lload_n hx hb d_M_map_45 rfl (lv_at hl 3 rfl) ?_
                refine lv_aload_n hx hb d_M_map_46 rfl (lv_at hl 0 rfl) ?_
                refine g_get (C := R_M) (T := F_M) (N := 35) hx hb hts i_M hown hK hW (i := 400) (hdl 400 (by decide) (by decide)) h400 rfl 18 (by decide) (hts _ q_506) (fun _ h9 => h9) rfl d_M_map_47 ?_
                refine lv_iload hx hb d_M_map_50 (lv_at hl 4 rfl) ?_
                refine n_iald hx hb hK hW 0 (q := 414) (hdl 414 (by decide) (by decide)) h414 rfl (j := k) (by omega) (by omega) d_M_map_52 ?_
                refine lv_iload_n hx hb d_M_map_53 rfl (lv_at hl 1 rfl) ?_
                refine lv_icmp_ne (tgt := 108) hx hb d_M_map_54 (by decide) (fun h7 => ?_) (fun h7 => ?_)
                · refine lv_lconst (v := 0) hx hb d_M_map_108 (by decide) ?_
                  refine lv_ladd hx hb d_M_map_109 ?_
                  refine n_topl (show _ = sMap kn ln cr cx cy ct (nI i) (nI j) (k + 1) by rw [sMap, if_neg (fun z => h7 z.1)]) ?_
                  refine lv_lstore_n (lv' := [(3, .long (sMap kn ln cr cx cy ct (nI i) (nI j) (k + 1))), (0, .ref (ad 400)), (1, .int (nI i)), (2, .int (nI j)), (5, .int (nI k))]) hx hb d_M_map_110 rfl hl (by decide) rfl (fun ls hl => ?_)
                  refine n_iinc (lv' := [(5, .int (nI (k + 1))), (3, .long (sMap kn ln cr cx cy ct (nI i) (nI j) (k + 1))), (0, .ref (ad 400)), (1, .int (nI i)), (2, .int (nI j))]) hx hb d_M_map_111 hl (k := 4) rfl (by decide) rfl (fun ls hl => ?_)
                  refine lv_goto (tgt := 36) hx hb d_M_map_114 (by decide) ?_
                  exact ih (k + 1) _ _ ls (by omega) (by omega) hW hS (lv_sub hl [2, 3, 4, 1, 0] rfl)
                · refine lv_aload_n hx hb d_M_map_57 rfl (lv_at hl 0 rfl) ?_
                  refine g_get (C := R_M) (T := F_M) (N := 35) hx hb hts i_M hown hK hW (i := 400) (hdl 400 (by decide) (by decide)) h400 rfl 19 (by decide) (hts _ q_507) (fun _ h9 => h9) rfl d_M_map_58 ?_
                  refine lv_iload hx hb d_M_map_61 (lv_at hl 4 rfl) ?_
                  refine n_iald hx hb hK hW 0 (q := 415) (hdl 415 (by decide) (by decide)) h415 rfl (j := k) (by omega) (by omega) d_M_map_63 ?_
                  refine lv_iload_n hx hb d_M_map_64 rfl (lv_at hl 2 rfl) ?_
                  refine lv_icmp_ne (tgt := 108) hx hb d_M_map_65 (by decide) (fun h8 => ?_) (fun h8 => ?_)
                  · refine lv_lconst (v := 0) hx hb d_M_map_108 (by decide) ?_
                    refine lv_ladd hx hb d_M_map_109 ?_
                    refine n_topl (show _ = sMap kn ln cr cx cy ct (nI i) (nI j) (k + 1) by rw [sMap, if_neg (fun z => h8 z.2.1)]) ?_
                    refine lv_lstore_n (lv' := [(3, .long (sMap kn ln cr cx cy ct (nI i) (nI j) (k + 1))), (0, .ref (ad 400)), (1, .int (nI i)), (2, .int (nI j)), (5, .int (nI k))]) hx hb d_M_map_110 rfl hl (by decide) rfl (fun ls hl => ?_)
                    refine n_iinc (lv' := [(5, .int (nI (k + 1))), (3, .long (sMap kn ln cr cx cy ct (nI i) (nI j) (k + 1))), (0, .ref (ad 400)), (1, .int (nI i)), (2, .int (nI j))]) hx hb d_M_map_111 hl (k := 4) rfl (by decide) rfl (fun ls hl => ?_)
                    refine lv_goto (tgt := 36) hx hb d_M_map_114 (by decide) ?_
                    exact ih (k + 1) _ _ ls (by omega) (by omega) hW hS (lv_sub hl [2, 3, 4, 1, 0] rfl)
                  · obtain ⟨r, hr1, hr2⟩ := hcr k h6
                    refine lv_aload_n hx hb d_M_map_68 rfl (lv_at hl 0 rfl) ?_
                    refine g_get (C := R_M) (T := F_M) (N := 35) hx hb hts i_M hown hK hW (i := 400) (hdl 400 (by decide) (by decide)) h400 rfl 17 (by decide) (hts _ q_505) (fun _ h9 => h9) rfl d_M_map_69 ?_
                    refine lv_iload hx hb d_M_map_72 (lv_at hl 4 rfl) ?_
                    refine n_iald hx hb hK hW 0 (q := 413) (hdl 413 (by decide) (by decide)) h413 rfl (j := k) (by omega) (by omega) d_M_map_74 ?_
                    refine n_topi (show cr k = nI r from hr1) ?_
                    refine lv_aload_n hx hb d_M_map_75 rfl (lv_at hl 0 rfl) ?_
                    refine g_get (C := R_M) (T := F_M) (N := 35) hx hb hts i_M hown hK hW (i := 400) (hdl 400 (by decide) (by decide)) h400 rfl 22 (by decide) (hts _ q_510) (fun _ h9 => h9) rfl d_M_map_76 ?_
                    refine n_icmp_ge (tgt := 108) hx hb (by omega) (by omega) d_M_map_79 (by decide) (fun h9 => ?_) (fun h9 => ?_)
                    · refine lv_lconst (v := 0) hx hb d_M_map_108 (by decide) ?_
                      refine lv_ladd hx hb d_M_map_109 ?_
                      refine n_topl (show _ = sMap kn ln cr cx cy ct (nI i) (nI j) (k + 1) by rw [sMap, if_neg (fun z => by rw [hr1] at z; exact absurd ((nI_ltI (by omega) (by omega)).mp z.2.2.1) (by omega))]) ?_
                      refine lv_lstore_n (lv' := [(3, .long (sMap kn ln cr cx cy ct (nI i) (nI j) (k + 1))), (0, .ref (ad 400)), (1, .int (nI i)), (2, .int (nI j)), (5, .int (nI k))]) hx hb d_M_map_110 rfl hl (by decide) rfl (fun ls hl => ?_)
                      refine n_iinc (lv' := [(5, .int (nI (k + 1))), (3, .long (sMap kn ln cr cx cy ct (nI i) (nI j) (k + 1))), (0, .ref (ad 400)), (1, .int (nI i)), (2, .int (nI j))]) hx hb d_M_map_111 hl (k := 4) rfl (by decide) rfl (fun ls hl => ?_)
                      refine lv_goto (tgt := 36) hx hb d_M_map_114 (by decide) ?_
                      exact ih (k + 1) _ _ ls (by omega) (by omega) hW hS (lv_sub hl [2, 3, 4, 1, 0] rfl)
                    · refine lv_aload_n hx hb d_M_map_82 rfl (lv_at hl 0 rfl) ?_
                      refine g_get (C := R_M) (T := F_M) (N := 35) hx hb hts i_M hown hK hW (i := 400) (hdl 400 (by decide) (by decide)) h400 rfl 23 (by decide) (hts _ q_511) (fun _ h9 => h9) rfl d_M_map_83 ?_
                      refine lv_aload_n hx hb d_M_map_86 rfl (lv_at hl 0 rfl) ?_
                      refine g_get (C := R_M) (T := F_M) (N := 35) hx hb hts i_M hown hK hW (i := 400) (hdl 400 (by decide) (by decide)) h400 rfl 17 (by decide) (hts _ q_505) (fun _ h9 => h9) rfl d_M_map_87 ?_
                      refine lv_iload hx hb d_M_map_90 (lv_at hl 4 rfl) ?_
                      refine n_iald hx hb hK hW 0 (q := 413) (hdl 413 (by decide) (by decide)) h413 rfl (j := k) (by omega) (by omega) d_M_map_92 ?_
                      refine n_topi (show cr k = nI r from hr1) ?_
                      refine n_iald hx hb hK hW 0 (q := 417) (hdl 417 (by decide) (by decide)) h417 rfl (j := r) (by omega) (by omega) d_M_map_93 ?_
                      refine lv_iconst (v := nI 3) hx hb d_M_map_94 (by decide) ?_
                      refine lv_icmp_ne (tgt := 108) hx hb d_M_map_95 (by decide) (fun h10 => ?_) (fun h10 => ?_)
                      · refine lv_lconst (v := 0) hx hb d_M_map_108 (by decide) ?_
                        refine lv_ladd hx hb d_M_map_109 ?_
                        refine n_topl (show _ = sMap kn ln cr cx cy ct (nI i) (nI j) (k + 1) by rw [sMap, if_neg (fun z => h10 (by have := z.2.2.2; rw [hr1, nI_clamp (show r < 2 ^ 31 by omega)] at this; exact this))]) ?_
                        refine lv_lstore_n (lv' := [(3, .long (sMap kn ln cr cx cy ct (nI i) (nI j) (k + 1))), (0, .ref (ad 400)), (1, .int (nI i)), (2, .int (nI j)), (5, .int (nI k))]) hx hb d_M_map_110 rfl hl (by decide) rfl (fun ls hl => ?_)
                        refine n_iinc (lv' := [(5, .int (nI (k + 1))), (3, .long (sMap kn ln cr cx cy ct (nI i) (nI j) (k + 1))), (0, .ref (ad 400)), (1, .int (nI i)), (2, .int (nI j))]) hx hb d_M_map_111 hl (k := 4) rfl (by decide) rfl (fun ls hl => ?_)
                        refine lv_goto (tgt := 36) hx hb d_M_map_114 (by decide) ?_
                        exact ih (k + 1) _ _ ls (by omega) (by omega) hW hS (lv_sub hl [2, 3, 4, 1, 0] rfl)
                      · refine lv_aload_n hx hb d_M_map_98 rfl (lv_at hl 0 rfl) ?_
                        refine g_get (C := R_M) (T := F_M) (N := 35) hx hb hts i_M hown hK hW (i := 400) (hdl 400 (by decide) (by decide)) h400 rfl 20 (by decide) (hts _ q_508) (fun _ h9 => h9) rfl d_M_map_99 ?_
                        refine lv_iload hx hb d_M_map_102 (lv_at hl 4 rfl) ?_
                        refine n_lald hx hb hK hW 1 (q := 416) (hdl 416 (by decide) (by decide)) h416 rfl (j := k) (by omega) (by omega) d_M_map_104 ?_
                        refine lv_goto (tgt := 109) hx hb d_M_map_105 (by decide) ?_
                        refine lv_ladd hx hb d_M_map_109 ?_
                        refine n_topl (show _ = sMap kn ln cr cx cy ct (nI i) (nI j) (k + 1) by rw [sMap, if_pos ⟨h7, h8, by rw [hr1]; exact nI_lt h9 (by omega), by rw [hr1, nI_clamp (show r < 2 ^ 31 by omega)]; exact h10⟩]) ?_
                        refine lv_lstore_n (lv' := [(3, .long (sMap kn ln cr cx cy ct (nI i) (nI j) (k + 1))), (0, .ref (ad 400)), (1, .int (nI i)), (2, .int (nI j)), (5, .int (nI k))]) hx hb d_M_map_110 rfl hl (by decide) rfl (fun ls hl => ?_)
                        refine n_iinc (lv' := [(5, .int (nI (k + 1))), (3, .long (sMap kn ln cr cx cy ct (nI i) (nI j) (k + 1))), (0, .ref (ad 400)), (1, .int (nI i)), (2, .int (nI j))]) hx hb d_M_map_111 hl (k := 4) rfl (by decide) rfl (fun ls hl => ?_)
                        refine lv_goto (tgt := 36) hx hb d_M_map_114 (by decide) ?_
                        exact ih (k + 1) _ _ ls (by omega) (by omega) hW hS (lv_sub hl [2, 3, 4, 1, 0] rfl)
          · refine lv_ldc2 hx hb hown (hts _ q_685) d_M_map_27 ?_
            exact g_lret hx hb hr hlocks hW hS (⟨by rw [if_neg (by simp [inB_ge hj (show 20 ≤ j by omega)])], rfl⟩) d_M_map_30
end
section
set_option maxHeartbeats 4000000 in
set_option maxRecDepth 100000 in
/-- row -/
theorem c_M_row (l : Launch) {D : va_G} {cI cJ cG : ClassId} {ad : Nat → Nat} {co : Nat → va_E} {dl : List Nat} {a rw sh pg ce mg kn cs sm : Nat} (hdl : ∀ i, 400 ≤ i → i < 427 → i ∈ dl) (h400 : co 400 = mO ad a rw sh pg ce mg kn cs sm) {sec : Nat → Int64} {cls : Nat → Int32} {trn : Nat → Int32} {shp : Nat → Int32} {tr : Nat → Int32} (h405 : co 405 = .inl (cJ, 200, .inr (.inl sec))) (h406 : co 406 = .inl (cI, 200, .inl cls)) (h407 : co 407 = .inl (cI, 200, .inl trn)) (h408 : co 408 = .inl (cI, 200, .inl shp)) (h409 : co 409 = .inl (cI, 200, .inl tr)) (x : Int64) (y z : Int32) (hn : rw ≤ 200) : gMi l y_M_row (Cond.code y_M_row b_M_row 5 (some .boolean) :: wA) ({ frames := 0, cells := 0, slots := 0, locals := 0 }) D gCl (gTy cI cJ cG) gNl [.ref (ad 400), .long x, .int y, .int z] ad co dl (fun r co' => r = bI (okRow rw sec x y z) ∧ co' = if okRow rw sec x y z then va_up (va_up (va_up (va_up (va_up (va_up co 405 (.inl (cJ, 200, .inr (.inl (vp_updL sec rw x))))) 406 (.inl (cI, 200, .inl (upd cls rw y)))) 407 (.inl (cI, 200, .inl (upd trn rw z)))) 408 (.inl (cI, 200, .inl (upd shp rw (nI sh))))) 409 (.inl (cI, 200, .inl (upd tr rw (-1))))) 400 (mO ad a (rw + 1) sh pg ce mg kn cs sm) else co) := by
  refine gMi_of (cc := b_M_row) (maxL := 5) (ret := some .boolean) (by decide) rfl (Nat.le_of_ble_eq_true rfl) ?_
  intro pp ee s mm below meth cd ls hC hW hS hl
  obtain ⟨hx, hb, hr, hts0, hown, hlocks, hml, hK, hN⟩ := hC
  have hts : ∀ w ∈ wA, w.before _ s = true := fun w h => hts0 w (List.mem_cons_of_mem _ h)
  have hA : ∀ q, s.heap.size ≤ q → gA ad co dl s.heap.size q := fun q h => Or.inr h
  have hl : lv_has ls 5 [(0, .ref (ad 400)), (1, .long x), (3, .int y), (4, .int z)] := hl
  have hown : s.vm.findClass R_M = some mm.cls := hown
  refine lv_aload_n hx hb d_M_row_0 rfl (lv_at hl 0 rfl) ?_
  refine g_get (C := R_M) (T := F_M) (N := 35) hx hb hts i_M hown hK hW (i := 400) (hdl 400 (by decide) (by decide)) h400 rfl 5 (by decide) (hts _ q_493) (fun _ h9 => h9) rfl d_M_row_1 ?_
  refine lv_sipush (v := nI 200) hx hb d_M_row_4 (by decide) ?_
  refine n_icmp_eq (tgt := 60) hx hb (by omega) (by omega) d_M_row_7 (by decide) (fun h1 => ?_) (fun h1 => ?_)
  · refine lv_iconst (v := nI 0) hx hb d_M_row_60 (by decide) ?_
    exact g_zret hx hb hr (by rfl) hlocks hW hS (⟨bI_0 (by simp [okRow, show ¬ rw < 200 by omega]), (if_neg (by simp [okRow, show ¬ rw < 200 by omega])).symm⟩) d_M_row_61
  · refine lv_lload_n hx hb d_M_row_10 rfl (lv_at hl 1 rfl) ?_
    refine lv_lconst (v := 0) hx hb d_M_row_11 (by decide) ?_
    refine W.lcmp hx hb d_M_row_12 ?_
    refine lv_if_lt (tgt := 60) hx hb d_M_row_13 (by decide) (fun h2 => ?_) (fun h2 => ?_)
    · refine lv_iconst (v := nI 0) hx hb d_M_row_60 (by decide) ?_
      exact g_zret hx hb hr (by rfl) hlocks hW hS (⟨bI_0 (by simp [okRow, L_nlt (lc_lt h2)]), (if_neg (by simp [okRow, L_nlt (lc_lt h2)])).symm⟩) d_M_row_61
    · refine lv_aload_n hx hb d_M_row_16 rfl (lv_at hl 0 rfl) ?_
      refine g_get (C := R_M) (T := F_M) (N := 35) hx hb hts i_M hown hK hW (i := 400) (hdl 400 (by decide) (by decide)) h400 rfl 5 (by decide) (hts _ q_493) (fun _ h9 => h9) rfl d_M_row_17 ?_
      refine n_if_le (tgt := 39) hx hb (by omega) d_M_row_20 (by decide) (fun h3 => ?_) (fun h3 => ?_)
      · refine lv_iload_n hx hb d_M_row_39 rfl (lv_at hl 2 rfl) ?_
        refine lv_if_lt (tgt := 60) hx hb d_M_row_40 (by decide) (fun h5 => ?_) (fun h5 => ?_)
        · refine lv_iconst (v := nI 0) hx hb d_M_row_60 (by decide) ?_
          exact g_zret hx hb hr (by rfl) hlocks hW hS (⟨bI_0 (by simp [okRow, inB_neg h5]), (if_neg (by simp [okRow, inB_neg h5])).symm⟩) d_M_row_61
        · obtain ⟨i, hi, rfl⟩ := nI_of h5
          refine lv_iload_n hx hb d_M_row_43 rfl (lv_at hl 2 rfl) ?_
          refine lv_bipush (v := nI 9) hx hb d_M_row_44 (by decide) ?_
          refine n_icmp_gt (tgt := 60) hx hb (by omega) (by omega) d_M_row_46 (by decide) (fun h6 => ?_) (fun h6 => ?_)
          · refine lv_iconst (v := nI 0) hx hb d_M_row_60 (by decide) ?_
            exact g_zret hx hb hr (by rfl) hlocks hW hS (⟨bI_0 (by simp [okRow, inB_ge hi (show 10 ≤ i by omega)]), (if_neg (by simp [okRow, inB_ge hi (show 10 ≤ i by omega)])).symm⟩) d_M_row_61
          · refine lv_iload hx hb d_M_row_49 (lv_at hl 3 rfl) ?_
            refine lv_if_lt (tgt := 60) hx hb d_M_row_51 (by decide) (fun h7 => ?_) (fun h7 => ?_)
            · refine lv_iconst (v := nI 0) hx hb d_M_row_60 (by decide) ?_
              exact g_zret hx hb hr (by rfl) hlocks hW hS (⟨bI_0 (by simp [okRow, inB_neg h7]), (if_neg (by simp [okRow, inB_neg h7])).symm⟩) d_M_row_61
            · obtain ⟨j, hj, rfl⟩ := nI_of h7
              refine lv_iload hx hb d_M_row_54 (lv_at hl 3 rfl) ?_
              refine lv_iconst (v := nI 3) hx hb d_M_row_56 (by decide) ?_
              refine n_icmp_le (tgt := 62) hx hb (by omega) (by omega) d_M_row_57 (by decide) (fun h8 => ?_) (fun h8 => ?_)
              · have g9 : okRow rw sec x (nI i) (nI j) = true := by simp [okRow, show rw < 200 by omega, lc_nlt h2, h3, inB_lt (n := 10) (show i < 10 by omega) (by decide), inB_lt (n := 4) (show j < 4 by omega) (by decide)]
                refine lv_aload_n hx hb d_M_row_62 rfl (lv_at hl 0 rfl) ?_
                refine g_get (C := R_M) (T := F_M) (N := 35) hx hb hts i_M hown hK hW (i := 400) (hdl 400 (by decide) (by decide)) h400 rfl 6 (by decide) (hts _ q_494) (fun _ h9 => h9) rfl d_M_row_63 ?_
                refine lv_aload_n hx hb d_M_row_66 rfl (lv_at hl 0 rfl) ?_
                refine g_get (C := R_M) (T := F_M) (N := 35) hx hb hts i_M hown hK hW (i := 400) (hdl 400 (by decide) (by decide)) h400 rfl 5 (by decide) (hts _ q_493) (fun _ h9 => h9) rfl d_M_row_67 ?_
                refine lv_lload_n hx hb d_M_row_70 rfl (lv_at hl 1 rfl) ?_
                refine n_last (x := x) hx hb hK hW hS 1 (q := 405) (hdl 405 (by decide) (by decide)) h405 rfl (j := rw) (by omega) (by omega) d_M_row_71 (fun H locs hW hS => ?_)
                refine lv_aload_n hx hb d_M_row_72 rfl (lv_at hl 0 rfl) ?_
                refine g_get (C := R_M) (T := F_M) (N := 35) hx hb hts i_M hown hK hW (i := 400) (hdl 400 (by decide) (by decide)) ((va_up_ne _ _ (by decide)).trans h400) rfl 7 (by decide) (hts _ q_495) (fun _ h9 => h9) rfl d_M_row_73 ?_
                refine lv_aload_n hx hb d_M_row_76 rfl (lv_at hl 0 rfl) ?_
                refine g_get (C := R_M) (T := F_M) (N := 35) hx hb hts i_M hown hK hW (i := 400) (hdl 400 (by decide) (by decide)) ((va_up_ne _ _ (by decide)).trans h400) rfl 5 (by decide) (hts _ q_493) (fun _ h9 => h9) rfl d_M_row_77 ?_
                refine lv_iload_n hx hb d_M_row_80 rfl (lv_at hl 2 rfl) ?_
                refine n_iast (x := nI i) hx hb hK hW hS 0 (q := 406) (hdl 406 (by decide) (by decide)) ((va_up_ne _ _ (by decide)).trans h406) rfl (j := rw) (by omega) (by omega) d_M_row_81 (fun H locs hW hS => ?_)
                refine lv_aload_n hx hb d_M_row_82 rfl (lv_at hl 0 rfl) ?_
                refine g_get (C := R_M) (T := F_M) (N := 35) hx hb hts i_M hown hK hW (i := 400) (hdl 400 (by decide) (by decide)) ((va_up_ne _ _ (by decide)).trans ((va_up_ne _ _ (by decide)).trans h400)) rfl 8 (by decide) (hts _ q_496) (fun _ h9 => h9) rfl d_M_row_83 ?_
                refine lv_aload_n hx hb d_M_row_86 rfl (lv_at hl 0 rfl) ?_
                refine g_get (C := R_M) (T := F_M) (N := 35) hx hb hts i_M hown hK hW (i := 400) (hdl 400 (by decide) (by decide)) ((va_up_ne _ _ (by decide)).trans ((va_up_ne _ _ (by decide)).trans h400)) rfl 5 (by decide) (hts _ q_493) (fun _ h9 => h9) rfl d_M_row_87 ?_
                refine lv_iload hx hb d_M_row_90 (lv_at hl 3 rfl) ?_
                refine n_iast (x := nI j) hx hb hK hW hS 0 (q := 407) (hdl 407 (by decide) (by decide)) ((va_up_ne _ _ (by decide)).trans ((va_up_ne _ _ (by decide)).trans h407)) rfl (j := rw) (by omega) (by omega) d_M_row_92 (fun H locs hW hS => ?_)
                refine lv_aload_n hx hb d_M_row_93 rfl (lv_at hl 0 rfl) ?_
                refine g_get (C := R_M) (T := F_M) (N := 35) hx hb hts i_M hown hK hW (i := 400) (hdl 400 (by decide) (by decide)) ((va_up_ne _ _ (by decide)).trans ((va_up_ne _ _ (by decide)).trans ((va_up_ne _ _ (by decide)).trans h400))) rfl 9 (by decide) (hts _ q_497) (fun _ h9 => h9) rfl d_M_row_94 ?_
                refine lv_aload_n hx hb d_M_row_97 rfl (lv_at hl 0 rfl) ?_
                refine g_get (C := R_M) (T := F_M) (N := 35) hx hb hts i_M hown hK hW (i := 400) (hdl 400 (by decide) (by decide)) ((va_up_ne _ _ (by decide)).trans ((va_up_ne _ _ (by decide)).trans ((va_up_ne _ _ (by decide)).trans h400))) rfl 5 (by decide) (hts _ q_493) (fun _ h9 => h9) rfl d_M_row_98 ?_
                refine lv_aload_n hx hb d_M_row_101 rfl (lv_at hl 0 rfl) ?_
                refine g_get (C := R_M) (T := F_M) (N := 35) hx hb hts i_M hown hK hW (i := 400) (hdl 400 (by decide) (by decide)) ((va_up_ne _ _ (by decide)).trans ((va_up_ne _ _ (by decide)).trans ((va_up_ne _ _ (by decide)).trans h400))) rfl 11 (by decide) (hts _ q_499) (fun _ h9 => h9) rfl d_M_row_102 ?_
                refine n_iast (x := nI sh) hx hb hK hW hS 0 (q := 408) (hdl 408 (by decide) (by decide)) ((va_up_ne _ _ (by decide)).trans ((va_up_ne _ _ (by decide)).trans ((va_up_ne _ _ (by decide)).trans h408))) rfl (j := rw) (by omega) (by omega) d_M_row_105 (fun H locs hW hS => ?_)
                refine lv_aload_n hx hb d_M_row_106 rfl (lv_at hl 0 rfl) ?_
                refine g_get (C := R_M) (T := F_M) (N := 35) hx hb hts i_M hown hK hW (i := 400) (hdl 400 (by decide) (by decide)) ((va_up_ne _ _ (by decide)).trans ((va_up_ne _ _ (by decide)).trans ((va_up_ne _ _ (by decide)).trans ((va_up_ne _ _ (by decide)).trans h400)))) rfl 10 (by decide) (hts _ q_498) (fun _ h9 => h9) rfl d_M_row_107 ?_
                refine lv_aload_n hx hb d_M_row_110 rfl (lv_at hl 0 rfl) ?_
                refine g_get (C := R_M) (T := F_M) (N := 35) hx hb hts i_M hown hK hW (i := 400) (hdl 400 (by decide) (by decide)) ((va_up_ne _ _ (by decide)).trans ((va_up_ne _ _ (by decide)).trans ((va_up_ne _ _ (by decide)).trans ((va_up_ne _ _ (by decide)).trans h400)))) rfl 5 (by decide) (hts _ q_493) (fun _ h9 => h9) rfl d_M_row_111 ?_
                refine lv_iconst (v := (-1)) hx hb d_M_row_114 (by decide) ?_
                refine n_iast (x := (-1)) hx hb hK hW hS 0 (q := 409) (hdl 409 (by decide) (by decide)) ((va_up_ne _ _ (by decide)).trans ((va_up_ne _ _ (by decide)).trans ((va_up_ne _ _ (by decide)).trans ((va_up_ne _ _ (by decide)).trans h409)))) rfl (j := rw) (by omega) (by omega) d_M_row_115 (fun H locs hW hS => ?_)
                refine lv_aload_n hx hb d_M_row_116 rfl (lv_at hl 0 rfl) ?_
                refine lv_dup hx hb d_M_row_117 rfl ?_
                refine g_get (C := R_M) (T := F_M) (N := 35) hx hb hts i_M hown hK hW (i := 400) (hdl 400 (by decide) (by decide)) ((va_up_ne _ _ (by decide)).trans ((va_up_ne _ _ (by decide)).trans ((va_up_ne _ _ (by decide)).trans ((va_up_ne _ _ (by decide)).trans ((va_up_ne _ _ (by decide)).trans h400))))) rfl 5 (by decide) (hts _ q_493) (fun _ h9 => h9) rfl d_M_row_118 ?_
                refine lv_iconst (v := nI 1) hx hb d_M_row_121 (by decide) ?_
                refine n_add hx hb d_M_row_122 ?_
                refine g_put (ty := .int) (v := .int (nI (rw + 1))) (C := R_M) (T := F_M) (N := 35) hx hb hts i_M fy_M fy_M_ok fn_M hown hK hW hS (i := 400) (hdl 400 (by decide) (by decide)) ((va_up_ne _ _ (by decide)).trans ((va_up_ne _ _ (by decide)).trans ((va_up_ne _ _ (by decide)).trans ((va_up_ne _ _ (by decide)).trans ((va_up_ne _ _ (by decide)).trans h400))))) rfl 5 (by decide) (hts _ q_493) (fun _ h9 => h9) rfl (by decide +kernel) rfl rfl (Nat.le_of_ble_eq_true rfl) d_M_row_123 (fun H locs hW hS => ?_)
                refine lv_iconst (v := nI 1) hx hb d_M_row_126 (by decide) ?_
                exact g_zret hx hb hr (by rfl) hlocks hW hS (⟨bI_1 g9, by rw [if_pos g9]; rfl⟩) d_M_row_127
              · refine lv_iconst (v := nI 0) hx hb d_M_row_60 (by decide) ?_
                exact g_zret hx hb hr (by rfl) hlocks hW hS (⟨bI_0 (by simp [okRow, inB_ge hj (show 4 ≤ j by omega)]), (if_neg (by simp [okRow, inB_ge hj (show 4 ≤ j by omega)])).symm⟩) d_M_row_61
      · refine lv_lload_n hx hb d_M_row_23 rfl (lv_at hl 1 rfl) ?_
        refine lv_aload_n hx hb d_M_row_24 rfl (lv_at hl 0 rfl) ?_
        refine g_get (C := R_M) (T := F_M) (N := 35) hx hb hts i_M hown hK hW (i := 400) (hdl 400 (by decide) (by decide)) h400 rfl 6 (by decide) (hts _ q_494) (fun _ h9 => h9) rfl d_M_row_25 ?_
        refine lv_aload_n hx hb d_M_row_28 rfl (lv_at hl 0 rfl) ?_
        refine g_get (C := R_M) (T := F_M) (N := 35) hx hb hts i_M hown hK hW (i := 400) (hdl 400 (by decide) (by decide)) h400 rfl 5 (by decide) (hts _ q_493) (fun _ h9 => h9) rfl d_M_row_29 ?_
        refine lv_iconst (v := nI 1) hx hb d_M_row_32 (by decide) ?_
        refine n_sub hx hb (by omega) d_M_row_33 ?_
        refine n_lald hx hb hK hW 1 (q := 405) (hdl 405 (by decide) (by decide)) h405 rfl (j := rw - 1) (by omega) (by omega) d_M_row_34 ?_
        refine W.lcmp hx hb d_M_row_35 ?_
        refine lv_if_le (tgt := 60) hx hb d_M_row_36 (by decide) (fun h4 => ?_) (fun h4 => ?_)
        · refine lv_iconst (v := nI 0) hx hb d_M_row_60 (by decide) ?_
          exact g_zret hx hb hr (by rfl) hlocks hW hS (⟨bI_0 (by simp [okRow, show ¬ rw = 0 by omega, L_nle (lc_le h4)]), (if_neg (by simp [okRow, show ¬ rw = 0 by omega, L_nle (lc_le h4)])).symm⟩) d_M_row_61
        · refine lv_iload_n hx hb d_M_row_39 rfl (lv_at hl 2 rfl) ?_
          refine lv_if_lt (tgt := 60) hx hb d_M_row_40 (by decide) (fun h5 => ?_) (fun h5 => ?_)
          · refine lv_iconst (v := nI 0) hx hb d_M_row_60 (by decide) ?_
            exact g_zret hx hb hr (by rfl) hlocks hW hS (⟨bI_0 (by simp [okRow, inB_neg h5]), (if_neg (by simp [okRow, inB_neg h5])).symm⟩) d_M_row_61
          · obtain ⟨i, hi, rfl⟩ := nI_of h5
            refine lv_iload_n hx hb d_M_row_43 rfl (lv_at hl 2 rfl) ?_
            refine lv_bipush (v := nI 9) hx hb d_M_row_44 (by decide) ?_
            refine n_icmp_gt (tgt := 60) hx hb (by omega) (by omega) d_M_row_46 (by decide) (fun h6 => ?_) (fun h6 => ?_)
            · refine lv_iconst (v := nI 0) hx hb d_M_row_60 (by decide) ?_
              exact g_zret hx hb hr (by rfl) hlocks hW hS (⟨bI_0 (by simp [okRow, inB_ge hi (show 10 ≤ i by omega)]), (if_neg (by simp [okRow, inB_ge hi (show 10 ≤ i by omega)])).symm⟩) d_M_row_61
            · refine lv_iload hx hb d_M_row_49 (lv_at hl 3 rfl) ?_
              refine lv_if_lt (tgt := 60) hx hb d_M_row_51 (by decide) (fun h7 => ?_) (fun h7 => ?_)
              · refine lv_iconst (v := nI 0) hx hb d_M_row_60 (by decide) ?_
                exact g_zret hx hb hr (by rfl) hlocks hW hS (⟨bI_0 (by simp [okRow, inB_neg h7]), (if_neg (by simp [okRow, inB_neg h7])).symm⟩) d_M_row_61
              · obtain ⟨j, hj, rfl⟩ := nI_of h7
                refine lv_iload hx hb d_M_row_54 (lv_at hl 3 rfl) ?_
                refine lv_iconst (v := nI 3) hx hb d_M_row_56 (by decide) ?_
                refine n_icmp_le (tgt := 62) hx hb (by omega) (by omega) d_M_row_57 (by decide) (fun h8 => ?_) (fun h8 => ?_)
                · have g9 : okRow rw sec x (nI i) (nI j) = true := by simp [okRow, show rw < 200 by omega, lc_nlt h2, lc_nle h4, inB_lt (n := 10) (show i < 10 by omega) (by decide), inB_lt (n := 4) (show j < 4 by omega) (by decide)]
                  refine lv_aload_n hx hb d_M_row_62 rfl (lv_at hl 0 rfl) ?_
                  refine g_get (C := R_M) (T := F_M) (N := 35) hx hb hts i_M hown hK hW (i := 400) (hdl 400 (by decide) (by decide)) h400 rfl 6 (by decide) (hts _ q_494) (fun _ h9 => h9) rfl d_M_row_63 ?_
                  refine lv_aload_n hx hb d_M_row_66 rfl (lv_at hl 0 rfl) ?_
                  refine g_get (C := R_M) (T := F_M) (N := 35) hx hb hts i_M hown hK hW (i := 400) (hdl 400 (by decide) (by decide)) h400 rfl 5 (by decide) (hts _ q_493) (fun _ h9 => h9) rfl d_M_row_67 ?_
                  refine lv_lload_n hx hb d_M_row_70 rfl (lv_at hl 1 rfl) ?_
                  refine n_last (x := x) hx hb hK hW hS 1 (q := 405) (hdl 405 (by decide) (by decide)) h405 rfl (j := rw) (by omega) (by omega) d_M_row_71 (fun H locs hW hS => ?_)
                  refine lv_aload_n hx hb d_M_row_72 rfl (lv_at hl 0 rfl) ?_
                  refine g_get (C := R_M) (T := F_M) (N := 35) hx hb hts i_M hown hK hW (i := 400) (hdl 400 (by decide) (by decide)) ((va_up_ne _ _ (by decide)).trans h400) rfl 7 (by decide) (hts _ q_495) (fun _ h9 => h9) rfl d_M_row_73 ?_
                  refine lv_aload_n hx hb d_M_row_76 rfl (lv_at hl 0 rfl) ?_
                  refine g_get (C := R_M) (T := F_M) (N := 35) hx hb hts i_M hown hK hW (i := 400) (hdl 400 (by decide) (by decide)) ((va_up_ne _ _ (by decide)).trans h400) rfl 5 (by decide) (hts _ q_493) (fun _ h9 => h9) rfl d_M_row_77 ?_
                  refine lv_iload_n hx hb d_M_row_80 rfl (lv_at hl 2 rfl) ?_
                  refine n_iast (x := nI i) hx hb hK hW hS 0 (q := 406) (hdl 406 (by decide) (by decide)) ((va_up_ne _ _ (by decide)).trans h406) rfl (j := rw) (by omega) (by omega) d_M_row_81 (fun H locs hW hS => ?_)
                  refine lv_aload_n hx hb d_M_row_82 rfl (lv_at hl 0 rfl) ?_
                  refine g_get (C := R_M) (T := F_M) (N := 35) hx hb hts i_M hown hK hW (i := 400) (hdl 400 (by decide) (by decide)) ((va_up_ne _ _ (by decide)).trans ((va_up_ne _ _ (by decide)).trans h400)) rfl 8 (by decide) (hts _ q_496) (fun _ h9 => h9) rfl d_M_row_83 ?_
                  refine lv_aload_n hx hb d_M_row_86 rfl (lv_at hl 0 rfl) ?_
                  refine g_get (C := R_M) (T := F_M) (N := 35) hx hb hts i_M hown hK hW (i := 400) (hdl 400 (by decide) (by decide)) ((va_up_ne _ _ (by decide)).trans ((va_up_ne _ _ (by decide)).trans h400)) rfl 5 (by decide) (hts _ q_493) (fun _ h9 => h9) rfl d_M_row_87 ?_
                  refine lv_iload hx hb d_M_row_90 (lv_at hl 3 rfl) ?_
                  refine n_iast (x := nI j) hx hb hK hW hS 0 (q := 407) (hdl 407 (by decide) (by decide)) ((va_up_ne _ _ (by decide)).trans ((va_up_ne _ _ (by decide)).trans h407)) rfl (j := rw) (by omega) (by omega) d_M_row_92 (fun H locs hW hS => ?_)
                  refine lv_aload_n hx hb d_M_row_93 rfl (lv_at hl 0 rfl) ?_
                  refine g_get (C := R_M) (T := F_M) (N := 35) hx hb hts i_M hown hK hW (i := 400) (hdl 400 (by decide) (by decide)) ((va_up_ne _ _ (by decide)).trans ((va_up_ne _ _ (by decide)).trans ((va_up_ne _ _ (by decide)).trans h400))) rfl 9 (by decide) (hts _ q_497) (fun _ h9 => h9) rfl d_M_row_94 ?_
                  refine lv_aload_n hx hb d_M_row_97 rfl (lv_at hl 0 rfl) ?_
                  refine g_get (C := R_M) (T := F_M) (N := 35) hx hb hts i_M hown hK hW (i := 400) (hdl 400 (by decide) (by decide)) ((va_up_ne _ _ (by decide)).trans ((va_up_ne _ _ (by decide)).trans ((va_up_ne _ _ (by decide)).trans h400))) rfl 5 (by decide) (hts _ q_493) (fun _ h9 => h9) rfl d_M_row_98 ?_
                  refine lv_aload_n hx hb d_M_row_101 rfl (lv_at hl 0 rfl) ?_
                  refine g_get (C := R_M) (T := F_M) (N := 35) hx hb hts i_M hown hK hW (i := 400) (hdl 400 (by decide) (by decide)) ((va_up_ne _ _ (by decide)).trans ((va_up_ne _ _ (by decide)).trans ((va_up_ne _ _ (by decide)).trans h400))) rfl 11 (by decide) (hts _ q_499) (fun _ h9 => h9) rfl d_M_row_102 ?_
                  refine n_iast (x := nI sh) hx hb hK hW hS 0 (q := 408) (hdl 408 (by decide) (by decide)) ((va_up_ne _ _ (by decide)).trans ((va_up_ne _ _ (by decide)).trans ((va_up_ne _ _ (by decide)).trans h408))) rfl (j := rw) (by omega) (by omega) d_M_row_105 (fun H locs hW hS => ?_)
                  refine lv_aload_n hx hb d_M_row_106 rfl (lv_at hl 0 rfl) ?_
                  refine g_get (C := R_M) (T := F_M) (N := 35) hx hb hts i_M hown hK hW (i := 400) (hdl 400 (by decide) (by decide)) ((va_up_ne _ _ (by decide)).trans ((va_up_ne _ _ (by decide)).trans ((va_up_ne _ _ (by decide)).trans ((va_up_ne _ _ (by decide)).trans h400)))) rfl 10 (by decide) (hts _ q_498) (fun _ h9 => h9) rfl d_M_row_107 ?_
                  refine lv_aload_n hx hb d_M_row_110 rfl (lv_at hl 0 rfl) ?_
                  refine g_get (C := R_M) (T := F_M) (N := 35) hx hb hts i_M hown hK hW (i := 400) (hdl 400 (by decide) (by decide)) ((va_up_ne _ _ (by decide)).trans ((va_up_ne _ _ (by decide)).trans ((va_up_ne _ _ (by decide)).trans ((va_up_ne _ _ (by decide)).trans h400)))) rfl 5 (by decide) (hts _ q_493) (fun _ h9 => h9) rfl d_M_row_111 ?_
                  refine lv_iconst (v := (-1)) hx hb d_M_row_114 (by decide) ?_
                  refine n_iast (x := (-1)) hx hb hK hW hS 0 (q := 409) (hdl 409 (by decide) (by decide)) ((va_up_ne _ _ (by decide)).trans ((va_up_ne _ _ (by decide)).trans ((va_up_ne _ _ (by decide)).trans ((va_up_ne _ _ (by decide)).trans h409)))) rfl (j := rw) (by omega) (by omega) d_M_row_115 (fun H locs hW hS => ?_)
                  refine lv_aload_n hx hb d_M_row_116 rfl (lv_at hl 0 rfl) ?_
                  refine lv_dup hx hb d_M_row_117 rfl ?_
                  refine g_get (C := R_M) (T := F_M) (N := 35) hx hb hts i_M hown hK hW (i := 400) (hdl 400 (by decide) (by decide)) ((va_up_ne _ _ (by decide)).trans ((va_up_ne _ _ (by decide)).trans ((va_up_ne _ _ (by decide)).trans ((va_up_ne _ _ (by decide)).trans ((va_up_ne _ _ (by decide)).trans h400))))) rfl 5 (by decide) (hts _ q_493) (fun _ h9 => h9) rfl d_M_row_118 ?_
                  refine lv_iconst (v := nI 1) hx hb d_M_row_121 (by decide) ?_
                  refine n_add hx hb d_M_row_122 ?_
                  refine g_put (ty := .int) (v := .int (nI (rw + 1))) (C := R_M) (T := F_M) (N := 35) hx hb hts i_M fy_M fy_M_ok fn_M hown hK hW hS (i := 400) (hdl 400 (by decide) (by decide)) ((va_up_ne _ _ (by decide)).trans ((va_up_ne _ _ (by decide)).trans ((va_up_ne _ _ (by decide)).trans ((va_up_ne _ _ (by decide)).trans ((va_up_ne _ _ (by decide)).trans h400))))) rfl 5 (by decide) (hts _ q_493) (fun _ h9 => h9) rfl (by decide +kernel) rfl rfl (Nat.le_of_ble_eq_true rfl) d_M_row_123 (fun H locs hW hS => ?_)
                  refine lv_iconst (v := nI 1) hx hb d_M_row_126 (by decide) ?_
                  exact g_zret hx hb hr (by rfl) hlocks hW hS (⟨bI_1 g9, by rw [if_pos g9]; rfl⟩) d_M_row_127
                · refine lv_iconst (v := nI 0) hx hb d_M_row_60 (by decide) ?_
                  exact g_zret hx hb hr (by rfl) hlocks hW hS (⟨bI_0 (by simp [okRow, inB_ge hj (show 4 ≤ j by omega)]), (if_neg (by simp [okRow, inB_ge hj (show 4 ≤ j by omega)])).symm⟩) d_M_row_61
set_option maxHeartbeats 4000000 in
set_option maxRecDepth 100000 in
/-- page -/
theorem c_M_page (l : Launch) {D : va_G} {cI cJ cG : ClassId} {ad : Nat → Nat} {co : Nat → va_E} {dl : List Nat} {a rw sh pg ce mg kn cs sm : Nat} (hdl : ∀ i, 400 ≤ i → i < 427 → i ∈ dl) (h400 : co 400 = mO ad a rw sh pg ce mg kn cs sm) {pf : Nat → Int64} {pt : Nat → Int64} {pa : Nat → Int32} (h410 : co 410 = .inl (cJ, 50, .inr (.inl pf))) (h411 : co 411 = .inl (cJ, 50, .inr (.inl pt))) (h412 : co 412 = .inl (cI, 50, .inl pa)) (x y : Int64) (z : Int32) (ha : a ≤ 12) (hp : pg ≤ 50) : gMi l y_M_page (Cond.code y_M_page b_M_page 6 (some .boolean) :: wA) ({ frames := 1, cells := 0, slots := 0, locals := 21 }) D gCl (gTy cI cJ cG) gNl [.ref (ad 400), .long x, .long y, .int z] ad co dl (fun r co' => r = bI (okPage a pg x y z) ∧ co' = if okPage a pg x y z then va_up (va_up (va_up (va_up co 410 (.inl (cJ, 50, .inr (.inl (vp_updL pf pg x))))) 411 (.inl (cJ, 50, .inr (.inl (vp_updL pt pg y))))) 412 (.inl (cI, 50, .inl (upd pa pg z)))) 400 (mO ad a rw sh (pg + 1) ce mg kn cs sm) else co) := by
  refine gMi_of (cc := b_M_page) (maxL := 6) (ret := some .boolean) (by decide) rfl (Nat.le_of_ble_eq_true rfl) ?_
  intro pp ee s mm below meth cd ls hC hW hS hl
  obtain ⟨hx, hb, hr, hts0, hown, hlocks, hml, hK, hN⟩ := hC
  have hts : ∀ w ∈ wA, w.before _ s = true := fun w h => hts0 w (List.mem_cons_of_mem _ h)
  have hA : ∀ q, s.heap.size ≤ q → gA ad co dl s.heap.size q := fun q h => Or.inr h
  have hl : lv_has ls 6 [(0, .ref (ad 400)), (1, .long x), (3, .long y), (5, .int z)] := hl
  have hown : s.vm.findClass R_M = some mm.cls := hown
  refine lv_aload_n hx hb d_M_page_0 rfl (lv_at hl 0 rfl) ?_
  refine lv_iload hx hb d_M_page_1 (lv_at hl 3 rfl) ?_
  refine g_cVi (As := [.int z]) (rest := []) ⟨hx, hb, hml, hown, hts⟩ (c_M_isAct l hdl h400 z (by omega)) (gcwV 1 hts q_601 q_598 q_600 qs_8 q_9 (by decide +kernel) ⟨(Nat.le_of_ble_eq_true rfl), (Nat.le_of_ble_eq_true rfl)⟩) gNl_ok hN hK hW hS hA (hdl 400 (by decide) (by decide)) h400 rfl rfl hl.1 rfl (Nat.le_of_ble_eq_true rfl) d_M_page_3 ⟨Nat.zero_le _, Nat.zero_le _⟩ (fun r co9 H locs hp9 hW hS => ?_)
  obtain ⟨rfl, hco9⟩ := hp9
  rw [hco9] at hW
  refine n_ifz_eq (tgt := 30) hx hb d_M_page_6 (by decide) (fun g1 => ?_) (fun g1 => ?_)
  · refine lv_iconst (v := nI 0) hx hb d_M_page_30 (by decide) ?_
    exact g_zret hx hb hr (by rfl) hlocks hW hS (⟨bI_0 (by simp [okPage, g1]), (if_neg (by simp [okPage, g1])).symm⟩) d_M_page_31
  · refine lv_lload_n hx hb d_M_page_9 rfl (lv_at hl 1 rfl) ?_
    refine lv_lconst (v := 0) hx hb d_M_page_10 (by decide) ?_
    refine W.lcmp hx hb d_M_page_11 ?_
    refine lv_if_lt (tgt := 30) hx hb d_M_page_12 (by decide) (fun h2 => ?_) (fun h2 => ?_)
    · refine lv_iconst (v := nI 0) hx hb d_M_page_30 (by decide) ?_
      exact g_zret hx hb hr (by rfl) hlocks hW hS (⟨bI_0 (by simp [okPage, L_nlt (lc_lt h2)]), (if_neg (by simp [okPage, L_nlt (lc_lt h2)])).symm⟩) d_M_page_31
    · refine lv_lload_n hx hb d_M_page_15 rfl (lv_at hl 1 rfl) ?_
      refine lv_lload_n hx hb d_M_page_16 rfl (lv_at hl 2 rfl) ?_
      refine W.lcmp hx hb d_M_page_17 ?_
      refine lv_if_ge (tgt := 30) hx hb d_M_page_18 (by decide) (fun h3 => ?_) (fun h3 => ?_)
      · refine lv_iconst (v := nI 0) hx hb d_M_page_30 (by decide) ?_
        exact g_zret hx hb hr (by rfl) hlocks hW hS (⟨bI_0 (by simp [okPage, L_nle (lc_ge h3)]), (if_neg (by simp [okPage, L_nle (lc_ge h3)])).symm⟩) d_M_page_31
      · refine lv_aload_n hx hb d_M_page_21 rfl (lv_at hl 0 rfl) ?_
        refine g_get (C := R_M) (T := F_M) (N := 35) hx hb hts i_M hown hK hW (i := 400) (hdl 400 (by decide) (by decide)) h400 rfl 12 (by decide) (hts _ q_500) (fun _ h9 => h9) rfl d_M_page_22 ?_
        refine lv_bipush (v := nI 50) hx hb d_M_page_25 (by decide) ?_
        refine n_icmp_ne (tgt := 32) hx hb (by omega) (by omega) d_M_page_27 (by decide) (fun h4 => ?_) (fun h4 => ?_)
        · have g9 : okPage a pg x y z = true := by simp [okPage, g1, lc_nlt h2, lc_nge h3, show pg < 50 by omega]
          refine lv_aload_n hx hb d_M_page_32 rfl (lv_at hl 0 rfl) ?_
          refine g_get (C := R_M) (T := F_M) (N := 35) hx hb hts i_M hown hK hW (i := 400) (hdl 400 (by decide) (by decide)) h400 rfl 13 (by decide) (hts _ q_501) (fun _ h9 => h9) rfl d_M_page_33 ?_
          refine lv_aload_n hx hb d_M_page_36 rfl (lv_at hl 0 rfl) ?_
          refine g_get (C := R_M) (T := F_M) (N := 35) hx hb hts i_M hown hK hW (i := 400) (hdl 400 (by decide) (by decide)) h400 rfl 12 (by decide) (hts _ q_500) (fun _ h9 => h9) rfl d_M_page_37 ?_
          refine lv_lload_n hx hb d_M_page_40 rfl (lv_at hl 1 rfl) ?_
          refine n_last (x := x) hx hb hK hW hS 1 (q := 410) (hdl 410 (by decide) (by decide)) h410 rfl (j := pg) (by omega) (by omega) d_M_page_41 (fun H locs hW hS => ?_)
          refine lv_aload_n hx hb d_M_page_42 rfl (lv_at hl 0 rfl) ?_
          refine g_get (C := R_M) (T := F_M) (N := 35) hx hb hts i_M hown hK hW (i := 400) (hdl 400 (by decide) (by decide)) ((va_up_ne _ _ (by decide)).trans h400) rfl 14 (by decide) (hts _ q_502) (fun _ h9 => h9) rfl d_M_page_43 ?_
          refine lv_aload_n hx hb d_M_page_46 rfl (lv_at hl 0 rfl) ?_
          refine g_get (C := R_M) (T := F_M) (N := 35) hx hb hts i_M hown hK hW (i := 400) (hdl 400 (by decide) (by decide)) ((va_up_ne _ _ (by decide)).trans h400) rfl 12 (by decide) (hts _ q_500) (fun _ h9 => h9) rfl d_M_page_47 ?_
          refine lv_lload_n hx hb d_M_page_50 rfl (lv_at hl 2 rfl) ?_
          refine n_last (x := y) hx hb hK hW hS 1 (q := 411) (hdl 411 (by decide) (by decide)) ((va_up_ne _ _ (by decide)).trans h411) rfl (j := pg) (by omega) (by omega) d_M_page_51 (fun H locs hW hS => ?_)
          refine lv_aload_n hx hb d_M_page_52 rfl (lv_at hl 0 rfl) ?_
          refine g_get (C := R_M) (T := F_M) (N := 35) hx hb hts i_M hown hK hW (i := 400) (hdl 400 (by decide) (by decide)) ((va_up_ne _ _ (by decide)).trans ((va_up_ne _ _ (by decide)).trans h400)) rfl 15 (by decide) (hts _ q_503) (fun _ h9 => h9) rfl d_M_page_53 ?_
          refine lv_aload_n hx hb d_M_page_56 rfl (lv_at hl 0 rfl) ?_
          refine g_get (C := R_M) (T := F_M) (N := 35) hx hb hts i_M hown hK hW (i := 400) (hdl 400 (by decide) (by decide)) ((va_up_ne _ _ (by decide)).trans ((va_up_ne _ _ (by decide)).trans h400)) rfl 12 (by decide) (hts _ q_500) (fun _ h9 => h9) rfl d_M_page_57 ?_
          refine lv_iload hx hb d_M_page_60 (lv_at hl 3 rfl) ?_
          refine n_iast (x := z) hx hb hK hW hS 0 (q := 412) (hdl 412 (by decide) (by decide)) ((va_up_ne _ _ (by decide)).trans ((va_up_ne _ _ (by decide)).trans h412)) rfl (j := pg) (by omega) (by omega) d_M_page_62 (fun H locs hW hS => ?_)
          refine lv_aload_n hx hb d_M_page_63 rfl (lv_at hl 0 rfl) ?_
          refine lv_dup hx hb d_M_page_64 rfl ?_
          refine g_get (C := R_M) (T := F_M) (N := 35) hx hb hts i_M hown hK hW (i := 400) (hdl 400 (by decide) (by decide)) ((va_up_ne _ _ (by decide)).trans ((va_up_ne _ _ (by decide)).trans ((va_up_ne _ _ (by decide)).trans h400))) rfl 12 (by decide) (hts _ q_500) (fun _ h9 => h9) rfl d_M_page_65 ?_
          refine lv_iconst (v := nI 1) hx hb d_M_page_68 (by decide) ?_
          refine n_add hx hb d_M_page_69 ?_
          refine g_put (ty := .int) (v := .int (nI (pg + 1))) (C := R_M) (T := F_M) (N := 35) hx hb hts i_M fy_M fy_M_ok fn_M hown hK hW hS (i := 400) (hdl 400 (by decide) (by decide)) ((va_up_ne _ _ (by decide)).trans ((va_up_ne _ _ (by decide)).trans ((va_up_ne _ _ (by decide)).trans h400))) rfl 12 (by decide) (hts _ q_500) (fun _ h9 => h9) rfl (by decide +kernel) rfl rfl (Nat.le_of_ble_eq_true rfl) d_M_page_70 (fun H locs hW hS => ?_)
          refine lv_iconst (v := nI 1) hx hb d_M_page_73 (by decide) ?_
          exact g_zret hx hb hr (by rfl) hlocks hW hS (⟨bI_1 g9, by rw [if_pos g9]; rfl⟩) d_M_page_74
        · refine lv_iconst (v := nI 0) hx hb d_M_page_30 (by decide) ?_
          exact g_zret hx hb hr (by rfl) hlocks hW hS (⟨bI_0 (by simp [okPage, show ¬ pg < 50 by omega]), (if_neg (by simp [okPage, show ¬ pg < 50 by omega])).symm⟩) d_M_page_31
set_option maxHeartbeats 4000000 in
set_option maxRecDepth 100000 in
/-- cell -/
theorem c_M_cell (l : Launch) {D : va_G} {cI cJ cG : ClassId} {ad : Nat → Nat} {co : Nat → va_E} {dl : List Nat} {a rw sh pg ce mg kn cs sm : Nat} (hdl : ∀ i, 400 ≤ i → i < 427 → i ∈ dl) (h400 : co 400 = mO ad a rw sh pg ce mg kn cs sm) {cr : Nat → Int32} {cx : Nat → Int32} {cy : Nat → Int32} {ct : Nat → Int64} (h413 : co 413 = .inl (cI, 300, .inl cr)) (h414 : co 414 = .inl (cI, 300, .inl cx)) (h415 : co 415 = .inl (cI, 300, .inl cy)) (h416 : co 416 = .inl (cJ, 300, .inr (.inl ct))) (k x y : Int32) (z : Int64) (hn : rw ≤ 200) (hc : ce ≤ 300) : gMi l y_M_cell (Cond.code y_M_cell b_M_cell 6 (some .boolean) :: wA) ({ frames := 1, cells := 0, slots := 0, locals := 21 }) D gCl (gTy cI cJ cG) gNl [.ref (ad 400), .int k, .int x, .int y, .long z] ad co dl (fun r co' => r = bI (okCell rw ce k x y z) ∧ co' = if okCell rw ce k x y z then va_up (va_up (va_up (va_up (va_up co 413 (.inl (cI, 300, .inl (upd cr ce k)))) 414 (.inl (cI, 300, .inl (upd cx ce x)))) 415 (.inl (cI, 300, .inl (upd cy ce y)))) 416 (.inl (cJ, 300, .inr (.inl (vp_updL ct ce z))))) 400 (mO ad a rw sh pg (ce + 1) mg kn cs sm) else co) := by
  refine gMi_of (cc := b_M_cell) (maxL := 6) (ret := some .boolean) (by decide) rfl (Nat.le_of_ble_eq_true rfl) ?_
  intro pp ee s mm below meth cd ls hC hW hS hl
  obtain ⟨hx, hb, hr, hts0, hown, hlocks, hml, hK, hN⟩ := hC
  have hts : ∀ w ∈ wA, w.before _ s = true := fun w h => hts0 w (List.mem_cons_of_mem _ h)
  have hA : ∀ q, s.heap.size ≤ q → gA ad co dl s.heap.size q := fun q h => Or.inr h
  have hl : lv_has ls 6 [(0, .ref (ad 400)), (1, .int k), (2, .int x), (3, .int y), (4, .long z)] := hl
  have hown : s.vm.findClass R_M = some mm.cls := hown
  refine lv_aload_n hx hb d_M_cell_0 rfl (lv_at hl 0 rfl) ?_
  refine lv_iload_n hx hb d_M_cell_1 rfl (lv_at hl 1 rfl) ?_
  refine g_cVi (As := [.int k]) (rest := []) ⟨hx, hb, hml, hown, hts⟩ (c_M_isRow l hdl h400 k (by omega)) (gcwV 1 hts q_621 q_618 q_620 qs_9 q_9 (by decide +kernel) ⟨(Nat.le_of_ble_eq_true rfl), (Nat.le_of_ble_eq_true rfl)⟩) gNl_ok hN hK hW hS hA (hdl 400 (by decide) (by decide)) h400 rfl rfl hl.1 rfl (Nat.le_of_ble_eq_true rfl) d_M_cell_2 ⟨Nat.zero_le _, Nat.zero_le _⟩ (fun r co9 H locs hp9 hW hS => ?_)
  obtain ⟨rfl, hco9⟩ := hp9
  rw [hco9] at hW
  refine n_ifz_eq (tgt := 54) hx hb d_M_cell_5 (by decide) (fun g1 => ?_) (fun g1 => ?_)
  · refine lv_iconst (v := nI 0) hx hb d_M_cell_54 (by decide) ?_
    exact g_zret hx hb hr (by rfl) hlocks hW hS (⟨bI_0 (by simp [okCell, g1]), (if_neg (by simp [okCell, g1])).symm⟩) d_M_cell_55
  · refine lv_iload_n hx hb d_M_cell_8 rfl (lv_at hl 2 rfl) ?_
    refine lv_if_lt (tgt := 54) hx hb d_M_cell_9 (by decide) (fun h5 => ?_) (fun h5 => ?_)
    · refine lv_iconst (v := nI 0) hx hb d_M_cell_54 (by decide) ?_
      exact g_zret hx hb hr (by rfl) hlocks hW hS (⟨bI_0 (by simp [okCell, inB_neg h5]), (if_neg (by simp [okCell, inB_neg h5])).symm⟩) d_M_cell_55
    · obtain ⟨i, hi, rfl⟩ := nI_of h5
      refine lv_iload_n hx hb d_M_cell_12 rfl (lv_at hl 2 rfl) ?_
      refine lv_bipush (v := nI 19) hx hb d_M_cell_13 (by decide) ?_
      refine n_icmp_gt (tgt := 54) hx hb (by omega) (by omega) d_M_cell_15 (by decide) (fun hh5 => ?_) (fun hh5 => ?_)
      · refine lv_iconst (v := nI 0) hx hb d_M_cell_54 (by decide) ?_
        exact g_zret hx hb hr (by rfl) hlocks hW hS (⟨bI_0 (by simp [okCell, inB_ge hi (show 20 ≤ i by omega)]), (if_neg (by simp [okCell, inB_ge hi (show 20 ≤ i by omega)])).symm⟩) d_M_cell_55
      · refine lv_iload_n hx hb d_M_cell_18 rfl (lv_at hl 3 rfl) ?_
        refine lv_if_lt (tgt := 54) hx hb d_M_cell_19 (by decide) (fun h6 => ?_) (fun h6 => ?_)
        · refine lv_iconst (v := nI 0) hx hb d_M_cell_54 (by decide) ?_
          exact g_zret hx hb hr (by rfl) hlocks hW hS (⟨bI_0 (by simp [okCell, inB_neg h6]), (if_neg (by simp [okCell, inB_neg h6])).symm⟩) d_M_cell_55
        · obtain ⟨j, hj, rfl⟩ := nI_of h6
          refine lv_iload_n hx hb d_M_cell_22 rfl (lv_at hl 3 rfl) ?_
          refine lv_bipush (v := nI 19) hx hb d_M_cell_23 (by decide) ?_
          refine n_icmp_gt (tgt := 54) hx hb (by omega) (by omega) d_M_cell_25 (by decide) (fun hh6 => ?_) (fun hh6 => ?_)
          · refine lv_iconst (v := nI 0) hx hb d_M_cell_54 (by decide) ?_
            exact g_zret hx hb hr (by rfl) hlocks hW hS (⟨bI_0 (by simp [okCell, inB_ge hj (show 20 ≤ j by omega)]), (if_neg (by simp [okCell, inB_ge hj (show 20 ≤ j by omega)])).symm⟩) d_M_cell_55
          · refine lv_lload hx hb d_M_cell_28 (lv_at hl 4 rfl) ?_
            refine lv_lconst (v := 1) hx hb d_M_cell_30 (by decide) ?_
            refine W.lcmp hx hb d_M_cell_31 ?_
            refine lv_if_lt (tgt := 54) hx hb d_M_cell_32 (by decide) (fun h7 => ?_) (fun h7 => ?_)
            · refine lv_iconst (v := nI 0) hx hb d_M_cell_54 (by decide) ?_
              exact g_zret hx hb hr (by rfl) hlocks hW hS (⟨bI_0 (by simp [okCell, L_nlt (lc_lt h7)]), (if_neg (by simp [okCell, L_nlt (lc_lt h7)])).symm⟩) d_M_cell_55
            · refine lv_lload hx hb d_M_cell_35 (lv_at hl 4 rfl) ?_
              refine lv_ldc2 hx hb hown (hts _ q_635) d_M_cell_37 ?_
              refine W.lcmp hx hb d_M_cell_40 ?_
              refine lv_if_gt (tgt := 54) hx hb d_M_cell_41 (by decide) (fun h8 => ?_) (fun h8 => ?_)
              · refine lv_iconst (v := nI 0) hx hb d_M_cell_54 (by decide) ?_
                exact g_zret hx hb hr (by rfl) hlocks hW hS (⟨bI_0 (by simp [okCell, L_nlt (lc_gt h8)]), (if_neg (by simp [okCell, L_nlt (lc_gt h8)])).symm⟩) d_M_cell_55
              · refine lv_aload_n hx hb d_M_cell_44 rfl (lv_at hl 0 rfl) ?_
                refine g_get (C := R_M) (T := F_M) (N := 35) hx hb hts i_M hown hK hW (i := 400) (hdl 400 (by decide) (by decide)) h400 rfl 16 (by decide) (hts _ q_504) (fun _ h9 => h9) rfl d_M_cell_45 ?_
                refine lv_sipush (v := nI 300) hx hb d_M_cell_48 (by decide) ?_
                refine n_icmp_ne (tgt := 56) hx hb (by omega) (by omega) d_M_cell_51 (by decide) (fun h9 => ?_) (fun h9 => ?_)
                · have g9 : okCell rw ce k (nI i) (nI j) z = true := by simp [okCell, g1, inB_lt (n := 20) (show i < 20 by omega) (by decide), inB_lt (n := 20) (show j < 20 by omega) (by decide), lc_nlt h7, lc_ngt h8, show ce < 300 by omega]
                  refine lv_aload_n hx hb d_M_cell_56 rfl (lv_at hl 0 rfl) ?_
                  refine g_get (C := R_M) (T := F_M) (N := 35) hx hb hts i_M hown hK hW (i := 400) (hdl 400 (by decide) (by decide)) h400 rfl 17 (by decide) (hts _ q_505) (fun _ h9 => h9) rfl d_M_cell_57 ?_
                  refine lv_aload_n hx hb d_M_cell_60 rfl (lv_at hl 0 rfl) ?_
                  refine g_get (C := R_M) (T := F_M) (N := 35) hx hb hts i_M hown hK hW (i := 400) (hdl 400 (by decide) (by decide)) h400 rfl 16 (by decide) (hts _ q_504) (fun _ h9 => h9) rfl d_M_cell_61 ?_
                  refine lv_iload_n hx hb d_M_cell_64 rfl (lv_at hl 1 rfl) ?_
                  refine n_iast (x := k) hx hb hK hW hS 0 (q := 413) (hdl 413 (by decide) (by decide)) h413 rfl (j := ce) (by omega) (by omega) d_M_cell_65 (fun H locs hW hS => ?_)
                  refine lv_aload_n hx hb d_M_cell_66 rfl (lv_at hl 0 rfl) ?_
                  refine g_get (C := R_M) (T := F_M) (N := 35) hx hb hts i_M hown hK hW (i := 400) (hdl 400 (by decide) (by decide)) ((va_up_ne _ _ (by decide)).trans h400) rfl 18 (by decide) (hts _ q_506) (fun _ h9 => h9) rfl d_M_cell_67 ?_
                  refine lv_aload_n hx hb d_M_cell_70 rfl (lv_at hl 0 rfl) ?_
                  refine g_get (C := R_M) (T := F_M) (N := 35) hx hb hts i_M hown hK hW (i := 400) (hdl 400 (by decide) (by decide)) ((va_up_ne _ _ (by decide)).trans h400) rfl 16 (by decide) (hts _ q_504) (fun _ h9 => h9) rfl d_M_cell_71 ?_
                  refine lv_iload_n hx hb d_M_cell_74 rfl (lv_at hl 2 rfl) ?_
                  refine n_iast (x := nI i) hx hb hK hW hS 0 (q := 414) (hdl 414 (by decide) (by decide)) ((va_up_ne _ _ (by decide)).trans h414) rfl (j := ce) (by omega) (by omega) d_M_cell_75 (fun H locs hW hS => ?_)
                  refine lv_aload_n hx hb d_M_cell_76 rfl (lv_at hl 0 rfl) ?_
                  refine g_get (C := R_M) (T := F_M) (N := 35) hx hb hts i_M hown hK hW (i := 400) (hdl 400 (by decide) (by decide)) ((va_up_ne _ _ (by decide)).trans ((va_up_ne _ _ (by decide)).trans h400)) rfl 19 (by decide) (hts _ q_507) (fun _ h9 => h9) rfl d_M_cell_77 ?_
                  refine lv_aload_n hx hb d_M_cell_80 rfl (lv_at hl 0 rfl) ?_
                  refine g_get (C := R_M) (T := F_M) (N := 35) hx hb hts i_M hown hK hW (i := 400) (hdl 400 (by decide) (by decide)) ((va_up_ne _ _ (by decide)).trans ((va_up_ne _ _ (by decide)).trans h400)) rfl 16 (by decide) (hts _ q_504) (fun _ h9 => h9) rfl d_M_cell_81 ?_
                  refine lv_iload_n hx hb d_M_cell_84 rfl (lv_at hl 3 rfl) ?_
                  refine n_iast (x := nI j) hx hb hK hW hS 0 (q := 415) (hdl 415 (by decide) (by decide)) ((va_up_ne _ _ (by decide)).trans ((va_up_ne _ _ (by decide)).trans h415)) rfl (j := ce) (by omega) (by omega) d_M_cell_85 (fun H locs hW hS => ?_)
                  refine lv_aload_n hx hb d_M_cell_86 rfl (lv_at hl 0 rfl) ?_
                  refine g_get (C := R_M) (T := F_M) (N := 35) hx hb hts i_M hown hK hW (i := 400) (hdl 400 (by decide) (by decide)) ((va_up_ne _ _ (by decide)).trans ((va_up_ne _ _ (by decide)).trans ((va_up_ne _ _ (by decide)).trans h400))) rfl 20 (by decide) (hts _ q_508) (fun _ h9 => h9) rfl d_M_cell_87 ?_
                  refine lv_aload_n hx hb d_M_cell_90 rfl (lv_at hl 0 rfl) ?_
                  refine g_get (C := R_M) (T := F_M) (N := 35) hx hb hts i_M hown hK hW (i := 400) (hdl 400 (by decide) (by decide)) ((va_up_ne _ _ (by decide)).trans ((va_up_ne _ _ (by decide)).trans ((va_up_ne _ _ (by decide)).trans h400))) rfl 16 (by decide) (hts _ q_504) (fun _ h9 => h9) rfl d_M_cell_91 ?_
                  refine lv_lload hx hb d_M_cell_94 (lv_at hl 4 rfl) ?_
                  refine n_last (x := z) hx hb hK hW hS 1 (q := 416) (hdl 416 (by decide) (by decide)) ((va_up_ne _ _ (by decide)).trans ((va_up_ne _ _ (by decide)).trans ((va_up_ne _ _ (by decide)).trans h416))) rfl (j := ce) (by omega) (by omega) d_M_cell_96 (fun H locs hW hS => ?_)
                  refine lv_aload_n hx hb d_M_cell_97 rfl (lv_at hl 0 rfl) ?_
                  refine lv_dup hx hb d_M_cell_98 rfl ?_
                  refine g_get (C := R_M) (T := F_M) (N := 35) hx hb hts i_M hown hK hW (i := 400) (hdl 400 (by decide) (by decide)) ((va_up_ne _ _ (by decide)).trans ((va_up_ne _ _ (by decide)).trans ((va_up_ne _ _ (by decide)).trans ((va_up_ne _ _ (by decide)).trans h400)))) rfl 16 (by decide) (hts _ q_504) (fun _ h9 => h9) rfl d_M_cell_99 ?_
                  refine lv_iconst (v := nI 1) hx hb d_M_cell_102 (by decide) ?_
                  refine n_add hx hb d_M_cell_103 ?_
                  refine g_put (ty := .int) (v := .int (nI (ce + 1))) (C := R_M) (T := F_M) (N := 35) hx hb hts i_M fy_M fy_M_ok fn_M hown hK hW hS (i := 400) (hdl 400 (by decide) (by decide)) ((va_up_ne _ _ (by decide)).trans ((va_up_ne _ _ (by decide)).trans ((va_up_ne _ _ (by decide)).trans ((va_up_ne _ _ (by decide)).trans h400)))) rfl 16 (by decide) (hts _ q_504) (fun _ h9 => h9) rfl (by decide +kernel) rfl rfl (Nat.le_of_ble_eq_true rfl) d_M_cell_104 (fun H locs hW hS => ?_)
                  refine lv_iconst (v := nI 1) hx hb d_M_cell_107 (by decide) ?_
                  exact g_zret hx hb hr (by rfl) hlocks hW hS (⟨bI_1 g9, by rw [if_pos g9]; rfl⟩) d_M_cell_108
                · refine lv_iconst (v := nI 0) hx hb d_M_cell_54 (by decide) ?_
                  exact g_zret hx hb hr (by rfl) hlocks hW hS (⟨bI_0 (by simp [okCell, show ¬ ce < 300 by omega]), (if_neg (by simp [okCell, show ¬ ce < 300 by omega])).symm⟩) d_M_cell_55
end
section
/-! Worlds in which some arrays of the reference hold other numbers -/
theorem gW_eq {D : va_G} {cl : List vw_C} {A : Nat → Prop} {ad : Nat → Nat} {co co1 : Nat → va_E} {dl : List Nat} {H : Heap} (h : co = co1) (hW : gW D cl A ad co dl H) : gW D cl A ad co1 dl H := by
  subst h
  exact hW
def wS (cI cJ : ClassId) (co : Nat → va_E) (f420 : Nat → Int32) (f421 : Nat → Int32) (f422 : Nat → Int32) (f423 : Nat → Int32) (f426 : Nat → Int32) : Nat → va_E := va_up (va_up (va_up (va_up (va_up co 420 (.inl (cI, 2400, .inl f420))) 421 (.inl (cI, 2400, .inl f421))) 422 (.inl (cI, 12, .inl f422))) 423 (.inl (cI, 12, .inl f423))) 426 (.inl (cI, 200, .inl f426))
theorem wS_420 {cI cJ : ClassId} {co : Nat → va_E} {f420 : Nat → Int32} {f421 : Nat → Int32} {f422 : Nat → Int32} {f423 : Nat → Int32} {f426 : Nat → Int32} : wS cI cJ co f420 f421 f422 f423 f426 420 = .inl (cI, 2400, .inl f420) := by simp [wS, va_up]
theorem wS_u420 {cI cJ : ClassId} {co : Nat → va_E} {f420 : Nat → Int32} {f421 : Nat → Int32} {f422 : Nat → Int32} {f423 : Nat → Int32} {f426 : Nat → Int32} {g : Nat → Int32} : va_up (wS cI cJ co f420 f421 f422 f423 f426) 420 (.inl (cI, 2400, .inl g)) = wS cI cJ co g f421 f422 f423 f426 := by
  funext i
  by_cases h : i = 420
  · subst h; simp [wS, va_up]
  · simp [wS, va_up, h]
theorem wS_421 {cI cJ : ClassId} {co : Nat → va_E} {f420 : Nat → Int32} {f421 : Nat → Int32} {f422 : Nat → Int32} {f423 : Nat → Int32} {f426 : Nat → Int32} : wS cI cJ co f420 f421 f422 f423 f426 421 = .inl (cI, 2400, .inl f421) := by simp [wS, va_up]
theorem wS_u421 {cI cJ : ClassId} {co : Nat → va_E} {f420 : Nat → Int32} {f421 : Nat → Int32} {f422 : Nat → Int32} {f423 : Nat → Int32} {f426 : Nat → Int32} {g : Nat → Int32} : va_up (wS cI cJ co f420 f421 f422 f423 f426) 421 (.inl (cI, 2400, .inl g)) = wS cI cJ co f420 g f422 f423 f426 := by
  funext i
  by_cases h : i = 421
  · subst h; simp [wS, va_up]
  · simp [wS, va_up, h]
theorem wS_422 {cI cJ : ClassId} {co : Nat → va_E} {f420 : Nat → Int32} {f421 : Nat → Int32} {f422 : Nat → Int32} {f423 : Nat → Int32} {f426 : Nat → Int32} : wS cI cJ co f420 f421 f422 f423 f426 422 = .inl (cI, 12, .inl f422) := by simp [wS, va_up]
theorem wS_u422 {cI cJ : ClassId} {co : Nat → va_E} {f420 : Nat → Int32} {f421 : Nat → Int32} {f422 : Nat → Int32} {f423 : Nat → Int32} {f426 : Nat → Int32} {g : Nat → Int32} : va_up (wS cI cJ co f420 f421 f422 f423 f426) 422 (.inl (cI, 12, .inl g)) = wS cI cJ co f420 f421 g f423 f426 := by
  funext i
  by_cases h : i = 422
  · subst h; simp [wS, va_up]
  · simp [wS, va_up, h]
theorem wS_423 {cI cJ : ClassId} {co : Nat → va_E} {f420 : Nat → Int32} {f421 : Nat → Int32} {f422 : Nat → Int32} {f423 : Nat → Int32} {f426 : Nat → Int32} : wS cI cJ co f420 f421 f422 f423 f426 423 = .inl (cI, 12, .inl f423) := by simp [wS, va_up]
theorem wS_u423 {cI cJ : ClassId} {co : Nat → va_E} {f420 : Nat → Int32} {f421 : Nat → Int32} {f422 : Nat → Int32} {f423 : Nat → Int32} {f426 : Nat → Int32} {g : Nat → Int32} : va_up (wS cI cJ co f420 f421 f422 f423 f426) 423 (.inl (cI, 12, .inl g)) = wS cI cJ co f420 f421 f422 g f426 := by
  funext i
  by_cases h : i = 423
  · subst h; simp [wS, va_up]
  · simp [wS, va_up, h]
theorem wS_426 {cI cJ : ClassId} {co : Nat → va_E} {f420 : Nat → Int32} {f421 : Nat → Int32} {f422 : Nat → Int32} {f423 : Nat → Int32} {f426 : Nat → Int32} : wS cI cJ co f420 f421 f422 f423 f426 426 = .inl (cI, 200, .inl f426) := by simp [wS, va_up]
theorem wS_u426 {cI cJ : ClassId} {co : Nat → va_E} {f420 : Nat → Int32} {f421 : Nat → Int32} {f422 : Nat → Int32} {f423 : Nat → Int32} {f426 : Nat → Int32} {g : Nat → Int32} : va_up (wS cI cJ co f420 f421 f422 f423 f426) 426 (.inl (cI, 200, .inl g)) = wS cI cJ co f420 f421 f422 f423 g := by
  funext i
  by_cases h : i = 426
  · subst h; simp [wS, va_up]
  · simp [wS, va_up, h]
theorem wS_o {cI cJ : ClassId} {co : Nat → va_E} {f420 : Nat → Int32} {f421 : Nat → Int32} {f422 : Nat → Int32} {f423 : Nat → Int32} {f426 : Nat → Int32} {i : Nat} (h : i ≠ 420 ∧ i ≠ 421 ∧ i ≠ 422 ∧ i ≠ 423 ∧ i ≠ 426) : wS cI cJ co f420 f421 f422 f423 f426 i = co i := by simp [wS, va_up, h]
theorem wS_self {cI cJ : ClassId} {co : Nat → va_E} {f420 : Nat → Int32} {f421 : Nat → Int32} {f422 : Nat → Int32} {f423 : Nat → Int32} {f426 : Nat → Int32} (h420 : co 420 = .inl (cI, 2400, .inl f420)) (h421 : co 421 = .inl (cI, 2400, .inl f421)) (h422 : co 422 = .inl (cI, 12, .inl f422)) (h423 : co 423 = .inl (cI, 12, .inl f423)) (h426 : co 426 = .inl (cI, 200, .inl f426)) : co = wS cI cJ co f420 f421 f422 f423 f426 := by
  funext i
  by_cases k420 : i = 420
  · subst k420; rw [wS_420]; exact h420
  by_cases k421 : i = 421
  · subst k421; rw [wS_421]; exact h421
  by_cases k422 : i = 422
  · subst k422; rw [wS_422]; exact h422
  by_cases k423 : i = 423
  · subst k423; rw [wS_423]; exact h423
  by_cases k426 : i = 426
  · subst k426; rw [wS_426]; exact h426
  exact (wS_o ⟨k420, k421, k422, k423, k426⟩).symm
theorem wS_tw {cI cJ : ClassId} {co : Nat → va_E} {f420 : Nat → Int32} {f421 : Nat → Int32} {f422 : Nat → Int32} {f423 : Nat → Int32} {f426 : Nat → Int32} {g420 : Nat → Int32} {g421 : Nat → Int32} {g422 : Nat → Int32} {g423 : Nat → Int32} {g426 : Nat → Int32} : wS cI cJ (wS cI cJ co f420 f421 f422 f423 f426) g420 g421 g422 g423 g426 = wS cI cJ co g420 g421 g422 g423 g426 := by
  funext i
  by_cases k420 : i = 420
  · subst k420; rw [wS_420, wS_420]
  by_cases k421 : i = 421
  · subst k421; rw [wS_421, wS_421]
  by_cases k422 : i = 422
  · subst k422; rw [wS_422, wS_422]
  by_cases k423 : i = 423
  · subst k423; rw [wS_423, wS_423]
  by_cases k426 : i = 426
  · subst k426; rw [wS_426, wS_426]
  rw [wS_o ⟨k420, k421, k422, k423, k426⟩, wS_o ⟨k420, k421, k422, k423, k426⟩, wS_o ⟨k420, k421, k422, k423, k426⟩]
def wB (cI cJ : ClassId) (co : Nat → va_E) (f424 : Nat → Int32) (f425 : Nat → Int32) : Nat → va_E := va_up (va_up co 424 (.inl (cI, 2400, .inl f424))) 425 (.inl (cI, 2400, .inl f425))
theorem wB_424 {cI cJ : ClassId} {co : Nat → va_E} {f424 : Nat → Int32} {f425 : Nat → Int32} : wB cI cJ co f424 f425 424 = .inl (cI, 2400, .inl f424) := by simp [wB, va_up]
theorem wB_u424 {cI cJ : ClassId} {co : Nat → va_E} {f424 : Nat → Int32} {f425 : Nat → Int32} {g : Nat → Int32} : va_up (wB cI cJ co f424 f425) 424 (.inl (cI, 2400, .inl g)) = wB cI cJ co g f425 := by
  funext i
  by_cases h : i = 424
  · subst h; simp [wB, va_up]
  · simp [wB, va_up, h]
theorem wB_425 {cI cJ : ClassId} {co : Nat → va_E} {f424 : Nat → Int32} {f425 : Nat → Int32} : wB cI cJ co f424 f425 425 = .inl (cI, 2400, .inl f425) := by simp [wB, va_up]
theorem wB_u425 {cI cJ : ClassId} {co : Nat → va_E} {f424 : Nat → Int32} {f425 : Nat → Int32} {g : Nat → Int32} : va_up (wB cI cJ co f424 f425) 425 (.inl (cI, 2400, .inl g)) = wB cI cJ co f424 g := by
  funext i
  by_cases h : i = 425
  · subst h; simp [wB, va_up]
  · simp [wB, va_up, h]
theorem wB_o {cI cJ : ClassId} {co : Nat → va_E} {f424 : Nat → Int32} {f425 : Nat → Int32} {i : Nat} (h : i ≠ 424 ∧ i ≠ 425) : wB cI cJ co f424 f425 i = co i := by simp [wB, va_up, h]
theorem wB_self {cI cJ : ClassId} {co : Nat → va_E} {f424 : Nat → Int32} {f425 : Nat → Int32} (h424 : co 424 = .inl (cI, 2400, .inl f424)) (h425 : co 425 = .inl (cI, 2400, .inl f425)) : co = wB cI cJ co f424 f425 := by
  funext i
  by_cases k424 : i = 424
  · subst k424; rw [wB_424]; exact h424
  by_cases k425 : i = 425
  · subst k425; rw [wB_425]; exact h425
  exact (wB_o ⟨k424, k425⟩).symm
theorem wB_tw {cI cJ : ClassId} {co : Nat → va_E} {f424 : Nat → Int32} {f425 : Nat → Int32} {g424 : Nat → Int32} {g425 : Nat → Int32} : wB cI cJ (wB cI cJ co f424 f425) g424 g425 = wB cI cJ co g424 g425 := by
  funext i
  by_cases k424 : i = 424
  · subst k424; rw [wB_424, wB_424]
  by_cases k425 : i = 425
  · subst k425; rw [wB_425, wB_425]
  rw [wB_o ⟨k424, k425⟩, wB_o ⟨k424, k425⟩, wB_o ⟨k424, k425⟩]
def wC (cI cJ : ClassId) (co : Nat → va_E) (f401 : Nat → Int32) (f402 : Nat → Int32) : Nat → va_E := va_up (va_up co 401 (.inl (cI, 144, .inl f401))) 402 (.inl (cI, 120, .inl f402))
theorem wC_401 {cI cJ : ClassId} {co : Nat → va_E} {f401 : Nat → Int32} {f402 : Nat → Int32} : wC cI cJ co f401 f402 401 = .inl (cI, 144, .inl f401) := by simp [wC, va_up]
theorem wC_u401 {cI cJ : ClassId} {co : Nat → va_E} {f401 : Nat → Int32} {f402 : Nat → Int32} {g : Nat → Int32} : va_up (wC cI cJ co f401 f402) 401 (.inl (cI, 144, .inl g)) = wC cI cJ co g f402 := by
  funext i
  by_cases h : i = 401
  · subst h; simp [wC, va_up]
  · simp [wC, va_up, h]
theorem wC_402 {cI cJ : ClassId} {co : Nat → va_E} {f401 : Nat → Int32} {f402 : Nat → Int32} : wC cI cJ co f401 f402 402 = .inl (cI, 120, .inl f402) := by simp [wC, va_up]
theorem wC_u402 {cI cJ : ClassId} {co : Nat → va_E} {f401 : Nat → Int32} {f402 : Nat → Int32} {g : Nat → Int32} : va_up (wC cI cJ co f401 f402) 402 (.inl (cI, 120, .inl g)) = wC cI cJ co f401 g := by
  funext i
  by_cases h : i = 402
  · subst h; simp [wC, va_up]
  · simp [wC, va_up, h]
theorem wC_o {cI cJ : ClassId} {co : Nat → va_E} {f401 : Nat → Int32} {f402 : Nat → Int32} {i : Nat} (h : i ≠ 401 ∧ i ≠ 402) : wC cI cJ co f401 f402 i = co i := by simp [wC, va_up, h]
theorem wC_self {cI cJ : ClassId} {co : Nat → va_E} {f401 : Nat → Int32} {f402 : Nat → Int32} (h401 : co 401 = .inl (cI, 144, .inl f401)) (h402 : co 402 = .inl (cI, 120, .inl f402)) : co = wC cI cJ co f401 f402 := by
  funext i
  by_cases k401 : i = 401
  · subst k401; rw [wC_401]; exact h401
  by_cases k402 : i = 402
  · subst k402; rw [wC_402]; exact h402
  exact (wC_o ⟨k401, k402⟩).symm
theorem wC_tw {cI cJ : ClassId} {co : Nat → va_E} {f401 : Nat → Int32} {f402 : Nat → Int32} {g401 : Nat → Int32} {g402 : Nat → Int32} : wC cI cJ (wC cI cJ co f401 f402) g401 g402 = wC cI cJ co g401 g402 := by
  funext i
  by_cases k401 : i = 401
  · subst k401; rw [wC_401, wC_401]
  by_cases k402 : i = 402
  · subst k402; rw [wC_402, wC_402]
  rw [wC_o ⟨k401, k402⟩, wC_o ⟨k401, k402⟩, wC_o ⟨k401, k402⟩]
def wV (cI cJ : ClassId) (co : Nat → va_E) (f401 : Nat → Int32) (f402 : Nat → Int32) (f403 : Nat → Int32) (f404 : Nat → Int32) : Nat → va_E := va_up (va_up (va_up (va_up co 401 (.inl (cI, 144, .inl f401))) 402 (.inl (cI, 120, .inl f402))) 403 (.inl (cI, 144, .inl f403))) 404 (.inl (cI, 120, .inl f404))
theorem wV_401 {cI cJ : ClassId} {co : Nat → va_E} {f401 : Nat → Int32} {f402 : Nat → Int32} {f403 : Nat → Int32} {f404 : Nat → Int32} : wV cI cJ co f401 f402 f403 f404 401 = .inl (cI, 144, .inl f401) := by simp [wV, va_up]
theorem wV_u401 {cI cJ : ClassId} {co : Nat → va_E} {f401 : Nat → Int32} {f402 : Nat → Int32} {f403 : Nat → Int32} {f404 : Nat → Int32} {g : Nat → Int32} : va_up (wV cI cJ co f401 f402 f403 f404) 401 (.inl (cI, 144, .inl g)) = wV cI cJ co g f402 f403 f404 := by
  funext i
  by_cases h : i = 401
  · subst h; simp [wV, va_up]
  · simp [wV, va_up, h]
theorem wV_402 {cI cJ : ClassId} {co : Nat → va_E} {f401 : Nat → Int32} {f402 : Nat → Int32} {f403 : Nat → Int32} {f404 : Nat → Int32} : wV cI cJ co f401 f402 f403 f404 402 = .inl (cI, 120, .inl f402) := by simp [wV, va_up]
theorem wV_u402 {cI cJ : ClassId} {co : Nat → va_E} {f401 : Nat → Int32} {f402 : Nat → Int32} {f403 : Nat → Int32} {f404 : Nat → Int32} {g : Nat → Int32} : va_up (wV cI cJ co f401 f402 f403 f404) 402 (.inl (cI, 120, .inl g)) = wV cI cJ co f401 g f403 f404 := by
  funext i
  by_cases h : i = 402
  · subst h; simp [wV, va_up]
  · simp [wV, va_up, h]
theorem wV_403 {cI cJ : ClassId} {co : Nat → va_E} {f401 : Nat → Int32} {f402 : Nat → Int32} {f403 : Nat → Int32} {f404 : Nat → Int32} : wV cI cJ co f401 f402 f403 f404 403 = .inl (cI, 144, .inl f403) := by simp [wV, va_up]
theorem wV_u403 {cI cJ : ClassId} {co : Nat → va_E} {f401 : Nat → Int32} {f402 : Nat → Int32} {f403 : Nat → Int32} {f404 : Nat → Int32} {g : Nat → Int32} : va_up (wV cI cJ co f401 f402 f403 f404) 403 (.inl (cI, 144, .inl g)) = wV cI cJ co f401 f402 g f404 := by
  funext i
  by_cases h : i = 403
  · subst h; simp [wV, va_up]
  · simp [wV, va_up, h]
theorem wV_404 {cI cJ : ClassId} {co : Nat → va_E} {f401 : Nat → Int32} {f402 : Nat → Int32} {f403 : Nat → Int32} {f404 : Nat → Int32} : wV cI cJ co f401 f402 f403 f404 404 = .inl (cI, 120, .inl f404) := by simp [wV, va_up]
theorem wV_u404 {cI cJ : ClassId} {co : Nat → va_E} {f401 : Nat → Int32} {f402 : Nat → Int32} {f403 : Nat → Int32} {f404 : Nat → Int32} {g : Nat → Int32} : va_up (wV cI cJ co f401 f402 f403 f404) 404 (.inl (cI, 120, .inl g)) = wV cI cJ co f401 f402 f403 g := by
  funext i
  by_cases h : i = 404
  · subst h; simp [wV, va_up]
  · simp [wV, va_up, h]
theorem wV_o {cI cJ : ClassId} {co : Nat → va_E} {f401 : Nat → Int32} {f402 : Nat → Int32} {f403 : Nat → Int32} {f404 : Nat → Int32} {i : Nat} (h : i ≠ 401 ∧ i ≠ 402 ∧ i ≠ 403 ∧ i ≠ 404) : wV cI cJ co f401 f402 f403 f404 i = co i := by simp [wV, va_up, h]
theorem wV_self {cI cJ : ClassId} {co : Nat → va_E} {f401 : Nat → Int32} {f402 : Nat → Int32} {f403 : Nat → Int32} {f404 : Nat → Int32} (h401 : co 401 = .inl (cI, 144, .inl f401)) (h402 : co 402 = .inl (cI, 120, .inl f402)) (h403 : co 403 = .inl (cI, 144, .inl f403)) (h404 : co 404 = .inl (cI, 120, .inl f404)) : co = wV cI cJ co f401 f402 f403 f404 := by
  funext i
  by_cases k401 : i = 401
  · subst k401; rw [wV_401]; exact h401
  by_cases k402 : i = 402
  · subst k402; rw [wV_402]; exact h402
  by_cases k403 : i = 403
  · subst k403; rw [wV_403]; exact h403
  by_cases k404 : i = 404
  · subst k404; rw [wV_404]; exact h404
  exact (wV_o ⟨k401, k402, k403, k404⟩).symm
theorem wV_tw {cI cJ : ClassId} {co : Nat → va_E} {f401 : Nat → Int32} {f402 : Nat → Int32} {f403 : Nat → Int32} {f404 : Nat → Int32} {g401 : Nat → Int32} {g402 : Nat → Int32} {g403 : Nat → Int32} {g404 : Nat → Int32} : wV cI cJ (wV cI cJ co f401 f402 f403 f404) g401 g402 g403 g404 = wV cI cJ co g401 g402 g403 g404 := by
  funext i
  by_cases k401 : i = 401
  · subst k401; rw [wV_401, wV_401]
  by_cases k402 : i = 402
  · subst k402; rw [wV_402, wV_402]
  by_cases k403 : i = 403
  · subst k403; rw [wV_403, wV_403]
  by_cases k404 : i = 404
  · subst k404; rw [wV_404, wV_404]
  rw [wV_o ⟨k401, k402, k403, k404⟩, wV_o ⟨k401, k402, k403, k404⟩, wV_o ⟨k401, k402, k403, k404⟩]
/-- the ways that the reference holds behind row k -/
def sInv (a : Nat) (al : Nat → Nat → Bool) (cl : Nat → Nat) (mv sp : Nat → Nat → Nat) (k z : Nat) (P : Nat → Nat → Nat) (S C : Nat → Int32) : Prop :=
  ∀ b, b < z → (al k b = true → opt a al cl mv sp k b (P b) ∧ C b = nI (pcs cl mv sp (P b) k) ∧ ∀ i, i ≤ k → S (200 * b + i) = nI (P b i)) ∧ (al k b = false → C b = nI BIG)
/-- the best way so far to act z -/
def sBst (al : Nat → Nat → Bool) (cl : Nat → Nat) (mv sp : Nat → Nat → Nat) (k z c : Nat) (P : Nat → Nat → Nat) (bs : Int32) (lN : Nat) : Prop :=
  (bs = -1 ∧ lN = BIG ∧ ∀ y, y < c → al k y = false) ∨ (∃ x, x < c ∧ bs = nI x ∧ al k x = true ∧ lN = pcs cl mv sp (P x) k + mv x z ∧ ∀ y, y < c → al k y = true → noW cl mv sp k z P x y)
end
section
set_option maxHeartbeats 4000000 in
set_option maxRecDepth 100000 in
/-- search -/
theorem c_M_search (l : Launch) {D : va_G} {cI cJ cG : ClassId} {ad : Nat → Nat} {co : Nat → va_E} {dl : List Nat} {a rw sh pg ce mg kn cs sm : Nat} (hdl : ∀ i, 400 ≤ i → i < 427 → i ∈ dl) (h400 : co 400 = mO ad a rw sh pg ce mg kn cs sm) {fm : Nat → Int32} {fs : Nat → Int32} {cls : Nat → Int32} {shp : Nat → Int32} {tr : Nat → Int32} {so : Nat → Int32} {lg : Nat → Int32} {sc : Nat → Int32} {lc : Nat → Int32} {fd : Nat → Int32} (h401 : co 401 = .inl (cI, 144, .inl fm)) (h402 : co 402 = .inl (cI, 120, .inl fs)) (h406 : co 406 = .inl (cI, 200, .inl cls)) (h408 : co 408 = .inl (cI, 200, .inl shp)) (h409 : co 409 = .inl (cI, 200, .inl tr)) (h420 : co 420 = .inl (cI, 2400, .inl so)) (h421 : co 421 = .inl (cI, 2400, .inl lg)) (h422 : co 422 = .inl (cI, 12, .inl sc)) (h423 : co 423 = .inl (cI, 12, .inl lc)) (h426 : co 426 = .inl (cI, 200, .inl fd)) {cl : Nat → Nat} {mv sp : Nat → Nat → Nat} (w : Int32) (ha : a ≤ 12) (hok : okN a (alw tr shp w) cl mv sp rw) (hcl : ∀ k, k < rw → cls k = nI (cl k) ∧ cl k < 10) (hmv : ∀ i j, i < a → j < a → fm (12 * i + j) = nI (mv i j)) (hsp : ∀ i c, i < a → c < 10 → fs (10 * i + c) = nI (sp i c)) (hsh : ∀ k, k < rw → shp k ≠ -1) : gMi l y_M_search (Cond.code y_M_search b_M_search 8 (some .int) :: wA) ({ frames := 1, cells := 0, slots := 0, locals := 24 }) D gCl (gTy cI cJ cG) gNl [.ref (ad 400), .int w] ad co dl (fun r co' => ∃ f420 f421 f422 f423 f426 : Nat → Int32, co' = wS cI cJ co f420 f421 f422 f423 f426 ∧ r = nI (bcs a (alw tr shp w) cl mv sp rw) ∧ ∀ k, k < rw → f426 k = nI (bln a (alw tr shp w) cl mv sp rw k)) := by
  refine gMi_of (cc := b_M_search) (maxL := 8) (ret := some .int) (by decide) rfl (Nat.le_of_ble_eq_true rfl) ?_
  intro pp ee s mm below meth cd ls hC hW hS hl
  obtain ⟨hx, hb, hr, hts0, hown, hlocks, hml, hK, hN⟩ := hC
  have hts : ∀ w ∈ wA, w.before _ s = true := fun w h => hts0 w (List.mem_cons_of_mem _ h)
  have hA : ∀ q, s.heap.size ≤ q → gA ad co dl s.heap.size q := fun q h => Or.inr h
  have hl : lv_has ls 8 [(0, .ref (ad 400)), (1, .int w)] := hl
  have hown : s.vm.findClass R_M = some mm.cls := hown
  have hn0 : 0 < rw := hok.1
  have hn2 : rw ≤ 200 := hok.2.1
  have ha0 : 0 < a := hok.2.2.1
  have hW := gW_eq (wS_self (cJ := cJ) h420 h421 h422 h423 h426) hW
  refine lv_iconst (v := nI 0) hx hb d_M_search_0 (by decide) ?_
  refine lv_istore_n (lv' := [(2, .int (nI 0)), (0, .ref (ad 400)), (1, .int w)]) hx hb d_M_search_1 rfl hl (by decide) rfl (fun ls hl => ?_)
  suffices hloop : ∀ (d z : Nat) (S C : Nat → Int32) (H : Heap) (locs : List Loc) (ls : Array Slot), (z ≤ a) → (a + 1 ≤ z + d) → (∀ b, b < z → (C b = nI (if (alw tr shp w) 0 b then sp b (cl 0) else BIG)) ∧ S (200 * b) = nI b) → gW D gCl (gA ad co dl s.heap.size) ad (wS cI cJ co S lg C lc fd) dl H → va_S (gA ad co dl s.heap.size) s.heap H locs → lv_has ls 8 [(0, .ref (ad 400)), (1, .int w), (2, .int (nI z))] → W pp l ee _ s mm _ below meth cd H locs 0 0 _ (F0 mm 2 ls []) by
    exact hloop (a + 1) 0 so sc _ _ ls (by omega) (by omega) (fun b h => absurd h (Nat.not_lt_zero b)) hW hS (lv_sub hl [1, 2, 0] rfl)
  clear hW hS hl
  intro d
  induction d with
  | zero => intro z S C H locs ls hz hd hi; omega
  | succ d ih =>
    intro z S C H locs ls hz hd hi hW hS hl
    refine lv_iload_n hx hb d_M_search_2 rfl (lv_at hl 2 rfl) ?_
    refine lv_aload_n hx hb d_M_search_3 rfl (lv_at hl 0 rfl) ?_
    refine g_get (C := R_M) (T := F_M) (N := 35) hx hb hts i_M hown hK hW (i := 400) (hdl 400 (by decide) (by decide)) ((wS_o (by decide)).trans h400) rfl 0 (by decide) (hts _ q_488) (fun _ h9 => h9) rfl d_M_search_4 ?_
    refine n_icmp_ge (tgt := 64) hx hb (by omega) (by omega) d_M_search_7 (by decide) (fun h1 => ?_) (fun h1 => ?_)
    · have hza : z = a := by omega
      rw [hza] at hi
      have hI : ∃ P, sInv a (alw tr shp w) cl mv sp 0 a P S C := by
        refine ⟨fun b _ => b, fun b hb => ⟨fun hal => ?_, fun hal => ?_⟩⟩
        · have := hi b hb
          rw [if_pos hal] at this
          exact ⟨opt_0 hb hal rfl, this.1, fun i hi9 => by rw [Nat.le_zero.mp hi9]; exact this.2⟩
        · have := hi b hb
          rw [if_neg (by rw [hal]; decide)] at this
          exact this.1
      clear hi hz hd h1 ih hza
      obtain ⟨P, hI⟩ := hI
      refine lv_iconst (v := nI 1) hx hb d_M_search_64 (by decide) ?_
      refine lv_istore_n (lv' := [(2, .int (nI 1)), (0, .ref (ad 400)), (1, .int w)]) hx hb d_M_search_65 rfl hl (by decide) rfl (fun ls hl => ?_)
      suffices hloop : ∀ (d k : Nat) (P : Nat → Nat → Nat) (S Lg C LC : Nat → Int32) (H : Heap) (locs : List Loc) (ls : Array Slot), (k < rw) → (rw ≤ k + d) → (sInv a (alw tr shp w) cl mv sp k a P S C) → gW D gCl (gA ad co dl s.heap.size) ad (wS cI cJ co S Lg C LC fd) dl H → va_S (gA ad co dl s.heap.size) s.heap H locs → lv_has ls 8 [(0, .ref (ad 400)), (1, .int w), (2, .int (nI (k + 1)))] → W pp l ee _ s mm _ below meth cd H locs 0 0 _ (F0 mm 66 ls []) by
        exact hloop rw 0 P S lg C lc _ _ ls hn0 (by omega) hI hW hS (lv_sub hl [1, 2, 0] rfl)
      clear hW hS hl
      intro d
      induction d with
      | zero => intro k P S Lg C LC H locs ls hk hd hI; omega
      | succ d ih2 =>
        intro k P S Lg C LC H locs ls hk hd hI hW hS hl
        refine lv_iload_n hx hb d_M_search_66 rfl (lv_at hl 2 rfl) ?_
        refine lv_aload_n hx hb d_M_search_67 rfl (lv_at hl 0 rfl) ?_
        refine g_get (C := R_M) (T := F_M) (N := 35) hx hb hts i_M hown hK hW (i := 400) (hdl 400 (by decide) (by decide)) ((wS_o (by decide)).trans h400) rfl 5 (by decide) (hts _ q_493) (fun _ h9 => h9) rfl d_M_search_68 ?_
        refine n_icmp_ge (tgt := 377) hx hb (by omega) (by omega) d_M_search_71 (by decide) (fun h1 => ?_) (fun h1 => ?_)
        · have hkr : k = rw - 1 := by omega
          rw [hkr] at hI
          clear ih2
          refine lv_iconst (v := nI 0) hx hb d_M_search_377 (by decide) ?_
          refine lv_istore_n (lv' := [(2, .int (nI 0)), (0, .ref (ad 400)), (1, .int w)]) hx hb d_M_search_378 rfl hl (by decide) rfl (fun ls hl => ?_)
          refine lv_iconst (v := nI 1) hx hb d_M_search_379 (by decide) ?_
          refine lv_istore_n (lv' := [(3, .int (nI 1)), (2, .int (nI 0)), (0, .ref (ad 400)), (1, .int w)]) hx hb d_M_search_380 rfl hl (by decide) rfl (fun ls hl => ?_)
          have hst8 : ((alw tr shp w) (rw - 1) 0 = true ∧ ∀ v, v < 1 → (alw tr shp w) (rw - 1) v = true → noE cl mv sp (rw - 1) P 0 v) ∨ ∀ v, v < 1 → (alw tr shp w) (rw - 1) v = false := (by
            cases h0 : (alw tr shp w) (rw - 1) 0 with
            | false => exact Or.inr (fun v hv => by rw [show v = 0 by omega]; exact h0)
            | true => exact Or.inl ⟨rfl, fun v hv _ => by rw [show v = 0 by omega]; exact noE_refl⟩)
          suffices hloop : ∀ (d8 y x : Nat) (H : Heap) (locs : List Loc) (ls : Array Slot), (1 ≤ y) → (y ≤ a) → (a + 1 ≤ y + d8) → (x < y) → (((alw tr shp w) (rw - 1) x = true ∧ ∀ v, v < y → (alw tr shp w) (rw - 1) v = true → noE cl mv sp (rw - 1) P x v) ∨ ∀ v, v < y → (alw tr shp w) (rw - 1) v = false) → gW D gCl (gA ad co dl s.heap.size) ad (wS cI cJ co S Lg C LC fd) dl H → va_S (gA ad co dl s.heap.size) s.heap H locs → lv_has ls 8 [(0, .ref (ad 400)), (1, .int w), (2, .int (nI x)), (3, .int (nI y))] → W pp l ee _ s mm _ below meth cd H locs 0 0 _ (F0 mm 381 ls []) by
            exact hloop (a + 1) 1 0 _ _ ls (Nat.le_refl 1) (by omega) (by omega) (by omega) hst8 hW hS (lv_sub hl [2, 3, 1, 0] rfl)
          clear hW hS hl
          intro d8
          induction d8 with
          | zero => intro y x H locs ls hy1 hya hd8 hxy h8; omega
          | succ d8 ih8 =>
            intro y x H locs ls hy1 hya hd8 hxy h8 hW hS hl
            refine lv_iload_n hx hb d_M_search_381 rfl (lv_at hl 3 rfl) ?_
            refine lv_aload_n hx hb d_M_search_382 rfl (lv_at hl 0 rfl) ?_
            refine g_get (C := R_M) (T := F_M) (N := 35) hx hb hts i_M hown hK hW (i := 400) (hdl 400 (by decide) (by decide)) ((wS_o (by decide)).trans h400) rfl 0 (by decide) (hts _ q_488) (fun _ h9 => h9) rfl d_M_search_383 ?_
            refine n_icmp_ge (tgt := 455) hx hb (by omega) (by omega) d_M_search_386 (by decide) (fun h2 => ?_) (fun h2 => ?_)
            · have hyA : y = a := by omega
              rw [hyA] at h8
              clear ih8
              have h9 : (alw tr shp w) (rw - 1) x = true ∧ ∀ v, v < a → (alw tr shp w) (rw - 1) v = true → noE cl mv sp (rw - 1) P x v := by
                rcases h8 with g | g
                · exact g
                · obtain ⟨b, hb1, hb2⟩ := hok.2.2.2.2.2 (rw - 1) (by omega)
                  rw [g b hb1] at hb2; cases hb2
              obtain ⟨hOx, hCx, hSx⟩ := (hI x (by omega)).1 h9.1
              have hbest := opt_end hn0 (fun z hz hza => ((hI z hz).1 hza).1) (show x < a by omega) h9.1 h9.2
              have huq := best_uniq hbest (bln_best hok)
              have hcost : pcs cl mv sp (P x) (rw - 1) = bcs a (alw tr shp w) cl mv sp rw := by rw [← bln_cost hok]; exact pcs_congr (fun i hi => huq i (by omega))
              refine lv_iconst (v := nI 0) hx hb d_M_search_455 (by decide) ?_
              refine lv_istore_n (lv' := [(3, .int (nI 0)), (0, .ref (ad 400)), (1, .int w), (2, .int (nI x))]) hx hb d_M_search_456 rfl hl (by decide) rfl (fun ls hl => ?_)
              suffices hloop : ∀ (d9 v : Nat) (D1 : Nat → Int32) (H : Heap) (locs : List Loc) (ls : Array Slot), (v ≤ rw) → (rw + 1 ≤ v + d9) → (∀ i, i < v → D1 i = nI (bln a (alw tr shp w) cl mv sp rw i)) → gW D gCl (gA ad co dl s.heap.size) ad (wS cI cJ co S Lg C LC D1) dl H → va_S (gA ad co dl s.heap.size) s.heap H locs → lv_has ls 8 [(0, .ref (ad 400)), (2, .int (nI x)), (3, .int (nI v))] → W pp l ee _ s mm _ below meth cd H locs 0 0 _ (F0 mm 457 ls []) by
                exact hloop (rw + 1) 0 fd _ _ ls (by omega) (by omega) (fun i h => absurd h (Nat.not_lt_zero i)) hW hS (lv_sub hl [1, 3, 0] rfl)
              clear hW hS hl
              intro d9
              induction d9 with
              | zero => intro v D1 H locs ls hv hd9 hD1; omega
              | succ d9 ih9 =>
                intro v D1 H locs ls hv hd9 hD1 hW hS hl
                refine lv_iload_n hx hb d_M_search_457 rfl (lv_at hl 2 rfl) ?_
                refine lv_aload_n hx hb d_M_search_458 rfl (lv_at hl 0 rfl) ?_
                refine g_get (C := R_M) (T := F_M) (N := 35) hx hb hts i_M hown hK hW (i := 400) (hdl 400 (by decide) (by decide)) ((wS_o (by decide)).trans h400) rfl 5 (by decide) (hts _ q_493) (fun _ h9 => h9) rfl d_M_search_459 ?_
                refine n_icmp_ge (tgt := 489) hx hb (by omega) (by omega) d_M_search_462 (by decide) (fun h3 => ?_) (fun h3 => ?_)
                · have hvr : v = rw := by omega
                  rw [hvr] at hD1
                  refine lv_aload_n hx hb d_M_search_489 rfl (lv_at hl 0 rfl) ?_
                  refine g_get (C := R_M) (T := F_M) (N := 35) hx hb hts i_M hown hK hW (i := 400) (hdl 400 (by decide) (by decide)) ((wS_o (by decide)).trans h400) rfl 30 (by decide) (hts _ q_518) (fun _ h9 => h9) rfl d_M_search_490 ?_
                  refine lv_iload_n hx hb d_M_search_493 rfl (lv_at hl 1 rfl) ?_
                  refine n_iald hx hb hK hW 0 (q := 422) (hdl 422 (by decide) (by decide)) wS_422 rfl (j := x) (by omega) (by omega) d_M_search_494 ?_
                  refine n_topi (show C x = nI (bcs a (alw tr shp w) cl mv sp rw) from by rw [hCx, hcost]) ?_
                  exact g_iret hx hb hr hlocks hW hS (⟨_, _, _, _, _, rfl, rfl, hD1⟩) d_M_search_495
                · refine lv_aload_n hx hb d_M_search_465 rfl (lv_at hl 0 rfl) ?_
                  refine g_get (C := R_M) (T := F_M) (N := 35) hx hb hts i_M hown hK hW (i := 400) (hdl 400 (by decide) (by decide)) ((wS_o (by decide)).trans h400) rfl 34 (by decide) (hts _ q_522) (fun _ h9 => h9) rfl d_M_search_466 ?_
                  refine lv_iload_n hx hb d_M_search_469 rfl (lv_at hl 2 rfl) ?_
                  refine lv_aload_n hx hb d_M_search_470 rfl (lv_at hl 0 rfl) ?_
                  refine g_get (C := R_M) (T := F_M) (N := 35) hx hb hts i_M hown hK hW (i := 400) (hdl 400 (by decide) (by decide)) ((wS_o (by decide)).trans h400) rfl 28 (by decide) (hts _ q_516) (fun _ h9 => h9) rfl d_M_search_471 ?_
                  refine lv_sipush (v := nI 200) hx hb d_M_search_474 (by decide) ?_
                  refine lv_iload_n hx hb d_M_search_477 rfl (lv_at hl 1 rfl) ?_
                  refine n_mul hx hb d_M_search_478 ?_
                  refine lv_iload_n hx hb d_M_search_479 rfl (lv_at hl 2 rfl) ?_
                  refine n_add hx hb d_M_search_480 ?_
                  refine n_iald hx hb hK hW 0 (q := 420) (hdl 420 (by decide) (by decide)) wS_420 rfl (j := (200 * x) + v) (by omega) (by omega) d_M_search_481 ?_
                  refine n_iast (x := S ((200 * x) + v)) hx hb hK hW hS 0 (q := 426) (hdl 426 (by decide) (by decide)) wS_426 rfl (j := v) (by omega) (by omega) d_M_search_482 (fun H locs hW hS => ?_)
                  rw [wS_u426] at hW
                  refine n_iinc (lv' := [(3, .int (nI (v + 1))), (0, .ref (ad 400)), (2, .int (nI x))]) hx hb d_M_search_483 hl (k := 2) rfl (by decide) rfl (fun ls hl => ?_)
                  refine lv_goto (tgt := 457) hx hb d_M_search_486 (by decide) ?_
                  exact ih9 (v + 1) _ _ _ ls (by omega) (by omega) (lt_s (fun i hi => by rw [pk_un (show i ≠ v by omega)]; exact hD1 i hi) (by rw [pk_us, hSx v (by omega), huq v h3])) hW hS (lv_sub hl [1, 2, 0] rfl)
            · have hIx := hI x (by omega)
              have hIy := hI y h2
              have hBIG : BIG = 1000000000 := rfl
              obtain ⟨cx, hcx, hcxt, hcxf⟩ : ∃ v, C x = nI v ∧ ((alw tr shp w) (rw - 1) x = true → v = pcs cl mv sp (P x) (rw - 1) ∧ v ≤ 4000000) ∧ ((alw tr shp w) (rw - 1) x = false → v = BIG) := by
                cases h9 : (alw tr shp w) (rw - 1) x with
                | true => exact ⟨_, (hIx.1 h9).2.1, fun _ => ⟨rfl, by have := pcs_le hok (rw - 1) (by omega) (hIx.1 h9).1.1; omega⟩, fun q => by cases q⟩
                | false => exact ⟨_, hIx.2 h9, fun q => (by cases q), fun _ => rfl⟩
              obtain ⟨cy, hcy, hcyt, hcyf⟩ : ∃ v, C y = nI v ∧ ((alw tr shp w) (rw - 1) y = true → v = pcs cl mv sp (P y) (rw - 1) ∧ v ≤ 4000000) ∧ ((alw tr shp w) (rw - 1) y = false → v = BIG) := by
                cases h9 : (alw tr shp w) (rw - 1) y with
                | true => exact ⟨_, (hIy.1 h9).2.1, fun _ => ⟨rfl, by have := pcs_le hok (rw - 1) (by omega) (hIy.1 h9).1.1; omega⟩, fun q => by cases q⟩
                | false => exact ⟨_, hIy.2 h9, fun q => (by cases q), fun _ => rfl⟩
              have hcx9 : cx ≤ BIG := by
                cases h9 : (alw tr shp w) (rw - 1) x with
                | true => have := (hcxt h9).2; omega
                | false => rw [hcxf h9]; exact Nat.le_refl _
              have hcy9 : cy ≤ BIG := by
                cases h9 : (alw tr shp w) (rw - 1) y with
                | true => have := (hcyt h9).2; omega
                | false => rw [hcyf h9]; exact Nat.le_refl _
              refine lv_aload_n hx hb d_M_search_389 rfl (lv_at hl 0 rfl) ?_
              refine g_get (C := R_M) (T := F_M) (N := 35) hx hb hts i_M hown hK hW (i := 400) (hdl 400 (by decide) (by decide)) ((wS_o (by decide)).trans h400) rfl 30 (by decide) (hts _ q_518) (fun _ h9 => h9) rfl d_M_search_390 ?_
              refine lv_iload_n hx hb d_M_search_393 rfl (lv_at hl 3 rfl) ?_
              refine n_iald hx hb hK hW 0 (q := 422) (hdl 422 (by decide) (by decide)) wS_422 rfl (j := y) (by omega) (by omega) d_M_search_394 ?_
              refine n_topi (show C y = nI cy from hcy) ?_
              refine lv_aload_n hx hb d_M_search_395 rfl (lv_at hl 0 rfl) ?_
              refine g_get (C := R_M) (T := F_M) (N := 35) hx hb hts i_M hown hK hW (i := 400) (hdl 400 (by decide) (by decide)) ((wS_o (by decide)).trans h400) rfl 30 (by decide) (hts _ q_518) (fun _ h9 => h9) rfl d_M_search_396 ?_
              refine lv_iload_n hx hb d_M_search_399 rfl (lv_at hl 2 rfl) ?_
              refine n_iald hx hb hK hW 0 (q := 422) (hdl 422 (by decide) (by decide)) wS_422 rfl (j := x) (by omega) (by omega) d_M_search_400 ?_
              refine n_topi (show C x = nI cx from hcx) ?_
              refine n_icmp_lt (tgt := 443) hx hb (by omega) (by omega) d_M_search_401 (by decide) (fun h3 => ?_) (fun h3 => ?_)
              · have hyt : (alw tr shp w) (rw - 1) y = true := by
                  cases h9 : (alw tr shp w) (rw - 1) y with
                  | true => rfl
                  | false => have := hcyf h9; omega
                refine lv_iload_n hx hb d_M_search_443 rfl (lv_at hl 3 rfl) ?_
                refine lv_goto (tgt := 448) hx hb d_M_search_444 (by decide) ?_
                refine lv_istore_n (lv' := [(2, .int (nI y)), (0, .ref (ad 400)), (1, .int w), (3, .int (nI y))]) hx hb d_M_search_448 rfl hl (by decide) rfl (fun ls hl => ?_)
                refine n_iinc (lv' := [(3, .int (nI (y + 1))), (2, .int (nI y)), (0, .ref (ad 400)), (1, .int w)]) hx hb d_M_search_449 hl (k := 3) rfl (by decide) rfl (fun ls hl => ?_)
                refine lv_goto (tgt := 381) hx hb d_M_search_452 (by decide) ?_
                exact ih8 (y + 1) y _ _ ls (by omega) (by omega) (by omega) (by omega) (by
                  refine Or.inl ⟨hyt, lt_s ?_ (fun _ => noE_refl)⟩
                  rcases h8 with ⟨g1, g2⟩ | g1
                  · exact fun v hv hva => noE_trans (Or.inl (by have := (hcxt g1).1; have := (hcyt hyt).1; omega)) (g2 v hv hva)
                  · intro v hv hva; rw [g1 v hv] at hva; cases hva) hW hS (lv_sub hl [2, 3, 1, 0] rfl)
              · refine lv_aload_n hx hb d_M_search_404 rfl (lv_at hl 0 rfl) ?_
                refine g_get (C := R_M) (T := F_M) (N := 35) hx hb hts i_M hown hK hW (i := 400) (hdl 400 (by decide) (by decide)) ((wS_o (by decide)).trans h400) rfl 30 (by decide) (hts _ q_518) (fun _ h9 => h9) rfl d_M_search_405 ?_
                refine lv_iload_n hx hb d_M_search_408 rfl (lv_at hl 3 rfl) ?_
                refine n_iald hx hb hK hW 0 (q := 422) (hdl 422 (by decide) (by decide)) wS_422 rfl (j := y) (by omega) (by omega) d_M_search_409 ?_
                refine n_topi (show C y = nI cy from hcy) ?_
                refine lv_aload_n hx hb d_M_search_410 rfl (lv_at hl 0 rfl) ?_
                refine g_get (C := R_M) (T := F_M) (N := 35) hx hb hts i_M hown hK hW (i := 400) (hdl 400 (by decide) (by decide)) ((wS_o (by decide)).trans h400) rfl 30 (by decide) (hts _ q_518) (fun _ h9 => h9) rfl d_M_search_411 ?_
                refine lv_iload_n hx hb d_M_search_414 rfl (lv_at hl 2 rfl) ?_
                refine n_iald hx hb hK hW 0 (q := 422) (hdl 422 (by decide) (by decide)) wS_422 rfl (j := x) (by omega) (by omega) d_M_search_415 ?_
                refine n_topi (show C x = nI cx from hcx) ?_
                refine n_icmp_ne (tgt := 447) hx hb (by omega) (by omega) d_M_search_416 (by decide) (fun h4 => ?_) (fun h4 => ?_)
                · refine lv_iload_n hx hb d_M_search_447 rfl (lv_at hl 2 rfl) ?_
                  refine lv_istore_n (lv' := [(2, .int (nI x)), (0, .ref (ad 400)), (1, .int w), (3, .int (nI y))]) hx hb d_M_search_448 rfl hl (by decide) rfl (fun ls hl => ?_)
                  refine n_iinc (lv' := [(3, .int (nI (y + 1))), (2, .int (nI x)), (0, .ref (ad 400)), (1, .int w)]) hx hb d_M_search_449 hl (k := 3) rfl (by decide) rfl (fun ls hl => ?_)
                  refine lv_goto (tgt := 381) hx hb d_M_search_452 (by decide) ?_
                  exact ih8 (y + 1) x _ _ ls (by omega) (by omega) (by omega) (by omega) (by
                    have hxt : (alw tr shp w) (rw - 1) x = true := by
                      cases h9 : (alw tr shp w) (rw - 1) x with
                      | true => rfl
                      | false => have := hcxf h9; omega
                    rcases h8 with ⟨g1, g2⟩ | g1
                    · exact Or.inl ⟨g1, lt_s g2 (fun q => Or.inl (by have := (hcxt g1).1; have := (hcyt q).1; omega))⟩
                    · rw [g1 x hxy] at hxt; cases hxt) hW hS (lv_sub hl [2, 3, 1, 0] rfl)
                · refine lv_aload_n hx hb d_M_search_419 rfl (lv_at hl 0 rfl) ?_
                  refine g_get (C := R_M) (T := F_M) (N := 35) hx hb hts i_M hown hK hW (i := 400) (hdl 400 (by decide) (by decide)) ((wS_o (by decide)).trans h400) rfl 30 (by decide) (hts _ q_518) (fun _ h9 => h9) rfl d_M_search_420 ?_
                  refine lv_iload_n hx hb d_M_search_423 rfl (lv_at hl 3 rfl) ?_
                  refine n_iald hx hb hK hW 0 (q := 422) (hdl 422 (by decide) (by decide)) wS_422 rfl (j := y) (by omega) (by omega) d_M_search_424 ?_
                  refine n_topi (show C y = nI cy from hcy) ?_
                  refine lv_ldc hx hb hown (hts _ q_659) d_M_search_425 ?_
                  refine n_topi (show (1000000000 : Int32) = nI 1000000000 by decide) ?_
                  refine n_icmp_ge (tgt := 447) hx hb (by omega) (by omega) d_M_search_427 (by decide) (fun h5 => ?_) (fun h5 => ?_)
                  · refine lv_iload_n hx hb d_M_search_447 rfl (lv_at hl 2 rfl) ?_
                    refine lv_istore_n (lv' := [(2, .int (nI x)), (0, .ref (ad 400)), (1, .int w), (3, .int (nI y))]) hx hb d_M_search_448 rfl hl (by decide) rfl (fun ls hl => ?_)
                    refine n_iinc (lv' := [(3, .int (nI (y + 1))), (2, .int (nI x)), (0, .ref (ad 400)), (1, .int w)]) hx hb d_M_search_449 hl (k := 3) rfl (by decide) rfl (fun ls hl => ?_)
                    refine lv_goto (tgt := 381) hx hb d_M_search_452 (by decide) ?_
                    exact ih8 (y + 1) x _ _ ls (by omega) (by omega) (by omega) (by omega) (by
                      have hyf : (alw tr shp w) (rw - 1) y = false := by
                        cases h9 : (alw tr shp w) (rw - 1) y with
                        | false => rfl
                        | true => have := (hcyt h9).2; omega
                      rcases h8 with ⟨g1, g2⟩ | g1
                      · exact Or.inl ⟨g1, lt_s g2 (fun q => by rw [hyf] at q; cases q)⟩
                      · exact Or.inr (lt_s g1 hyf)) hW hS (lv_sub hl [2, 3, 1, 0] rfl)
                  · have hyt : (alw tr shp w) (rw - 1) y = true := by
                      cases h9 : (alw tr shp w) (rw - 1) y with
                      | true => rfl
                      | false => have := hcyf h9; omega
                    have hxt : (alw tr shp w) (rw - 1) x = true := by
                      cases h9 : (alw tr shp w) (rw - 1) x with
                      | true => rfl
                      | false => have := hcxf h9; omega
                    obtain ⟨hOx, hCx, hSx⟩ := hIx.1 hxt
                    obtain ⟨hOy, hCy, hSy⟩ := hIy.1 hyt
                    refine lv_aload_n hx hb d_M_search_430 rfl (lv_at hl 0 rfl) ?_
                    refine lv_iload_n hx hb d_M_search_431 rfl (lv_at hl 3 rfl) ?_
                    refine lv_iload_n hx hb d_M_search_432 rfl (lv_at hl 2 rfl) ?_
                    refine lv_aload_n hx hb d_M_search_433 rfl (lv_at hl 0 rfl) ?_
                    refine g_get (C := R_M) (T := F_M) (N := 35) hx hb hts i_M hown hK hW (i := 400) (hdl 400 (by decide) (by decide)) ((wS_o (by decide)).trans h400) rfl 5 (by decide) (hts _ q_493) (fun _ h9 => h9) rfl d_M_search_434 ?_
                    refine g_cVi (As := [.int (nI y), .int (nI x), .int (nI rw)]) (rest := []) ⟨hx, hb, hml, hown, hts⟩ (c_M_isFirst l hdl ((wS_o (by decide)).trans h400) wS_420 y x rw (by omega) (by omega) (by omega)) (gcwV 3 hts q_663 q_660 q_662 qs_13 q_9 (by decide +kernel) ⟨(Nat.le_of_ble_eq_true rfl), (Nat.le_of_ble_eq_true rfl)⟩) gNl_ok hN hK hW hS hA (hdl 400 (by decide) (by decide)) ((wS_o (by decide)).trans h400) rfl rfl hl.1 rfl (Nat.le_of_ble_eq_true rfl) d_M_search_437 ⟨Nat.zero_le _, Nat.zero_le _⟩ (fun r co9 H locs hp9 hW hS => ?_)
                    obtain ⟨rfl, hco9⟩ := hp9
                    rw [hco9] at hW
                    have hlx := lexL_lxl (f := fun k => S (200 * y + k)) (g := fun k => S (200 * x + k)) (F := P y) (G := P x) (n := rw) (fun i hi => ⟨hSy i (by omega), by have := (hOy.1 i (by omega)).1; omega⟩) (fun i hi => ⟨hSx i (by omega), by have := (hOx.1 i (by omega)).1; omega⟩)
                    have hrw : rw - 1 + 1 = rw := by omega
                    have q1 := (hcxt hxt).1
                    have q2 := (hcyt hyt).1
                    refine n_ifz_eq (tgt := 447) hx hb d_M_search_440 (by decide) (fun h6 => ?_) (fun h6 => ?_)
                    · refine lv_iload_n hx hb d_M_search_447 rfl (lv_at hl 2 rfl) ?_
                      refine lv_istore_n (lv' := [(2, .int (nI x)), (0, .ref (ad 400)), (1, .int w), (3, .int (nI y))]) hx hb d_M_search_448 rfl hl (by decide) rfl (fun ls hl => ?_)
                      refine n_iinc (lv' := [(3, .int (nI (y + 1))), (2, .int (nI x)), (0, .ref (ad 400)), (1, .int w)]) hx hb d_M_search_449 hl (k := 3) rfl (by decide) rfl (fun ls hl => ?_)
                      refine lv_goto (tgt := 381) hx hb d_M_search_452 (by decide) ?_
                      exact ih8 (y + 1) x _ _ ls (by omega) (by omega) (by omega) (by omega) (by
                        rcases h8 with ⟨g1, g2⟩ | g1
                        · exact Or.inl ⟨g1, lt_s g2 (fun q => Or.inr ⟨by omega, fun z => by rw [hrw] at z; rw [hlx.mpr z] at h6; cases h6⟩)⟩
                        · rw [g1 x hxy] at hxt; cases hxt) hW hS (lv_sub hl [2, 3, 1, 0] rfl)
                    · refine lv_iload_n hx hb d_M_search_443 rfl (lv_at hl 3 rfl) ?_
                      refine lv_goto (tgt := 448) hx hb d_M_search_444 (by decide) ?_
                      refine lv_istore_n (lv' := [(2, .int (nI y)), (0, .ref (ad 400)), (1, .int w), (3, .int (nI y))]) hx hb d_M_search_448 rfl hl (by decide) rfl (fun ls hl => ?_)
                      refine n_iinc (lv' := [(3, .int (nI (y + 1))), (2, .int (nI y)), (0, .ref (ad 400)), (1, .int w)]) hx hb d_M_search_449 hl (k := 3) rfl (by decide) rfl (fun ls hl => ?_)
                      refine lv_goto (tgt := 381) hx hb d_M_search_452 (by decide) ?_
                      exact ih8 (y + 1) y _ _ ls (by omega) (by omega) (by omega) (by omega) (by
                        have hlt := hlx.mp h6
                        refine Or.inl ⟨hyt, lt_s ?_ (fun _ => noE_refl)⟩
                        rcases h8 with ⟨g1, g2⟩ | g1
                        · exact fun v hv hva => noE_trans (Or.inr ⟨by omega, fun z => by rw [hrw] at z; exact lxl_irr (lxl_trans hlt z)⟩) (g2 v hv hva)
                        · rw [g1 x hxy] at hxt; cases hxt) hW hS (lv_sub hl [2, 3, 1, 0] rfl)
        · refine lv_iconst (v := nI 0) hx hb d_M_search_74 (by decide) ?_
          refine lv_istore_n (lv' := [(3, .int (nI 0)), (0, .ref (ad 400)), (1, .int w), (2, .int (nI (k + 1)))]) hx hb d_M_search_75 rfl hl (by decide) rfl (fun ls hl => ?_)
          suffices hloop : ∀ (d3 z : Nat) (R : Nat → Nat → Nat) (G E : Nat → Int32) (H : Heap) (locs : List Loc) (ls : Array Slot), (z ≤ a) → (a + 1 ≤ z + d3) → (sInv a (alw tr shp w) cl mv sp (k + 1) z R G E) → gW D gCl (gA ad co dl s.heap.size) ad (wS cI cJ co S G C E fd) dl H → va_S (gA ad co dl s.heap.size) s.heap H locs → lv_has ls 8 [(0, .ref (ad 400)), (1, .int w), (2, .int (nI (k + 1))), (3, .int (nI z))] → W pp l ee _ s mm _ below meth cd H locs 0 0 _ (F0 mm 76 ls []) by
            exact hloop (a + 1) 0 P Lg LC _ _ ls (by omega) (by omega) (fun b h => absurd h (Nat.not_lt_zero b)) hW hS (lv_sub hl [1, 2, 3, 0] rfl)
          clear hW hS hl
          intro d3
          induction d3 with
          | zero => intro z R G E H locs ls hz hd3 hR; omega
          | succ d3 ih3 =>
            intro z R G E H locs ls hz hd3 hR hW hS hl
            refine lv_iload_n hx hb d_M_search_76 rfl (lv_at hl 3 rfl) ?_
            refine lv_aload_n hx hb d_M_search_77 rfl (lv_at hl 0 rfl) ?_
            refine g_get (C := R_M) (T := F_M) (N := 35) hx hb hts i_M hown hK hW (i := 400) (hdl 400 (by decide) (by decide)) ((wS_o (by decide)).trans h400) rfl 0 (by decide) (hts _ q_488) (fun _ h9 => h9) rfl d_M_search_78 ?_
            refine n_icmp_ge (tgt := 302) hx hb (by omega) (by omega) d_M_search_81 (by decide) (fun h2 => ?_) (fun h2 => ?_)
            · have hza : z = a := by omega
              rw [hza] at hR
              clear ih3
              refine lv_iconst (v := nI 0) hx hb d_M_search_302 (by decide) ?_
              refine lv_istore_n (lv' := [(3, .int (nI 0)), (0, .ref (ad 400)), (1, .int w), (2, .int (nI (k + 1)))]) hx hb d_M_search_303 rfl hl (by decide) rfl (fun ls hl => ?_)
              suffices hloop : ∀ (d6 y : Nat) (S1 C1 : Nat → Int32) (H : Heap) (locs : List Loc) (ls : Array Slot), (y ≤ a) → (a + 1 ≤ y + d6) → (∀ b, b < y → C1 b = E b ∧ ∀ i, i ≤ k + 1 → S1 (200 * b + i) = G (200 * b + i)) → gW D gCl (gA ad co dl s.heap.size) ad (wS cI cJ co S1 G C1 E fd) dl H → va_S (gA ad co dl s.heap.size) s.heap H locs → lv_has ls 8 [(0, .ref (ad 400)), (1, .int w), (2, .int (nI (k + 1))), (3, .int (nI y))] → W pp l ee _ s mm _ below meth cd H locs 0 0 _ (F0 mm 304 ls []) by
                exact hloop (a + 1) 0 S C _ _ ls (by omega) (by omega) (fun b h => absurd h (Nat.not_lt_zero b)) hW hS (lv_sub hl [1, 2, 3, 0] rfl)
              clear hW hS hl
              intro d6
              induction d6 with
              | zero => intro y S1 C1 H locs ls hy hd6 hc1; omega
              | succ d6 ih6 =>
                intro y S1 C1 H locs ls hy hd6 hc1 hW hS hl
                refine lv_iload_n hx hb d_M_search_304 rfl (lv_at hl 3 rfl) ?_
                refine lv_aload_n hx hb d_M_search_305 rfl (lv_at hl 0 rfl) ?_
                refine g_get (C := R_M) (T := F_M) (N := 35) hx hb hts i_M hown hK hW (i := 400) (hdl 400 (by decide) (by decide)) ((wS_o (by decide)).trans h400) rfl 0 (by decide) (hts _ q_488) (fun _ h9 => h9) rfl d_M_search_306 ?_
                refine n_icmp_ge (tgt := 371) hx hb (by omega) (by omega) d_M_search_309 (by decide) (fun h5 => ?_) (fun h5 => ?_)
                · have hya : y = a := by omega
                  rw [hya] at hc1
                  refine n_iinc (lv' := [(2, .int (nI (k + 1 + 1))), (0, .ref (ad 400)), (1, .int w), (3, .int (nI y))]) hx hb d_M_search_371 hl (k := 2) rfl (by decide) rfl (fun ls hl => ?_)
                  refine lv_goto (tgt := 66) hx hb d_M_search_374 (by decide) ?_
                  refine ih2 (k + 1) R S1 G C1 E _ _ ls h1 (by omega) (fun b hb => ?_) hW hS (lv_sub hl [1, 2, 0] rfl)
                  have h9 := hc1 b hb
                  have h8 := hR b hb
                  rw [h9.1]
                  exact ⟨fun q => ⟨(h8.1 q).1, (h8.1 q).2.1, fun i hi => by rw [h9.2 i hi]; exact (h8.1 q).2.2 i hi⟩, h8.2⟩
                · refine lv_aload_n hx hb d_M_search_312 rfl (lv_at hl 0 rfl) ?_
                  refine g_get (C := R_M) (T := F_M) (N := 35) hx hb hts i_M hown hK hW (i := 400) (hdl 400 (by decide) (by decide)) ((wS_o (by decide)).trans h400) rfl 30 (by decide) (hts _ q_518) (fun _ h9 => h9) rfl d_M_search_313 ?_
                  refine lv_iload_n hx hb d_M_search_316 rfl (lv_at hl 3 rfl) ?_
                  refine lv_aload_n hx hb d_M_search_317 rfl (lv_at hl 0 rfl) ?_
                  refine g_get (C := R_M) (T := F_M) (N := 35) hx hb hts i_M hown hK hW (i := 400) (hdl 400 (by decide) (by decide)) ((wS_o (by decide)).trans h400) rfl 31 (by decide) (hts _ q_519) (fun _ h9 => h9) rfl d_M_search_318 ?_
                  refine lv_iload_n hx hb d_M_search_321 rfl (lv_at hl 3 rfl) ?_
                  refine n_iald hx hb hK hW 0 (q := 423) (hdl 423 (by decide) (by decide)) wS_423 rfl (j := y) (by omega) (by omega) d_M_search_322 ?_
                  refine n_iast (x := E y) hx hb hK hW hS 0 (q := 422) (hdl 422 (by decide) (by decide)) wS_422 rfl (j := y) (by omega) (by omega) d_M_search_323 (fun H locs hW hS => ?_)
                  rw [wS_u422] at hW
                  obtain ⟨C2, hC2⟩ : ∃ g, g = upd C1 y (E y) := ⟨_, rfl⟩
                  rw [← hC2] at hW
                  refine lv_iconst (v := nI 0) hx hb d_M_search_324 (by decide) ?_
                  refine lv_istore (lv' := [(4, .int (nI 0)), (0, .ref (ad 400)), (1, .int w), (2, .int (nI (k + 1))), (3, .int (nI y))]) hx hb d_M_search_325 hl (by decide) rfl (fun ls hl => ?_)
                  suffices hloop : ∀ (d7 x : Nat) (S2 : Nat → Int32) (H : Heap) (locs : List Loc) (ls : Array Slot), (x ≤ k + 2) → (k + 3 ≤ x + d7) → (∀ i, i < x → S2 (200 * y + i) = G (200 * y + i)) → (∀ j, j < 200 * y → S2 j = S1 j) → gW D gCl (gA ad co dl s.heap.size) ad (wS cI cJ co S2 G C2 E fd) dl H → va_S (gA ad co dl s.heap.size) s.heap H locs → lv_has ls 8 [(0, .ref (ad 400)), (1, .int w), (2, .int (nI (k + 1))), (3, .int (nI y)), (4, .int (nI x))] → W pp l ee _ s mm _ below meth cd H locs 0 0 _ (F0 mm 327 ls []) by
                    exact hloop (k + 3) 0 S1 _ _ ls (by omega) (by omega) (fun i h => absurd h (Nat.not_lt_zero i)) (fun _ _ => rfl) hW hS (lv_sub hl [1, 2, 3, 4, 0] rfl)
                  clear hW hS hl
                  intro d7
                  induction d7 with
                  | zero => intro x S2 H locs ls hx7 hd7 hs1 hs2; omega
                  | succ d7 ih7 =>
                    intro x S2 H locs ls hx7 hd7 hs1 hs2 hW hS hl
                    refine lv_iload hx hb d_M_search_327 (lv_at hl 4 rfl) ?_
                    refine lv_iload_n hx hb d_M_search_329 rfl (lv_at hl 2 rfl) ?_
                    refine n_icmp_gt (tgt := 365) hx hb (by omega) (by omega) d_M_search_330 (by decide) (fun h6 => ?_) (fun h6 => ?_)
                    · refine n_iinc (lv' := [(3, .int (nI (y + 1))), (0, .ref (ad 400)), (1, .int w), (2, .int (nI (k + 1))), (4, .int (nI x))]) hx hb d_M_search_365 hl (k := 3) rfl (by decide) rfl (fun ls hl => ?_)
                      refine lv_goto (tgt := 304) hx hb d_M_search_368 (by decide) ?_
                      refine ih6 (y + 1) S2 C2 _ _ ls (by omega) (by omega) (lt_s (fun b hb => ?_) ?_) hW hS (lv_sub hl [1, 2, 3, 0] rfl)
                      · rw [hC2, pk_un (show b ≠ y by omega)]
                        exact ⟨(hc1 b hb).1, fun i hi => by rw [hs2 _ (by omega)]; exact (hc1 b hb).2 i hi⟩
                      · rw [hC2, pk_us]; exact ⟨rfl, fun i hi => hs1 i (by omega)⟩
                    · refine lv_aload_n hx hb d_M_search_333 rfl (lv_at hl 0 rfl) ?_
                      refine g_get (C := R_M) (T := F_M) (N := 35) hx hb hts i_M hown hK hW (i := 400) (hdl 400 (by decide) (by decide)) ((wS_o (by decide)).trans h400) rfl 28 (by decide) (hts _ q_516) (fun _ h9 => h9) rfl d_M_search_334 ?_
                      refine lv_sipush (v := nI 200) hx hb d_M_search_337 (by decide) ?_
                      refine lv_iload_n hx hb d_M_search_340 rfl (lv_at hl 3 rfl) ?_
                      refine n_mul hx hb d_M_search_341 ?_
                      refine lv_iload hx hb d_M_search_342 (lv_at hl 4 rfl) ?_
                      refine n_add hx hb d_M_search_344 ?_
                      refine lv_aload_n hx hb d_M_search_345 rfl (lv_at hl 0 rfl) ?_
                      refine g_get (C := R_M) (T := F_M) (N := 35) hx hb hts i_M hown hK hW (i := 400) (hdl 400 (by decide) (by decide)) ((wS_o (by decide)).trans h400) rfl 29 (by decide) (hts _ q_517) (fun _ h9 => h9) rfl d_M_search_346 ?_
                      refine lv_sipush (v := nI 200) hx hb d_M_search_349 (by decide) ?_
                      refine lv_iload_n hx hb d_M_search_352 rfl (lv_at hl 3 rfl) ?_
                      refine n_mul hx hb d_M_search_353 ?_
                      refine lv_iload hx hb d_M_search_354 (lv_at hl 4 rfl) ?_
                      refine n_add hx hb d_M_search_356 ?_
                      refine n_iald hx hb hK hW 0 (q := 421) (hdl 421 (by decide) (by decide)) wS_421 rfl (j := (200 * y) + x) (by omega) (by omega) d_M_search_357 ?_
                      refine n_iast (x := G ((200 * y) + x)) hx hb hK hW hS 0 (q := 420) (hdl 420 (by decide) (by decide)) wS_420 rfl (j := (200 * y) + x) (by omega) (by omega) d_M_search_358 (fun H locs hW hS => ?_)
                      rw [wS_u420] at hW
                      refine n_iinc (lv' := [(4, .int (nI (x + 1))), (0, .ref (ad 400)), (1, .int w), (2, .int (nI (k + 1))), (3, .int (nI y))]) hx hb d_M_search_359 hl (k := 4) rfl (by decide) rfl (fun ls hl => ?_)
                      refine lv_goto (tgt := 327) hx hb d_M_search_362 (by decide) ?_
                      refine ih7 (x + 1) (upd S2 (200 * y + x) (G (200 * y + x))) _ _ ls (by omega) (by omega) (lt_s (fun i hi => ?_) pk_us) (fun j hj => ?_) hW hS (lv_sub hl [1, 2, 3, 4, 0] rfl)
                      · rw [pk_un (show 200 * y + i ≠ 200 * y + x by omega)]; exact hs1 i hi
                      · rw [pk_un (show j ≠ 200 * y + x by omega)]; exact hs2 j hj
            · refine lv_iconst (v := (-1)) hx hb d_M_search_84 (by decide) ?_
              refine lv_istore (lv' := [(4, .int (-1)), (0, .ref (ad 400)), (1, .int w), (2, .int (nI (k + 1))), (3, .int (nI z))]) hx hb d_M_search_85 hl (by decide) rfl (fun ls hl => ?_)
              refine lv_ldc hx hb hown (hts _ q_659) d_M_search_87 ?_
              refine n_topi (show (1000000000 : Int32) = nI 1000000000 by decide) ?_
              refine lv_istore (lv' := [(5, .int (nI 1000000000)), (4, .int (-1)), (0, .ref (ad 400)), (1, .int w), (2, .int (nI (k + 1))), (3, .int (nI z))]) hx hb d_M_search_89 hl (by decide) rfl (fun ls hl => ?_)
              refine lv_iconst (v := nI 0) hx hb d_M_search_91 (by decide) ?_
              refine lv_istore (lv' := [(6, .int (nI 0)), (5, .int (nI 1000000000)), (4, .int (-1)), (0, .ref (ad 400)), (1, .int w), (2, .int (nI (k + 1))), (3, .int (nI z))]) hx hb d_M_search_92 hl (by decide) rfl (fun ls hl => ?_)
              suffices hloop : ∀ (d4 x : Nat) (bs : Int32) (lN : Nat) (H : Heap) (locs : List Loc) (ls : Array Slot), (x ≤ a) → (a + 1 ≤ x + d4) → (lN ≤ BIG) → (sBst (alw tr shp w) cl mv sp k z x P bs lN) → gW D gCl (gA ad co dl s.heap.size) ad (wS cI cJ co S G C E fd) dl H → va_S (gA ad co dl s.heap.size) s.heap H locs → lv_has ls 8 [(0, .ref (ad 400)), (1, .int w), (2, .int (nI (k + 1))), (3, .int (nI z)), (4, .int bs), (5, .int (nI lN)), (6, .int (nI x))] → W pp l ee _ s mm _ below meth cd H locs 0 0 _ (F0 mm 94 ls []) by
                exact hloop (a + 1) 0 (-1) BIG _ _ ls (by omega) (by omega) (Nat.le_refl _) (Or.inl ⟨rfl, rfl, fun y hy => absurd hy (Nat.not_lt_zero y)⟩) hW hS (lv_sub hl [3, 4, 5, 6, 2, 1, 0] rfl)
              clear hW hS hl
              intro d4
              induction d4 with
              | zero => intro x bs lN H locs ls hx4 hd4 hlN hB; omega
              | succ d4 ih4 =>
                intro x bs lN H locs ls hx4 hd4 hlN hB hW hS hl
                have hBIG : BIG = 1000000000 := rfl
                refine lv_iload hx hb d_M_search_94 (lv_at hl 6 rfl) ?_
                refine lv_aload_n hx hb d_M_search_96 rfl (lv_at hl 0 rfl) ?_
                refine g_get (C := R_M) (T := F_M) (N := 35) hx hb hts i_M hown hK hW (i := 400) (hdl 400 (by decide) (by decide)) ((wS_o (by decide)).trans h400) rfl 0 (by decide) (hts _ q_488) (fun _ h9 => h9) rfl d_M_search_97 ?_
                refine n_icmp_ge (tgt := 189) hx hb (by omega) (by omega) d_M_search_100 (by decide) (fun h3 => ?_) (fun h3 => ?_)
                · have hxa : x = a := by omega
                  rw [hxa] at hB
                  rcases hB with ⟨e1, e2, e3⟩ | ⟨v, e1, e2, e3, e4, e5⟩
                  · obtain ⟨b, hb1, hb2⟩ := hok.2.2.2.2.2 k (by omega)
                    rw [e3 b hb1] at hb2; cases hb2
                  subst e2
                  obtain ⟨hOv, hCv, hSv⟩ := (hI v e1).1 e3
                  have hpc := pcs_le hok k (by omega) hOv.1
                  have hmx := hok.2.2.2.1 v z e1 h2
                  have hck := hcl (k + 1) h1
                  have hspz := hok.2.2.2.2.1 z (k + 1) h2 h1
                  clear ih4
                  refine lv_aload_n hx hb d_M_search_189 rfl (lv_at hl 0 rfl) ?_
                  refine g_get (C := R_M) (T := F_M) (N := 35) hx hb hts i_M hown hK hW (i := 400) (hdl 400 (by decide) (by decide)) ((wS_o (by decide)).trans h400) rfl 31 (by decide) (hts _ q_519) (fun _ h9 => h9) rfl d_M_search_190 ?_
                  refine lv_iload_n hx hb d_M_search_193 rfl (lv_at hl 3 rfl) ?_
                  refine lv_iload hx hb d_M_search_194 (lv_at hl 4 rfl) ?_
                  refine lv_iconst (v := (-1)) hx hb d_M_search_196 (by decide) ?_
                  refine lv_icmp_eq (tgt := 210) hx hb d_M_search_197 (by decide) (fun h5 => ?_) (fun h5 => ?_)
                  · exact absurd h5 (nI_ne_m1 (by omega))
                  · refine lv_aload_n hx hb d_M_search_200 rfl (lv_at hl 0 rfl) ?_
                    refine lv_iload_n hx hb d_M_search_201 rfl (lv_at hl 2 rfl) ?_
                    refine lv_iload_n hx hb d_M_search_202 rfl (lv_at hl 3 rfl) ?_
                    refine lv_iload_n hx hb d_M_search_203 rfl (lv_at hl 1 rfl) ?_
                    refine g_cVi (As := [.int (nI (k + 1)), .int (nI z), .int w]) (rest := [.int (nI z), .ref (ad 423)]) ⟨hx, hb, hml, hown, hts⟩ (c_M_may l hdl ((wS_o (by decide)).trans h400) ((wS_o (by decide)).trans h408) ((wS_o (by decide)).trans h409) (k + 1) z w (by omega) (hsh (k + 1) h1)) (gcwV 3 hts q_658 q_655 q_657 qs_12 q_9 (by decide +kernel) ⟨(Nat.le_of_ble_eq_true rfl), (Nat.le_of_ble_eq_true rfl)⟩) gNl_ok hN hK hW hS hA (hdl 400 (by decide) (by decide)) ((wS_o (by decide)).trans h400) rfl rfl hl.1 rfl (Nat.le_of_ble_eq_true rfl) d_M_search_204 ⟨Nat.zero_le _, Nat.zero_le _⟩ (fun r co9 H locs hp9 hW hS => ?_)
                    obtain ⟨rfl, hco9⟩ := hp9
                    rw [hco9] at hW
                    refine n_ifz_ne (tgt := 215) hx hb d_M_search_207 (by decide) (fun h6 => ?_) (fun h6 => ?_)
                    · refine lv_iload hx hb d_M_search_215 (lv_at hl 5 rfl) ?_
                      refine lv_aload_n hx hb d_M_search_217 rfl (lv_at hl 0 rfl) ?_
                      refine g_get (C := R_M) (T := F_M) (N := 35) hx hb hts i_M hown hK hW (i := 400) (hdl 400 (by decide) (by decide)) ((wS_o (by decide)).trans h400) rfl 2 (by decide) (hts _ q_490) (fun _ h9 => h9) rfl d_M_search_218 ?_
                      refine lv_bipush (v := nI 10) hx hb d_M_search_221 (by decide) ?_
                      refine lv_iload_n hx hb d_M_search_223 rfl (lv_at hl 3 rfl) ?_
                      refine n_mul hx hb d_M_search_224 ?_
                      refine lv_aload_n hx hb d_M_search_225 rfl (lv_at hl 0 rfl) ?_
                      refine g_get (C := R_M) (T := F_M) (N := 35) hx hb hts i_M hown hK hW (i := 400) (hdl 400 (by decide) (by decide)) ((wS_o (by decide)).trans h400) rfl 7 (by decide) (hts _ q_495) (fun _ h9 => h9) rfl d_M_search_226 ?_
                      refine lv_iload_n hx hb d_M_search_229 rfl (lv_at hl 2 rfl) ?_
                      refine n_iald hx hb hK hW 0 (q := 406) (hdl 406 (by decide) (by decide)) ((wS_o (by decide)).trans h406) rfl (j := k + 1) (by omega) (by omega) d_M_search_230 ?_
                      refine n_topi (show cls (k + 1) = nI (cl (k + 1)) from hck.1) ?_
                      refine n_add hx hb d_M_search_231 ?_
                      refine n_iald hx hb hK hW 0 (q := 402) (hdl 402 (by decide) (by decide)) ((wS_o (by decide)).trans h402) rfl (j := (10 * z) + (cl (k + 1))) (by omega) (by omega) d_M_search_232 ?_
                      refine n_topi (show fs ((10 * z) + (cl (k + 1))) = nI (sp z (cl (k + 1))) from hsp z (cl (k + 1)) h2 hck.2) ?_
                      refine n_add hx hb d_M_search_233 ?_
                      refine n_iast (x := nI (lN + (sp z (cl (k + 1))))) hx hb hK hW hS 0 (q := 423) (hdl 423 (by decide) (by decide)) wS_423 rfl (j := z) (by omega) (by omega) d_M_search_234 (fun H locs hW hS => ?_)
                      rw [wS_u423] at hW
                      obtain ⟨E1, hE1⟩ : ∃ g, g = upd E z (nI (lN + sp z (cl (k + 1)))) := ⟨_, rfl⟩
                      rw [← hE1] at hW
                      refine lv_iconst (v := nI 0) hx hb d_M_search_235 (by decide) ?_
                      refine lv_istore (lv' := [(6, .int (nI 0)), (0, .ref (ad 400)), (1, .int w), (2, .int (nI (k + 1))), (3, .int (nI z)), (4, .int (nI v)), (5, .int (nI lN))]) hx hb d_M_search_236 hl (by decide) rfl (fun ls hl => ?_)
                      suffices hloop : ∀ (d5 y : Nat) (G1 : Nat → Int32) (H : Heap) (locs : List Loc) (ls : Array Slot), (y ≤ k + 1) → (k + 2 ≤ y + d5) → (∀ i, i < y → G1 (200 * z + i) = S (200 * v + i)) → (∀ j, j < 200 * z → G1 j = G j) → gW D gCl (gA ad co dl s.heap.size) ad (wS cI cJ co S G1 C E1 fd) dl H → va_S (gA ad co dl s.heap.size) s.heap H locs → lv_has ls 8 [(0, .ref (ad 400)), (1, .int w), (2, .int (nI (k + 1))), (3, .int (nI z)), (4, .int (nI v)), (6, .int (nI y))] → W pp l ee _ s mm _ below meth cd H locs 0 0 _ (F0 mm 238 ls []) by
                        exact hloop (k + 2) 0 G _ _ ls (by omega) (by omega) (fun i h => absurd h (Nat.not_lt_zero i)) (fun _ _ => rfl) hW hS (lv_sub hl [1, 2, 3, 4, 5, 0] rfl)
                      clear hW hS hl
                      intro d5
                      induction d5 with
                      | zero => intro y G1 H locs ls hy hd5 hg1 hg2; omega
                      | succ d5 ih5 =>
                        intro y G1 H locs ls hy hd5 hg1 hg2 hW hS hl
                        refine lv_iload hx hb d_M_search_238 (lv_at hl 5 rfl) ?_
                        refine lv_iload_n hx hb d_M_search_240 rfl (lv_at hl 2 rfl) ?_
                        refine n_icmp_ge (tgt := 283) hx hb (by omega) (by omega) d_M_search_241 (by decide) (fun h7 => ?_) (fun h7 => ?_)
                        · have hyk : y = k + 1 := by omega
                          rw [hyk] at hg1
                          refine lv_aload_n hx hb d_M_search_283 rfl (lv_at hl 0 rfl) ?_
                          refine g_get (C := R_M) (T := F_M) (N := 35) hx hb hts i_M hown hK hW (i := 400) (hdl 400 (by decide) (by decide)) ((wS_o (by decide)).trans h400) rfl 29 (by decide) (hts _ q_517) (fun _ h9 => h9) rfl d_M_search_284 ?_
                          refine lv_sipush (v := nI 200) hx hb d_M_search_287 (by decide) ?_
                          refine lv_iload_n hx hb d_M_search_290 rfl (lv_at hl 3 rfl) ?_
                          refine n_mul hx hb d_M_search_291 ?_
                          refine lv_iload_n hx hb d_M_search_292 rfl (lv_at hl 2 rfl) ?_
                          refine n_add hx hb d_M_search_293 ?_
                          refine lv_iload_n hx hb d_M_search_294 rfl (lv_at hl 3 rfl) ?_
                          refine n_iast (x := nI z) hx hb hK hW hS 0 (q := 421) (hdl 421 (by decide) (by decide)) wS_421 rfl (j := (200 * z) + (k + 1)) (by omega) (by omega) d_M_search_295 (fun H locs hW hS => ?_)
                          rw [wS_u421] at hW
                          refine n_iinc (lv' := [(3, .int (nI (z + 1))), (0, .ref (ad 400)), (1, .int w), (2, .int (nI (k + 1))), (4, .int (nI v)), (6, .int (nI y))]) hx hb d_M_search_296 hl (k := 3) rfl (by decide) rfl (fun ls hl => ?_)
                          refine lv_goto (tgt := 76) hx hb d_M_search_299 (by decide) ?_
                          refine ih3 (z + 1) (va_up R z (fun i => if i ≤ k then P v i else z)) (upd G1 (200 * z + (k + 1)) (nI z)) E1 _ _ ls (by omega) (by omega) (fun b hb => ?_) hW hS (lv_sub hl [1, 2, 3, 0] rfl)
                          by_cases hbz : b = z
                          · subst hbz
                            rw [va_up_self, hE1, pk_us]
                            refine ⟨fun _ => ?_, fun q => by rw [q] at h6; cases h6⟩
                            have hX : opt a (alw tr shp w) cl mv sp (k + 1) b (fun i => if i ≤ k then P v i else b) := opt_step (fun z hz hza => ((hI z hz).1 hza).1) e1 e3 e5 h2 h6 (fun i hi => if_pos hi) (if_neg (by omega))
                            refine ⟨hX, ?_, fun i hi => ?_⟩
                            · have e9 : pcs cl mv sp (fun i => if i ≤ k then P v i else b) k = pcs cl mv sp (P v) k := pcs_congr (fun i hi => if_pos hi)
                              show nI _ = nI (pcs cl mv sp (fun i => if i ≤ k then P v i else b) k + mv (if k ≤ k then P v k else b) (if k + 1 ≤ k then P v (k + 1) else b) + sp (if k + 1 ≤ k then P v (k + 1) else b) (cl (k + 1)))
                              rw [e9, if_pos (Nat.le_refl k), if_neg (by omega), hOv.2.1, e4]
                            · by_cases hik : i = k + 1
                              · subst hik
                                rw [pk_us, if_neg (by omega)]
                              · rw [pk_un (show 200 * b + i ≠ 200 * b + (k + 1) by omega), hg1 i (by omega), hSv i (by omega), if_pos (by omega)]
                          · have hR2 := hR b (by omega)
                            rw [va_up_ne _ _ hbz, hE1, pk_un hbz]
                            refine ⟨fun q => ⟨(hR2.1 q).1, (hR2.1 q).2.1, fun i hi => ?_⟩, hR2.2⟩
                            rw [pk_un (show 200 * b + i ≠ 200 * z + (k + 1) by omega), hg2 _ (by omega)]
                            exact (hR2.1 q).2.2 i hi
                        · refine lv_iload hx hb d_M_search_244 (lv_at hl 4 rfl) ?_
                          refine lv_iconst (v := (-1)) hx hb d_M_search_246 (by decide) ?_
                          refine lv_icmp_eq (tgt := 283) hx hb d_M_search_247 (by decide) (fun h8 => ?_) (fun h8 => ?_)
                          · exact absurd h8 (nI_ne_m1 (by omega))
                          · refine lv_aload_n hx hb d_M_search_250 rfl (lv_at hl 0 rfl) ?_
                            refine g_get (C := R_M) (T := F_M) (N := 35) hx hb hts i_M hown hK hW (i := 400) (hdl 400 (by decide) (by decide)) ((wS_o (by decide)).trans h400) rfl 29 (by decide) (hts _ q_517) (fun _ h9 => h9) rfl d_M_search_251 ?_
                            refine lv_sipush (v := nI 200) hx hb d_M_search_254 (by decide) ?_
                            refine lv_iload_n hx hb d_M_search_257 rfl (lv_at hl 3 rfl) ?_
                            refine n_mul hx hb d_M_search_258 ?_
                            refine lv_iload hx hb d_M_search_259 (lv_at hl 5 rfl) ?_
                            refine n_add hx hb d_M_search_261 ?_
                            refine lv_aload_n hx hb d_M_search_262 rfl (lv_at hl 0 rfl) ?_
                            refine g_get (C := R_M) (T := F_M) (N := 35) hx hb hts i_M hown hK hW (i := 400) (hdl 400 (by decide) (by decide)) ((wS_o (by decide)).trans h400) rfl 28 (by decide) (hts _ q_516) (fun _ h9 => h9) rfl d_M_search_263 ?_
                            refine lv_sipush (v := nI 200) hx hb d_M_search_266 (by decide) ?_
                            refine lv_iload hx hb d_M_search_269 (lv_at hl 4 rfl) ?_
                            refine n_mul hx hb d_M_search_271 ?_
                            refine lv_iload hx hb d_M_search_272 (lv_at hl 5 rfl) ?_
                            refine n_add hx hb d_M_search_274 ?_
                            refine n_iald hx hb hK hW 0 (q := 420) (hdl 420 (by decide) (by decide)) wS_420 rfl (j := (200 * v) + y) (by omega) (by omega) d_M_search_275 ?_
                            refine n_iast (x := S ((200 * v) + y)) hx hb hK hW hS 0 (q := 421) (hdl 421 (by decide) (by decide)) wS_421 rfl (j := (200 * z) + y) (by omega) (by omega) d_M_search_276 (fun H locs hW hS => ?_)
                            rw [wS_u421] at hW
                            refine n_iinc (lv' := [(6, .int (nI (y + 1))), (0, .ref (ad 400)), (1, .int w), (2, .int (nI (k + 1))), (3, .int (nI z)), (4, .int (nI v))]) hx hb d_M_search_277 hl (k := 5) rfl (by decide) rfl (fun ls hl => ?_)
                            refine lv_goto (tgt := 238) hx hb d_M_search_280 (by decide) ?_
                            refine ih5 (y + 1) (upd G1 (200 * z + y) (S (200 * v + y))) _ _ ls (by omega) (by omega) (lt_s (fun i hi => ?_) pk_us) (fun j hj => ?_) hW hS (lv_sub hl [1, 2, 3, 4, 5, 0] rfl)
                            · rw [pk_un (show 200 * z + i ≠ 200 * z + y by omega)]; exact hg1 i hi
                            · rw [pk_un (show j ≠ 200 * z + y by omega)]; exact hg2 j hj
                    · refine lv_ldc hx hb hown (hts _ q_659) d_M_search_210 ?_
                      refine n_topi (show (1000000000 : Int32) = nI 1000000000 by decide) ?_
                      refine lv_goto (tgt := 234) hx hb d_M_search_212 (by decide) ?_
                      refine n_iast (x := nI 1000000000) hx hb hK hW hS 0 (q := 423) (hdl 423 (by decide) (by decide)) wS_423 rfl (j := z) (by omega) (by omega) d_M_search_234 (fun H locs hW hS => ?_)
                      rw [wS_u423] at hW
                      obtain ⟨E1, hE1⟩ : ∃ g, g = upd E z (nI 1000000000) := ⟨_, rfl⟩
                      rw [← hE1] at hW
                      refine lv_iconst (v := nI 0) hx hb d_M_search_235 (by decide) ?_
                      refine lv_istore (lv' := [(6, .int (nI 0)), (0, .ref (ad 400)), (1, .int w), (2, .int (nI (k + 1))), (3, .int (nI z)), (4, .int (nI v)), (5, .int (nI lN))]) hx hb d_M_search_236 hl (by decide) rfl (fun ls hl => ?_)
                      suffices hloop : ∀ (d5 y : Nat) (G1 : Nat → Int32) (H : Heap) (locs : List Loc) (ls : Array Slot), (y ≤ k + 1) → (k + 2 ≤ y + d5) → (∀ i, i < y → G1 (200 * z + i) = S (200 * v + i)) → (∀ j, j < 200 * z → G1 j = G j) → gW D gCl (gA ad co dl s.heap.size) ad (wS cI cJ co S G1 C E1 fd) dl H → va_S (gA ad co dl s.heap.size) s.heap H locs → lv_has ls 8 [(0, .ref (ad 400)), (1, .int w), (2, .int (nI (k + 1))), (3, .int (nI z)), (4, .int (nI v)), (6, .int (nI y))] → W pp l ee _ s mm _ below meth cd H locs 0 0 _ (F0 mm 238 ls []) by
                        exact hloop (k + 2) 0 G _ _ ls (by omega) (by omega) (fun i h => absurd h (Nat.not_lt_zero i)) (fun _ _ => rfl) hW hS (lv_sub hl [1, 2, 3, 4, 5, 0] rfl)
                      clear hW hS hl
                      intro d5
                      induction d5 with
                      | zero => intro y G1 H locs ls hy hd5 hg1 hg2; omega
                      | succ d5 ih5 =>
                        intro y G1 H locs ls hy hd5 hg1 hg2 hW hS hl
                        refine lv_iload hx hb d_M_search_238 (lv_at hl 5 rfl) ?_
                        refine lv_iload_n hx hb d_M_search_240 rfl (lv_at hl 2 rfl) ?_
                        refine n_icmp_ge (tgt := 283) hx hb (by omega) (by omega) d_M_search_241 (by decide) (fun h7 => ?_) (fun h7 => ?_)
                        · have hyk : y = k + 1 := by omega
                          rw [hyk] at hg1
                          refine lv_aload_n hx hb d_M_search_283 rfl (lv_at hl 0 rfl) ?_
                          refine g_get (C := R_M) (T := F_M) (N := 35) hx hb hts i_M hown hK hW (i := 400) (hdl 400 (by decide) (by decide)) ((wS_o (by decide)).trans h400) rfl 29 (by decide) (hts _ q_517) (fun _ h9 => h9) rfl d_M_search_284 ?_
                          refine lv_sipush (v := nI 200) hx hb d_M_search_287 (by decide) ?_
                          refine lv_iload_n hx hb d_M_search_290 rfl (lv_at hl 3 rfl) ?_
                          refine n_mul hx hb d_M_search_291 ?_
                          refine lv_iload_n hx hb d_M_search_292 rfl (lv_at hl 2 rfl) ?_
                          refine n_add hx hb d_M_search_293 ?_
                          refine lv_iload_n hx hb d_M_search_294 rfl (lv_at hl 3 rfl) ?_
                          refine n_iast (x := nI z) hx hb hK hW hS 0 (q := 421) (hdl 421 (by decide) (by decide)) wS_421 rfl (j := (200 * z) + (k + 1)) (by omega) (by omega) d_M_search_295 (fun H locs hW hS => ?_)
                          rw [wS_u421] at hW
                          refine n_iinc (lv' := [(3, .int (nI (z + 1))), (0, .ref (ad 400)), (1, .int w), (2, .int (nI (k + 1))), (4, .int (nI v)), (6, .int (nI y))]) hx hb d_M_search_296 hl (k := 3) rfl (by decide) rfl (fun ls hl => ?_)
                          refine lv_goto (tgt := 76) hx hb d_M_search_299 (by decide) ?_
                          refine ih3 (z + 1) (va_up R z (fun i => if i ≤ k then P v i else z)) (upd G1 (200 * z + (k + 1)) (nI z)) E1 _ _ ls (by omega) (by omega) (fun b hb => ?_) hW hS (lv_sub hl [1, 2, 3, 0] rfl)
                          by_cases hbz : b = z
                          · subst hbz
                            rw [va_up_self, hE1, pk_us]
                            exact ⟨fun q => (by rw [q] at h6; cases h6), fun _ => rfl⟩
                          · have hR2 := hR b (by omega)
                            rw [va_up_ne _ _ hbz, hE1, pk_un hbz]
                            refine ⟨fun q => ⟨(hR2.1 q).1, (hR2.1 q).2.1, fun i hi => ?_⟩, hR2.2⟩
                            rw [pk_un (show 200 * b + i ≠ 200 * z + (k + 1) by omega), hg2 _ (by omega)]
                            exact (hR2.1 q).2.2 i hi
                        · refine lv_iload hx hb d_M_search_244 (lv_at hl 4 rfl) ?_
                          refine lv_iconst (v := (-1)) hx hb d_M_search_246 (by decide) ?_
                          refine lv_icmp_eq (tgt := 283) hx hb d_M_search_247 (by decide) (fun h8 => ?_) (fun h8 => ?_)
                          · exact absurd h8 (nI_ne_m1 (by omega))
                          · refine lv_aload_n hx hb d_M_search_250 rfl (lv_at hl 0 rfl) ?_
                            refine g_get (C := R_M) (T := F_M) (N := 35) hx hb hts i_M hown hK hW (i := 400) (hdl 400 (by decide) (by decide)) ((wS_o (by decide)).trans h400) rfl 29 (by decide) (hts _ q_517) (fun _ h9 => h9) rfl d_M_search_251 ?_
                            refine lv_sipush (v := nI 200) hx hb d_M_search_254 (by decide) ?_
                            refine lv_iload_n hx hb d_M_search_257 rfl (lv_at hl 3 rfl) ?_
                            refine n_mul hx hb d_M_search_258 ?_
                            refine lv_iload hx hb d_M_search_259 (lv_at hl 5 rfl) ?_
                            refine n_add hx hb d_M_search_261 ?_
                            refine lv_aload_n hx hb d_M_search_262 rfl (lv_at hl 0 rfl) ?_
                            refine g_get (C := R_M) (T := F_M) (N := 35) hx hb hts i_M hown hK hW (i := 400) (hdl 400 (by decide) (by decide)) ((wS_o (by decide)).trans h400) rfl 28 (by decide) (hts _ q_516) (fun _ h9 => h9) rfl d_M_search_263 ?_
                            refine lv_sipush (v := nI 200) hx hb d_M_search_266 (by decide) ?_
                            refine lv_iload hx hb d_M_search_269 (lv_at hl 4 rfl) ?_
                            refine n_mul hx hb d_M_search_271 ?_
                            refine lv_iload hx hb d_M_search_272 (lv_at hl 5 rfl) ?_
                            refine n_add hx hb d_M_search_274 ?_
                            refine n_iald hx hb hK hW 0 (q := 420) (hdl 420 (by decide) (by decide)) wS_420 rfl (j := (200 * v) + y) (by omega) (by omega) d_M_search_275 ?_
                            refine n_iast (x := S ((200 * v) + y)) hx hb hK hW hS 0 (q := 421) (hdl 421 (by decide) (by decide)) wS_421 rfl (j := (200 * z) + y) (by omega) (by omega) d_M_search_276 (fun H locs hW hS => ?_)
                            rw [wS_u421] at hW
                            refine n_iinc (lv' := [(6, .int (nI (y + 1))), (0, .ref (ad 400)), (1, .int w), (2, .int (nI (k + 1))), (3, .int (nI z)), (4, .int (nI v))]) hx hb d_M_search_277 hl (k := 5) rfl (by decide) rfl (fun ls hl => ?_)
                            refine lv_goto (tgt := 238) hx hb d_M_search_280 (by decide) ?_
                            refine ih5 (y + 1) (upd G1 (200 * z + y) (S (200 * v + y))) _ _ ls (by omega) (by omega) (lt_s (fun i hi => ?_) pk_us) (fun j hj => ?_) hW hS (lv_sub hl [1, 2, 3, 4, 5, 0] rfl)
                            · rw [pk_un (show 200 * z + i ≠ 200 * z + y by omega)]; exact hg1 i hi
                            · rw [pk_un (show j ≠ 200 * z + y by omega)]; exact hg2 j hj
                · have hIx := hI x h3
                  cases hal : (alw tr shp w) k x with
                  | false =>
                    have hC := hIx.2 hal
                    refine lv_aload_n hx hb d_M_search_103 rfl (lv_at hl 0 rfl) ?_
                    refine g_get (C := R_M) (T := F_M) (N := 35) hx hb hts i_M hown hK hW (i := 400) (hdl 400 (by decide) (by decide)) ((wS_o (by decide)).trans h400) rfl 30 (by decide) (hts _ q_518) (fun _ h9 => h9) rfl d_M_search_104 ?_
                    refine lv_iload hx hb d_M_search_107 (lv_at hl 6 rfl) ?_
                    refine n_iald hx hb hK hW 0 (q := 422) (hdl 422 (by decide) (by decide)) wS_422 rfl (j := x) (by omega) (by omega) d_M_search_109 ?_
                    refine n_topi (show C x = nI 1000000000 from hC) ?_
                    refine lv_ldc hx hb hown (hts _ q_659) d_M_search_110 ?_
                    refine n_topi (show (1000000000 : Int32) = nI 1000000000 by decide) ?_
                    refine n_icmp_lt (tgt := 120) hx hb (by omega) (by omega) d_M_search_112 (by decide) (fun h4 => ?_) (fun h4 => ?_)
                    · omega
                    · refine lv_ldc hx hb hown (hts _ q_659) d_M_search_115 ?_
                      refine n_topi (show (1000000000 : Int32) = nI 1000000000 by decide) ?_
                      refine lv_goto (tgt := 140) hx hb d_M_search_117 (by decide) ?_
                      refine lv_istore (lv' := [(7, .int (nI 1000000000)), (0, .ref (ad 400)), (1, .int w), (2, .int (nI (k + 1))), (3, .int (nI z)), (4, .int bs), (5, .int (nI lN)), (6, .int (nI x))]) hx hb d_M_search_140 hl (by decide) rfl (fun ls hl => ?_)
                      refine lv_iload hx hb d_M_search_142 (lv_at hl 0 rfl) ?_
                      refine lv_iload hx hb d_M_search_144 (lv_at hl 6 rfl) ?_
                      refine n_icmp_lt (tgt := 175) hx hb (by omega) (by omega) d_M_search_146 (by decide) (fun h5 => ?_) (fun h5 => ?_)
                      · omega
                      · refine lv_iload hx hb d_M_search_149 (lv_at hl 0 rfl) ?_
                        refine lv_iload hx hb d_M_search_151 (lv_at hl 6 rfl) ?_
                        refine n_icmp_ne (tgt := 183) hx hb (by omega) (by omega) d_M_search_153 (by decide) (fun h6 => ?_) (fun h6 => ?_)
                        · refine n_iinc (lv' := [(6, .int (nI (x + 1))), (7, .int (nI 1000000000)), (0, .ref (ad 400)), (1, .int w), (2, .int (nI (k + 1))), (3, .int (nI z)), (4, .int bs), (5, .int (nI lN))]) hx hb d_M_search_183 hl (k := 7) rfl (by decide) rfl (fun ls hl => ?_)
                          refine lv_goto (tgt := 94) hx hb d_M_search_186 (by decide) ?_
                          exact ih4 (x + 1) bs lN _ _ ls (by omega) (by omega) hlN (by
                            rcases hB with ⟨e1, e2, e3⟩ | ⟨v, e1, e2, e3, e4, e5⟩
                            · exact Or.inl ⟨e1, e2, lt_s e3 hal⟩
                            · exact Or.inr ⟨v, by omega, e2, e3, e4, lt_s e5 (fun q => by rw [hal] at q; cases q)⟩) hW hS (lv_sub hl [2, 3, 4, 5, 6, 7, 0] rfl)
                        · refine lv_iload hx hb d_M_search_156 (lv_at hl 0 rfl) ?_
                          refine lv_ldc hx hb hown (hts _ q_659) d_M_search_158 ?_
                          refine n_topi (show (1000000000 : Int32) = nI 1000000000 by decide) ?_
                          refine n_icmp_ge (tgt := 183) hx hb (by omega) (by omega) d_M_search_160 (by decide) (fun h7 => ?_) (fun h7 => ?_)
                          · refine n_iinc (lv' := [(6, .int (nI (x + 1))), (7, .int (nI 1000000000)), (0, .ref (ad 400)), (1, .int w), (2, .int (nI (k + 1))), (3, .int (nI z)), (4, .int bs), (5, .int (nI lN))]) hx hb d_M_search_183 hl (k := 7) rfl (by decide) rfl (fun ls hl => ?_)
                            refine lv_goto (tgt := 94) hx hb d_M_search_186 (by decide) ?_
                            exact ih4 (x + 1) bs lN _ _ ls (by omega) (by omega) hlN (by
                              rcases hB with ⟨e1, e2, e3⟩ | ⟨v, e1, e2, e3, e4, e5⟩
                              · exact Or.inl ⟨e1, e2, lt_s e3 hal⟩
                              · exact Or.inr ⟨v, by omega, e2, e3, e4, lt_s e5 (fun q => by rw [hal] at q; cases q)⟩) hW hS (lv_sub hl [2, 3, 4, 5, 6, 7, 0] rfl)
                          · omega
                  | true =>
                    obtain ⟨hO, hC, hSx⟩ := hIx.1 hal
                    have hpc := pcs_le hok k (by omega) hO.1
                    have hmx := hok.2.2.2.1 x z h3 h2
                    obtain ⟨pc, hpcE⟩ : ∃ v, v = pcs cl mv sp (P x) k := ⟨_, rfl⟩
                    rw [← hpcE] at hpc hC
                    refine lv_aload_n hx hb d_M_search_103 rfl (lv_at hl 0 rfl) ?_
                    refine g_get (C := R_M) (T := F_M) (N := 35) hx hb hts i_M hown hK hW (i := 400) (hdl 400 (by decide) (by decide)) ((wS_o (by decide)).trans h400) rfl 30 (by decide) (hts _ q_518) (fun _ h9 => h9) rfl d_M_search_104 ?_
                    refine lv_iload hx hb d_M_search_107 (lv_at hl 6 rfl) ?_
                    refine n_iald hx hb hK hW 0 (q := 422) (hdl 422 (by decide) (by decide)) wS_422 rfl (j := x) (by omega) (by omega) d_M_search_109 ?_
                    refine n_topi (show C x = nI pc from hC) ?_
                    refine lv_ldc hx hb hown (hts _ q_659) d_M_search_110 ?_
                    refine n_topi (show (1000000000 : Int32) = nI 1000000000 by decide) ?_
                    refine n_icmp_lt (tgt := 120) hx hb (by omega) (by omega) d_M_search_112 (by decide) (fun h4 => ?_) (fun h4 => ?_)
                    · refine lv_aload_n hx hb d_M_search_120 rfl (lv_at hl 0 rfl) ?_
                      refine g_get (C := R_M) (T := F_M) (N := 35) hx hb hts i_M hown hK hW (i := 400) (hdl 400 (by decide) (by decide)) ((wS_o (by decide)).trans h400) rfl 30 (by decide) (hts _ q_518) (fun _ h9 => h9) rfl d_M_search_121 ?_
                      refine lv_iload hx hb d_M_search_124 (lv_at hl 6 rfl) ?_
                      refine n_iald hx hb hK hW 0 (q := 422) (hdl 422 (by decide) (by decide)) wS_422 rfl (j := x) (by omega) (by omega) d_M_search_126 ?_
                      refine n_topi (show C x = nI pc from hC) ?_
                      refine lv_aload_n hx hb d_M_search_127 rfl (lv_at hl 0 rfl) ?_
                      refine g_get (C := R_M) (T := F_M) (N := 35) hx hb hts i_M hown hK hW (i := 400) (hdl 400 (by decide) (by decide)) ((wS_o (by decide)).trans h400) rfl 1 (by decide) (hts _ q_489) (fun _ h9 => h9) rfl d_M_search_128 ?_
                      refine lv_bipush (v := nI 12) hx hb d_M_search_131 (by decide) ?_
                      refine lv_iload hx hb d_M_search_133 (lv_at hl 6 rfl) ?_
                      refine n_mul hx hb d_M_search_135 ?_
                      refine lv_iload_n hx hb d_M_search_136 rfl (lv_at hl 3 rfl) ?_
                      refine n_add hx hb d_M_search_137 ?_
                      refine n_iald hx hb hK hW 0 (q := 401) (hdl 401 (by decide) (by decide)) ((wS_o (by decide)).trans h401) rfl (j := (12 * x) + z) (by omega) (by omega) d_M_search_138 ?_
                      refine n_topi (show fm ((12 * x) + z) = nI (mv x z) from hmv x z h3 h2) ?_
                      refine n_add hx hb d_M_search_139 ?_
                      refine lv_istore (lv' := [(7, .int (nI (pc + (mv x z)))), (0, .ref (ad 400)), (1, .int w), (2, .int (nI (k + 1))), (3, .int (nI z)), (4, .int bs), (5, .int (nI lN)), (6, .int (nI x))]) hx hb d_M_search_140 hl (by decide) rfl (fun ls hl => ?_)
                      refine lv_iload hx hb d_M_search_142 (lv_at hl 0 rfl) ?_
                      refine lv_iload hx hb d_M_search_144 (lv_at hl 6 rfl) ?_
                      refine n_icmp_lt (tgt := 175) hx hb (by omega) (by omega) d_M_search_146 (by decide) (fun h5 => ?_) (fun h5 => ?_)
                      · refine lv_iload hx hb d_M_search_175 (lv_at hl 0 rfl) ?_
                        refine lv_istore (lv' := [(5, .int (nI (pc + (mv x z)))), (7, .int (nI (pc + (mv x z)))), (0, .ref (ad 400)), (1, .int w), (2, .int (nI (k + 1))), (3, .int (nI z)), (4, .int bs), (6, .int (nI x))]) hx hb d_M_search_177 hl (by decide) rfl (fun ls hl => ?_)
                        refine lv_iload hx hb d_M_search_179 (lv_at hl 7 rfl) ?_
                        refine lv_istore (lv' := [(4, .int (nI x)), (5, .int (nI (pc + (mv x z)))), (7, .int (nI (pc + (mv x z)))), (0, .ref (ad 400)), (1, .int w), (2, .int (nI (k + 1))), (3, .int (nI z)), (6, .int (nI x))]) hx hb d_M_search_181 hl (by decide) rfl (fun ls hl => ?_)
                        refine n_iinc (lv' := [(6, .int (nI (x + 1))), (4, .int (nI x)), (5, .int (nI (pc + (mv x z)))), (7, .int (nI (pc + (mv x z)))), (0, .ref (ad 400)), (1, .int w), (2, .int (nI (k + 1))), (3, .int (nI z))]) hx hb d_M_search_183 hl (k := 7) rfl (by decide) rfl (fun ls hl => ?_)
                        refine lv_goto (tgt := 94) hx hb d_M_search_186 (by decide) ?_
                        exact ih4 (x + 1) (nI x) (pc + mv x z) _ _ ls (by omega) (by omega) (by omega) (by
                          refine Or.inr ⟨x, by omega, rfl, hal, by rw [hpcE], lt_s ?_ (fun _ => noW_refl)⟩
                          rcases hB with ⟨e1, e2, e3⟩ | ⟨v, e1, e2, e3, e4, e5⟩
                          · intro y hy hya; rw [e3 y hy] at hya; cases hya
                          · exact fun y hy hya => noW_trans (Or.inl (by omega)) (e5 y hy hya)) hW hS (lv_sub hl [4, 5, 6, 7, 1, 2, 0] rfl)
                      · rcases hB with ⟨e1, e2, e3⟩ | ⟨v, e1, e2, e3, e4, e5⟩
                        · omega
                        subst e2
                        refine lv_iload hx hb d_M_search_149 (lv_at hl 0 rfl) ?_
                        refine lv_iload hx hb d_M_search_151 (lv_at hl 6 rfl) ?_
                        refine n_icmp_ne (tgt := 183) hx hb (by omega) (by omega) d_M_search_153 (by decide) (fun h6 => ?_) (fun h6 => ?_)
                        · refine n_iinc (lv' := [(6, .int (nI (x + 1))), (7, .int (nI (pc + (mv x z)))), (0, .ref (ad 400)), (1, .int w), (2, .int (nI (k + 1))), (3, .int (nI z)), (4, .int (nI v)), (5, .int (nI lN))]) hx hb d_M_search_183 hl (k := 7) rfl (by decide) rfl (fun ls hl => ?_)
                          refine lv_goto (tgt := 94) hx hb d_M_search_186 (by decide) ?_
                          exact ih4 (x + 1) (nI v) lN _ _ ls (by omega) (by omega) hlN (Or.inr ⟨v, by omega, rfl, e3, e4, lt_s e5 (fun _ => Or.inl (by omega))⟩) hW hS (lv_sub hl [2, 3, 4, 5, 6, 7, 0] rfl)
                        · refine lv_iload hx hb d_M_search_156 (lv_at hl 0 rfl) ?_
                          refine lv_ldc hx hb hown (hts _ q_659) d_M_search_158 ?_
                          refine n_topi (show (1000000000 : Int32) = nI 1000000000 by decide) ?_
                          refine n_icmp_ge (tgt := 183) hx hb (by omega) (by omega) d_M_search_160 (by decide) (fun h7 => ?_) (fun h7 => ?_)
                          · omega
                          · refine lv_aload_n hx hb d_M_search_163 rfl (lv_at hl 1 rfl) ?_
                            refine lv_iload hx hb d_M_search_164 (lv_at hl 7 rfl) ?_
                            refine lv_iload hx hb d_M_search_166 (lv_at hl 5 rfl) ?_
                            refine lv_iload_n hx hb d_M_search_168 rfl (lv_at hl 3 rfl) ?_
                            refine g_cVi (As := [.int (nI x), .int (nI v), .int (nI (k + 1))]) (rest := []) ⟨hx, hb, hml, hown, hts⟩ (c_M_isFirst l hdl ((wS_o (by decide)).trans h400) wS_420 x v (k + 1) (by omega) (by omega) (by omega)) (gcwV 3 hts q_663 q_660 q_662 qs_13 q_9 (by decide +kernel) ⟨(Nat.le_of_ble_eq_true rfl), (Nat.le_of_ble_eq_true rfl)⟩) gNl_ok hN hK hW hS hA (hdl 400 (by decide) (by decide)) ((wS_o (by decide)).trans h400) rfl rfl hl.1 rfl (Nat.le_of_ble_eq_true rfl) d_M_search_169 ⟨Nat.zero_le _, Nat.zero_le _⟩ (fun r co9 H locs hp9 hW hS => ?_)
                            obtain ⟨rfl, hco9⟩ := hp9
                            rw [hco9] at hW
                            obtain ⟨hOv, hCv, hSv⟩ := (hI v (by omega)).1 e3
                            have hlx := lexL_lxl (f := fun k => S (200 * x + k)) (g := fun k => S (200 * v + k)) (F := P x) (G := P v) (n := k + 1) (fun i hi => ⟨hSx i (by omega), by have := (hO.1 i (by omega)).1; omega⟩) (fun i hi => ⟨hSv i (by omega), by have := (hOv.1 i (by omega)).1; omega⟩)
                            refine n_ifz_eq (tgt := 183) hx hb d_M_search_172 (by decide) (fun h8 => ?_) (fun h8 => ?_)
                            · refine n_iinc (lv' := [(6, .int (nI (x + 1))), (7, .int (nI (pc + (mv x z)))), (0, .ref (ad 400)), (1, .int w), (2, .int (nI (k + 1))), (3, .int (nI z)), (4, .int (nI v)), (5, .int (nI lN))]) hx hb d_M_search_183 hl (k := 7) rfl (by decide) rfl (fun ls hl => ?_)
                              refine lv_goto (tgt := 94) hx hb d_M_search_186 (by decide) ?_
                              exact ih4 (x + 1) (nI v) lN _ _ ls (by omega) (by omega) hlN (Or.inr ⟨v, by omega, rfl, e3, e4, lt_s e5 (fun _ => Or.inr ⟨by omega, fun q => by rw [hlx.mpr q] at h8; cases h8⟩)⟩) hW hS (lv_sub hl [2, 3, 4, 5, 6, 7, 0] rfl)
                            · refine lv_iload hx hb d_M_search_175 (lv_at hl 0 rfl) ?_
                              refine lv_istore (lv' := [(5, .int (nI (pc + (mv x z)))), (7, .int (nI (pc + (mv x z)))), (0, .ref (ad 400)), (1, .int w), (2, .int (nI (k + 1))), (3, .int (nI z)), (4, .int (nI v)), (6, .int (nI x))]) hx hb d_M_search_177 hl (by decide) rfl (fun ls hl => ?_)
                              refine lv_iload hx hb d_M_search_179 (lv_at hl 7 rfl) ?_
                              refine lv_istore (lv' := [(4, .int (nI x)), (5, .int (nI (pc + (mv x z)))), (7, .int (nI (pc + (mv x z)))), (0, .ref (ad 400)), (1, .int w), (2, .int (nI (k + 1))), (3, .int (nI z)), (6, .int (nI x))]) hx hb d_M_search_181 hl (by decide) rfl (fun ls hl => ?_)
                              refine n_iinc (lv' := [(6, .int (nI (x + 1))), (4, .int (nI x)), (5, .int (nI (pc + (mv x z)))), (7, .int (nI (pc + (mv x z)))), (0, .ref (ad 400)), (1, .int w), (2, .int (nI (k + 1))), (3, .int (nI z))]) hx hb d_M_search_183 hl (k := 7) rfl (by decide) rfl (fun ls hl => ?_)
                              refine lv_goto (tgt := 94) hx hb d_M_search_186 (by decide) ?_
                              exact ih4 (x + 1) (nI x) (pc + mv x z) _ _ ls (by omega) (by omega) (by omega) (by
                                have hlt := hlx.mp h8
                                refine Or.inr ⟨x, by omega, rfl, hal, by rw [hpcE], lt_s ?_ (fun _ => noW_refl)⟩
                                exact fun y hy hya => noW_trans (Or.inr ⟨by omega, fun q => lxl_irr (lxl_trans hlt q)⟩) (e5 y hy hya)) hW hS (lv_sub hl [4, 5, 6, 7, 1, 2, 0] rfl)
                    · omega
    · have hc0 := hcl 0 hn0
      refine lv_aload_n hx hb d_M_search_10 rfl (lv_at hl 0 rfl) ?_
      refine g_get (C := R_M) (T := F_M) (N := 35) hx hb hts i_M hown hK hW (i := 400) (hdl 400 (by decide) (by decide)) ((wS_o (by decide)).trans h400) rfl 30 (by decide) (hts _ q_518) (fun _ h9 => h9) rfl d_M_search_11 ?_
      refine lv_iload_n hx hb d_M_search_14 rfl (lv_at hl 2 rfl) ?_
      refine lv_aload_n hx hb d_M_search_15 rfl (lv_at hl 0 rfl) ?_
      refine lv_iconst (v := nI 0) hx hb d_M_search_16 (by decide) ?_
      refine lv_iload_n hx hb d_M_search_17 rfl (lv_at hl 2 rfl) ?_
      refine lv_iload_n hx hb d_M_search_18 rfl (lv_at hl 1 rfl) ?_
      refine g_cVi (As := [.int (nI 0), .int (nI z), .int w]) (rest := [.int (nI z), .ref (ad 422)]) ⟨hx, hb, hml, hown, hts⟩ (c_M_may l hdl ((wS_o (by decide)).trans h400) ((wS_o (by decide)).trans h408) ((wS_o (by decide)).trans h409) 0 z w (by omega) (hsh 0 hn0)) (gcwV 3 hts q_658 q_655 q_657 qs_12 q_9 (by decide +kernel) ⟨(Nat.le_of_ble_eq_true rfl), (Nat.le_of_ble_eq_true rfl)⟩) gNl_ok hN hK hW hS hA (hdl 400 (by decide) (by decide)) ((wS_o (by decide)).trans h400) rfl rfl hl.1 rfl (Nat.le_of_ble_eq_true rfl) d_M_search_19 ⟨Nat.zero_le _, Nat.zero_le _⟩ (fun r co9 H locs hp9 hW hS => ?_)
      obtain ⟨rfl, hco9⟩ := hp9
      rw [hco9] at hW
      refine n_ifz_eq (tgt := 44) hx hb d_M_search_22 (by decide) (fun h2 => ?_) (fun h2 => ?_)
      · refine lv_ldc hx hb hown (hts _ q_659) d_M_search_44 ?_
        refine n_topi (show (1000000000 : Int32) = nI 1000000000 by decide) ?_
        refine n_iast (x := nI 1000000000) hx hb hK hW hS 0 (q := 422) (hdl 422 (by decide) (by decide)) wS_422 rfl (j := z) (by omega) (by omega) d_M_search_46 (fun H locs hW hS => ?_)
        rw [wS_u422] at hW
        refine lv_aload_n hx hb d_M_search_47 rfl (lv_at hl 0 rfl) ?_
        refine g_get (C := R_M) (T := F_M) (N := 35) hx hb hts i_M hown hK hW (i := 400) (hdl 400 (by decide) (by decide)) ((wS_o (by decide)).trans h400) rfl 28 (by decide) (hts _ q_516) (fun _ h9 => h9) rfl d_M_search_48 ?_
        refine lv_sipush (v := nI 200) hx hb d_M_search_51 (by decide) ?_
        refine lv_iload_n hx hb d_M_search_54 rfl (lv_at hl 2 rfl) ?_
        refine n_mul hx hb d_M_search_55 ?_
        refine lv_iload_n hx hb d_M_search_56 rfl (lv_at hl 2 rfl) ?_
        refine n_iast (x := nI z) hx hb hK hW hS 0 (q := 420) (hdl 420 (by decide) (by decide)) wS_420 rfl (j := 200 * z) (by omega) (by omega) d_M_search_57 (fun H locs hW hS => ?_)
        rw [wS_u420] at hW
        refine n_iinc (lv' := [(2, .int (nI (z + 1))), (0, .ref (ad 400)), (1, .int w)]) hx hb d_M_search_58 hl (k := 2) rfl (by decide) rfl (fun ls hl => ?_)
        refine lv_goto (tgt := 2) hx hb d_M_search_61 (by decide) ?_
        refine ih (z + 1) (upd S (200 * z) (nI z)) (upd C z (nI 1000000000)) _ _ ls (by omega) (by omega) (fun b hb => ?_) hW hS (lv_sub hl [1, 2, 0] rfl)
        by_cases hbz : b = z
        · subst hbz; rw [pk_us, pk_us]; exact ⟨by rw [if_neg (by rw [h2]; decide)]; rfl, rfl⟩
        · have := hi b (by omega)
          rw [pk_un hbz, pk_un (show 200 * b ≠ 200 * z by omega)]; exact this
      · refine lv_aload_n hx hb d_M_search_25 rfl (lv_at hl 0 rfl) ?_
        refine g_get (C := R_M) (T := F_M) (N := 35) hx hb hts i_M hown hK hW (i := 400) (hdl 400 (by decide) (by decide)) ((wS_o (by decide)).trans h400) rfl 2 (by decide) (hts _ q_490) (fun _ h9 => h9) rfl d_M_search_26 ?_
        refine lv_bipush (v := nI 10) hx hb d_M_search_29 (by decide) ?_
        refine lv_iload_n hx hb d_M_search_31 rfl (lv_at hl 2 rfl) ?_
        refine n_mul hx hb d_M_search_32 ?_
        refine lv_aload_n hx hb d_M_search_33 rfl (lv_at hl 0 rfl) ?_
        refine g_get (C := R_M) (T := F_M) (N := 35) hx hb hts i_M hown hK hW (i := 400) (hdl 400 (by decide) (by decide)) ((wS_o (by decide)).trans h400) rfl 7 (by decide) (hts _ q_495) (fun _ h9 => h9) rfl d_M_search_34 ?_
        refine lv_iconst (v := nI 0) hx hb d_M_search_37 (by decide) ?_
        refine n_iald hx hb hK hW 0 (q := 406) (hdl 406 (by decide) (by decide)) ((wS_o (by decide)).trans h406) rfl (j := 0) (by omega) (by omega) d_M_search_38 ?_
        refine n_topi (show cls 0 = nI (cl 0) from hc0.1) ?_
        refine n_add hx hb d_M_search_39 ?_
        refine n_iald hx hb hK hW 0 (q := 402) (hdl 402 (by decide) (by decide)) ((wS_o (by decide)).trans h402) rfl (j := (10 * z) + (cl 0)) (by omega) (by omega) d_M_search_40 ?_
        refine n_topi (show fs ((10 * z) + (cl 0)) = nI (sp z (cl 0)) from hsp z (cl 0) h1 hc0.2) ?_
        refine lv_goto (tgt := 46) hx hb d_M_search_41 (by decide) ?_
        refine n_iast (x := nI (sp z (cl 0))) hx hb hK hW hS 0 (q := 422) (hdl 422 (by decide) (by decide)) wS_422 rfl (j := z) (by omega) (by omega) d_M_search_46 (fun H locs hW hS => ?_)
        rw [wS_u422] at hW
        refine lv_aload_n hx hb d_M_search_47 rfl (lv_at hl 0 rfl) ?_
        refine g_get (C := R_M) (T := F_M) (N := 35) hx hb hts i_M hown hK hW (i := 400) (hdl 400 (by decide) (by decide)) ((wS_o (by decide)).trans h400) rfl 28 (by decide) (hts _ q_516) (fun _ h9 => h9) rfl d_M_search_48 ?_
        refine lv_sipush (v := nI 200) hx hb d_M_search_51 (by decide) ?_
        refine lv_iload_n hx hb d_M_search_54 rfl (lv_at hl 2 rfl) ?_
        refine n_mul hx hb d_M_search_55 ?_
        refine lv_iload_n hx hb d_M_search_56 rfl (lv_at hl 2 rfl) ?_
        refine n_iast (x := nI z) hx hb hK hW hS 0 (q := 420) (hdl 420 (by decide) (by decide)) wS_420 rfl (j := 200 * z) (by omega) (by omega) d_M_search_57 (fun H locs hW hS => ?_)
        rw [wS_u420] at hW
        refine n_iinc (lv' := [(2, .int (nI (z + 1))), (0, .ref (ad 400)), (1, .int w)]) hx hb d_M_search_58 hl (k := 2) rfl (by decide) rfl (fun ls hl => ?_)
        refine lv_goto (tgt := 2) hx hb d_M_search_61 (by decide) ?_
        refine ih (z + 1) (upd S (200 * z) (nI z)) (upd C z (nI (sp z (cl 0)))) _ _ ls (by omega) (by omega) (fun b hb => ?_) hW hS (lv_sub hl [1, 2, 0] rfl)
        by_cases hbz : b = z
        · subst hbz; rw [pk_us, pk_us]; exact ⟨by rw [if_pos h2], rfl⟩
        · have := hi b (by omega)
          rw [pk_un hbz, pk_un (show 200 * b ≠ 200 * z by omega)]; exact this
end
section
set_option maxHeartbeats 4000000 in
set_option maxRecDepth 100000 in
/-- bothEnds -/
theorem c_M_bothEnds (l : Launch) {D : va_G} {cI cJ cG : ClassId} {ad : Nat → Nat} {co : Nat → va_E} {dl : List Nat} {a rw sh pg ce mg kn cs sm : Nat} (hdl : ∀ i, 400 ≤ i → i < 427 → i ∈ dl) (h400 : co 400 = mO ad a rw sh pg ce mg kn cs sm) {fm : Nat → Int32} {fs : Nat → Int32} {cls : Nat → Int32} {shp : Nat → Int32} {tr : Nat → Int32} {f0 : Nat → Int32} {g0 : Nat → Int32} (h401 : co 401 = .inl (cI, 144, .inl fm)) (h402 : co 402 = .inl (cI, 120, .inl fs)) (h406 : co 406 = .inl (cI, 200, .inl cls)) (h408 : co 408 = .inl (cI, 200, .inl shp)) (h409 : co 409 = .inl (cI, 200, .inl tr)) (h424 : co 424 = .inl (cI, 2400, .inl f0)) (h425 : co 425 = .inl (cI, 2400, .inl g0)) {cl : Nat → Nat} {mv sp : Nat → Nat → Nat} (ha : a ≤ 12) (hok : okN a (alw tr shp (-1)) cl mv sp rw) (hcl : ∀ k, k < rw → cls k = nI (cl k) ∧ cl k < 10) (hmv : ∀ i j, i < a → j < a → fm (12 * i + j) = nI (mv i j)) (hsp : ∀ i c, i < a → c < 10 → fs (10 * i + c) = nI (sp i c)) (hsh : ∀ k, k < rw → shp k ≠ -1) : gMv l y_M_bothEnds (Cond.code y_M_bothEnds b_M_bothEnds 6 none :: wA) ({ frames := 1, cells := 0, slots := 0, locals := 23 }) D gCl (gTy cI cJ cG) gNl [.ref (ad 400)] ad co dl (fun co' => ∃ F G : Nat → Int32, co' = wB cI cJ co F G ∧ (∀ k b, k < rw → b < a → F (12 * k + b) = nI (if (alw tr shp (-1)) k b then bfo a (alw tr shp (-1)) cl mv sp k b + sp b (cl k) else BIG)) ∧ ∀ k b, k < rw → b < a → G (12 * k + b) = nI (tgo a (alw tr shp (-1)) cl mv sp rw k b)) := by
  refine gMv_of (cc := b_M_bothEnds) (maxL := 6) (ret := none) (by decide) rfl (Nat.le_of_ble_eq_true rfl) ?_
  intro pp ee s mm below meth cd ls hC hW hS hl
  obtain ⟨hx, hb, hr, hts0, hown, hlocks, hml, hK, hN⟩ := hC
  have hts : ∀ w ∈ wA, w.before _ s = true := fun w h => hts0 w (List.mem_cons_of_mem _ h)
  have hA : ∀ q, s.heap.size ≤ q → gA ad co dl s.heap.size q := fun q h => Or.inr h
  have hl : lv_has ls 6 [(0, .ref (ad 400))] := hl
  have hown : s.vm.findClass R_M = some mm.cls := hown
  have hn0 : 0 < rw := hok.1
  have hn2 : rw ≤ 200 := hok.2.1
  have ha0 : 0 < a := hok.2.2.1
  have hBIG : BIG = 1000000000 := rfl
  have hW := gW_eq (wB_self (cJ := cJ) h424 h425) hW
  refine lv_iconst (v := nI 0) hx hb d_M_bothEnds_0 (by decide) ?_
  refine lv_istore_n (lv' := [(1, .int (nI 0)), (0, .ref (ad 400))]) hx hb d_M_bothEnds_1 rfl hl (by decide) rfl (fun ls hl => ?_)
  suffices hloop : ∀ (d k : Nat) (F : Nat → Int32) (H : Heap) (locs : List Loc) (ls : Array Slot), (k ≤ rw) → (rw + 1 ≤ k + d) → (∀ y b, y < k → b < a → F (12 * y + b) = nI (if (alw tr shp (-1)) y b then bfo a (alw tr shp (-1)) cl mv sp y b + sp b (cl y) else BIG)) → gW D gCl (gA ad co dl s.heap.size) ad (wB cI cJ co F g0) dl H → va_S (gA ad co dl s.heap.size) s.heap H locs → lv_has ls 6 [(0, .ref (ad 400)), (1, .int (nI k))] → W pp l ee _ s mm _ below meth cd H locs 0 0 _ (F0 mm 2 ls []) by
    exact hloop (rw + 1) 0 f0 _ _ ls (by omega) (by omega) (fun y b h => absurd h (Nat.not_lt_zero y)) hW hS (lv_sub hl [1, 0] rfl)
  clear hW hS hl
  intro d
  induction d with
  | zero => intro k F H locs ls hk hd hF; omega
  | succ d ih1 =>
    intro k F H locs ls hk hd hF hW hS hl
    refine lv_iload_n hx hb d_M_bothEnds_2 rfl (lv_at hl 1 rfl) ?_
    refine lv_aload_n hx hb d_M_bothEnds_3 rfl (lv_at hl 0 rfl) ?_
    refine g_get (C := R_M) (T := F_M) (N := 35) hx hb hts i_M hown hK hW (i := 400) (hdl 400 (by decide) (by decide)) ((wB_o (by decide)).trans h400) rfl 5 (by decide) (hts _ q_493) (fun _ h9 => h9) rfl d_M_bothEnds_4 ?_
    refine n_icmp_ge (tgt := 181) hx hb (by omega) (by omega) d_M_bothEnds_7 (by decide) (fun h1 => ?_) (fun h1 => ?_)
    · have hkr : k = rw := by omega
      rw [hkr] at hF
      clear ih1 hk hd h1
      refine lv_aload_n hx hb d_M_bothEnds_181 rfl (lv_at hl 0 rfl) ?_
      refine g_get (C := R_M) (T := F_M) (N := 35) hx hb hts i_M hown hK hW (i := 400) (hdl 400 (by decide) (by decide)) ((wB_o (by decide)).trans h400) rfl 5 (by decide) (hts _ q_493) (fun _ h9 => h9) rfl d_M_bothEnds_182 ?_
      refine lv_iconst (v := nI 1) hx hb d_M_bothEnds_185 (by decide) ?_
      refine lv_isub hx hb d_M_bothEnds_186 ?_
      refine lv_istore_n (lv' := [(1, .int ((nI rw) - (nI 1))), (0, .ref (ad 400))]) hx hb d_M_bothEnds_187 rfl hl (by decide) rfl (fun ls hl => ?_)
      suffices hloop : ∀ (d q : Nat) (G : Nat → Int32) (H : Heap) (locs : List Loc) (ls : Array Slot), (q ≤ rw) → (q + 1 ≤ d) → (∀ y b, q ≤ y → y < rw → b < a → G (12 * y + b) = nI (tgo a (alw tr shp (-1)) cl mv sp rw y b)) → gW D gCl (gA ad co dl s.heap.size) ad (wB cI cJ co F G) dl H → va_S (gA ad co dl s.heap.size) s.heap H locs → lv_has ls 6 [(0, .ref (ad 400)), (1, .int (nI q - nI 1))] → W pp l ee _ s mm _ below meth cd H locs 0 0 _ (F0 mm 188 ls []) by
        exact hloop (rw + 1) rw g0 _ _ ls (Nat.le_refl _) (Nat.le_refl _) (fun y b h1 h2 => absurd h2 (by omega)) hW hS (lv_sub hl [1, 0] rfl)
      clear hW hS hl
      intro d
      induction d with
      | zero => intro q G H locs ls hq hd hG; omega
      | succ d ih4 =>
        intro q G H locs ls hq hd hG hW hS hl
        rcases Nat.eq_zero_or_pos q with h0 | h0
        · subst h0
          refine lv_iload_n hx hb d_M_bothEnds_188 rfl (lv_at hl 1 rfl) ?_
          refine lv_if_lt (tgt := 375) hx hb d_M_bothEnds_189 (by decide) (fun h1 => ?_) (fun h1 => ?_)
          · exact g_vret hx hb hr hlocks hW hS (⟨F, G, rfl, hF, fun k b hk hb => hG k b (Nat.zero_le k) hk hb⟩) d_M_bothEnds_375
          · exact absurd (by decide) h1
        · obtain ⟨k, rfl⟩ : ∃ z, q = z + 1 := ⟨q - 1, by omega⟩
          rw [show nI (k + 1) - nI 1 = nI k from nI_pred k] at hl
          have hck := hcl k (by omega)
          refine lv_iload_n hx hb d_M_bothEnds_188 rfl (lv_at hl 1 rfl) ?_
          refine n_if_lt (tgt := 375) hx hb (by omega) d_M_bothEnds_189 (by decide) ?_
          refine lv_iconst (v := nI 0) hx hb d_M_bothEnds_192 (by decide) ?_
          refine lv_istore_n (lv' := [(2, .int (nI 0)), (0, .ref (ad 400)), (1, .int (nI k))]) hx hb d_M_bothEnds_193 rfl hl (by decide) rfl (fun ls hl => ?_)
          suffices hloop : ∀ (d5 z : Nat) (G2 : Nat → Int32) (H : Heap) (locs : List Loc) (ls : Array Slot), (z ≤ a) → (a + 1 ≤ z + d5) → (∀ y b, k < y → y < rw → b < a → G2 (12 * y + b) = G (12 * y + b)) → (∀ b, b < z → G2 (12 * k + b) = nI (tgo a (alw tr shp (-1)) cl mv sp rw k b)) → gW D gCl (gA ad co dl s.heap.size) ad (wB cI cJ co F G2) dl H → va_S (gA ad co dl s.heap.size) s.heap H locs → lv_has ls 6 [(0, .ref (ad 400)), (1, .int (nI k)), (2, .int (nI z))] → W pp l ee _ s mm _ below meth cd H locs 0 0 _ (F0 mm 194 ls []) by
            exact hloop (a + 1) 0 G _ _ ls (by omega) (by omega) (fun _ _ _ _ _ => rfl) (fun b h => absurd h (Nat.not_lt_zero b)) hW hS (lv_sub hl [1, 2, 0] rfl)
          clear hW hS hl
          intro d5
          induction d5 with
          | zero => intro z G2 H locs ls hz hd5 hG2 hG3; omega
          | succ d5 ih5 =>
            intro z G2 H locs ls hz hd5 hG2 hG3 hW hS hl
            refine lv_iload_n hx hb d_M_bothEnds_194 rfl (lv_at hl 2 rfl) ?_
            refine lv_aload_n hx hb d_M_bothEnds_195 rfl (lv_at hl 0 rfl) ?_
            refine g_get (C := R_M) (T := F_M) (N := 35) hx hb hts i_M hown hK hW (i := 400) (hdl 400 (by decide) (by decide)) ((wB_o (by decide)).trans h400) rfl 0 (by decide) (hts _ q_488) (fun _ h9 => h9) rfl d_M_bothEnds_196 ?_
            refine n_icmp_ge (tgt := 369) hx hb (by omega) (by omega) d_M_bothEnds_199 (by decide) (fun h2 => ?_) (fun h2 => ?_)
            · have hza : z = a := by omega
              rw [hza] at hG3
              refine lv_iinc (v := (nI k) + (-1)) (lv' := [(1, .int ((nI k) + (-1))), (0, .ref (ad 400)), (2, .int (nI z))]) hx hb d_M_bothEnds_369 hl (k := 1) rfl rfl (by decide) rfl (fun ls hl => ?_)
              rw [show nI k + (-1) = nI k - nI 1 by rw [Int32.sub_eq_add_neg]; rfl] at hl
              refine lv_goto (tgt := 188) hx hb d_M_bothEnds_372 (by decide) ?_
              refine ih4 k G2 _ _ ls (by omega) (by omega) (fun y b hy1 hy2 hb => ?_) hW hS (lv_sub hl [1, 0] rfl)
              by_cases hyk : y = k
              · subst hyk; exact hG3 b hb
              · rw [hG2 y b (by omega) hy2 hb]; exact hG y b (by omega) hy2 hb
            · have hsz := hok.2.2.2.2.1 z k h2 (by omega)
              refine lv_iload_n hx hb d_M_bothEnds_202 rfl (lv_at hl 1 rfl) ?_
              refine lv_aload_n hx hb d_M_bothEnds_203 rfl (lv_at hl 0 rfl) ?_
              refine g_get (C := R_M) (T := F_M) (N := 35) hx hb hts i_M hown hK hW (i := 400) (hdl 400 (by decide) (by decide)) ((wB_o (by decide)).trans h400) rfl 5 (by decide) (hts _ q_493) (fun _ h9 => h9) rfl d_M_bothEnds_204 ?_
              refine lv_iconst (v := nI 1) hx hb d_M_bothEnds_207 (by decide) ?_
              refine n_sub hx hb (by omega) d_M_bothEnds_208 ?_
              refine n_icmp_ne (tgt := 216) hx hb (by omega) (by omega) d_M_bothEnds_209 (by decide) (fun h3 => ?_) (fun h3 => ?_)
              · have hk1 : k + 1 < rw := by omega
                have hrl := tgr_le hok hk1 h2
                refine lv_ldc hx hb hown (hts _ q_659) d_M_bothEnds_216 ?_
                refine n_topi (show (1000000000 : Int32) = nI 1000000000 by decide) ?_
                refine lv_istore_n (lv' := [(3, .int (nI 1000000000)), (0, .ref (ad 400)), (1, .int (nI k)), (2, .int (nI z))]) hx hb d_M_bothEnds_218 rfl hl (by decide) rfl (fun ls hl => ?_)
                refine lv_iconst (v := nI 0) hx hb d_M_bothEnds_219 (by decide) ?_
                refine lv_istore (lv' := [(4, .int (nI 0)), (3, .int (nI 1000000000)), (0, .ref (ad 400)), (1, .int (nI k)), (2, .int (nI z))]) hx hb d_M_bothEnds_220 hl (by decide) rfl (fun ls hl => ?_)
                suffices hloop : ∀ (d6 x : Nat) (H : Heap) (locs : List Loc) (ls : Array Slot), (x ≤ a) → (a + 1 ≤ x + d6) → gW D gCl (gA ad co dl s.heap.size) ad (wB cI cJ co F G2) dl H → va_S (gA ad co dl s.heap.size) s.heap H locs → lv_has ls 6 [(0, .ref (ad 400)), (1, .int (nI k)), (2, .int (nI z)), (3, .int (nI (rmin ((alw tr shp (-1)) (k + 1)) (fun c => mv z c + tgo a (alw tr shp (-1)) cl mv sp rw (k + 1) c) x))), (4, .int (nI x))] → W pp l ee _ s mm _ below meth cd H locs 0 0 _ (F0 mm 222 ls []) by
                  exact hloop (a + 1) 0 _ _ ls (by omega) (by omega) hW hS (lv_sub hl [2, 3, 4, 1, 0] rfl)
                clear hW hS hl
                intro d6
                induction d6 with
                | zero => intro x H locs ls hx6 hd6; omega
                | succ d6 ih6 =>
                  intro x H locs ls hx6 hd6 hW hS hl
                  have hrb := rmin_le_big ((alw tr shp (-1)) (k + 1)) (fun c => mv z c + tgo a (alw tr shp (-1)) cl mv sp rw (k + 1) c) x
                  refine lv_iload hx hb d_M_bothEnds_222 (lv_at hl 4 rfl) ?_
                  refine lv_aload_n hx hb d_M_bothEnds_224 rfl (lv_at hl 0 rfl) ?_
                  refine g_get (C := R_M) (T := F_M) (N := 35) hx hb hts i_M hown hK hW (i := 400) (hdl 400 (by decide) (by decide)) ((wB_o (by decide)).trans h400) rfl 0 (by decide) (hts _ q_488) (fun _ h9 => h9) rfl d_M_bothEnds_225 ?_
                  refine n_icmp_ge (tgt := 313) hx hb (by omega) (by omega) d_M_bothEnds_228 (by decide) (fun h4 => ?_) (fun h4 => ?_)
                  · have hxa : x = a := by omega
                    rw [hxa] at hl
                    refine lv_aload_n hx hb d_M_bothEnds_313 rfl (lv_at hl 0 rfl) ?_
                    refine g_get (C := R_M) (T := F_M) (N := 35) hx hb hts i_M hown hK hW (i := 400) (hdl 400 (by decide) (by decide)) ((wB_o (by decide)).trans h400) rfl 33 (by decide) (hts _ q_521) (fun _ h9 => h9) rfl d_M_bothEnds_314 ?_
                    refine lv_bipush (v := nI 12) hx hb d_M_bothEnds_317 (by decide) ?_
                    refine lv_iload_n hx hb d_M_bothEnds_319 rfl (lv_at hl 1 rfl) ?_
                    refine n_mul hx hb d_M_bothEnds_320 ?_
                    refine lv_iload_n hx hb d_M_bothEnds_321 rfl (lv_at hl 2 rfl) ?_
                    refine n_add hx hb d_M_bothEnds_322 ?_
                    refine lv_iload_n hx hb d_M_bothEnds_323 rfl (lv_at hl 3 rfl) ?_
                    refine lv_ldc hx hb hown (hts _ q_659) d_M_bothEnds_324 ?_
                    refine n_topi (show (1000000000 : Int32) = nI 1000000000 by decide) ?_
                    refine n_icmp_ge (tgt := 339) hx hb (by omega) (by omega) d_M_bothEnds_326 (by decide) (fun h8 => ?_) (fun h8 => ?_)
                    · omega
                    · refine lv_aload_n hx hb d_M_bothEnds_329 rfl (lv_at hl 0 rfl) ?_
                      refine lv_iload_n hx hb d_M_bothEnds_330 rfl (lv_at hl 1 rfl) ?_
                      refine lv_iload_n hx hb d_M_bothEnds_331 rfl (lv_at hl 2 rfl) ?_
                      refine lv_iconst (v := (-1)) hx hb d_M_bothEnds_332 (by decide) ?_
                      refine g_cVi (As := [.int (nI k), .int (nI z), .int (-1)]) (rest := [.int (nI ((12 * k) + z)), .ref (ad 425)]) ⟨hx, hb, hml, hown, hts⟩ (c_M_may l hdl ((wB_o (by decide)).trans h400) ((wB_o (by decide)).trans h408) ((wB_o (by decide)).trans h409) k z (-1) (by omega) (hsh k (by omega))) (gcwV 3 hts q_658 q_655 q_657 qs_12 q_9 (by decide +kernel) ⟨(Nat.le_of_ble_eq_true rfl), (Nat.le_of_ble_eq_true rfl)⟩) gNl_ok hN hK hW hS hA (hdl 400 (by decide) (by decide)) ((wB_o (by decide)).trans h400) rfl rfl hl.1 rfl (Nat.le_of_ble_eq_true rfl) d_M_bothEnds_333 ⟨Nat.zero_le _, Nat.zero_le _⟩ (fun r co9 H locs hp9 hW hS => ?_)
                      obtain ⟨rfl, hco9⟩ := hp9
                      rw [hco9] at hW
                      refine n_ifz_ne (tgt := 344) hx hb d_M_bothEnds_336 (by decide) (fun h9 => ?_) (fun h9 => ?_)
                      · refine lv_iload_n hx hb d_M_bothEnds_344 rfl (lv_at hl 3 rfl) ?_
                        refine lv_aload_n hx hb d_M_bothEnds_345 rfl (lv_at hl 0 rfl) ?_
                        refine g_get (C := R_M) (T := F_M) (N := 35) hx hb hts i_M hown hK hW (i := 400) (hdl 400 (by decide) (by decide)) ((wB_o (by decide)).trans h400) rfl 2 (by decide) (hts _ q_490) (fun _ h9 => h9) rfl d_M_bothEnds_346 ?_
                        refine lv_bipush (v := nI 10) hx hb d_M_bothEnds_349 (by decide) ?_
                        refine lv_iload_n hx hb d_M_bothEnds_351 rfl (lv_at hl 2 rfl) ?_
                        refine n_mul hx hb d_M_bothEnds_352 ?_
                        refine lv_aload_n hx hb d_M_bothEnds_353 rfl (lv_at hl 0 rfl) ?_
                        refine g_get (C := R_M) (T := F_M) (N := 35) hx hb hts i_M hown hK hW (i := 400) (hdl 400 (by decide) (by decide)) ((wB_o (by decide)).trans h400) rfl 7 (by decide) (hts _ q_495) (fun _ h9 => h9) rfl d_M_bothEnds_354 ?_
                        refine lv_iload_n hx hb d_M_bothEnds_357 rfl (lv_at hl 1 rfl) ?_
                        refine n_iald hx hb hK hW 0 (q := 406) (hdl 406 (by decide) (by decide)) ((wB_o (by decide)).trans h406) rfl (j := k) (by omega) (by omega) d_M_bothEnds_358 ?_
                        refine n_topi (show cls k = nI (cl k) from hck.1) ?_
                        refine n_add hx hb d_M_bothEnds_359 ?_
                        refine n_iald hx hb hK hW 0 (q := 402) (hdl 402 (by decide) (by decide)) ((wB_o (by decide)).trans h402) rfl (j := (10 * z) + (cl k)) (by omega) (by omega) d_M_bothEnds_360 ?_
                        refine n_topi (show fs ((10 * z) + (cl k)) = nI (sp z (cl k)) from hsp z (cl k) h2 hck.2) ?_
                        refine n_add hx hb d_M_bothEnds_361 ?_
                        refine n_iast (x := nI ((rmin ((alw tr shp (-1)) (k + 1)) (fun c => mv z c + tgo a (alw tr shp (-1)) cl mv sp rw (k + 1) c) a) + (sp z (cl k)))) hx hb hK hW hS 0 (q := 425) (hdl 425 (by decide) (by decide)) wB_425 rfl (j := (12 * k) + z) (by omega) (by omega) d_M_bothEnds_362 (fun H locs hW hS => ?_)
                        rw [wB_u425] at hW
                        refine n_iinc (lv' := [(2, .int (nI (z + 1))), (0, .ref (ad 400)), (1, .int (nI k)), (3, .int (nI (rmin ((alw tr shp (-1)) (k + 1)) (fun c => mv z c + tgo a (alw tr shp (-1)) cl mv sp rw (k + 1) c) a))), (4, .int (nI a))]) hx hb d_M_bothEnds_363 hl (k := 2) rfl (by decide) rfl (fun ls hl => ?_)
                        refine lv_goto (tgt := 194) hx hb d_M_bothEnds_366 (by decide) ?_
                        refine ih5 (z + 1) (upd G2 (12 * k + z) (nI (rmin ((alw tr shp (-1)) (k + 1)) (fun c => mv z c + tgo a (alw tr shp (-1)) cl mv sp rw (k + 1) c) a + sp z (cl k)))) _ _ ls (by omega) (by omega) (fun y b hy1 hy2 hb => ?_) (lt_s (fun b hb => ?_) ?_) hW hS (lv_sub hl [1, 2, 0] rfl)
                        · rw [pk_un (show 12 * y + b ≠ 12 * k + z by omega)]; exact hG2 y b hy1 hy2 hb
                        · rw [pk_un (show 12 * k + b ≠ 12 * k + z by omega)]; exact hG3 b hb
                        · rw [pk_us, tgo_eq hk1, if_pos h9, Nat.add_comm]
                      · refine lv_ldc hx hb hown (hts _ q_659) d_M_bothEnds_339 ?_
                        refine n_topi (show (1000000000 : Int32) = nI 1000000000 by decide) ?_
                        refine lv_goto (tgt := 362) hx hb d_M_bothEnds_341 (by decide) ?_
                        refine n_iast (x := nI 1000000000) hx hb hK hW hS 0 (q := 425) (hdl 425 (by decide) (by decide)) wB_425 rfl (j := (12 * k) + z) (by omega) (by omega) d_M_bothEnds_362 (fun H locs hW hS => ?_)
                        rw [wB_u425] at hW
                        refine n_iinc (lv' := [(2, .int (nI (z + 1))), (0, .ref (ad 400)), (1, .int (nI k)), (3, .int (nI (rmin ((alw tr shp (-1)) (k + 1)) (fun c => mv z c + tgo a (alw tr shp (-1)) cl mv sp rw (k + 1) c) a))), (4, .int (nI a))]) hx hb d_M_bothEnds_363 hl (k := 2) rfl (by decide) rfl (fun ls hl => ?_)
                        refine lv_goto (tgt := 194) hx hb d_M_bothEnds_366 (by decide) ?_
                        refine ih5 (z + 1) (upd G2 (12 * k + z) (nI 1000000000)) _ _ ls (by omega) (by omega) (fun y b hy1 hy2 hb => ?_) (lt_s (fun b hb => ?_) ?_) hW hS (lv_sub hl [1, 2, 0] rfl)
                        · rw [pk_un (show 12 * y + b ≠ 12 * k + z by omega)]; exact hG2 y b hy1 hy2 hb
                        · rw [pk_un (show 12 * k + b ≠ 12 * k + z by omega)]; exact hG3 b hb
                        · rw [pk_us, tgo_big h9, hBIG]
                  · refine lv_iload_n hx hb d_M_bothEnds_231 rfl (lv_at hl 1 rfl) ?_
                    refine lv_aload_n hx hb d_M_bothEnds_232 rfl (lv_at hl 0 rfl) ?_
                    refine g_get (C := R_M) (T := F_M) (N := 35) hx hb hts i_M hown hK hW (i := 400) (hdl 400 (by decide) (by decide)) ((wB_o (by decide)).trans h400) rfl 5 (by decide) (hts _ q_493) (fun _ h9 => h9) rfl d_M_bothEnds_233 ?_
                    refine lv_iconst (v := nI 1) hx hb d_M_bothEnds_236 (by decide) ?_
                    refine n_sub hx hb (by omega) d_M_bothEnds_237 ?_
                    refine n_icmp_ge (tgt := 313) hx hb (by omega) (by omega) d_M_bothEnds_238 (by decide) (fun h5 => ?_) (fun h5 => ?_)
                    · omega
                    · have hGx := (hG2 (k + 1) x (by omega) hk1 h4).trans (hG (k + 1) x (by omega) hk1 h4)
                      have hm0 := hok.2.2.2.1 z x h2 h4
                      cases hal : (alw tr shp (-1)) (k + 1) x with
                      | false =>
                        rw [tgo_big hal] at hGx
                        refine lv_aload_n hx hb d_M_bothEnds_241 rfl (lv_at hl 0 rfl) ?_
                        refine g_get (C := R_M) (T := F_M) (N := 35) hx hb hts i_M hown hK hW (i := 400) (hdl 400 (by decide) (by decide)) ((wB_o (by decide)).trans h400) rfl 33 (by decide) (hts _ q_521) (fun _ h9 => h9) rfl d_M_bothEnds_242 ?_
                        refine lv_bipush (v := nI 12) hx hb d_M_bothEnds_245 (by decide) ?_
                        refine lv_iload_n hx hb d_M_bothEnds_247 rfl (lv_at hl 1 rfl) ?_
                        refine lv_iconst (v := nI 1) hx hb d_M_bothEnds_248 (by decide) ?_
                        refine n_add hx hb d_M_bothEnds_249 ?_
                        refine n_mul hx hb d_M_bothEnds_250 ?_
                        refine lv_iload hx hb d_M_bothEnds_251 (lv_at hl 4 rfl) ?_
                        refine n_add hx hb d_M_bothEnds_253 ?_
                        refine n_iald hx hb hK hW 0 (q := 425) (hdl 425 (by decide) (by decide)) wB_425 rfl (j := (12 * (k + 1)) + x) (by omega) (by omega) d_M_bothEnds_254 ?_
                        refine n_topi (show G2 ((12 * (k + 1)) + x) = nI 1000000000 from hGx) ?_
                        refine lv_ldc hx hb hown (hts _ q_659) d_M_bothEnds_255 ?_
                        refine n_topi (show (1000000000 : Int32) = nI 1000000000 by decide) ?_
                        refine n_icmp_lt (tgt := 265) hx hb (by omega) (by omega) d_M_bothEnds_257 (by decide) (fun h6 => ?_) (fun h6 => ?_)
                        · omega
                        · refine lv_ldc hx hb hown (hts _ q_659) d_M_bothEnds_260 ?_
                          refine n_topi (show (1000000000 : Int32) = nI 1000000000 by decide) ?_
                          refine lv_goto (tgt := 292) hx hb d_M_bothEnds_262 (by decide) ?_
                          refine lv_istore (lv' := [(5, .int (nI 1000000000)), (0, .ref (ad 400)), (1, .int (nI k)), (2, .int (nI z)), (3, .int (nI (rmin ((alw tr shp (-1)) (k + 1)) (fun c => mv z c + tgo a (alw tr shp (-1)) cl mv sp rw (k + 1) c) x))), (4, .int (nI x))]) hx hb d_M_bothEnds_292 hl (by decide) rfl (fun ls hl => ?_)
                          refine lv_iload hx hb d_M_bothEnds_294 (lv_at hl 0 rfl) ?_
                          refine lv_iload_n hx hb d_M_bothEnds_296 rfl (lv_at hl 4 rfl) ?_
                          refine n_icmp_ge (tgt := 305) hx hb (by omega) (by omega) d_M_bothEnds_297 (by decide) (fun h7 => ?_) (fun h7 => ?_)
                          · refine lv_iload_n hx hb d_M_bothEnds_305 rfl (lv_at hl 4 rfl) ?_
                            refine n_topi (show nI (rmin ((alw tr shp (-1)) (k + 1)) (fun c => mv z c + tgo a (alw tr shp (-1)) cl mv sp rw (k + 1) c) x) = nI (rmin ((alw tr shp (-1)) (k + 1)) (fun c => mv z c + tgo a (alw tr shp (-1)) cl mv sp rw (k + 1) c) (x + 1)) from by rw [rmin_no hal]) ?_
                            refine lv_istore_n (lv' := [(3, .int (nI (rmin ((alw tr shp (-1)) (k + 1)) (fun c => mv z c + tgo a (alw tr shp (-1)) cl mv sp rw (k + 1) c) (x + 1)))), (5, .int (nI 1000000000)), (0, .ref (ad 400)), (1, .int (nI k)), (2, .int (nI z)), (4, .int (nI x))]) hx hb d_M_bothEnds_306 rfl hl (by decide) rfl (fun ls hl => ?_)
                            refine n_iinc (lv' := [(4, .int (nI (x + 1))), (3, .int (nI (rmin ((alw tr shp (-1)) (k + 1)) (fun c => mv z c + tgo a (alw tr shp (-1)) cl mv sp rw (k + 1) c) (x + 1)))), (5, .int (nI 1000000000)), (0, .ref (ad 400)), (1, .int (nI k)), (2, .int (nI z))]) hx hb d_M_bothEnds_307 hl (k := 5) rfl (by decide) rfl (fun ls hl => ?_)
                            refine lv_goto (tgt := 222) hx hb d_M_bothEnds_310 (by decide) ?_
                            exact ih6 (x + 1) _ _ ls (by omega) (by omega) hW hS (lv_sub hl [3, 4, 5, 1, 0] rfl)
                          · omega
                      | true =>
                        have ht0 := tgo_le hok hk1 h4 hal
                        refine lv_aload_n hx hb d_M_bothEnds_241 rfl (lv_at hl 0 rfl) ?_
                        refine g_get (C := R_M) (T := F_M) (N := 35) hx hb hts i_M hown hK hW (i := 400) (hdl 400 (by decide) (by decide)) ((wB_o (by decide)).trans h400) rfl 33 (by decide) (hts _ q_521) (fun _ h9 => h9) rfl d_M_bothEnds_242 ?_
                        refine lv_bipush (v := nI 12) hx hb d_M_bothEnds_245 (by decide) ?_
                        refine lv_iload_n hx hb d_M_bothEnds_247 rfl (lv_at hl 1 rfl) ?_
                        refine lv_iconst (v := nI 1) hx hb d_M_bothEnds_248 (by decide) ?_
                        refine n_add hx hb d_M_bothEnds_249 ?_
                        refine n_mul hx hb d_M_bothEnds_250 ?_
                        refine lv_iload hx hb d_M_bothEnds_251 (lv_at hl 4 rfl) ?_
                        refine n_add hx hb d_M_bothEnds_253 ?_
                        refine n_iald hx hb hK hW 0 (q := 425) (hdl 425 (by decide) (by decide)) wB_425 rfl (j := (12 * (k + 1)) + x) (by omega) (by omega) d_M_bothEnds_254 ?_
                        refine n_topi (show G2 ((12 * (k + 1)) + x) = nI (tgo a (alw tr shp (-1)) cl mv sp rw (k + 1) x) from hGx) ?_
                        refine lv_ldc hx hb hown (hts _ q_659) d_M_bothEnds_255 ?_
                        refine n_topi (show (1000000000 : Int32) = nI 1000000000 by decide) ?_
                        refine n_icmp_lt (tgt := 265) hx hb (by omega) (by omega) d_M_bothEnds_257 (by decide) (fun h6 => ?_) (fun h6 => ?_)
                        · refine lv_aload_n hx hb d_M_bothEnds_265 rfl (lv_at hl 0 rfl) ?_
                          refine g_get (C := R_M) (T := F_M) (N := 35) hx hb hts i_M hown hK hW (i := 400) (hdl 400 (by decide) (by decide)) ((wB_o (by decide)).trans h400) rfl 33 (by decide) (hts _ q_521) (fun _ h9 => h9) rfl d_M_bothEnds_266 ?_
                          refine lv_bipush (v := nI 12) hx hb d_M_bothEnds_269 (by decide) ?_
                          refine lv_iload_n hx hb d_M_bothEnds_271 rfl (lv_at hl 1 rfl) ?_
                          refine lv_iconst (v := nI 1) hx hb d_M_bothEnds_272 (by decide) ?_
                          refine n_add hx hb d_M_bothEnds_273 ?_
                          refine n_mul hx hb d_M_bothEnds_274 ?_
                          refine lv_iload hx hb d_M_bothEnds_275 (lv_at hl 4 rfl) ?_
                          refine n_add hx hb d_M_bothEnds_277 ?_
                          refine n_iald hx hb hK hW 0 (q := 425) (hdl 425 (by decide) (by decide)) wB_425 rfl (j := (12 * (k + 1)) + x) (by omega) (by omega) d_M_bothEnds_278 ?_
                          refine n_topi (show G2 ((12 * (k + 1)) + x) = nI (tgo a (alw tr shp (-1)) cl mv sp rw (k + 1) x) from hGx) ?_
                          refine lv_aload_n hx hb d_M_bothEnds_279 rfl (lv_at hl 0 rfl) ?_
                          refine g_get (C := R_M) (T := F_M) (N := 35) hx hb hts i_M hown hK hW (i := 400) (hdl 400 (by decide) (by decide)) ((wB_o (by decide)).trans h400) rfl 1 (by decide) (hts _ q_489) (fun _ h9 => h9) rfl d_M_bothEnds_280 ?_
                          refine lv_bipush (v := nI 12) hx hb d_M_bothEnds_283 (by decide) ?_
                          refine lv_iload_n hx hb d_M_bothEnds_285 rfl (lv_at hl 2 rfl) ?_
                          refine n_mul hx hb d_M_bothEnds_286 ?_
                          refine lv_iload hx hb d_M_bothEnds_287 (lv_at hl 4 rfl) ?_
                          refine n_add hx hb d_M_bothEnds_289 ?_
                          refine n_iald hx hb hK hW 0 (q := 401) (hdl 401 (by decide) (by decide)) ((wB_o (by decide)).trans h401) rfl (j := (12 * z) + x) (by omega) (by omega) d_M_bothEnds_290 ?_
                          refine n_topi (show fm ((12 * z) + x) = nI (mv z x) from hmv z x h2 h4) ?_
                          refine n_add hx hb d_M_bothEnds_291 ?_
                          refine n_topi (show nI ((tgo a (alw tr shp (-1)) cl mv sp rw (k + 1) x) + (mv z x)) = nI (mv z x + tgo a (alw tr shp (-1)) cl mv sp rw (k + 1) x) from by rw [Nat.add_comm]) ?_
                          refine lv_istore (lv' := [(5, .int (nI (mv z x + tgo a (alw tr shp (-1)) cl mv sp rw (k + 1) x))), (0, .ref (ad 400)), (1, .int (nI k)), (2, .int (nI z)), (3, .int (nI (rmin ((alw tr shp (-1)) (k + 1)) (fun c => mv z c + tgo a (alw tr shp (-1)) cl mv sp rw (k + 1) c) x))), (4, .int (nI x))]) hx hb d_M_bothEnds_292 hl (by decide) rfl (fun ls hl => ?_)
                          refine lv_iload hx hb d_M_bothEnds_294 (lv_at hl 0 rfl) ?_
                          refine lv_iload_n hx hb d_M_bothEnds_296 rfl (lv_at hl 4 rfl) ?_
                          refine n_icmp_ge (tgt := 305) hx hb (by omega) (by omega) d_M_bothEnds_297 (by decide) (fun h7 => ?_) (fun h7 => ?_)
                          · refine lv_iload_n hx hb d_M_bothEnds_305 rfl (lv_at hl 4 rfl) ?_
                            refine n_topi (show nI (rmin ((alw tr shp (-1)) (k + 1)) (fun c => mv z c + tgo a (alw tr shp (-1)) cl mv sp rw (k + 1) c) x) = nI (rmin ((alw tr shp (-1)) (k + 1)) (fun c => mv z c + tgo a (alw tr shp (-1)) cl mv sp rw (k + 1) c) (x + 1)) from by rw [rmin_ge hal h7]) ?_
                            refine lv_istore_n (lv' := [(3, .int (nI (rmin ((alw tr shp (-1)) (k + 1)) (fun c => mv z c + tgo a (alw tr shp (-1)) cl mv sp rw (k + 1) c) (x + 1)))), (5, .int (nI (mv z x + tgo a (alw tr shp (-1)) cl mv sp rw (k + 1) x))), (0, .ref (ad 400)), (1, .int (nI k)), (2, .int (nI z)), (4, .int (nI x))]) hx hb d_M_bothEnds_306 rfl hl (by decide) rfl (fun ls hl => ?_)
                            refine n_iinc (lv' := [(4, .int (nI (x + 1))), (3, .int (nI (rmin ((alw tr shp (-1)) (k + 1)) (fun c => mv z c + tgo a (alw tr shp (-1)) cl mv sp rw (k + 1) c) (x + 1)))), (5, .int (nI (mv z x + tgo a (alw tr shp (-1)) cl mv sp rw (k + 1) x))), (0, .ref (ad 400)), (1, .int (nI k)), (2, .int (nI z))]) hx hb d_M_bothEnds_307 hl (k := 5) rfl (by decide) rfl (fun ls hl => ?_)
                            refine lv_goto (tgt := 222) hx hb d_M_bothEnds_310 (by decide) ?_
                            exact ih6 (x + 1) _ _ ls (by omega) (by omega) hW hS (lv_sub hl [3, 4, 5, 1, 0] rfl)
                          · refine lv_iload hx hb d_M_bothEnds_300 (lv_at hl 0 rfl) ?_
                            refine lv_goto (tgt := 306) hx hb d_M_bothEnds_302 (by decide) ?_
                            refine n_topi (show nI (mv z x + tgo a (alw tr shp (-1)) cl mv sp rw (k + 1) x) = nI (rmin ((alw tr shp (-1)) (k + 1)) (fun c => mv z c + tgo a (alw tr shp (-1)) cl mv sp rw (k + 1) c) (x + 1)) from by rw [rmin_lt hal h7]) ?_
                            refine lv_istore_n (lv' := [(3, .int (nI (rmin ((alw tr shp (-1)) (k + 1)) (fun c => mv z c + tgo a (alw tr shp (-1)) cl mv sp rw (k + 1) c) (x + 1)))), (5, .int (nI (mv z x + tgo a (alw tr shp (-1)) cl mv sp rw (k + 1) x))), (0, .ref (ad 400)), (1, .int (nI k)), (2, .int (nI z)), (4, .int (nI x))]) hx hb d_M_bothEnds_306 rfl hl (by decide) rfl (fun ls hl => ?_)
                            refine n_iinc (lv' := [(4, .int (nI (x + 1))), (3, .int (nI (rmin ((alw tr shp (-1)) (k + 1)) (fun c => mv z c + tgo a (alw tr shp (-1)) cl mv sp rw (k + 1) c) (x + 1)))), (5, .int (nI (mv z x + tgo a (alw tr shp (-1)) cl mv sp rw (k + 1) x))), (0, .ref (ad 400)), (1, .int (nI k)), (2, .int (nI z))]) hx hb d_M_bothEnds_307 hl (k := 5) rfl (by decide) rfl (fun ls hl => ?_)
                            refine lv_goto (tgt := 222) hx hb d_M_bothEnds_310 (by decide) ?_
                            exact ih6 (x + 1) _ _ ls (by omega) (by omega) hW hS (lv_sub hl [3, 4, 5, 1, 0] rfl)
                        · omega
              · refine lv_iconst (v := nI 0) hx hb d_M_bothEnds_212 (by decide) ?_
                refine lv_goto (tgt := 218) hx hb d_M_bothEnds_213 (by decide) ?_
                refine lv_istore_n (lv' := [(3, .int (nI 0)), (0, .ref (ad 400)), (1, .int (nI k)), (2, .int (nI z))]) hx hb d_M_bothEnds_218 rfl hl (by decide) rfl (fun ls hl => ?_)
                refine lv_iconst (v := nI 0) hx hb d_M_bothEnds_219 (by decide) ?_
                refine lv_istore (lv' := [(4, .int (nI 0)), (3, .int (nI 0)), (0, .ref (ad 400)), (1, .int (nI k)), (2, .int (nI z))]) hx hb d_M_bothEnds_220 hl (by decide) rfl (fun ls hl => ?_)
                refine lv_iload hx hb d_M_bothEnds_222 (lv_at hl 0 rfl) ?_
                refine lv_aload_n hx hb d_M_bothEnds_224 rfl (lv_at hl 2 rfl) ?_
                refine g_get (C := R_M) (T := F_M) (N := 35) hx hb hts i_M hown hK hW (i := 400) (hdl 400 (by decide) (by decide)) ((wB_o (by decide)).trans h400) rfl 0 (by decide) (hts _ q_488) (fun _ h9 => h9) rfl d_M_bothEnds_225 ?_
                refine n_icmp_ge (tgt := 313) hx hb (by omega) (by omega) d_M_bothEnds_228 (by decide) (fun h4 => ?_) (fun h4 => ?_)
                · omega
                · refine lv_iload_n hx hb d_M_bothEnds_231 rfl (lv_at hl 3 rfl) ?_
                  refine lv_aload_n hx hb d_M_bothEnds_232 rfl (lv_at hl 2 rfl) ?_
                  refine g_get (C := R_M) (T := F_M) (N := 35) hx hb hts i_M hown hK hW (i := 400) (hdl 400 (by decide) (by decide)) ((wB_o (by decide)).trans h400) rfl 5 (by decide) (hts _ q_493) (fun _ h9 => h9) rfl d_M_bothEnds_233 ?_
                  refine lv_iconst (v := nI 1) hx hb d_M_bothEnds_236 (by decide) ?_
                  refine n_sub hx hb (by omega) d_M_bothEnds_237 ?_
                  refine n_icmp_ge (tgt := 313) hx hb (by omega) (by omega) d_M_bothEnds_238 (by decide) (fun h5 => ?_) (fun h5 => ?_)
                  · refine lv_aload_n hx hb d_M_bothEnds_313 rfl (lv_at hl 2 rfl) ?_
                    refine g_get (C := R_M) (T := F_M) (N := 35) hx hb hts i_M hown hK hW (i := 400) (hdl 400 (by decide) (by decide)) ((wB_o (by decide)).trans h400) rfl 33 (by decide) (hts _ q_521) (fun _ h9 => h9) rfl d_M_bothEnds_314 ?_
                    refine lv_bipush (v := nI 12) hx hb d_M_bothEnds_317 (by decide) ?_
                    refine lv_iload_n hx hb d_M_bothEnds_319 rfl (lv_at hl 3 rfl) ?_
                    refine n_mul hx hb d_M_bothEnds_320 ?_
                    refine lv_iload_n hx hb d_M_bothEnds_321 rfl (lv_at hl 4 rfl) ?_
                    refine n_add hx hb d_M_bothEnds_322 ?_
                    refine lv_iload_n hx hb d_M_bothEnds_323 rfl (lv_at hl 1 rfl) ?_
                    refine lv_ldc hx hb hown (hts _ q_659) d_M_bothEnds_324 ?_
                    refine n_topi (show (1000000000 : Int32) = nI 1000000000 by decide) ?_
                    refine n_icmp_ge (tgt := 339) hx hb (by omega) (by omega) d_M_bothEnds_326 (by decide) (fun h8 => ?_) (fun h8 => ?_)
                    · omega
                    · refine lv_aload_n hx hb d_M_bothEnds_329 rfl (lv_at hl 2 rfl) ?_
                      refine lv_iload_n hx hb d_M_bothEnds_330 rfl (lv_at hl 3 rfl) ?_
                      refine lv_iload_n hx hb d_M_bothEnds_331 rfl (lv_at hl 4 rfl) ?_
                      refine lv_iconst (v := (-1)) hx hb d_M_bothEnds_332 (by decide) ?_
                      refine g_cVi (As := [.int (nI k), .int (nI z), .int (-1)]) (rest := [.int (nI ((12 * k) + z)), .ref (ad 425)]) ⟨hx, hb, hml, hown, hts⟩ (c_M_may l hdl ((wB_o (by decide)).trans h400) ((wB_o (by decide)).trans h408) ((wB_o (by decide)).trans h409) k z (-1) (by omega) (hsh k (by omega))) (gcwV 3 hts q_658 q_655 q_657 qs_12 q_9 (by decide +kernel) ⟨(Nat.le_of_ble_eq_true rfl), (Nat.le_of_ble_eq_true rfl)⟩) gNl_ok hN hK hW hS hA (hdl 400 (by decide) (by decide)) ((wB_o (by decide)).trans h400) rfl rfl hl.1 rfl (Nat.le_of_ble_eq_true rfl) d_M_bothEnds_333 ⟨Nat.zero_le _, Nat.zero_le _⟩ (fun r co9 H locs hp9 hW hS => ?_)
                      obtain ⟨rfl, hco9⟩ := hp9
                      rw [hco9] at hW
                      refine n_ifz_ne (tgt := 344) hx hb d_M_bothEnds_336 (by decide) (fun h9 => ?_) (fun h9 => ?_)
                      · refine lv_iload_n hx hb d_M_bothEnds_344 rfl (lv_at hl 1 rfl) ?_
                        refine lv_aload_n hx hb d_M_bothEnds_345 rfl (lv_at hl 2 rfl) ?_
                        refine g_get (C := R_M) (T := F_M) (N := 35) hx hb hts i_M hown hK hW (i := 400) (hdl 400 (by decide) (by decide)) ((wB_o (by decide)).trans h400) rfl 2 (by decide) (hts _ q_490) (fun _ h9 => h9) rfl d_M_bothEnds_346 ?_
                        refine lv_bipush (v := nI 10) hx hb d_M_bothEnds_349 (by decide) ?_
                        refine lv_iload_n hx hb d_M_bothEnds_351 rfl (lv_at hl 4 rfl) ?_
                        refine n_mul hx hb d_M_bothEnds_352 ?_
                        refine lv_aload_n hx hb d_M_bothEnds_353 rfl (lv_at hl 2 rfl) ?_
                        refine g_get (C := R_M) (T := F_M) (N := 35) hx hb hts i_M hown hK hW (i := 400) (hdl 400 (by decide) (by decide)) ((wB_o (by decide)).trans h400) rfl 7 (by decide) (hts _ q_495) (fun _ h9 => h9) rfl d_M_bothEnds_354 ?_
                        refine lv_iload_n hx hb d_M_bothEnds_357 rfl (lv_at hl 3 rfl) ?_
                        refine n_iald hx hb hK hW 0 (q := 406) (hdl 406 (by decide) (by decide)) ((wB_o (by decide)).trans h406) rfl (j := k) (by omega) (by omega) d_M_bothEnds_358 ?_
                        refine n_topi (show cls k = nI (cl k) from hck.1) ?_
                        refine n_add hx hb d_M_bothEnds_359 ?_
                        refine n_iald hx hb hK hW 0 (q := 402) (hdl 402 (by decide) (by decide)) ((wB_o (by decide)).trans h402) rfl (j := (10 * z) + (cl k)) (by omega) (by omega) d_M_bothEnds_360 ?_
                        refine n_topi (show fs ((10 * z) + (cl k)) = nI (sp z (cl k)) from hsp z (cl k) h2 hck.2) ?_
                        refine n_add hx hb d_M_bothEnds_361 ?_
                        refine n_iast (x := nI (0 + (sp z (cl k)))) hx hb hK hW hS 0 (q := 425) (hdl 425 (by decide) (by decide)) wB_425 rfl (j := (12 * k) + z) (by omega) (by omega) d_M_bothEnds_362 (fun H locs hW hS => ?_)
                        rw [wB_u425] at hW
                        refine n_iinc (lv' := [(2, .int (nI (z + 1))), (4, .int (nI 0)), (3, .int (nI 0)), (0, .ref (ad 400)), (1, .int (nI k))]) hx hb d_M_bothEnds_363 hl (k := 4) rfl (by decide) rfl (fun ls hl => ?_)
                        refine lv_goto (tgt := 194) hx hb d_M_bothEnds_366 (by decide) ?_
                        refine ih5 (z + 1) (upd G2 (12 * k + z) (nI (0 + sp z (cl k)))) _ _ ls (by omega) (by omega) (fun y b hy1 hy2 hb => ?_) (lt_s (fun b hb => ?_) ?_) hW hS (lv_sub hl [3, 4, 0] rfl)
                        · rw [pk_un (show 12 * y + b ≠ 12 * k + z by omega)]; exact hG2 y b hy1 hy2 hb
                        · rw [pk_un (show 12 * k + b ≠ 12 * k + z by omega)]; exact hG3 b hb
                        · rw [pk_us, h3, tgo_last hn0, ← h3, if_pos h9, Nat.zero_add]
                      · refine lv_ldc hx hb hown (hts _ q_659) d_M_bothEnds_339 ?_
                        refine n_topi (show (1000000000 : Int32) = nI 1000000000 by decide) ?_
                        refine lv_goto (tgt := 362) hx hb d_M_bothEnds_341 (by decide) ?_
                        refine n_iast (x := nI 1000000000) hx hb hK hW hS 0 (q := 425) (hdl 425 (by decide) (by decide)) wB_425 rfl (j := (12 * k) + z) (by omega) (by omega) d_M_bothEnds_362 (fun H locs hW hS => ?_)
                        rw [wB_u425] at hW
                        refine n_iinc (lv' := [(2, .int (nI (z + 1))), (4, .int (nI 0)), (3, .int (nI 0)), (0, .ref (ad 400)), (1, .int (nI k))]) hx hb d_M_bothEnds_363 hl (k := 4) rfl (by decide) rfl (fun ls hl => ?_)
                        refine lv_goto (tgt := 194) hx hb d_M_bothEnds_366 (by decide) ?_
                        refine ih5 (z + 1) (upd G2 (12 * k + z) (nI 1000000000)) _ _ ls (by omega) (by omega) (fun y b hy1 hy2 hb => ?_) (lt_s (fun b hb => ?_) ?_) hW hS (lv_sub hl [3, 4, 0] rfl)
                        · rw [pk_un (show 12 * y + b ≠ 12 * k + z by omega)]; exact hG2 y b hy1 hy2 hb
                        · rw [pk_un (show 12 * k + b ≠ 12 * k + z by omega)]; exact hG3 b hb
                        · rw [pk_us, tgo_big h9, hBIG]
                  · omega
    · have hck := hcl k h1
      refine lv_iconst (v := nI 0) hx hb d_M_bothEnds_10 (by decide) ?_
      refine lv_istore_n (lv' := [(2, .int (nI 0)), (0, .ref (ad 400)), (1, .int (nI k))]) hx hb d_M_bothEnds_11 rfl hl (by decide) rfl (fun ls hl => ?_)
      suffices hloop : ∀ (d2 z : Nat) (F2 : Nat → Int32) (H : Heap) (locs : List Loc) (ls : Array Slot), (z ≤ a) → (a + 1 ≤ z + d2) → (∀ y b, y < k → b < a → F2 (12 * y + b) = F (12 * y + b)) → (∀ b, b < z → F2 (12 * k + b) = nI (if (alw tr shp (-1)) k b then bfo a (alw tr shp (-1)) cl mv sp k b + sp b (cl k) else BIG)) → gW D gCl (gA ad co dl s.heap.size) ad (wB cI cJ co F2 g0) dl H → va_S (gA ad co dl s.heap.size) s.heap H locs → lv_has ls 6 [(0, .ref (ad 400)), (1, .int (nI k)), (2, .int (nI z))] → W pp l ee _ s mm _ below meth cd H locs 0 0 _ (F0 mm 12 ls []) by
        exact hloop (a + 1) 0 F _ _ ls (by omega) (by omega) (fun _ _ _ _ => rfl) (fun b h => absurd h (Nat.not_lt_zero b)) hW hS (lv_sub hl [1, 2, 0] rfl)
      clear hW hS hl
      intro d2
      induction d2 with
      | zero => intro z F2 H locs ls hz hd2 hF2 hF3; omega
      | succ d2 ih2 =>
        intro z F2 H locs ls hz hd2 hF2 hF3 hW hS hl
        refine lv_iload_n hx hb d_M_bothEnds_12 rfl (lv_at hl 2 rfl) ?_
        refine lv_aload_n hx hb d_M_bothEnds_13 rfl (lv_at hl 0 rfl) ?_
        refine g_get (C := R_M) (T := F_M) (N := 35) hx hb hts i_M hown hK hW (i := 400) (hdl 400 (by decide) (by decide)) ((wB_o (by decide)).trans h400) rfl 0 (by decide) (hts _ q_488) (fun _ h9 => h9) rfl d_M_bothEnds_14 ?_
        refine n_icmp_ge (tgt := 175) hx hb (by omega) (by omega) d_M_bothEnds_17 (by decide) (fun h2 => ?_) (fun h2 => ?_)
        · refine n_iinc (lv' := [(1, .int (nI (k + 1))), (0, .ref (ad 400)), (2, .int (nI z))]) hx hb d_M_bothEnds_175 hl (k := 1) rfl (by decide) rfl (fun ls hl => ?_)
          refine lv_goto (tgt := 2) hx hb d_M_bothEnds_178 (by decide) ?_
          have hza : z = a := by omega
          rw [hza] at hF3
          refine ih1 (k + 1) F2 _ _ ls (by omega) (by omega) (fun y b hy hb => ?_) hW hS (lv_sub hl [1, 0] rfl)
          by_cases hyk : y = k
          · subst hyk; exact hF3 b hb
          · rw [hF2 y b (by omega) hb]; exact hF y b (by omega) hb
        · have hbl := bfo_le hok k z h1 h2
          have hsz := hok.2.2.2.2.1 z k h2 h1
          refine lv_iload_n hx hb d_M_bothEnds_20 rfl (lv_at hl 1 rfl) ?_
          refine n_if_ne (tgt := 28) hx hb (by omega) d_M_bothEnds_21 (by decide) (fun h3 => ?_) (fun h3 => ?_)
          · obtain ⟨k0, hk0⟩ : ∃ v, k = v + 1 := ⟨k - 1, by omega⟩
            refine lv_ldc hx hb hown (hts _ q_659) d_M_bothEnds_28 ?_
            refine n_topi (show (1000000000 : Int32) = nI 1000000000 by decide) ?_
            refine lv_istore_n (lv' := [(3, .int (nI 1000000000)), (0, .ref (ad 400)), (1, .int (nI k)), (2, .int (nI z))]) hx hb d_M_bothEnds_30 rfl hl (by decide) rfl (fun ls hl => ?_)
            refine lv_iconst (v := nI 0) hx hb d_M_bothEnds_31 (by decide) ?_
            refine lv_istore (lv' := [(4, .int (nI 0)), (3, .int (nI 1000000000)), (0, .ref (ad 400)), (1, .int (nI k)), (2, .int (nI z))]) hx hb d_M_bothEnds_32 hl (by decide) rfl (fun ls hl => ?_)
            suffices hloop : ∀ (d3 x : Nat) (H : Heap) (locs : List Loc) (ls : Array Slot), (x ≤ a) → (a + 1 ≤ x + d3) → gW D gCl (gA ad co dl s.heap.size) ad (wB cI cJ co F2 g0) dl H → va_S (gA ad co dl s.heap.size) s.heap H locs → lv_has ls 6 [(0, .ref (ad 400)), (1, .int (nI k)), (2, .int (nI z)), (3, .int (nI (rmin ((alw tr shp (-1)) k0) (fun c => bfo a (alw tr shp (-1)) cl mv sp k0 c + sp c (cl k0) + mv c z) x))), (4, .int (nI x))] → W pp l ee _ s mm _ below meth cd H locs 0 0 _ (F0 mm 34 ls []) by
              exact hloop (a + 1) 0 _ _ ls (by omega) (by omega) hW hS (lv_sub hl [2, 3, 4, 1, 0] rfl)
            clear hW hS hl
            intro d3
            induction d3 with
            | zero => intro x H locs ls hx3 hd3; omega
            | succ d3 ih3 =>
              intro x H locs ls hx3 hd3 hW hS hl
              have hrb := rmin_le_big ((alw tr shp (-1)) k0) (fun c => bfo a (alw tr shp (-1)) cl mv sp k0 c + sp c (cl k0) + mv c z) x
              refine lv_iload hx hb d_M_bothEnds_34 (lv_at hl 4 rfl) ?_
              refine lv_aload_n hx hb d_M_bothEnds_36 rfl (lv_at hl 0 rfl) ?_
              refine g_get (C := R_M) (T := F_M) (N := 35) hx hb hts i_M hown hK hW (i := 400) (hdl 400 (by decide) (by decide)) ((wB_o (by decide)).trans h400) rfl 0 (by decide) (hts _ q_488) (fun _ h9 => h9) rfl d_M_bothEnds_37 ?_
              refine n_icmp_ge (tgt := 119) hx hb (by omega) (by omega) d_M_bothEnds_40 (by decide) (fun h4 => ?_) (fun h4 => ?_)
              · have hxa : x = a := by omega
                rw [hxa, show rmin ((alw tr shp (-1)) k0) (fun c => bfo a (alw tr shp (-1)) cl mv sp k0 c + sp c (cl k0) + mv c z) a = bfo a (alw tr shp (-1)) cl mv sp k z by rw [hk0]; rfl] at hl
                have hlt : bfo a (alw tr shp (-1)) cl mv sp k z < 1000000000 := by omega
                refine lv_aload_n hx hb d_M_bothEnds_119 rfl (lv_at hl 0 rfl) ?_
                refine g_get (C := R_M) (T := F_M) (N := 35) hx hb hts i_M hown hK hW (i := 400) (hdl 400 (by decide) (by decide)) ((wB_o (by decide)).trans h400) rfl 32 (by decide) (hts _ q_520) (fun _ h9 => h9) rfl d_M_bothEnds_120 ?_
                refine lv_bipush (v := nI 12) hx hb d_M_bothEnds_123 (by decide) ?_
                refine lv_iload_n hx hb d_M_bothEnds_125 rfl (lv_at hl 1 rfl) ?_
                refine n_mul hx hb d_M_bothEnds_126 ?_
                refine lv_iload_n hx hb d_M_bothEnds_127 rfl (lv_at hl 2 rfl) ?_
                refine n_add hx hb d_M_bothEnds_128 ?_
                refine lv_iload_n hx hb d_M_bothEnds_129 rfl (lv_at hl 3 rfl) ?_
                refine lv_ldc hx hb hown (hts _ q_659) d_M_bothEnds_130 ?_
                refine n_topi (show (1000000000 : Int32) = nI 1000000000 by decide) ?_
                refine n_icmp_ge (tgt := 145) hx hb (by omega) (by omega) d_M_bothEnds_132 (by decide) (fun h8 => ?_) (fun h8 => ?_)
                · omega
                · refine lv_aload_n hx hb d_M_bothEnds_135 rfl (lv_at hl 0 rfl) ?_
                  refine lv_iload_n hx hb d_M_bothEnds_136 rfl (lv_at hl 1 rfl) ?_
                  refine lv_iload_n hx hb d_M_bothEnds_137 rfl (lv_at hl 2 rfl) ?_
                  refine lv_iconst (v := (-1)) hx hb d_M_bothEnds_138 (by decide) ?_
                  refine g_cVi (As := [.int (nI k), .int (nI z), .int (-1)]) (rest := [.int (nI ((12 * k) + z)), .ref (ad 424)]) ⟨hx, hb, hml, hown, hts⟩ (c_M_may l hdl ((wB_o (by decide)).trans h400) ((wB_o (by decide)).trans h408) ((wB_o (by decide)).trans h409) k z (-1) (by omega) (hsh k h1)) (gcwV 3 hts q_658 q_655 q_657 qs_12 q_9 (by decide +kernel) ⟨(Nat.le_of_ble_eq_true rfl), (Nat.le_of_ble_eq_true rfl)⟩) gNl_ok hN hK hW hS hA (hdl 400 (by decide) (by decide)) ((wB_o (by decide)).trans h400) rfl rfl hl.1 rfl (Nat.le_of_ble_eq_true rfl) d_M_bothEnds_139 ⟨Nat.zero_le _, Nat.zero_le _⟩ (fun r co9 H locs hp9 hW hS => ?_)
                  obtain ⟨rfl, hco9⟩ := hp9
                  rw [hco9] at hW
                  refine n_ifz_ne (tgt := 150) hx hb d_M_bothEnds_142 (by decide) (fun h9 => ?_) (fun h9 => ?_)
                  · refine lv_iload_n hx hb d_M_bothEnds_150 rfl (lv_at hl 3 rfl) ?_
                    refine lv_aload_n hx hb d_M_bothEnds_151 rfl (lv_at hl 0 rfl) ?_
                    refine g_get (C := R_M) (T := F_M) (N := 35) hx hb hts i_M hown hK hW (i := 400) (hdl 400 (by decide) (by decide)) ((wB_o (by decide)).trans h400) rfl 2 (by decide) (hts _ q_490) (fun _ h9 => h9) rfl d_M_bothEnds_152 ?_
                    refine lv_bipush (v := nI 10) hx hb d_M_bothEnds_155 (by decide) ?_
                    refine lv_iload_n hx hb d_M_bothEnds_157 rfl (lv_at hl 2 rfl) ?_
                    refine n_mul hx hb d_M_bothEnds_158 ?_
                    refine lv_aload_n hx hb d_M_bothEnds_159 rfl (lv_at hl 0 rfl) ?_
                    refine g_get (C := R_M) (T := F_M) (N := 35) hx hb hts i_M hown hK hW (i := 400) (hdl 400 (by decide) (by decide)) ((wB_o (by decide)).trans h400) rfl 7 (by decide) (hts _ q_495) (fun _ h9 => h9) rfl d_M_bothEnds_160 ?_
                    refine lv_iload_n hx hb d_M_bothEnds_163 rfl (lv_at hl 1 rfl) ?_
                    refine n_iald hx hb hK hW 0 (q := 406) (hdl 406 (by decide) (by decide)) ((wB_o (by decide)).trans h406) rfl (j := k) (by omega) (by omega) d_M_bothEnds_164 ?_
                    refine n_topi (show cls k = nI (cl k) from hck.1) ?_
                    refine n_add hx hb d_M_bothEnds_165 ?_
                    refine n_iald hx hb hK hW 0 (q := 402) (hdl 402 (by decide) (by decide)) ((wB_o (by decide)).trans h402) rfl (j := (10 * z) + (cl k)) (by omega) (by omega) d_M_bothEnds_166 ?_
                    refine n_topi (show fs ((10 * z) + (cl k)) = nI (sp z (cl k)) from hsp z (cl k) h2 hck.2) ?_
                    refine n_add hx hb d_M_bothEnds_167 ?_
                    refine n_iast (x := nI ((bfo a (alw tr shp (-1)) cl mv sp k z) + (sp z (cl k)))) hx hb hK hW hS 0 (q := 424) (hdl 424 (by decide) (by decide)) wB_424 rfl (j := (12 * k) + z) (by omega) (by omega) d_M_bothEnds_168 (fun H locs hW hS => ?_)
                    rw [wB_u424] at hW
                    refine n_iinc (lv' := [(2, .int (nI (z + 1))), (0, .ref (ad 400)), (1, .int (nI k)), (3, .int (nI (bfo a (alw tr shp (-1)) cl mv sp k z))), (4, .int (nI a))]) hx hb d_M_bothEnds_169 hl (k := 2) rfl (by decide) rfl (fun ls hl => ?_)
                    refine lv_goto (tgt := 12) hx hb d_M_bothEnds_172 (by decide) ?_
                    refine ih2 (z + 1) (upd F2 (12 * k + z) (nI (bfo a (alw tr shp (-1)) cl mv sp k z + sp z (cl k)))) _ _ ls (by omega) (by omega) (fun y b hy hb => ?_) (lt_s (fun b hb => ?_) ?_) hW hS (lv_sub hl [1, 2, 0] rfl)
                    · rw [pk_un (show 12 * y + b ≠ 12 * k + z by omega)]; exact hF2 y b hy hb
                    · rw [pk_un (show 12 * k + b ≠ 12 * k + z by omega)]; exact hF3 b hb
                    · rw [pk_us, if_pos h9]
                  · refine lv_ldc hx hb hown (hts _ q_659) d_M_bothEnds_145 ?_
                    refine n_topi (show (1000000000 : Int32) = nI 1000000000 by decide) ?_
                    refine lv_goto (tgt := 168) hx hb d_M_bothEnds_147 (by decide) ?_
                    refine n_iast (x := nI 1000000000) hx hb hK hW hS 0 (q := 424) (hdl 424 (by decide) (by decide)) wB_424 rfl (j := (12 * k) + z) (by omega) (by omega) d_M_bothEnds_168 (fun H locs hW hS => ?_)
                    rw [wB_u424] at hW
                    refine n_iinc (lv' := [(2, .int (nI (z + 1))), (0, .ref (ad 400)), (1, .int (nI k)), (3, .int (nI (bfo a (alw tr shp (-1)) cl mv sp k z))), (4, .int (nI a))]) hx hb d_M_bothEnds_169 hl (k := 2) rfl (by decide) rfl (fun ls hl => ?_)
                    refine lv_goto (tgt := 12) hx hb d_M_bothEnds_172 (by decide) ?_
                    refine ih2 (z + 1) (upd F2 (12 * k + z) (nI 1000000000)) _ _ ls (by omega) (by omega) (fun y b hy hb => ?_) (lt_s (fun b hb => ?_) ?_) hW hS (lv_sub hl [1, 2, 0] rfl)
                    · rw [pk_un (show 12 * y + b ≠ 12 * k + z by omega)]; exact hF2 y b hy hb
                    · rw [pk_un (show 12 * k + b ≠ 12 * k + z by omega)]; exact hF3 b hb
                    · rw [pk_us, if_neg (by rw [h9]; decide), hBIG]
              · refine lv_iload_n hx hb d_M_bothEnds_43 rfl (lv_at hl 1 rfl) ?_
                refine n_if_le (tgt := 119) hx hb (by omega) d_M_bothEnds_44 (by decide) (fun h5 => ?_) (fun h5 => ?_)
                · omega
                · have hFx := (hF2 k0 x (by omega) h4).trans (hF k0 x (by omega) h4)
                  have hb0 := bfo_le hok k0 x (by omega) h4
                  have hs0 := hok.2.2.2.2.1 x k0 h4 (by omega)
                  have hm0 := hok.2.2.2.1 x z h4 h2
                  rw [show k0 = k - 1 by omega] at hFx
                  cases hal : (alw tr shp (-1)) k0 x with
                  | false =>
                    rw [show k - 1 = k0 by omega, hal] at hFx
                    rw [show k0 = k - 1 by omega] at hFx
                    refine lv_aload_n hx hb d_M_bothEnds_47 rfl (lv_at hl 0 rfl) ?_
                    refine g_get (C := R_M) (T := F_M) (N := 35) hx hb hts i_M hown hK hW (i := 400) (hdl 400 (by decide) (by decide)) ((wB_o (by decide)).trans h400) rfl 32 (by decide) (hts _ q_520) (fun _ h9 => h9) rfl d_M_bothEnds_48 ?_
                    refine lv_bipush (v := nI 12) hx hb d_M_bothEnds_51 (by decide) ?_
                    refine lv_iload_n hx hb d_M_bothEnds_53 rfl (lv_at hl 1 rfl) ?_
                    refine lv_iconst (v := nI 1) hx hb d_M_bothEnds_54 (by decide) ?_
                    refine n_sub hx hb (by omega) d_M_bothEnds_55 ?_
                    refine n_mul hx hb d_M_bothEnds_56 ?_
                    refine lv_iload hx hb d_M_bothEnds_57 (lv_at hl 4 rfl) ?_
                    refine n_add hx hb d_M_bothEnds_59 ?_
                    refine n_iald hx hb hK hW 0 (q := 424) (hdl 424 (by decide) (by decide)) wB_424 rfl (j := (12 * (k - 1)) + x) (by omega) (by omega) d_M_bothEnds_60 ?_
                    refine n_topi (show F2 ((12 * (k - 1)) + x) = nI 1000000000 from hFx) ?_
                    refine lv_ldc hx hb hown (hts _ q_659) d_M_bothEnds_61 ?_
                    refine n_topi (show (1000000000 : Int32) = nI 1000000000 by decide) ?_
                    refine n_icmp_lt (tgt := 71) hx hb (by omega) (by omega) d_M_bothEnds_63 (by decide) (fun h6 => ?_) (fun h6 => ?_)
                    · omega
                    · refine lv_ldc hx hb hown (hts _ q_659) d_M_bothEnds_66 ?_
                      refine n_topi (show (1000000000 : Int32) = nI 1000000000 by decide) ?_
                      refine lv_goto (tgt := 98) hx hb d_M_bothEnds_68 (by decide) ?_
                      refine lv_istore (lv' := [(5, .int (nI 1000000000)), (0, .ref (ad 400)), (1, .int (nI k)), (2, .int (nI z)), (3, .int (nI (rmin ((alw tr shp (-1)) k0) (fun c => bfo a (alw tr shp (-1)) cl mv sp k0 c + sp c (cl k0) + mv c z) x))), (4, .int (nI x))]) hx hb d_M_bothEnds_98 hl (by decide) rfl (fun ls hl => ?_)
                      refine lv_iload hx hb d_M_bothEnds_100 (lv_at hl 0 rfl) ?_
                      refine lv_iload_n hx hb d_M_bothEnds_102 rfl (lv_at hl 4 rfl) ?_
                      refine n_icmp_ge (tgt := 111) hx hb (by omega) (by omega) d_M_bothEnds_103 (by decide) (fun h7 => ?_) (fun h7 => ?_)
                      · refine lv_iload_n hx hb d_M_bothEnds_111 rfl (lv_at hl 4 rfl) ?_
                        refine n_topi (show nI (rmin ((alw tr shp (-1)) k0) (fun c => bfo a (alw tr shp (-1)) cl mv sp k0 c + sp c (cl k0) + mv c z) x) = nI (rmin ((alw tr shp (-1)) k0) (fun c => bfo a (alw tr shp (-1)) cl mv sp k0 c + sp c (cl k0) + mv c z) (x + 1)) from by rw [rmin_no hal]) ?_
                        refine lv_istore_n (lv' := [(3, .int (nI (rmin ((alw tr shp (-1)) k0) (fun c => bfo a (alw tr shp (-1)) cl mv sp k0 c + sp c (cl k0) + mv c z) (x + 1)))), (5, .int (nI 1000000000)), (0, .ref (ad 400)), (1, .int (nI k)), (2, .int (nI z)), (4, .int (nI x))]) hx hb d_M_bothEnds_112 rfl hl (by decide) rfl (fun ls hl => ?_)
                        refine n_iinc (lv' := [(4, .int (nI (x + 1))), (3, .int (nI (rmin ((alw tr shp (-1)) k0) (fun c => bfo a (alw tr shp (-1)) cl mv sp k0 c + sp c (cl k0) + mv c z) (x + 1)))), (5, .int (nI 1000000000)), (0, .ref (ad 400)), (1, .int (nI k)), (2, .int (nI z))]) hx hb d_M_bothEnds_113 hl (k := 5) rfl (by decide) rfl (fun ls hl => ?_)
                        refine lv_goto (tgt := 34) hx hb d_M_bothEnds_116 (by decide) ?_
                        exact ih3 (x + 1) _ _ ls (by omega) (by omega) hW hS (lv_sub hl [3, 4, 5, 1, 0] rfl)
                      · omega
                  | true =>
                    rw [show k - 1 = k0 by omega, hal] at hFx
                    rw [show k0 = k - 1 by omega] at hFx
                    rw [show k0 = k - 1 by omega] at hb0 hs0
                    refine lv_aload_n hx hb d_M_bothEnds_47 rfl (lv_at hl 0 rfl) ?_
                    refine g_get (C := R_M) (T := F_M) (N := 35) hx hb hts i_M hown hK hW (i := 400) (hdl 400 (by decide) (by decide)) ((wB_o (by decide)).trans h400) rfl 32 (by decide) (hts _ q_520) (fun _ h9 => h9) rfl d_M_bothEnds_48 ?_
                    refine lv_bipush (v := nI 12) hx hb d_M_bothEnds_51 (by decide) ?_
                    refine lv_iload_n hx hb d_M_bothEnds_53 rfl (lv_at hl 1 rfl) ?_
                    refine lv_iconst (v := nI 1) hx hb d_M_bothEnds_54 (by decide) ?_
                    refine n_sub hx hb (by omega) d_M_bothEnds_55 ?_
                    refine n_mul hx hb d_M_bothEnds_56 ?_
                    refine lv_iload hx hb d_M_bothEnds_57 (lv_at hl 4 rfl) ?_
                    refine n_add hx hb d_M_bothEnds_59 ?_
                    refine n_iald hx hb hK hW 0 (q := 424) (hdl 424 (by decide) (by decide)) wB_424 rfl (j := (12 * (k - 1)) + x) (by omega) (by omega) d_M_bothEnds_60 ?_
                    refine n_topi (show F2 ((12 * (k - 1)) + x) = nI (bfo a (alw tr shp (-1)) cl mv sp (k - 1) x + sp x (cl (k - 1))) from hFx) ?_
                    refine lv_ldc hx hb hown (hts _ q_659) d_M_bothEnds_61 ?_
                    refine n_topi (show (1000000000 : Int32) = nI 1000000000 by decide) ?_
                    refine n_icmp_lt (tgt := 71) hx hb (by omega) (by omega) d_M_bothEnds_63 (by decide) (fun h6 => ?_) (fun h6 => ?_)
                    · refine lv_aload_n hx hb d_M_bothEnds_71 rfl (lv_at hl 0 rfl) ?_
                      refine g_get (C := R_M) (T := F_M) (N := 35) hx hb hts i_M hown hK hW (i := 400) (hdl 400 (by decide) (by decide)) ((wB_o (by decide)).trans h400) rfl 32 (by decide) (hts _ q_520) (fun _ h9 => h9) rfl d_M_bothEnds_72 ?_
                      refine lv_bipush (v := nI 12) hx hb d_M_bothEnds_75 (by decide) ?_
                      refine lv_iload_n hx hb d_M_bothEnds_77 rfl (lv_at hl 1 rfl) ?_
                      refine lv_iconst (v := nI 1) hx hb d_M_bothEnds_78 (by decide) ?_
                      refine n_sub hx hb (by omega) d_M_bothEnds_79 ?_
                      refine n_mul hx hb d_M_bothEnds_80 ?_
                      refine lv_iload hx hb d_M_bothEnds_81 (lv_at hl 4 rfl) ?_
                      refine n_add hx hb d_M_bothEnds_83 ?_
                      refine n_iald hx hb hK hW 0 (q := 424) (hdl 424 (by decide) (by decide)) wB_424 rfl (j := (12 * (k - 1)) + x) (by omega) (by omega) d_M_bothEnds_84 ?_
                      refine n_topi (show F2 ((12 * (k - 1)) + x) = nI (bfo a (alw tr shp (-1)) cl mv sp (k - 1) x + sp x (cl (k - 1))) from hFx) ?_
                      refine lv_aload_n hx hb d_M_bothEnds_85 rfl (lv_at hl 0 rfl) ?_
                      refine g_get (C := R_M) (T := F_M) (N := 35) hx hb hts i_M hown hK hW (i := 400) (hdl 400 (by decide) (by decide)) ((wB_o (by decide)).trans h400) rfl 1 (by decide) (hts _ q_489) (fun _ h9 => h9) rfl d_M_bothEnds_86 ?_
                      refine lv_bipush (v := nI 12) hx hb d_M_bothEnds_89 (by decide) ?_
                      refine lv_iload hx hb d_M_bothEnds_91 (lv_at hl 4 rfl) ?_
                      refine n_mul hx hb d_M_bothEnds_93 ?_
                      refine lv_iload_n hx hb d_M_bothEnds_94 rfl (lv_at hl 2 rfl) ?_
                      refine n_add hx hb d_M_bothEnds_95 ?_
                      refine n_iald hx hb hK hW 0 (q := 401) (hdl 401 (by decide) (by decide)) ((wB_o (by decide)).trans h401) rfl (j := (12 * x) + z) (by omega) (by omega) d_M_bothEnds_96 ?_
                      refine n_topi (show fm ((12 * x) + z) = nI (mv x z) from hmv x z h4 h2) ?_
                      refine n_add hx hb d_M_bothEnds_97 ?_
                      refine lv_istore (lv' := [(5, .int (nI ((bfo a (alw tr shp (-1)) cl mv sp (k - 1) x + sp x (cl (k - 1))) + (mv x z)))), (0, .ref (ad 400)), (1, .int (nI k)), (2, .int (nI z)), (3, .int (nI (rmin ((alw tr shp (-1)) k0) (fun c => bfo a (alw tr shp (-1)) cl mv sp k0 c + sp c (cl k0) + mv c z) x))), (4, .int (nI x))]) hx hb d_M_bothEnds_98 hl (by decide) rfl (fun ls hl => ?_)
                      refine lv_iload hx hb d_M_bothEnds_100 (lv_at hl 0 rfl) ?_
                      refine lv_iload_n hx hb d_M_bothEnds_102 rfl (lv_at hl 4 rfl) ?_
                      refine n_icmp_ge (tgt := 111) hx hb (by omega) (by omega) d_M_bothEnds_103 (by decide) (fun h7 => ?_) (fun h7 => ?_)
                      · refine lv_iload_n hx hb d_M_bothEnds_111 rfl (lv_at hl 4 rfl) ?_
                        refine n_topi (show nI (rmin ((alw tr shp (-1)) k0) (fun c => bfo a (alw tr shp (-1)) cl mv sp k0 c + sp c (cl k0) + mv c z) x) = nI (rmin ((alw tr shp (-1)) k0) (fun c => bfo a (alw tr shp (-1)) cl mv sp k0 c + sp c (cl k0) + mv c z) (x + 1)) from by rw [rmin_ge hal (by show _ ≤ bfo a (alw tr shp (-1)) cl mv sp k0 x + sp x (cl k0) + mv x z; rw [show k0 = k - 1 by omega] at h7 ⊢; exact h7)]) ?_
                        refine lv_istore_n (lv' := [(3, .int (nI (rmin ((alw tr shp (-1)) k0) (fun c => bfo a (alw tr shp (-1)) cl mv sp k0 c + sp c (cl k0) + mv c z) (x + 1)))), (5, .int (nI ((bfo a (alw tr shp (-1)) cl mv sp (k - 1) x + sp x (cl (k - 1))) + (mv x z)))), (0, .ref (ad 400)), (1, .int (nI k)), (2, .int (nI z)), (4, .int (nI x))]) hx hb d_M_bothEnds_112 rfl hl (by decide) rfl (fun ls hl => ?_)
                        refine n_iinc (lv' := [(4, .int (nI (x + 1))), (3, .int (nI (rmin ((alw tr shp (-1)) k0) (fun c => bfo a (alw tr shp (-1)) cl mv sp k0 c + sp c (cl k0) + mv c z) (x + 1)))), (5, .int (nI ((bfo a (alw tr shp (-1)) cl mv sp (k - 1) x + sp x (cl (k - 1))) + (mv x z)))), (0, .ref (ad 400)), (1, .int (nI k)), (2, .int (nI z))]) hx hb d_M_bothEnds_113 hl (k := 5) rfl (by decide) rfl (fun ls hl => ?_)
                        refine lv_goto (tgt := 34) hx hb d_M_bothEnds_116 (by decide) ?_
                        exact ih3 (x + 1) _ _ ls (by omega) (by omega) hW hS (lv_sub hl [3, 4, 5, 1, 0] rfl)
                      · refine lv_iload hx hb d_M_bothEnds_106 (lv_at hl 0 rfl) ?_
                        refine lv_goto (tgt := 112) hx hb d_M_bothEnds_108 (by decide) ?_
                        refine n_topi (show nI ((bfo a (alw tr shp (-1)) cl mv sp (k - 1) x + sp x (cl (k - 1))) + (mv x z)) = nI (rmin ((alw tr shp (-1)) k0) (fun c => bfo a (alw tr shp (-1)) cl mv sp k0 c + sp c (cl k0) + mv c z) (x + 1)) from by rw [rmin_lt hal (by show bfo a (alw tr shp (-1)) cl mv sp k0 x + sp x (cl k0) + mv x z < _; rw [show k0 = k - 1 by omega] at h7 ⊢; exact h7), show k0 = k - 1 by omega]) ?_
                        refine lv_istore_n (lv' := [(3, .int (nI (rmin ((alw tr shp (-1)) k0) (fun c => bfo a (alw tr shp (-1)) cl mv sp k0 c + sp c (cl k0) + mv c z) (x + 1)))), (5, .int (nI ((bfo a (alw tr shp (-1)) cl mv sp (k - 1) x + sp x (cl (k - 1))) + (mv x z)))), (0, .ref (ad 400)), (1, .int (nI k)), (2, .int (nI z)), (4, .int (nI x))]) hx hb d_M_bothEnds_112 rfl hl (by decide) rfl (fun ls hl => ?_)
                        refine n_iinc (lv' := [(4, .int (nI (x + 1))), (3, .int (nI (rmin ((alw tr shp (-1)) k0) (fun c => bfo a (alw tr shp (-1)) cl mv sp k0 c + sp c (cl k0) + mv c z) (x + 1)))), (5, .int (nI ((bfo a (alw tr shp (-1)) cl mv sp (k - 1) x + sp x (cl (k - 1))) + (mv x z)))), (0, .ref (ad 400)), (1, .int (nI k)), (2, .int (nI z))]) hx hb d_M_bothEnds_113 hl (k := 5) rfl (by decide) rfl (fun ls hl => ?_)
                        refine lv_goto (tgt := 34) hx hb d_M_bothEnds_116 (by decide) ?_
                        exact ih3 (x + 1) _ _ ls (by omega) (by omega) hW hS (lv_sub hl [3, 4, 5, 1, 0] rfl)
                    · omega
          · refine lv_iconst (v := nI 0) hx hb d_M_bothEnds_24 (by decide) ?_
            refine lv_goto (tgt := 30) hx hb d_M_bothEnds_25 (by decide) ?_
            refine lv_istore_n (lv' := [(3, .int (nI 0)), (0, .ref (ad 400)), (1, .int (nI k)), (2, .int (nI z))]) hx hb d_M_bothEnds_30 rfl hl (by decide) rfl (fun ls hl => ?_)
            refine lv_iconst (v := nI 0) hx hb d_M_bothEnds_31 (by decide) ?_
            refine lv_istore (lv' := [(4, .int (nI 0)), (3, .int (nI 0)), (0, .ref (ad 400)), (1, .int (nI k)), (2, .int (nI z))]) hx hb d_M_bothEnds_32 hl (by decide) rfl (fun ls hl => ?_)
            refine lv_iload hx hb d_M_bothEnds_34 (lv_at hl 0 rfl) ?_
            refine lv_aload_n hx hb d_M_bothEnds_36 rfl (lv_at hl 2 rfl) ?_
            refine g_get (C := R_M) (T := F_M) (N := 35) hx hb hts i_M hown hK hW (i := 400) (hdl 400 (by decide) (by decide)) ((wB_o (by decide)).trans h400) rfl 0 (by decide) (hts _ q_488) (fun _ h9 => h9) rfl d_M_bothEnds_37 ?_
            refine n_icmp_ge (tgt := 119) hx hb (by omega) (by omega) d_M_bothEnds_40 (by decide) (fun h4 => ?_) (fun h4 => ?_)
            · omega
            · refine lv_iload_n hx hb d_M_bothEnds_43 rfl (lv_at hl 3 rfl) ?_
              refine n_if_le (tgt := 119) hx hb (by omega) d_M_bothEnds_44 (by decide) (fun h5 => ?_) (fun h5 => ?_)
              · have hl : lv_has ls 6 [(4, .int (nI 0)), (3, .int (nI (bfo a (alw tr shp (-1)) cl mv sp k z))), (0, .ref (ad 400)), (1, .int (nI k)), (2, .int (nI z))] := by rw [show bfo a (alw tr shp (-1)) cl mv sp k z = 0 by rw [h3]; rfl]; exact hl
                have hlt : bfo a (alw tr shp (-1)) cl mv sp k z < 1000000000 := by omega
                refine lv_aload_n hx hb d_M_bothEnds_119 rfl (lv_at hl 2 rfl) ?_
                refine g_get (C := R_M) (T := F_M) (N := 35) hx hb hts i_M hown hK hW (i := 400) (hdl 400 (by decide) (by decide)) ((wB_o (by decide)).trans h400) rfl 32 (by decide) (hts _ q_520) (fun _ h9 => h9) rfl d_M_bothEnds_120 ?_
                refine lv_bipush (v := nI 12) hx hb d_M_bothEnds_123 (by decide) ?_
                refine lv_iload_n hx hb d_M_bothEnds_125 rfl (lv_at hl 3 rfl) ?_
                refine n_mul hx hb d_M_bothEnds_126 ?_
                refine lv_iload_n hx hb d_M_bothEnds_127 rfl (lv_at hl 4 rfl) ?_
                refine n_add hx hb d_M_bothEnds_128 ?_
                refine lv_iload_n hx hb d_M_bothEnds_129 rfl (lv_at hl 1 rfl) ?_
                refine lv_ldc hx hb hown (hts _ q_659) d_M_bothEnds_130 ?_
                refine n_topi (show (1000000000 : Int32) = nI 1000000000 by decide) ?_
                refine n_icmp_ge (tgt := 145) hx hb (by omega) (by omega) d_M_bothEnds_132 (by decide) (fun h8 => ?_) (fun h8 => ?_)
                · omega
                · refine lv_aload_n hx hb d_M_bothEnds_135 rfl (lv_at hl 2 rfl) ?_
                  refine lv_iload_n hx hb d_M_bothEnds_136 rfl (lv_at hl 3 rfl) ?_
                  refine lv_iload_n hx hb d_M_bothEnds_137 rfl (lv_at hl 4 rfl) ?_
                  refine lv_iconst (v := (-1)) hx hb d_M_bothEnds_138 (by decide) ?_
                  refine g_cVi (As := [.int (nI k), .int (nI z), .int (-1)]) (rest := [.int (nI ((12 * k) + z)), .ref (ad 424)]) ⟨hx, hb, hml, hown, hts⟩ (c_M_may l hdl ((wB_o (by decide)).trans h400) ((wB_o (by decide)).trans h408) ((wB_o (by decide)).trans h409) k z (-1) (by omega) (hsh k h1)) (gcwV 3 hts q_658 q_655 q_657 qs_12 q_9 (by decide +kernel) ⟨(Nat.le_of_ble_eq_true rfl), (Nat.le_of_ble_eq_true rfl)⟩) gNl_ok hN hK hW hS hA (hdl 400 (by decide) (by decide)) ((wB_o (by decide)).trans h400) rfl rfl hl.1 rfl (Nat.le_of_ble_eq_true rfl) d_M_bothEnds_139 ⟨Nat.zero_le _, Nat.zero_le _⟩ (fun r co9 H locs hp9 hW hS => ?_)
                  obtain ⟨rfl, hco9⟩ := hp9
                  rw [hco9] at hW
                  refine n_ifz_ne (tgt := 150) hx hb d_M_bothEnds_142 (by decide) (fun h9 => ?_) (fun h9 => ?_)
                  · refine lv_iload_n hx hb d_M_bothEnds_150 rfl (lv_at hl 1 rfl) ?_
                    refine lv_aload_n hx hb d_M_bothEnds_151 rfl (lv_at hl 2 rfl) ?_
                    refine g_get (C := R_M) (T := F_M) (N := 35) hx hb hts i_M hown hK hW (i := 400) (hdl 400 (by decide) (by decide)) ((wB_o (by decide)).trans h400) rfl 2 (by decide) (hts _ q_490) (fun _ h9 => h9) rfl d_M_bothEnds_152 ?_
                    refine lv_bipush (v := nI 10) hx hb d_M_bothEnds_155 (by decide) ?_
                    refine lv_iload_n hx hb d_M_bothEnds_157 rfl (lv_at hl 4 rfl) ?_
                    refine n_mul hx hb d_M_bothEnds_158 ?_
                    refine lv_aload_n hx hb d_M_bothEnds_159 rfl (lv_at hl 2 rfl) ?_
                    refine g_get (C := R_M) (T := F_M) (N := 35) hx hb hts i_M hown hK hW (i := 400) (hdl 400 (by decide) (by decide)) ((wB_o (by decide)).trans h400) rfl 7 (by decide) (hts _ q_495) (fun _ h9 => h9) rfl d_M_bothEnds_160 ?_
                    refine lv_iload_n hx hb d_M_bothEnds_163 rfl (lv_at hl 3 rfl) ?_
                    refine n_iald hx hb hK hW 0 (q := 406) (hdl 406 (by decide) (by decide)) ((wB_o (by decide)).trans h406) rfl (j := k) (by omega) (by omega) d_M_bothEnds_164 ?_
                    refine n_topi (show cls k = nI (cl k) from hck.1) ?_
                    refine n_add hx hb d_M_bothEnds_165 ?_
                    refine n_iald hx hb hK hW 0 (q := 402) (hdl 402 (by decide) (by decide)) ((wB_o (by decide)).trans h402) rfl (j := (10 * z) + (cl k)) (by omega) (by omega) d_M_bothEnds_166 ?_
                    refine n_topi (show fs ((10 * z) + (cl k)) = nI (sp z (cl k)) from hsp z (cl k) h2 hck.2) ?_
                    refine n_add hx hb d_M_bothEnds_167 ?_
                    refine n_iast (x := nI ((bfo a (alw tr shp (-1)) cl mv sp k z) + (sp z (cl k)))) hx hb hK hW hS 0 (q := 424) (hdl 424 (by decide) (by decide)) wB_424 rfl (j := (12 * k) + z) (by omega) (by omega) d_M_bothEnds_168 (fun H locs hW hS => ?_)
                    rw [wB_u424] at hW
                    refine n_iinc (lv' := [(2, .int (nI (z + 1))), (4, .int (nI 0)), (3, .int (nI (bfo a (alw tr shp (-1)) cl mv sp k z))), (0, .ref (ad 400)), (1, .int (nI k))]) hx hb d_M_bothEnds_169 hl (k := 4) rfl (by decide) rfl (fun ls hl => ?_)
                    refine lv_goto (tgt := 12) hx hb d_M_bothEnds_172 (by decide) ?_
                    refine ih2 (z + 1) (upd F2 (12 * k + z) (nI (bfo a (alw tr shp (-1)) cl mv sp k z + sp z (cl k)))) _ _ ls (by omega) (by omega) (fun y b hy hb => ?_) (lt_s (fun b hb => ?_) ?_) hW hS (lv_sub hl [3, 4, 0] rfl)
                    · rw [pk_un (show 12 * y + b ≠ 12 * k + z by omega)]; exact hF2 y b hy hb
                    · rw [pk_un (show 12 * k + b ≠ 12 * k + z by omega)]; exact hF3 b hb
                    · rw [pk_us, if_pos h9]
                  · refine lv_ldc hx hb hown (hts _ q_659) d_M_bothEnds_145 ?_
                    refine n_topi (show (1000000000 : Int32) = nI 1000000000 by decide) ?_
                    refine lv_goto (tgt := 168) hx hb d_M_bothEnds_147 (by decide) ?_
                    refine n_iast (x := nI 1000000000) hx hb hK hW hS 0 (q := 424) (hdl 424 (by decide) (by decide)) wB_424 rfl (j := (12 * k) + z) (by omega) (by omega) d_M_bothEnds_168 (fun H locs hW hS => ?_)
                    rw [wB_u424] at hW
                    refine n_iinc (lv' := [(2, .int (nI (z + 1))), (4, .int (nI 0)), (3, .int (nI (bfo a (alw tr shp (-1)) cl mv sp k z))), (0, .ref (ad 400)), (1, .int (nI k))]) hx hb d_M_bothEnds_169 hl (k := 4) rfl (by decide) rfl (fun ls hl => ?_)
                    refine lv_goto (tgt := 12) hx hb d_M_bothEnds_172 (by decide) ?_
                    refine ih2 (z + 1) (upd F2 (12 * k + z) (nI 1000000000)) _ _ ls (by omega) (by omega) (fun y b hy hb => ?_) (lt_s (fun b hb => ?_) ?_) hW hS (lv_sub hl [3, 4, 0] rfl)
                    · rw [pk_un (show 12 * y + b ≠ 12 * k + z by omega)]; exact hF2 y b hy hb
                    · rw [pk_un (show 12 * k + b ≠ 12 * k + z by omega)]; exact hF3 b hb
                    · rw [pk_us, if_neg (by rw [h9]; decide), hBIG]
              · omega
end
