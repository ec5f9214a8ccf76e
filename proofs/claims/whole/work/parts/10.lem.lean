theorem inB_neg {x : Int32} {n : Nat} (h : x < 0) : inB x n = false := by
  cases hb : inB x n with
  | false => rfl
  | true => exact absurd (Or.inl h) (inB_vp.mp hb)
theorem inB_ge {j n : Nat} (hj : j < 2 ^ 31) (h : n ≤ j) : inB (nI j) n = false := by
  rw [inB_nI hj]
  exact decide_eq_false (by omega)
theorem inB_lt {j n : Nat} (hj : j < n) (hn : n < 2 ^ 31) : inB (nI j) n = true := by
  rw [inB_nI (by omega)]
  exact decide_eq_true hj
theorem bI_t : bI true = nI 1 := by decide
theorem bI_f : bI false = nI 0 := by decide
theorem bI_1 {b : Bool} (h : b = true) : nI 1 = bI b := by rw [h]; decide
theorem bI_0 {b : Bool} (h : b = false) : nI 0 = bI b := by rw [h]; decide
theorem bI_narrow (b : Bool) : narrow .boolean (.int (bI b)) = .int (bI b) := by cases b <;> rfl
/-- ActChainsModel: its object, by its numbers -/
abbrev mO (ad : Nat → Nat) (a rw sh pg ce mg kn cs sm : Nat) : va_E := .inr (7, [.int (nI a), .ref (ad 401), .ref (ad 402), .ref (ad 403), .ref (ad 404), .int (nI rw), .ref (ad 405), .ref (ad 406), .ref (ad 407), .ref (ad 408), .ref (ad 409), .int (nI sh), .int (nI pg), .ref (ad 410), .ref (ad 411), .ref (ad 412), .int (nI ce), .ref (ad 413), .ref (ad 414), .ref (ad 415), .ref (ad 416), .int (nI mg), .int (nI kn), .ref (ad 417), .int (nI cs), .ref (ad 418), .int (nI sm), .ref (ad 419), .ref (ad 420), .ref (ad 421), .ref (ad 422), .ref (ad 423), .ref (ad 424), .ref (ad 425), .ref (ad 426)])
/-- a true line may have act b at row k, the truths of ship w left out -/
def alw (tr sh : Nat → Int32) (w : Int32) (k b : Nat) : Bool := decide (tr k = -1) || decide (tr k = nI b) || decide (sh k = w)
/-- row f is before row g among the first n places -/
def lexL (f g : Nat → Int32) (n : Nat) : Bool := (List.range n).any (fun k => decide (f k < g k) && (List.range k).all (fun i => decide (f i = g i)))
theorem lexL_iff {f g : Nat → Int32} {n : Nat} : lexL f g n = true ↔ ∃ k, k < n ∧ f k < g k ∧ ∀ i, i < k → f i = g i := by
  unfold lexL
  rw [List.any_eq_true]
  constructor
  · rintro ⟨k, hk, h⟩
    rw [Bool.and_eq_true, decide_eq_true_eq, List.all_eq_true] at h
    exact ⟨k, List.mem_range.mp hk, h.1, fun i hi => of_decide_eq_true (h.2 i (List.mem_range.mpr hi))⟩
  · rintro ⟨k, hk, h1, h2⟩
    refine ⟨k, List.mem_range.mpr hk, ?_⟩
    rw [Bool.and_eq_true, decide_eq_true_eq, List.all_eq_true]
    exact ⟨h1, fun i hi => decide_eq_true (h2 i (List.mem_range.mp hi))⟩
theorem lexL_eq {f g : Nat → Int32} {n : Nat} (h : ∀ i, i < n → f i = g i) : lexL f g n = false := by
  cases hb : lexL f g n with
  | false => rfl
  | true =>
    obtain ⟨k, hk, h1, -⟩ := lexL_iff.mp hb
    rw [h k hk] at h1
    exact absurd h1 Int32.lt_irrefl
theorem lexL_yes {f g : Nat → Int32} {n k : Nat} (hk : k < n) (h : ∀ i, i < k → f i = g i) (h3 : f k < g k) : lexL f g n = true := lexL_iff.mpr ⟨k, hk, h3, h⟩
theorem lexL_no {f g : Nat → Int32} {n k : Nat} (hk : k < n) (h : ∀ i, i < k → f i = g i) (hne : ¬ f k = g k) (h3 : g k ≤ f k) : lexL f g n = false := by
  cases hb : lexL f g n with
  | false => rfl
  | true =>
    obtain ⟨q, hq, h1, h2⟩ := lexL_iff.mp hb
    rcases Nat.lt_trichotomy q k with hlt | heq | hgt
    · rw [h q hlt] at h1
      exact absurd h1 Int32.lt_irrefl
    · subst heq
      exact absurd h1 (Int32.not_lt.mpr h3)
    · exact absurd (h2 k hgt) hne
/-! What is told is taken, or refused -/
def okMove (a : Nat) (x y c : Int32) : Bool := inB x a && inB y a && inB c 10001
def okSpeed (a : Nat) (x k c : Int32) : Bool := inB x a && inB k 10 && inB c 10001
def okRow (n : Nat) (sec : Nat → Int64) (s : Int64) (k t : Int32) : Bool := decide (n < 200) && decide (0 ≤ s) && (decide (n = 0) || decide (sec (n - 1) < s)) && inB k 10 && inB t 4
def okTruth (n a : Nat) (k b : Int32) : Bool := inB k n && inB b a
def okPage (a pg : Nat) (f t : Int64) (b : Int32) : Bool := inB b a && decide (0 ≤ f) && decide (f < t) && decide (pg < 50)
def okCell (n ce : Nat) (k x y : Int32) (s : Int64) : Bool := inB k n && inB x 20 && inB y 20 && decide (1 ≤ s) && decide (s ≤ 1000000) && decide (ce < 300)
theorem bI_n0 : bI false = nI 0 := by decide
theorem lc_lt {x y : Int64} (h : lg_cmp x y < 0) : x < y := (lg_cmp_lt x y).mp h
theorem lc_nlt {x y : Int64} (h : ¬ lg_cmp x y < 0) : y ≤ x := Int64.not_lt.mp (fun q => h ((lg_cmp_lt x y).mpr q))
theorem lc_le {x y : Int64} (h : lg_cmp x y ≤ 0) : x ≤ y := (lg_cmp_le x y).mp h
theorem lc_nle {x y : Int64} (h : ¬ lg_cmp x y ≤ 0) : y < x := Int64.not_le.mp (fun q => h ((lg_cmp_le x y).mpr q))
theorem lc_ge {x y : Int64} (h : 0 ≤ lg_cmp x y) : y ≤ x := (lg_cmp_ge x y).mp h
theorem lc_nge {x y : Int64} (h : ¬ 0 ≤ lg_cmp x y) : x < y := Int64.not_le.mp (fun q => h ((lg_cmp_ge x y).mpr q))
theorem lc_gt {x y : Int64} (h : 0 < lg_cmp x y) : y < x := (lg_cmp_gt x y).mp h
theorem lc_ngt {x y : Int64} (h : ¬ 0 < lg_cmp x y) : x ≤ y := Int64.not_lt.mp (fun q => h ((lg_cmp_gt x y).mpr q))
theorem L_nlt {x y : Int64} (h : x < y) : ¬ y ≤ x := Int64.not_le.mpr h
theorem L_nle {x y : Int64} (h : x ≤ y) : ¬ y < x := Int64.not_lt.mpr h
