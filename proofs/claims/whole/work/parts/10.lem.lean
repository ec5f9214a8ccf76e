theorem inB_neg {x : Int32} {n : Nat} (h : x < 0) : inB x n = false := by
  cases hb : inB x n with
  | false => rfl
  | true => exact absurd (Or.inl h) (inB_vp.mp hb)
theorem inB_ge {j n : Nat} (hj : j < 2 ^ 31) (h : n ≤ j) : inB (nI j) n = false := by
  rw [inB_nI hj]
  exact decide_eq_false (by omega)
theorem inB_lt {j n : Nat} (hj : j < n) (hn : n < 2 ^ 31) : inB (nI j) n = true := by
  rw [inB_nI (by omega)]
  exact decide_eq_true hj
theorem bI_t : bI true = nI 1 := by decide
theorem bI_f : bI false = nI 0 := by decide
theorem bI_1 {b : Bool} (h : b = true) : nI 1 = bI b := by rw [h]; decide
theorem bI_0 {b : Bool} (h : b = false) : nI 0 = bI b := by rw [h]; decide
theorem bI_narrow (b : Bool) : narrow .boolean (.int (bI b)) = .int (bI b) := by cases b <;> rfl
/-- ActChainsModel: its object, by its numbers -/
abbrev mO (ad : Nat → Nat) (a rw sh pg ce mg kn cs sm : Nat) : va_E := .inr (7, [.int (nI a), .ref (ad 401), .ref (ad 402), .ref (ad 403), .ref (ad 404), .int (nI rw), .ref (ad 405), .ref (ad 406), .ref (ad 407), .ref (ad 408), .ref (ad 409), .int (nI sh), .int (nI pg), .ref (ad 410), .ref (ad 411), .ref (ad 412), .int (nI ce), .ref (ad 413), .ref (ad 414), .ref (ad 415), .ref (ad 416), .int (nI mg), .int (nI kn), .ref (ad 417), .int (nI cs), .ref (ad 418), .int (nI sm), .ref (ad 419), .ref (ad 420), .ref (ad 421), .ref (ad 422), .ref (ad 423), .ref (ad 424), .ref (ad 425), .ref (ad 426)])
