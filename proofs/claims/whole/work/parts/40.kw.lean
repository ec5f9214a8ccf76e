/-! Rows of a grid: cells base .. base + n - 1 -/
def gG (cI : ClassId) (base n len : Nat) (co : Nat → va_E) (G : Nat → Nat → Int32) : Nat → va_E := fun i => if base ≤ i ∧ i < base + n then .inl (cI, len, .inl (G (i - base))) else co i
theorem gG_at {cI : ClassId} {base n len : Nat} {co : Nat → va_E} {G : Nat → Nat → Int32} {r : Nat} (h : r < n) : gG cI base n len co G (base + r) = .inl (cI, len, .inl (G r)) := by
  unfold gG
  rw [if_pos (by omega), Nat.add_sub_cancel_left]
theorem gG_o {cI : ClassId} {base n len : Nat} {co : Nat → va_E} {G : Nat → Nat → Int32} {i : Nat} (h : i < base ∨ base + n ≤ i) : gG cI base n len co G i = co i := by
  unfold gG
  rw [if_neg (by omega)]
theorem gG_u {cI : ClassId} {base n len : Nat} {co : Nat → va_E} {G : Nat → Nat → Int32} {r : Nat} {g : Nat → Int32} (h : r < n) : va_up (gG cI base n len co G) (base + r) (.inl (cI, len, .inl g)) = gG cI base n len co (va_up G r g) := by
  funext i
  by_cases hi : i = base + r
  · subst hi
    rw [va_up_self, gG_at h, va_up_self]
  · rw [va_up_ne _ _ hi]
    by_cases hb : base ≤ i ∧ i < base + n
    · obtain ⟨j, rfl⟩ : ∃ j, i = base + j := ⟨i - base, by omega⟩
      rw [gG_at (by omega), gG_at (by omega), va_up_ne _ _ (by omega)]
    · rw [gG_o (by omega), gG_o (by omega)]
theorem gG_self {cI : ClassId} {base n len : Nat} {co : Nat → va_E} {G : Nat → Nat → Int32} (h : ∀ r, r < n → co (base + r) = .inl (cI, len, .inl (G r))) : co = gG cI base n len co G := by
  funext i
  by_cases hb : base ≤ i ∧ i < base + n
  · obtain ⟨j, rfl⟩ : ∃ j, i = base + j := ⟨i - base, by omega⟩
    rw [gG_at (by omega), h j (by omega)]
  · rw [gG_o (by omega)]
theorem gG_tw {cI : ClassId} {base n len : Nat} {co : Nat → va_E} {G G' : Nat → Nat → Int32} : gG cI base n len (gG cI base n len co G) G' = gG cI base n len co G' := by
  funext i
  unfold gG
  split <;> rfl
/-- ActChains: its objects -/
abbrev oT (ad : Nat → Nat) (n : Nat) : va_E := .inr (5, [.ref (ad 2), .ref (ad 3), .ref (ad 4), .ref (ad 5), .ref (ad 6), .int (nI n)])
abbrev oB (ad : Nat → Nat) (x y : Nat) : va_E := .inr (4, [.ref (ad x), .ref (ad y)])
abbrev oF (ad : Nat → Nat) (cs a x y : Nat) : va_E := .inr (2, [.ref (ad 17), .int (nI cs), .int (nI a), .ref (ad 18), .ref (ad 19), .ref (ad x), .ref (ad y)])
abbrev oN (ad : Nat → Nat) (n cs : Nat) : va_E := .inr (1, [.ref (ad 23), .ref (ad 24), .int (nI n), .int (nI cs)])
abbrev oP (ad : Nat → Nat) (pg : Nat) : va_E := .inr (3, [.ref (ad 26), .ref (ad 27), .ref (ad 28), .int (nI pg)])
abbrev oC (ad : Nat → Nat) (ce : Nat) : va_E := .inr (0, [.ref (ad 30), .ref (ad 31), .ref (ad 32), .ref (ad 33), .int (nI ce)])
abbrev oK (ad : Nat → Nat) (a : Nat) (kr : Int32) (sh mg : Nat) : va_E := .inr (6, [.int (nI a), .ref (ad 1), .ref (ad 7), .ref (ad 10), .ref (ad 13), .ref (ad 16), .ref (ad 22), .ref (ad 25), .ref (ad 29), .ref (ad 34), .int kr, .int (nI sh), .int (nI mg)])
abbrev oG (ad : Nat → Nat) (cG : ClassId) (n base : Nat) : va_E := .inl (cG, n, .inr (.inr (.inr (.inr (fun i => if i < n then some (ad (base + i)) else none)))))
/-- which cells ActChains has, with a acts -/
def kD (a i : Nat) : Prop := i < 35 ∨ (40 ≤ i ∧ i < 40 + a) ∨ (60 ≤ i ∧ i < 60 + a) ∨ (80 ≤ i ∧ i < 80 + a) ∨ (100 ≤ i ∧ i < 100 + a) ∨ (120 ≤ i ∧ i < 120 + a) ∨ (140 ≤ i ∧ i < 140 + a) ∨ (200 ≤ i ∧ i < 400)
section GCP
variable {p : Program} {l : Launch} {e : Env} {R : Room} {s : State} {m : MethodId} {args : Array Value} {below : List Frame} {meth : Method} {c : Code} {H : Heap} {locs : List Loc} {cells slots : Nat} {Q : State → Prop}
variable {cc : ByteArray} {pc : Nat} {ls : Array Slot} {rest : List Value} {D : va_G} {cl : List vw_C} {A : Nat → Prop} {tys : List (ClassId × FieldType)} {H0 : Heap} {ad : Nat → Nat} {co : Nat → va_E} {dl : List Nat}
theorem g_copyi (hexec : p.tables.exec = Jvm.exec) (hb : c.code = cc) (hml : c.maxLocals = ls.size) {own : String} {index : Nat} (hown : s.vm.findClass own = some m.cls) (hlink : (Cond.methodLink own index arraycopyName).before args s = true) (hnat : (Cond.native arraycopyName).before args s = true) (hstat : (Cond.static arraycopyName).before args s = true) (hini : (Cond.initialized "java/lang/System").before args s = true)
    (hK : va_K D cl tys s) (hW : gW D cl A ad co dl H) (hS : va_S A H0 H locs) (t0 : Nat) {q0 q1 : Nat} (hq0 : q0 ∈ dl) (hq1 : q1 ∈ dl) {c0 : ClassId} {n0 n1 : Nat} {f g : Nat → Int32} (ha0 : co q0 = .inl (c0, n0, .inl f)) (ha1 : co q1 = .inl (c0, n1, .inl g)) (ht0 : tys[t0]? = some (c0, .int)) {n : Nat} (h4 : n ≤ n0) (h5 : n ≤ n1) (hn : n < 2 ^ 31)
    (hframes : 1 ≤ R.frames) (hlocals : (rest.map fun v => v.category).sum + (nativeFrameWords "java/lang/System" "arraycopy" 5 + 11) ≤ R.locals) (hdg : decode cc pc = .ok (.invokestatic index, 3))
    (kk : ∀ (H1 : Heap) (locs1 : List Loc), gW D cl A ad (va_up co q1 (.inl (c0, n1, .inl (fun j => if j < n then f j else g j)))) dl H1 → va_S A H0 H1 locs1 → W p l e R s m args below meth c H1 locs1 cells slots Q (F0 m (pc + 3) ls rest)) : W p l e R s m args below meth c H locs cells slots Q (F0 m pc ls (.int (nI n) :: .int (nI 0) :: .ref (ad q1) :: .int (nI 0) :: .ref (ad q0) :: rest)) := by
  obtain ⟨i, hi⟩ := List.getElem?_of_mem hq0
  obtain ⟨j, hj⟩ := List.getElem?_of_mem hq1
  have e0 : (nI 0).toNatClampNeg = 0 := nI_clamp (by omega)
  have en : (nI n).toNatClampNeg = n := nI_clamp hn
  have ec : va_cpy f g 0 0 n = fun j => if j < n then f j else g j := by
    funext k
    unfold va_cpy
    by_cases hk : k < n
    · rw [if_pos (by omega), if_pos hk]
      congr 1
      omega
    · rw [if_neg (by omega), if_neg hk]
  refine va_copyi hexec hb hml hown hlink hnat hstat hini hK hW.1 hW.2 hS i j t0 t0 (ty := .int) (by rw [gw_at hi, ha0]) (by rw [gw_at hj, ha1]) ht0 ht0 rfl (nI_pos (by omega)) (nI_pos (by omega)) (nI_pos hn) (by rw [e0, en]; omega) (by rw [e0, en]; omega) (fun _ _ => rfl) hframes hlocals hdg (fun H1 locs1 h1 h2 h3 => kk H1 locs1 ⟨?_, ?_⟩ h3)
  · rw [gw_set hW.2 hj, e0, en, ec] at h1; exact h1
  · rw [gw_set hW.2 hj, e0, en, ec] at h2; exact h2
end GCP
