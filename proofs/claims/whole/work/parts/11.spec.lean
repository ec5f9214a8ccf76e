/-! The answers, by what is kept: raw rows of numbers, as both sides have them -/
def sEnd (kn : Nat) (sec : Nat → Int64) (j : Nat) : Int64 := sec (if j + 1 < kn then j + 1 else j)
def sHours (kn : Nat) (ln : Nat → Int32) (sec : Nat → Int64) (b : Int32) : Nat → Int64
  | 0 => 0
  | k + 1 => sHours kn ln sec b k + (if ln k = b then sEnd kn sec k - sec k else 0)
def sTotal (kn : Nat) (sec : Nat → Int64) : Int64 := if kn = 0 then -1 else sec (kn - 1) - sec 0
/-- the q-th place from k on, among d places, that p has; -1 when there is none -/
def nthF (p : Nat → Bool) : Nat → Nat → Nat → Int32
  | 0, _, _ => -1
  | d + 1, k, q => if p k then (if q = 0 then nI k else nthF p d (k + 1) (q - 1)) else nthF p d (k + 1) q
def sStart (ln : Nat → Int32) (k : Nat) : Bool := decide (ln k = nI 3) && (decide (k = 0) || decide (¬ ln (k - 1) = nI 3))
def sFirst (kn : Nat) (ln : Nat → Int32) (x : Int32) : Int32 := if x < 0 then -1 else nthF (sStart ln) kn 0 x.toNatClampNeg
def lastF (kn : Nat) (ln : Nat → Int32) : Nat → Nat → Nat
  | 0, k => k
  | d + 1, k => if k + 1 < kn ∧ ln (k + 1) = nI 3 then lastF kn ln d (k + 1) else k
def sLast (kn : Nat) (ln : Nat → Int32) (k : Nat) : Nat := lastF kn ln kn k
/-- how many of the rows k .. k + d - 1 have a turn of 2 or more -/
def turnsF (trn : Nat → Int32) (k : Nat) : Nat → Nat
  | 0 => 0
  | d + 1 => turnsF trn k d + (if nI 2 ≤ trn (k + d) then 1 else 0)
def sGearF (kn : Nat) (ln trn : Nat → Int32) (f : Nat) : Int32 := bI (decide (sLast kn ln f - f + 1 < 2 * turnsF trn f (sLast kn ln f - f + 1)))
def sGear (kn : Nat) (ln trn : Nat → Int32) (x : Int32) : Int32 := if sFirst kn ln x = -1 then -1 else sGearF kn ln trn (sFirst kn ln x).toNatClampNeg
def sHaulF (kn : Nat) (ln : Nat → Int32) (sec : Nat → Int64) (f : Nat) (e : Int32) : Int32 :=
  if inB e 2 then
    (if 2147483647 < (if e = 0 then sec f else sEnd kn sec (sLast kn ln f)) then -1 else (if e = 0 then sec f else sEnd kn sec (sLast kn ln f)).toInt32) else -1
def sHaul (kn : Nat) (ln : Nat → Int32) (sec : Nat → Int64) (x e : Int32) : Int32 := if sFirst kn ln x = -1 then -1 else sHaulF kn ln sec (sFirst kn ln x).toNatClampNeg e
def toldF (pf pt : Nat → Int64) (pa : Nat → Int32) (x : Int64) : Nat → Int32
  | 0 => -1
  | q + 1 => if pf q ≤ x ∧ x < pt q then pa q else toldF pf pt pa x q
def sDif (pg : Nat) (pf pt : Nat → Int64) (pa : Nat → Int32) (ln : Nat → Int32) (sec : Nat → Int64) (i : Nat) : Bool := decide (¬ toldF pf pt pa (sec i) pg = -1) && decide (¬ toldF pf pt pa (sec i) pg = ln i)
def sDiffers (kn pg : Nat) (pf pt : Nat → Int64) (pa : Nat → Int32) (ln : Nat → Int32) (sec : Nat → Int64) (x e : Int32) : Int32 :=
  if x < 0 then -1 else if inB e 2 then
    (if nthF (sDif pg pf pt pa ln sec) kn 0 x.toNatClampNeg = -1 then -1 else if e = 0 then nthF (sDif pg pf pt pa ln sec) kn 0 x.toNatClampNeg else toldF pf pt pa (sec (nthF (sDif pg pf pt pa ln sec) kn 0 x.toNatClampNeg).toNatClampNeg) pg) else -1
def sMap (kn : Nat) (ln cr cx cy : Nat → Int32) (ct : Nat → Int64) (x y : Int32) : Nat → Int64
  | 0 => 0
  | k + 1 => sMap kn ln cr cx cy ct x y k + (if cx k = x ∧ cy k = y ∧ cr k < nI kn ∧ ln (cr k).toNatClampNeg = nI 3 then ct k else 0)
def sNight (v : Int64) : Int32 := bI (decide (v - v / 86400 * 86400 < 21600) || decide (64800 ≤ v - v / 86400 * 86400))
def sUnsure (kn mg cs : Nat) (nx : Nat → Int32) (x : Int32) : Bool := inB x kn && decide (¬ nx x.toNatClampNeg = -1) && decide (nx x.toNatClampNeg - nI cs ≤ nI mg)
def sTied (kn cs : Nat) (nx : Nat → Int32) (x : Int32) : Bool := inB x kn && decide (nx x.toNatClampNeg = nI cs)
theorem nthF_lt {p : Nat → Bool} : ∀ {d k q : Nat}, k + d < 2 ^ 31 → ¬ nthF p d k q = -1 → ∃ j, nthF p d k q = nI j ∧ k ≤ j ∧ j < k + d
  | 0, k, q, _, h => absurd rfl h
  | d + 1, k, q, hd, h => by
    unfold nthF at h ⊢
    by_cases hp : p k = true
    · rw [if_pos hp] at h ⊢
      by_cases hq : q = 0
      · rw [if_pos hq]
        exact ⟨k, rfl, Nat.le_refl k, by omega⟩
      · rw [if_neg hq] at h ⊢
        obtain ⟨j, h1, h2, h3⟩ := nthF_lt (by omega) h
        exact ⟨j, h1, by omega, by omega⟩
    · rw [if_neg hp] at h ⊢
      obtain ⟨j, h1, h2, h3⟩ := nthF_lt (by omega) h
      exact ⟨j, h1, by omega, by omega⟩
theorem nI_ne_m1 {j : Nat} (h : j < 2 ^ 31) : ¬ nI j = -1 := fun q => by
  have := congrArg Int32.toInt q
  rw [nI_toInt h] at this
  have h2 : (-1 : Int32).toInt = -1 := by decide
  omega
theorem sFirst_lt {kn : Nat} {ln : Nat → Int32} {x : Int32} (hn : kn < 2 ^ 31) (h1 : ¬ sFirst kn ln x = -1) : ∃ f, sFirst kn ln x = nI f ∧ f < kn := by
  unfold sFirst at h1 ⊢
  by_cases hx0 : x < 0
  · rw [if_pos hx0] at h1; exact absurd rfl h1
  · rw [if_neg hx0] at h1 ⊢
    obtain ⟨j, h2, h3, h4⟩ := nthF_lt (by omega) h1
    exact ⟨j, h2, by omega⟩
theorem lastF_ge {kn : Nat} {ln : Nat → Int32} : ∀ {d k : Nat}, k ≤ lastF kn ln d k
  | 0, k => Nat.le_refl k
  | d + 1, k => by
    unfold lastF
    split
    · have := lastF_ge (kn := kn) (ln := ln) (d := d) (k := k + 1)
      omega
    · exact Nat.le_refl k
theorem lastF_lt {kn : Nat} {ln : Nat → Int32} : ∀ {d k : Nat}, k < kn → lastF kn ln d k < kn
  | 0, k, h => h
  | d + 1, k, h => by
    unfold lastF
    split
    · rename_i h1
      exact lastF_lt h1.1
    · exact h
