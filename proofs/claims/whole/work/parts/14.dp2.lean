theorem rmin_lt {p : Nat → Bool} {f : Nat → Nat} {c : Nat} (hp : p c = true) (h : f c < rmin p f c) : rmin p f (c + 1) = f c := by
  unfold rmin
  rw [if_pos hp]
  omega
theorem rmin_ge {p : Nat → Bool} {f : Nat → Nat} {c : Nat} (hp : p c = true) (h : rmin p f c ≤ f c) : rmin p f (c + 1) = rmin p f c := by
  conv => lhs; unfold rmin
  rw [if_pos hp]
  omega
theorem rmin_no {p : Nat → Bool} {f : Nat → Nat} {c : Nat} (hp : p c = false) : rmin p f (c + 1) = rmin p f c := by
  conv => lhs; unfold rmin
  rw [if_neg (by rw [hp]; decide)]
section DP2
variable {a : Nat} {al : Nat → Nat → Bool} {cl : Nat → Nat} {mv sp : Nat → Nat → Nat}
theorem bfo_le {n : Nat} (h : okN a al cl mv sp n) : ∀ k b, k < n → b < a → bfo a al cl mv sp k b ≤ 20000 * k
  | 0, b, _, _ => Nat.le_refl 0
  | k + 1, b, hk, hb => by
    obtain ⟨c, hc, hca⟩ := h.2.2.2.2.2 k (by omega)
    have h1 := bfo_le h k c (by omega) hc
    have h2 := h.2.2.2.2.1 c k hc (by omega)
    have h3 := h.2.2.2.1 c b hc hb
    have h4 := rmin_le (p := al k) (f := fun c => bfo a al cl mv sp k c + sp c (cl k) + mv c b) hc hca
    have h5 : (fun c => bfo a al cl mv sp k c + sp c (cl k) + mv c b) c = bfo a al cl mv sp k c + sp c (cl k) + mv c b := rfl
    show rmin (al k) (fun c => bfo a al cl mv sp k c + sp c (cl k) + mv c b) a ≤ _
    omega
theorem tgr_le {n k b : Nat} (h : okN a al cl mv sp n) (hk : k + 1 < n) (hb : b < a) : rmin (al (k + 1)) (fun c => mv b c + tgo a al cl mv sp n (k + 1) c) a ≤ 10000 + 20000 * (n - (k + 1)) := by
  obtain ⟨c, hc, hca⟩ := h.2.2.2.2.2 (k + 1) (by omega)
  have h1 := tgo_le h hk hc hca
  have h3 := h.2.2.2.1 b c hb hc
  have h4 := rmin_le (p := al (k + 1)) (f := fun c => mv b c + tgo a al cl mv sp n (k + 1) c) hc hca
  have h5 : (fun c => mv b c + tgo a al cl mv sp n (k + 1) c) c = mv b c + tgo a al cl mv sp n (k + 1) c := rfl
  omega
end DP2
