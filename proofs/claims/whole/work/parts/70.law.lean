/-! THE LAW: what both sides hold, as one state -/
def lSt : Type := Nat × Nat × Nat × Nat × Nat × Nat × Nat × Nat × (Nat → Nat → Nat) × (Nat → Nat → Nat) × (Nat → Int64) × (Nat → Int32) × (Nat → Int32) × (Nat → Int32) × (Nat → Int32) × (Nat → Nat) × (Nat → Int64) × (Nat → Int64) × (Nat → Int32) × (Nat → Int32) × (Nat → Int32) × (Nat → Int32) × (Nat → Int64) × (Nat → Int32) × (Nat → Int32) × (Nat → Int64)
def lMk (n : Nat) (sh : Nat) (pg : Nat) (ce : Nat) (mg : Nat) (kn : Nat) (cs : Nat) (sm : Nat) (mv : Nat → Nat → Nat) (sp : Nat → Nat → Nat) (sec : Nat → Int64) (cls : Nat → Int32) (trn : Nat → Int32) (shp : Nat → Int32) (tr : Nat → Int32) (cl : Nat → Nat) (pf : Nat → Int64) (pt : Nat → Int64) (pa : Nat → Int32) (cr : Nat → Int32) (cx : Nat → Int32) (cy : Nat → Int32) (ct : Nat → Int64) (ln : Nat → Int32) (nx : Nat → Int32) (su : Nat → Int64) : lSt := (n, sh, pg, ce, mg, kn, cs, sm, mv, sp, sec, cls, trn, shp, tr, cl, pf, pt, pa, cr, cx, cy, ct, ln, nx, su)
def lSt.n (S : lSt) : Nat := S.1
def lSt.sh (S : lSt) : Nat := S.2.1
def lSt.pg (S : lSt) : Nat := S.2.2.1
def lSt.ce (S : lSt) : Nat := S.2.2.2.1
def lSt.mg (S : lSt) : Nat := S.2.2.2.2.1
def lSt.kn (S : lSt) : Nat := S.2.2.2.2.2.1
def lSt.cs (S : lSt) : Nat := S.2.2.2.2.2.2.1
def lSt.sm (S : lSt) : Nat := S.2.2.2.2.2.2.2.1
def lSt.mv (S : lSt) : Nat → Nat → Nat := S.2.2.2.2.2.2.2.2.1
def lSt.sp (S : lSt) : Nat → Nat → Nat := S.2.2.2.2.2.2.2.2.2.1
def lSt.sec (S : lSt) : Nat → Int64 := S.2.2.2.2.2.2.2.2.2.2.1
def lSt.cls (S : lSt) : Nat → Int32 := S.2.2.2.2.2.2.2.2.2.2.2.1
def lSt.trn (S : lSt) : Nat → Int32 := S.2.2.2.2.2.2.2.2.2.2.2.2.1
def lSt.shp (S : lSt) : Nat → Int32 := S.2.2.2.2.2.2.2.2.2.2.2.2.2.1
def lSt.tr (S : lSt) : Nat → Int32 := S.2.2.2.2.2.2.2.2.2.2.2.2.2.2.1
def lSt.cl (S : lSt) : Nat → Nat := S.2.2.2.2.2.2.2.2.2.2.2.2.2.2.2.1
def lSt.pf (S : lSt) : Nat → Int64 := S.2.2.2.2.2.2.2.2.2.2.2.2.2.2.2.2.1
def lSt.pt (S : lSt) : Nat → Int64 := S.2.2.2.2.2.2.2.2.2.2.2.2.2.2.2.2.2.1
def lSt.pa (S : lSt) : Nat → Int32 := S.2.2.2.2.2.2.2.2.2.2.2.2.2.2.2.2.2.2.1
def lSt.cr (S : lSt) : Nat → Int32 := S.2.2.2.2.2.2.2.2.2.2.2.2.2.2.2.2.2.2.2.1
def lSt.cx (S : lSt) : Nat → Int32 := S.2.2.2.2.2.2.2.2.2.2.2.2.2.2.2.2.2.2.2.2.1
def lSt.cy (S : lSt) : Nat → Int32 := S.2.2.2.2.2.2.2.2.2.2.2.2.2.2.2.2.2.2.2.2.2.1
def lSt.ct (S : lSt) : Nat → Int64 := S.2.2.2.2.2.2.2.2.2.2.2.2.2.2.2.2.2.2.2.2.2.2.1
def lSt.ln (S : lSt) : Nat → Int32 := S.2.2.2.2.2.2.2.2.2.2.2.2.2.2.2.2.2.2.2.2.2.2.2.1
def lSt.nx (S : lSt) : Nat → Int32 := S.2.2.2.2.2.2.2.2.2.2.2.2.2.2.2.2.2.2.2.2.2.2.2.2.1
def lSt.su (S : lSt) : Nat → Int64 := S.2.2.2.2.2.2.2.2.2.2.2.2.2.2.2.2.2.2.2.2.2.2.2.2.2
abbrev lOk (a : Nat) (S : lSt) : Prop := (1 ≤ a) ∧ (a ≤ 12) ∧ (S.n ≤ 200) ∧ (S.pg ≤ 50) ∧ (S.ce ≤ 300) ∧ (S.kn ≤ 200) ∧ (S.cs < 2 ^ 31) ∧ (S.sm ≤ 21) ∧ (S.sh < 10) ∧ (∀ k, k < S.n → S.cls k = nI (S.cl k) ∧ S.cl k < 10) ∧ (∀ k, k < S.n → S.shp k ≠ -1) ∧ (∀ k, k < S.n → S.tr k = -1 ∨ ∃ b, b < a ∧ S.tr k = nI b) ∧ (∀ i j, i < a → j < a → S.mv i j ≤ 10000) ∧ (∀ i c, i < a → c < 10 → S.sp i c ≤ 10000) ∧ (∀ i, i < S.ce → ∃ r, S.cr i = nI r ∧ r < 200)
theorem lOk.a1 {a : Nat} {S : lSt} (h : lOk a S) : 1 ≤ a := h.1
theorem lOk.a2 {a : Nat} {S : lSt} (h : lOk a S) : a ≤ 12 := h.2.1
theorem lOk.n2 {a : Nat} {S : lSt} (h : lOk a S) : S.n ≤ 200 := h.2.2.1
theorem lOk.pg2 {a : Nat} {S : lSt} (h : lOk a S) : S.pg ≤ 50 := h.2.2.2.1
theorem lOk.ce2 {a : Nat} {S : lSt} (h : lOk a S) : S.ce ≤ 300 := h.2.2.2.2.1
theorem lOk.kn2 {a : Nat} {S : lSt} (h : lOk a S) : S.kn ≤ 200 := h.2.2.2.2.2.1
theorem lOk.cs2 {a : Nat} {S : lSt} (h : lOk a S) : S.cs < 2 ^ 31 := h.2.2.2.2.2.2.1
theorem lOk.sm2 {a : Nat} {S : lSt} (h : lOk a S) : S.sm ≤ 21 := h.2.2.2.2.2.2.2.1
theorem lOk.sh2 {a : Nat} {S : lSt} (h : lOk a S) : S.sh < 10 := h.2.2.2.2.2.2.2.2.1
theorem lOk.cl2 {a : Nat} {S : lSt} (h : lOk a S) : ∀ k, k < S.n → S.cls k = nI (S.cl k) ∧ S.cl k < 10 := h.2.2.2.2.2.2.2.2.2.1
theorem lOk.shp2 {a : Nat} {S : lSt} (h : lOk a S) : ∀ k, k < S.n → S.shp k ≠ -1 := h.2.2.2.2.2.2.2.2.2.2.1
theorem lOk.tr2 {a : Nat} {S : lSt} (h : lOk a S) : ∀ k, k < S.n → S.tr k = -1 ∨ ∃ b, b < a ∧ S.tr k = nI b := h.2.2.2.2.2.2.2.2.2.2.2.1
theorem lOk.mv2 {a : Nat} {S : lSt} (h : lOk a S) : ∀ i j, i < a → j < a → S.mv i j ≤ 10000 := h.2.2.2.2.2.2.2.2.2.2.2.2.1
theorem lOk.sp2 {a : Nat} {S : lSt} (h : lOk a S) : ∀ i c, i < a → c < 10 → S.sp i c ≤ 10000 := h.2.2.2.2.2.2.2.2.2.2.2.2.2.1
theorem lOk.cr2 {a : Nat} {S : lSt} (h : lOk a S) : ∀ i, i < S.ce → ∃ r, S.cr i = nI r ∧ r < 200 := h.2.2.2.2.2.2.2.2.2.2.2.2.2.2
theorem lOk.okN {a : Nat} {S : lSt} (h : lOk a S) (w : Int32) (hn : 0 < S.n) : okN a (alw S.tr S.shp w) S.cl S.mv S.sp S.n := by
  refine ⟨hn, h.n2, h.a1, h.mv2, fun b k hb hk => h.sp2 b _ hb (h.cl2 k hk).2, fun k hk => ?_⟩
  rcases h.tr2 k hk with h1 | ⟨b, hb, h1⟩
  · exact ⟨0, h.a1, by unfold alw; rw [decide_eq_true h1]; rfl⟩
  · exact ⟨b, hb, by unfold alw; rw [decide_eq_true h1, Bool.or_true]; rfl⟩
abbrev kOS (cI cJ cG : ClassId) (ad : Nat → Nat) (co : Nat → va_E) (a : Nat) (S : lSt) : Prop := kOk cI cJ cG ad co a S.n S.sh S.pg S.ce S.mg S.kn S.cs (nI S.sm - nI 1) S.mv S.sp S.sec S.cls S.trn S.shp S.tr S.pf S.pt S.pa S.cr S.cx S.cy S.ct S.ln S.nx S.su
abbrev mOS (cI cJ : ClassId) (ad : Nat → Nat) (co : Nat → va_E) (a : Nat) (S : lSt) : Prop :=
  co 400 = mO ad a S.n S.sh S.pg S.ce S.mg S.kn S.cs S.sm ∧ co 405 = .inl (cJ, 200, .inr (.inl S.sec)) ∧ co 406 = .inl (cI, 200, .inl S.cls) ∧ co 407 = .inl (cI, 200, .inl S.trn) ∧ co 408 = .inl (cI, 200, .inl S.shp) ∧ co 409 = .inl (cI, 200, .inl S.tr) ∧ co 410 = .inl (cJ, 50, .inr (.inl S.pf)) ∧ co 411 = .inl (cJ, 50, .inr (.inl S.pt)) ∧ co 412 = .inl (cI, 50, .inl S.pa) ∧ co 413 = .inl (cI, 300, .inl S.cr) ∧ co 414 = .inl (cI, 300, .inl S.cx) ∧ co 415 = .inl (cI, 300, .inl S.cy) ∧ co 416 = .inl (cJ, 300, .inr (.inl S.ct)) ∧ co 417 = .inl (cI, 200, .inl S.ln) ∧ co 418 = .inl (cI, 200, .inl S.nx) ∧ co 419 = .inl (cJ, 21, .inr (.inl S.su)) ∧
    (∃ fm fs : Nat → Int32, co 401 = .inl (cI, 144, .inl fm) ∧ co 402 = .inl (cI, 120, .inl fs) ∧ (∀ i j, i < a → j < a → fm (12 * i + j) = nI (S.mv i j)) ∧ ∀ i c, i < a → c < 10 → fs (10 * i + c) = nI (S.sp i c)) ∧
    ∃ om os so lg sc lc f0 g0 fd : Nat → Int32, co 403 = .inl (cI, 144, .inl om) ∧ co 404 = .inl (cI, 120, .inl os) ∧ co 420 = .inl (cI, 2400, .inl so) ∧ co 421 = .inl (cI, 2400, .inl lg) ∧ co 422 = .inl (cI, 12, .inl sc) ∧ co 423 = .inl (cI, 12, .inl lc) ∧ co 424 = .inl (cI, 2400, .inl f0) ∧ co 425 = .inl (cI, 2400, .inl g0) ∧ co 426 = .inl (cI, 200, .inl fd)
theorem upx {c c1 : Nat → va_E} {p : Nat} {E : va_E} (h : ∀ i, ¬ kFr i → c1 i = c i) (hp : kFr p) : ∀ i, ¬ kFr i → va_up c1 p E i = c i := fun i hi => (va_up_ne _ _ (fun e => hi (by rw [e]; exact hp))).trans (h i hi)
/-- what the program holds reads no cell from 400 on -/
theorem kOS_tr {cI cJ cG : ClassId} {ad : Nat → Nat} {co co9 : Nat → va_E} {a : Nat} {S : lSt} (ha : a ≤ 12) (h : ∀ i, i < 400 → co9 i = co i) (hk : kOS cI cJ cG ad co a S) : kOS cI cJ cG ad co9 a S := by
  obtain ⟨w0, w1, w2, w3, w4, w5, w6, w25, w26, w27, w28, w29, w30, w31, w32, w33, w34, k1, k2, k3, k4⟩ := hk
  have h9 : ∀ i, ¬ kFr i → co9 i = co i := fun i hi => h i (by unfold kFr at hi; omega)
  exact ⟨(h _ (by decide)).trans w0, (h _ (by decide)).trans w1, (h _ (by decide)).trans w2, (h _ (by decide)).trans w3, (h _ (by decide)).trans w4, (h _ (by decide)).trans w5, (h _ (by decide)).trans w6, (h _ (by decide)).trans w25, (h _ (by decide)).trans w26, (h _ (by decide)).trans w27, (h _ (by decide)).trans w28, (h _ (by decide)).trans w29, (h _ (by decide)).trans w30, (h _ (by decide)).trans w31, (h _ (by decide)).trans w32, (h _ (by decide)).trans w33, (h _ (by decide)).trans w34, kSt_tr h9 k1, kSc_tr ha h9 k2, kTb_tr ha h9 k3, kLt_tr h9 k4⟩
theorem mOS_tr {cI cJ : ClassId} {ad : Nat → Nat} {co co9 : Nat → va_E} {a : Nat} {S : lSt} (h : ∀ i, 400 ≤ i → co9 i = co i) (hm : mOS cI cJ ad co a S) : mOS cI cJ ad co9 a S := by
  obtain ⟨w400, w405, w406, w407, w408, w409, w410, w411, w412, w413, w414, w415, w416, w417, w418, w419, ⟨fm, fs, w401, w402, hmv, hsp⟩, om, os, so, lg, sc, lc, f0, g0, fd, w403, w404, w420, w421, w422, w423, w424, w425, w426⟩ := hm
  exact ⟨(h _ (by decide)).trans w400, (h _ (by decide)).trans w405, (h _ (by decide)).trans w406, (h _ (by decide)).trans w407, (h _ (by decide)).trans w408, (h _ (by decide)).trans w409, (h _ (by decide)).trans w410, (h _ (by decide)).trans w411, (h _ (by decide)).trans w412, (h _ (by decide)).trans w413, (h _ (by decide)).trans w414, (h _ (by decide)).trans w415, (h _ (by decide)).trans w416, (h _ (by decide)).trans w417, (h _ (by decide)).trans w418, (h _ (by decide)).trans w419, ⟨fm, fs, (h _ (by decide)).trans w401, (h _ (by decide)).trans w402, hmv, hsp⟩, om, os, so, lg, sc, lc, f0, g0, fd, (h _ (by decide)).trans w403, (h _ (by decide)).trans w404, (h _ (by decide)).trans w420, (h _ (by decide)).trans w421, (h _ (by decide)).trans w422, (h _ (by decide)).trans w423, (h _ (by decide)).trans w424, (h _ (by decide)).trans w425, (h _ (by decide)).trans w426⟩
theorem lw_in {x : Int32} {n : Nat} (hn : n < 2 ^ 31) (h : inB x n = true) : x.toNatClampNeg < n ∧ x = nI x.toNatClampNeg := by
  obtain ⟨j, hj, rfl⟩ := inB_of hn h
  rw [nI_clamp (by omega)]
  exact ⟨hj, rfl⟩
theorem lw_and {p q : Bool} : (p && q) = true ↔ p = true ∧ q = true := Bool.and_eq_true_iff
def nMove (a : Nat) (S : lSt) (x y c : Int32) : lSt := if okMove a x y c then lMk S.n S.sh S.pg S.ce S.mg S.kn S.cs S.sm (fun i j => if i = x.toNatClampNeg ∧ j = y.toNatClampNeg then c.toNatClampNeg else S.mv i j) S.sp S.sec S.cls S.trn S.shp S.tr S.cl S.pf S.pt S.pa S.cr S.cx S.cy S.ct S.ln S.nx S.su else S
def nSpeed (a : Nat) (S : lSt) (x y c : Int32) : lSt := if okSpeed a x y c then lMk S.n S.sh S.pg S.ce S.mg S.kn S.cs S.sm S.mv (fun i j => if i = x.toNatClampNeg ∧ j = y.toNatClampNeg then c.toNatClampNeg else S.sp i j) S.sec S.cls S.trn S.shp S.tr S.cl S.pf S.pt S.pa S.cr S.cx S.cy S.ct S.ln S.nx S.su else S
def nRow (S : lSt) (x : Int64) (y z : Int32) : lSt := if okRow S.n S.sec x y z then lMk (S.n + 1) S.sh S.pg S.ce S.mg S.kn S.cs S.sm S.mv S.sp (vp_updL S.sec S.n x) (upd S.cls S.n y) (upd S.trn S.n z) (upd S.shp S.n (nI S.sh)) (upd S.tr S.n (-1)) (fun k => if k = S.n then y.toNatClampNeg else S.cl k) S.pf S.pt S.pa S.cr S.cx S.cy S.ct S.ln S.nx S.su else S
def nShip (S : lSt) (x : Int32) : lSt := if inB x 10 then lMk S.n (x.toNatClampNeg) S.pg S.ce S.mg S.kn S.cs S.sm S.mv S.sp S.sec S.cls S.trn S.shp S.tr S.cl S.pf S.pt S.pa S.cr S.cx S.cy S.ct S.ln S.nx S.su else S
def nMargin (S : lSt) (x : Int32) : lSt := if inB x 100001 then lMk S.n S.sh S.pg S.ce (x.toNatClampNeg) S.kn S.cs S.sm S.mv S.sp S.sec S.cls S.trn S.shp S.tr S.cl S.pf S.pt S.pa S.cr S.cx S.cy S.ct S.ln S.nx S.su else S
def nTruth (a : Nat) (S : lSt) (x y : Int32) : lSt := if okTruth S.n a x y then lMk S.n S.sh S.pg S.ce S.mg S.kn S.cs S.sm S.mv S.sp S.sec S.cls S.trn S.shp (upd S.tr x.toNatClampNeg y) S.cl S.pf S.pt S.pa S.cr S.cx S.cy S.ct S.ln S.nx S.su else S
def nPage (a : Nat) (S : lSt) (x y : Int64) (z : Int32) : lSt := if okPage a S.pg x y z then lMk S.n S.sh (S.pg + 1) S.ce S.mg S.kn S.cs S.sm S.mv S.sp S.sec S.cls S.trn S.shp S.tr S.cl (vp_updL S.pf S.pg x) (vp_updL S.pt S.pg y) (upd S.pa S.pg z) S.cr S.cx S.cy S.ct S.ln S.nx S.su else S
def nCell (S : lSt) (k x y : Int32) (z : Int64) : lSt := if okCell S.n S.ce k x y z then lMk S.n S.sh S.pg (S.ce + 1) S.mg S.kn S.cs S.sm S.mv S.sp S.sec S.cls S.trn S.shp S.tr S.cl S.pf S.pt S.pa (upd S.cr S.ce k) (upd S.cx S.ce x) (upd S.cy S.ce y) (vp_updL S.ct S.ce z) S.ln S.nx S.su else S
def nRun (a : Nat) (S : lSt) : lSt := if S.n = 0 then S else lMk S.n S.sh S.pg S.ce S.mg (S.n) (bcs a (alw S.tr S.shp (-1)) S.cl S.mv S.sp S.n) S.sm S.mv S.sp S.sec S.cls S.trn S.shp S.tr S.cl S.pf S.pt S.pa S.cr S.cx S.cy S.ct (fun j => if j < S.n then nI (bln a (alw S.tr S.shp (-1)) S.cl S.mv S.sp S.n j) else S.ln j) (fun j => if j < S.n then nxt a (alw S.tr S.shp (-1)) S.cl S.mv S.sp S.n S.tr j else S.nx j) S.su
def vRun (a : Nat) (S : lSt) : Int32 := if S.n = 0 then -1 else nI (bcs a (alw S.tr S.shp (-1)) S.cl S.mv S.sp S.n)
def lJ (a : Nat) (S : lSt) (x : Int32) : Nat := fitN (fkp a (alw S.tr S.shp (-1)) S.cl S.n S.mv S.sp) x.toNatClampNeg 0
def nFit (a : Nat) (S : lSt) (x : Int32) : lSt := if x < nI 1 ∨ nI 20 < x ∨ S.n = 0 then S else lMk S.n S.sh S.pg S.ce S.mg (S.n) (fcs a (alw S.tr S.shp (-1)) S.cl S.n S.mv S.sp (lJ a S x)) (lJ a S x + 1) ((fitQ a (alw S.tr S.shp (-1)) S.cl S.n S.mv S.sp (lJ a S x)).1) ((fitQ a (alw S.tr S.shp (-1)) S.cl S.n S.mv S.sp (lJ a S x)).2) S.sec S.cls S.trn S.shp S.tr S.cl S.pf S.pt S.pa S.cr S.cx S.cy S.ct (fun i => if i < S.n then nI (bln a (alw S.tr S.shp (-1)) S.cl (fitQ a (alw S.tr S.shp (-1)) S.cl S.n S.mv S.sp (lJ a S x)).1 (fitQ a (alw S.tr S.shp (-1)) S.cl S.n S.mv S.sp (lJ a S x)).2 S.n i) else S.ln i) (fun i => if i < S.n then nxt a (alw S.tr S.shp (-1)) S.cl (fitQ a (alw S.tr S.shp (-1)) S.cl S.n S.mv S.sp (lJ a S x)).1 (fitQ a (alw S.tr S.shp (-1)) S.cl S.n S.mv S.sp (lJ a S x)).2 S.n S.tr i else S.nx i) (fun i => if i ≤ lJ a S x then (nI (fcs a (alw S.tr S.shp (-1)) S.cl S.n S.mv S.sp i)).toInt64 else S.su i)
def vFit (a : Nat) (S : lSt) (x : Int32) : Int32 := if x < nI 1 ∨ nI 20 < x ∨ S.n = 0 then -1 else nI (lJ a S x)
def vLeft (a : Nat) (S : lSt) (w : Int32) : Int32 := if cntF (fun k => decide (S.shp k = w) && decide (¬ S.tr k = -1)) S.n = 0 then -1 else nI (1000 * cntF (fun k => decide (S.shp k = w) && decide (¬ S.tr k = -1) && decide (¬ S.tr k = nI (bln a (alw S.tr S.shp w) S.cl S.mv S.sp S.n k))) S.n / cntF (fun k => decide (S.shp k = w) && decide (¬ S.tr k = -1)) S.n)
theorem ok_Move {a : Nat} {S : lSt} (h : lOk a S) (x y c : Int32) : lOk a (nMove a S x y c) := by
  unfold nMove
  by_cases hc : okMove a x y c = true
  · rw [if_pos hc]
    obtain ⟨-, h3⟩ := lw_and.mp hc
    have h4 := (lw_in (by decide) h3).1
    refine ⟨h.a1, h.a2, h.n2, h.pg2, h.ce2, h.kn2, h.cs2, h.sm2, h.sh2, h.cl2, h.shp2, h.tr2, fun i j hi hj => ?_, h.sp2, h.cr2⟩
    show (if i = x.toNatClampNeg ∧ j = y.toNatClampNeg then c.toNatClampNeg else S.mv i j) ≤ 10000
    split
    · omega
    · exact h.mv2 i j hi hj
  · rw [if_neg hc]
    exact h
theorem ok_Speed {a : Nat} {S : lSt} (h : lOk a S) (x y c : Int32) : lOk a (nSpeed a S x y c) := by
  unfold nSpeed
  by_cases hc : okSpeed a x y c = true
  · rw [if_pos hc]
    obtain ⟨-, h3⟩ := lw_and.mp hc
    have h4 := (lw_in (by decide) h3).1
    refine ⟨h.a1, h.a2, h.n2, h.pg2, h.ce2, h.kn2, h.cs2, h.sm2, h.sh2, h.cl2, h.shp2, h.tr2, h.mv2, fun i j hi hj => ?_, h.cr2⟩
    show (if i = x.toNatClampNeg ∧ j = y.toNatClampNeg then c.toNatClampNeg else S.sp i j) ≤ 10000
    split
    · omega
    · exact h.sp2 i j hi hj
  · rw [if_neg hc]
    exact h
theorem ok_Ship {a : Nat} {S : lSt} (h : lOk a S) (x : Int32) : lOk a (nShip S x) := by
  unfold nShip
  by_cases hc : inB x 10 = true
  · rw [if_pos hc]
    exact ⟨h.a1, h.a2, h.n2, h.pg2, h.ce2, h.kn2, h.cs2, h.sm2, (lw_in (by decide) hc).1, h.cl2, h.shp2, h.tr2, h.mv2, h.sp2, h.cr2⟩
  · rw [if_neg hc]
    exact h
theorem ok_Margin {a : Nat} {S : lSt} (h : lOk a S) (x : Int32) : lOk a (nMargin S x) := by
  unfold nMargin
  by_cases hc : inB x 100001 = true
  · rw [if_pos hc]
    exact ⟨h.a1, h.a2, h.n2, h.pg2, h.ce2, h.kn2, h.cs2, h.sm2, h.sh2, h.cl2, h.shp2, h.tr2, h.mv2, h.sp2, h.cr2⟩
  · rw [if_neg hc]
    exact h
theorem ok_Truth {a : Nat} {S : lSt} (h : lOk a S) (x y : Int32) : lOk a (nTruth a S x y) := by
  unfold nTruth
  by_cases hc : okTruth S.n a x y = true
  · rw [if_pos hc]
    obtain ⟨h1, h2⟩ := lw_and.mp hc
    have ha := h.a2
    have h3 := lw_in (by omega) h2
    refine ⟨h.a1, h.a2, h.n2, h.pg2, h.ce2, h.kn2, h.cs2, h.sm2, h.sh2, h.cl2, h.shp2, fun k hk => ?_, h.mv2, h.sp2, h.cr2⟩
    show (if k = x.toNatClampNeg then y else S.tr k) = -1 ∨ ∃ b, b < a ∧ (if k = x.toNatClampNeg then y else S.tr k) = nI b
    split
    · exact Or.inr ⟨_, h3.1, h3.2⟩
    · exact h.tr2 k hk
  · rw [if_neg hc]
    exact h
theorem ok_Row {a : Nat} {S : lSt} (h : lOk a S) (x : Int64) (y z : Int32) : lOk a (nRow S x y z) := by
  unfold nRow
  by_cases hc : okRow S.n S.sec x y z = true
  · rw [if_pos hc]
    obtain ⟨h1, h5⟩ := lw_and.mp hc
    obtain ⟨h1, h4⟩ := lw_and.mp h1
    obtain ⟨h1, h3⟩ := lw_and.mp h1
    obtain ⟨h1, h2⟩ := lw_and.mp h1
    have hn : S.n < 200 := of_decide_eq_true h1
    have hy := lw_in (by decide) h4
    refine ⟨h.a1, h.a2, hn, h.pg2, h.ce2, h.kn2, h.cs2, h.sm2, h.sh2, fun k hk => ?_, fun k hk => ?_, fun k hk => ?_, h.mv2, h.sp2, h.cr2⟩
    · show (if k = S.n then y else S.cls k) = nI (if k = S.n then y.toNatClampNeg else S.cl k) ∧ (if k = S.n then y.toNatClampNeg else S.cl k) < 10
      by_cases hq : k = S.n
      · rw [if_pos hq, if_pos hq]
        exact ⟨hy.2, hy.1⟩
      · rw [if_neg hq, if_neg hq]
        exact h.cl2 k (Nat.lt_of_le_of_ne (Nat.le_of_lt_succ hk) hq)
    · show (if k = S.n then nI S.sh else S.shp k) ≠ -1
      by_cases hq : k = S.n
      · rw [if_pos hq]
        exact nI_ne_m1 (Nat.lt_trans h.sh2 (by decide))
      · rw [if_neg hq]
        exact h.shp2 k (Nat.lt_of_le_of_ne (Nat.le_of_lt_succ hk) hq)
    · show (if k = S.n then -1 else S.tr k) = -1 ∨ ∃ b, b < a ∧ (if k = S.n then -1 else S.tr k) = nI b
      by_cases hq : k = S.n
      · rw [if_pos hq]
        exact Or.inl rfl
      · rw [if_neg hq]
        exact h.tr2 k (Nat.lt_of_le_of_ne (Nat.le_of_lt_succ hk) hq)
  · rw [if_neg hc]
    exact h
theorem ok_Page {a : Nat} {S : lSt} (h : lOk a S) (x y : Int64) (z : Int32) : lOk a (nPage a S x y z) := by
  unfold nPage
  by_cases hc : okPage a S.pg x y z = true
  · rw [if_pos hc]
    obtain ⟨-, h5⟩ := lw_and.mp hc
    exact ⟨h.a1, h.a2, h.n2, of_decide_eq_true h5, h.ce2, h.kn2, h.cs2, h.sm2, h.sh2, h.cl2, h.shp2, h.tr2, h.mv2, h.sp2, h.cr2⟩
  · rw [if_neg hc]
    exact h
theorem ok_Cell {a : Nat} {S : lSt} (h : lOk a S) (k x y : Int32) (z : Int64) : lOk a (nCell S k x y z) := by
  unfold nCell
  by_cases hc : okCell S.n S.ce k x y z = true
  · rw [if_pos hc]
    obtain ⟨h1, h6⟩ := lw_and.mp hc
    obtain ⟨h1, h5⟩ := lw_and.mp h1
    obtain ⟨h1, h4⟩ := lw_and.mp h1
    obtain ⟨h1, h3⟩ := lw_and.mp h1
    obtain ⟨h1, h2⟩ := lw_and.mp h1
    have hn := h.n2
    have hy := lw_in (by omega) h1
    refine ⟨h.a1, h.a2, h.n2, h.pg2, of_decide_eq_true h6, h.kn2, h.cs2, h.sm2, h.sh2, h.cl2, h.shp2, h.tr2, h.mv2, h.sp2, fun i hi => ?_⟩
    show ∃ r, (if i = S.ce then k else S.cr i) = nI r ∧ r < 200
    by_cases hq : i = S.ce
    · rw [if_pos hq]
      exact ⟨_, hy.2, by omega⟩
    · rw [if_neg hq]
      exact h.cr2 i (Nat.lt_of_le_of_ne (Nat.le_of_lt_succ hi) hq)
  · rw [if_neg hc]
    exact h
theorem ok_Run {a : Nat} {S : lSt} (h : lOk a S) : lOk a (nRun a S) := by
  unfold nRun
  by_cases hc : S.n = 0
  · rw [if_pos hc]
    exact h
  · rw [if_neg hc]
    have hb := bcs_le (h.okN (-1) (Nat.pos_of_ne_zero hc))
    exact ⟨h.a1, h.a2, h.n2, h.pg2, h.ce2, h.n2, Nat.lt_of_le_of_lt hb (by decide), h.sm2, h.sh2, h.cl2, h.shp2, h.tr2, h.mv2, h.sp2, h.cr2⟩
theorem fitQ_b {a : Nat} {al : Nat → Nat → Bool} {cl : Nat → Nat} {n : Nat} {mv sp : Nat → Nat → Nat} (h1 : ∀ i j, i < a → j < a → mv i j ≤ 10000) (h2 : ∀ i c, i < a → c < 10 → sp i c ≤ 10000) : ∀ j, (∀ i k, i < a → k < a → (fitQ a al cl n mv sp j).1 i k ≤ 10000) ∧ ∀ i c, i < a → c < 10 → (fitQ a al cl n mv sp j).2 i c ≤ 10000
  | 0 => ⟨h1, h2⟩
  | j + 1 => by
    have ih := fitQ_b (al := al) (cl := cl) (n := n) h1 h2 j
    refine ⟨fun b c hb hc => ?_, fun b c hb hc => ?_⟩
    · have h1 := ih.1 b c hb hc
      show ftm _ n _ b c ≤ 10000
      unfold ftm
      split
      · exact h1
      · exact Nat.le_trans (fit_le _ _) (by decide)
    · have h1 := ih.2 b c hb hc
      show fts _ cl n _ b c ≤ 10000
      unfold fts
      split
      · exact h1
      · exact Nat.le_trans (fit_le _ _) (by decide)
theorem lJ_le {a : Nat} {S : lSt} {x : Int32} (h : ¬ refF x S.n) : 0 < S.n ∧ lJ a S x ≤ 20 := by
  have h1 : ¬ x < nI 1 := fun q => h (Or.inl q)
  have h2 : ¬ nI 20 < x := fun q => h (Or.inr (Or.inl q))
  have h3 : ¬ S.n = 0 := fun q => h (Or.inr (Or.inr q))
  obtain ⟨j, hj1, hj2, rfl⟩ := fit_ge1 h1
  have h4 : j ≤ 20 := Nat.not_lt.mp (fun q => h2 ((nI_ltI (by omega) hj2).mpr q))
  refine ⟨Nat.pos_of_ne_zero h3, ?_⟩
  unfold lJ
  rw [nI_clamp hj2]
  have := (fitN_ge (p := fkp a (alw S.tr S.shp (-1)) S.cl S.n S.mv S.sp) (r := j) (j := 0)).2
  omega
theorem ok_Fit {a : Nat} {S : lSt} (h : lOk a S) (x : Int32) : lOk a (nFit a S x) := by
  unfold nFit
  by_cases hc : x < nI 1 ∨ nI 20 < x ∨ S.n = 0
  · rw [if_pos hc]
    exact h
  · rw [if_neg hc]
    obtain ⟨hn, hJ⟩ := lJ_le (a := a) hc
    have hb := bcs_le (fitQ_ok (h.okN (-1) hn) (lJ a S x))
    have hq := fitQ_b (al := alw S.tr S.shp (-1)) (cl := S.cl) (n := S.n) h.mv2 h.sp2 (lJ a S x)
    exact ⟨h.a1, h.a2, h.n2, h.pg2, h.ce2, h.n2, Nat.lt_of_le_of_lt hb (by decide), Nat.succ_le_succ hJ, h.sh2, h.cl2, h.shp2, h.tr2, hq.1, hq.2, h.cr2⟩
theorem lw_s1 (J : Nat) : nI (J + 1) - nI 1 = nI J := by
  rw [← nI_1 J]
  have h : nI 1 = 1 := by decide
  rw [h]
  exact Int32.add_sub_cancel _ _
theorem kp_ship {cI cJ cG : ClassId} {ad : Nat → Nat} {co co9 : Nat → va_E} {a : Nat} {S : lSt} (hl : lOk a S) (hk : kOS cI cJ cG ad co a S) (x : Int32) {r : Int32} (hp : r = bI (inB x 10) ∧ co9 = if inB x 10 then va_up co 0 (oK ad a (nI S.sm - nI 1) (x.toNatClampNeg) S.mg) else co) : r = bI (inB x 10) ∧ kOS cI cJ cG ad co9 a (nShip S x) ∧ ∀ i, 400 ≤ i → co9 i = co i := by
  obtain ⟨rfl, rfl⟩ := hp
  refine ⟨rfl, ?_⟩
  unfold nShip
  by_cases hc : inB x 10 = true
  · rw [if_pos hc, if_pos hc]
    obtain ⟨w0, w1, w2, w3, w4, w5, w6, w25, w26, w27, w28, w29, w30, w31, w32, w33, w34, k1, k2, k3, k4⟩ := hk
    have h9 : ∀ i, ¬ kFr i → (va_up co 0 (oK ad a (nI S.sm - nI 1) (x.toNatClampNeg) S.mg)) i = co i := (upx (fun _ _ => rfl) (by unfold kFr; decide))
    exact ⟨⟨(va_up_self _ _ _), ((va_up_ne _ _ (by decide)).trans w1), ((va_up_ne _ _ (by decide)).trans w2), ((va_up_ne _ _ (by decide)).trans w3), ((va_up_ne _ _ (by decide)).trans w4), ((va_up_ne _ _ (by decide)).trans w5), ((va_up_ne _ _ (by decide)).trans w6), ((va_up_ne _ _ (by decide)).trans w25), ((va_up_ne _ _ (by decide)).trans w26), ((va_up_ne _ _ (by decide)).trans w27), ((va_up_ne _ _ (by decide)).trans w28), ((va_up_ne _ _ (by decide)).trans w29), ((va_up_ne _ _ (by decide)).trans w30), ((va_up_ne _ _ (by decide)).trans w31), ((va_up_ne _ _ (by decide)).trans w32), ((va_up_ne _ _ (by decide)).trans w33), ((va_up_ne _ _ (by decide)).trans w34), kSt_tr h9 k1, kSc_tr hl.a2 h9 k2, kTb_tr hl.a2 h9 k3, kLt_tr h9 k4⟩, fun i hi => ((va_up_ne _ _ (by omega)).trans rfl)⟩
  · rw [if_neg hc, if_neg hc]
    exact ⟨hk, fun i hi => rfl⟩
theorem mp_ship {cI cJ : ClassId} {ad : Nat → Nat} {co co9 : Nat → va_E} {a : Nat} {S : lSt} (hl : lOk a S) (hm : mOS cI cJ ad co a S) (x : Int32) {r : Int32} (hp : r = bI (inB x 10) ∧ co9 = if inB x 10 then va_up co 400 (mO ad a S.n (x.toNatClampNeg) S.pg S.ce S.mg S.kn S.cs S.sm) else co) : r = bI (inB x 10) ∧ mOS cI cJ ad co9 a (nShip S x) ∧ ∀ i, i < 400 → co9 i = co i := by
  obtain ⟨rfl, rfl⟩ := hp
  refine ⟨rfl, ?_⟩
  unfold nShip
  by_cases hc : inB x 10 = true
  · rw [if_pos hc, if_pos hc]
    obtain ⟨w400, w405, w406, w407, w408, w409, w410, w411, w412, w413, w414, w415, w416, w417, w418, w419, ⟨fm, fs, w401, w402, hmv, hsp⟩, om, os, so, lg, sc, lc, f0, g0, fd, w403, w404, w420, w421, w422, w423, w424, w425, w426⟩ := hm
    exact ⟨⟨(va_up_self _ _ _), ((va_up_ne _ _ (by decide)).trans w405), ((va_up_ne _ _ (by decide)).trans w406), ((va_up_ne _ _ (by decide)).trans w407), ((va_up_ne _ _ (by decide)).trans w408), ((va_up_ne _ _ (by decide)).trans w409), ((va_up_ne _ _ (by decide)).trans w410), ((va_up_ne _ _ (by decide)).trans w411), ((va_up_ne _ _ (by decide)).trans w412), ((va_up_ne _ _ (by decide)).trans w413), ((va_up_ne _ _ (by decide)).trans w414), ((va_up_ne _ _ (by decide)).trans w415), ((va_up_ne _ _ (by decide)).trans w416), ((va_up_ne _ _ (by decide)).trans w417), ((va_up_ne _ _ (by decide)).trans w418), ((va_up_ne _ _ (by decide)).trans w419), ⟨fm, fs, ((va_up_ne _ _ (by decide)).trans w401), ((va_up_ne _ _ (by decide)).trans w402), hmv, hsp⟩, om, os, so, lg, sc, lc, f0, g0, fd, ((va_up_ne _ _ (by decide)).trans w403), ((va_up_ne _ _ (by decide)).trans w404), ((va_up_ne _ _ (by decide)).trans w420), ((va_up_ne _ _ (by decide)).trans w421), ((va_up_ne _ _ (by decide)).trans w422), ((va_up_ne _ _ (by decide)).trans w423), ((va_up_ne _ _ (by decide)).trans w424), ((va_up_ne _ _ (by decide)).trans w425), ((va_up_ne _ _ (by decide)).trans w426)⟩, fun i hi => ((va_up_ne _ _ (by omega)).trans rfl)⟩
  · rw [if_neg hc, if_neg hc]
    exact ⟨hm, fun i hi => rfl⟩
theorem kp_margin {cI cJ cG : ClassId} {ad : Nat → Nat} {co co9 : Nat → va_E} {a : Nat} {S : lSt} (hl : lOk a S) (hk : kOS cI cJ cG ad co a S) (x : Int32) {r : Int32} (hp : r = bI (inB x 100001) ∧ co9 = if inB x 100001 then va_up co 0 (oK ad a (nI S.sm - nI 1) S.sh (x.toNatClampNeg)) else co) : r = bI (inB x 100001) ∧ kOS cI cJ cG ad co9 a (nMargin S x) ∧ ∀ i, 400 ≤ i → co9 i = co i := by
  obtain ⟨rfl, rfl⟩ := hp
  refine ⟨rfl, ?_⟩
  unfold nMargin
  by_cases hc : inB x 100001 = true
  · rw [if_pos hc, if_pos hc]
    obtain ⟨w0, w1, w2, w3, w4, w5, w6, w25, w26, w27, w28, w29, w30, w31, w32, w33, w34, k1, k2, k3, k4⟩ := hk
    have h9 : ∀ i, ¬ kFr i → (va_up co 0 (oK ad a (nI S.sm - nI 1) S.sh (x.toNatClampNeg))) i = co i := (upx (fun _ _ => rfl) (by unfold kFr; decide))
    exact ⟨⟨(va_up_self _ _ _), ((va_up_ne _ _ (by decide)).trans w1), ((va_up_ne _ _ (by decide)).trans w2), ((va_up_ne _ _ (by decide)).trans w3), ((va_up_ne _ _ (by decide)).trans w4), ((va_up_ne _ _ (by decide)).trans w5), ((va_up_ne _ _ (by decide)).trans w6), ((va_up_ne _ _ (by decide)).trans w25), ((va_up_ne _ _ (by decide)).trans w26), ((va_up_ne _ _ (by decide)).trans w27), ((va_up_ne _ _ (by decide)).trans w28), ((va_up_ne _ _ (by decide)).trans w29), ((va_up_ne _ _ (by decide)).trans w30), ((va_up_ne _ _ (by decide)).trans w31), ((va_up_ne _ _ (by decide)).trans w32), ((va_up_ne _ _ (by decide)).trans w33), ((va_up_ne _ _ (by decide)).trans w34), kSt_tr h9 k1, kSc_tr hl.a2 h9 k2, kTb_tr hl.a2 h9 k3, kLt_tr h9 k4⟩, fun i hi => ((va_up_ne _ _ (by omega)).trans rfl)⟩
  · rw [if_neg hc, if_neg hc]
    exact ⟨hk, fun i hi => rfl⟩
theorem mp_margin {cI cJ : ClassId} {ad : Nat → Nat} {co co9 : Nat → va_E} {a : Nat} {S : lSt} (hl : lOk a S) (hm : mOS cI cJ ad co a S) (x : Int32) {r : Int32} (hp : r = bI (inB x 100001) ∧ co9 = if inB x 100001 then va_up co 400 (mO ad a S.n S.sh S.pg S.ce (x.toNatClampNeg) S.kn S.cs S.sm) else co) : r = bI (inB x 100001) ∧ mOS cI cJ ad co9 a (nMargin S x) ∧ ∀ i, i < 400 → co9 i = co i := by
  obtain ⟨rfl, rfl⟩ := hp
  refine ⟨rfl, ?_⟩
  unfold nMargin
  by_cases hc : inB x 100001 = true
  · rw [if_pos hc, if_pos hc]
    obtain ⟨w400, w405, w406, w407, w408, w409, w410, w411, w412, w413, w414, w415, w416, w417, w418, w419, ⟨fm, fs, w401, w402, hmv, hsp⟩, om, os, so, lg, sc, lc, f0, g0, fd, w403, w404, w420, w421, w422, w423, w424, w425, w426⟩ := hm
    exact ⟨⟨(va_up_self _ _ _), ((va_up_ne _ _ (by decide)).trans w405), ((va_up_ne _ _ (by decide)).trans w406), ((va_up_ne _ _ (by decide)).trans w407), ((va_up_ne _ _ (by decide)).trans w408), ((va_up_ne _ _ (by decide)).trans w409), ((va_up_ne _ _ (by decide)).trans w410), ((va_up_ne _ _ (by decide)).trans w411), ((va_up_ne _ _ (by decide)).trans w412), ((va_up_ne _ _ (by decide)).trans w413), ((va_up_ne _ _ (by decide)).trans w414), ((va_up_ne _ _ (by decide)).trans w415), ((va_up_ne _ _ (by decide)).trans w416), ((va_up_ne _ _ (by decide)).trans w417), ((va_up_ne _ _ (by decide)).trans w418), ((va_up_ne _ _ (by decide)).trans w419), ⟨fm, fs, ((va_up_ne _ _ (by decide)).trans w401), ((va_up_ne _ _ (by decide)).trans w402), hmv, hsp⟩, om, os, so, lg, sc, lc, f0, g0, fd, ((va_up_ne _ _ (by decide)).trans w403), ((va_up_ne _ _ (by decide)).trans w404), ((va_up_ne _ _ (by decide)).trans w420), ((va_up_ne _ _ (by decide)).trans w421), ((va_up_ne _ _ (by decide)).trans w422), ((va_up_ne _ _ (by decide)).trans w423), ((va_up_ne _ _ (by decide)).trans w424), ((va_up_ne _ _ (by decide)).trans w425), ((va_up_ne _ _ (by decide)).trans w426)⟩, fun i hi => ((va_up_ne _ _ (by omega)).trans rfl)⟩
  · rw [if_neg hc, if_neg hc]
    exact ⟨hm, fun i hi => rfl⟩
theorem kp_truth {cI cJ cG : ClassId} {ad : Nat → Nat} {co co9 : Nat → va_E} {a : Nat} {S : lSt} (hl : lOk a S) (hk : kOS cI cJ cG ad co a S) (x y : Int32) {r : Int32} (hp : r = bI (okTruth S.n a x y) ∧ co9 = if okTruth S.n a x y then va_up co 6 (.inl (cI, 200, .inl (upd S.tr x.toNatClampNeg y))) else co) : r = bI (okTruth S.n a x y) ∧ kOS cI cJ cG ad co9 a (nTruth a S x y) ∧ ∀ i, 400 ≤ i → co9 i = co i := by
  obtain ⟨rfl, rfl⟩ := hp
  refine ⟨rfl, ?_⟩
  unfold nTruth
  by_cases hc : okTruth S.n a x y = true
  · rw [if_pos hc, if_pos hc]
    obtain ⟨w0, w1, w2, w3, w4, w5, w6, w25, w26, w27, w28, w29, w30, w31, w32, w33, w34, k1, k2, k3, k4⟩ := hk
    have h9 : ∀ i, ¬ kFr i → (va_up co 6 (.inl (cI, 200, .inl (upd S.tr x.toNatClampNeg y)))) i = co i := (upx (fun _ _ => rfl) (by unfold kFr; decide))
    exact ⟨⟨((va_up_ne _ _ (by decide)).trans w0), ((va_up_ne _ _ (by decide)).trans w1), ((va_up_ne _ _ (by decide)).trans w2), ((va_up_ne _ _ (by decide)).trans w3), ((va_up_ne _ _ (by decide)).trans w4), ((va_up_ne _ _ (by decide)).trans w5), (va_up_self _ _ _), ((va_up_ne _ _ (by decide)).trans w25), ((va_up_ne _ _ (by decide)).trans w26), ((va_up_ne _ _ (by decide)).trans w27), ((va_up_ne _ _ (by decide)).trans w28), ((va_up_ne _ _ (by decide)).trans w29), ((va_up_ne _ _ (by decide)).trans w30), ((va_up_ne _ _ (by decide)).trans w31), ((va_up_ne _ _ (by decide)).trans w32), ((va_up_ne _ _ (by decide)).trans w33), ((va_up_ne _ _ (by decide)).trans w34), kSt_tr h9 k1, kSc_tr hl.a2 h9 k2, kTb_tr hl.a2 h9 k3, kLt_tr h9 k4⟩, fun i hi => ((va_up_ne _ _ (by omega)).trans rfl)⟩
  · rw [if_neg hc, if_neg hc]
    exact ⟨hk, fun i hi => rfl⟩
theorem mp_truth {cI cJ : ClassId} {ad : Nat → Nat} {co co9 : Nat → va_E} {a : Nat} {S : lSt} (hl : lOk a S) (hm : mOS cI cJ ad co a S) (x y : Int32) {r : Int32} (hp : r = bI (okTruth S.n a x y) ∧ co9 = if okTruth S.n a x y then va_up co 409 (.inl (cI, 200, .inl (upd S.tr x.toNatClampNeg y))) else co) : r = bI (okTruth S.n a x y) ∧ mOS cI cJ ad co9 a (nTruth a S x y) ∧ ∀ i, i < 400 → co9 i = co i := by
  obtain ⟨rfl, rfl⟩ := hp
  refine ⟨rfl, ?_⟩
  unfold nTruth
  by_cases hc : okTruth S.n a x y = true
  · rw [if_pos hc, if_pos hc]
    obtain ⟨w400, w405, w406, w407, w408, w409, w410, w411, w412, w413, w414, w415, w416, w417, w418, w419, ⟨fm, fs, w401, w402, hmv, hsp⟩, om, os, so, lg, sc, lc, f0, g0, fd, w403, w404, w420, w421, w422, w423, w424, w425, w426⟩ := hm
    exact ⟨⟨((va_up_ne _ _ (by decide)).trans w400), ((va_up_ne _ _ (by decide)).trans w405), ((va_up_ne _ _ (by decide)).trans w406), ((va_up_ne _ _ (by decide)).trans w407), ((va_up_ne _ _ (by decide)).trans w408), (va_up_self _ _ _), ((va_up_ne _ _ (by decide)).trans w410), ((va_up_ne _ _ (by decide)).trans w411), ((va_up_ne _ _ (by decide)).trans w412), ((va_up_ne _ _ (by decide)).trans w413), ((va_up_ne _ _ (by decide)).trans w414), ((va_up_ne _ _ (by decide)).trans w415), ((va_up_ne _ _ (by decide)).trans w416), ((va_up_ne _ _ (by decide)).trans w417), ((va_up_ne _ _ (by decide)).trans w418), ((va_up_ne _ _ (by decide)).trans w419), ⟨fm, fs, ((va_up_ne _ _ (by decide)).trans w401), ((va_up_ne _ _ (by decide)).trans w402), hmv, hsp⟩, om, os, so, lg, sc, lc, f0, g0, fd, ((va_up_ne _ _ (by decide)).trans w403), ((va_up_ne _ _ (by decide)).trans w404), ((va_up_ne _ _ (by decide)).trans w420), ((va_up_ne _ _ (by decide)).trans w421), ((va_up_ne _ _ (by decide)).trans w422), ((va_up_ne _ _ (by decide)).trans w423), ((va_up_ne _ _ (by decide)).trans w424), ((va_up_ne _ _ (by decide)).trans w425), ((va_up_ne _ _ (by decide)).trans w426)⟩, fun i hi => ((va_up_ne _ _ (by omega)).trans rfl)⟩
  · rw [if_neg hc, if_neg hc]
    exact ⟨hm, fun i hi => rfl⟩
theorem kp_row {cI cJ cG : ClassId} {ad : Nat → Nat} {co co9 : Nat → va_E} {a : Nat} {S : lSt} (hl : lOk a S) (hk : kOS cI cJ cG ad co a S) (x : Int64) (y z : Int32) {r : Int32} (hp : r = bI (okRow S.n S.sec x y z) ∧ co9 = if okRow S.n S.sec x y z then va_up (va_up (va_up (va_up (va_up (va_up co 2 (.inl (cJ, 200, .inr (.inl (vp_updL S.sec S.n x))))) 3 (.inl (cI, 200, .inl (upd S.cls S.n y)))) 4 (.inl (cI, 200, .inl (upd S.trn S.n z)))) 5 (.inl (cI, 200, .inl (upd S.shp S.n (nI S.sh))))) 6 (.inl (cI, 200, .inl (upd S.tr S.n (-1))))) 1 (oT ad (S.n + 1)) else co) : r = bI (okRow S.n S.sec x y z) ∧ kOS cI cJ cG ad co9 a (nRow S x y z) ∧ ∀ i, 400 ≤ i → co9 i = co i := by
  obtain ⟨rfl, rfl⟩ := hp
  refine ⟨rfl, ?_⟩
  unfold nRow
  by_cases hc : okRow S.n S.sec x y z = true
  · rw [if_pos hc, if_pos hc]
    obtain ⟨w0, w1, w2, w3, w4, w5, w6, w25, w26, w27, w28, w29, w30, w31, w32, w33, w34, k1, k2, k3, k4⟩ := hk
    have h9 : ∀ i, ¬ kFr i → (va_up (va_up (va_up (va_up (va_up (va_up co 2 (.inl (cJ, 200, .inr (.inl (vp_updL S.sec S.n x))))) 3 (.inl (cI, 200, .inl (upd S.cls S.n y)))) 4 (.inl (cI, 200, .inl (upd S.trn S.n z)))) 5 (.inl (cI, 200, .inl (upd S.shp S.n (nI S.sh))))) 6 (.inl (cI, 200, .inl (upd S.tr S.n (-1))))) 1 (oT ad (S.n + 1))) i = co i := (upx (upx (upx (upx (upx (upx (fun _ _ => rfl) (by unfold kFr; decide)) (by unfold kFr; decide)) (by unfold kFr; decide)) (by unfold kFr; decide)) (by unfold kFr; decide)) (by unfold kFr; decide))
    exact ⟨⟨((va_up_ne _ _ (by decide)).trans ((va_up_ne _ _ (by decide)).trans ((va_up_ne _ _ (by decide)).trans ((va_up_ne _ _ (by decide)).trans ((va_up_ne _ _ (by decide)).trans ((va_up_ne _ _ (by decide)).trans w0)))))), (va_up_self _ _ _), ((va_up_ne _ _ (by decide)).trans ((va_up_ne _ _ (by decide)).trans ((va_up_ne _ _ (by decide)).trans ((va_up_ne _ _ (by decide)).trans ((va_up_ne _ _ (by decide)).trans (va_up_self _ _ _)))))), ((va_up_ne _ _ (by decide)).trans ((va_up_ne _ _ (by decide)).trans ((va_up_ne _ _ (by decide)).trans ((va_up_ne _ _ (by decide)).trans (va_up_self _ _ _))))), ((va_up_ne _ _ (by decide)).trans ((va_up_ne _ _ (by decide)).trans ((va_up_ne _ _ (by decide)).trans (va_up_self _ _ _)))), ((va_up_ne _ _ (by decide)).trans ((va_up_ne _ _ (by decide)).trans (va_up_self _ _ _))), ((va_up_ne _ _ (by decide)).trans (va_up_self _ _ _)), ((va_up_ne _ _ (by decide)).trans ((va_up_ne _ _ (by decide)).trans ((va_up_ne _ _ (by decide)).trans ((va_up_ne _ _ (by decide)).trans ((va_up_ne _ _ (by decide)).trans ((va_up_ne _ _ (by decide)).trans w25)))))), ((va_up_ne _ _ (by decide)).trans ((va_up_ne _ _ (by decide)).trans ((va_up_ne _ _ (by decide)).trans ((va_up_ne _ _ (by decide)).trans ((va_up_ne _ _ (by decide)).trans ((va_up_ne _ _ (by decide)).trans w26)))))), ((va_up_ne _ _ (by decide)).trans ((va_up_ne _ _ (by decide)).trans ((va_up_ne _ _ (by decide)).trans ((va_up_ne _ _ (by decide)).trans ((va_up_ne _ _ (by decide)).trans ((va_up_ne _ _ (by decide)).trans w27)))))), ((va_up_ne _ _ (by decide)).trans ((va_up_ne _ _ (by decide)).trans ((va_up_ne _ _ (by decide)).trans ((va_up_ne _ _ (by decide)).trans ((va_up_ne _ _ (by decide)).trans ((va_up_ne _ _ (by decide)).trans w28)))))), ((va_up_ne _ _ (by decide)).trans ((va_up_ne _ _ (by decide)).trans ((va_up_ne _ _ (by decide)).trans ((va_up_ne _ _ (by decide)).trans ((va_up_ne _ _ (by decide)).trans ((va_up_ne _ _ (by decide)).trans w29)))))), ((va_up_ne _ _ (by decide)).trans ((va_up_ne _ _ (by decide)).trans ((va_up_ne _ _ (by decide)).trans ((va_up_ne _ _ (by decide)).trans ((va_up_ne _ _ (by decide)).trans ((va_up_ne _ _ (by decide)).trans w30)))))), ((va_up_ne _ _ (by decide)).trans ((va_up_ne _ _ (by decide)).trans ((va_up_ne _ _ (by decide)).trans ((va_up_ne _ _ (by decide)).trans ((va_up_ne _ _ (by decide)).trans ((va_up_ne _ _ (by decide)).trans w31)))))), ((va_up_ne _ _ (by decide)).trans ((va_up_ne _ _ (by decide)).trans ((va_up_ne _ _ (by decide)).trans ((va_up_ne _ _ (by decide)).trans ((va_up_ne _ _ (by decide)).trans ((va_up_ne _ _ (by decide)).trans w32)))))), ((va_up_ne _ _ (by decide)).trans ((va_up_ne _ _ (by decide)).trans ((va_up_ne _ _ (by decide)).trans ((va_up_ne _ _ (by decide)).trans ((va_up_ne _ _ (by decide)).trans ((va_up_ne _ _ (by decide)).trans w33)))))), ((va_up_ne _ _ (by decide)).trans ((va_up_ne _ _ (by decide)).trans ((va_up_ne _ _ (by decide)).trans ((va_up_ne _ _ (by decide)).trans ((va_up_ne _ _ (by decide)).trans ((va_up_ne _ _ (by decide)).trans w34)))))), kSt_tr h9 k1, kSc_tr hl.a2 h9 k2, kTb_tr hl.a2 h9 k3, kLt_tr h9 k4⟩, fun i hi => ((va_up_ne _ _ (by omega)).trans ((va_up_ne _ _ (by omega)).trans ((va_up_ne _ _ (by omega)).trans ((va_up_ne _ _ (by omega)).trans ((va_up_ne _ _ (by omega)).trans ((va_up_ne _ _ (by omega)).trans rfl))))))⟩
  · rw [if_neg hc, if_neg hc]
    exact ⟨hk, fun i hi => rfl⟩
theorem mp_row {cI cJ : ClassId} {ad : Nat → Nat} {co co9 : Nat → va_E} {a : Nat} {S : lSt} (hl : lOk a S) (hm : mOS cI cJ ad co a S) (x : Int64) (y z : Int32) {r : Int32} (hp : r = bI (okRow S.n S.sec x y z) ∧ co9 = if okRow S.n S.sec x y z then va_up (va_up (va_up (va_up (va_up (va_up co 405 (.inl (cJ, 200, .inr (.inl (vp_updL S.sec S.n x))))) 406 (.inl (cI, 200, .inl (upd S.cls S.n y)))) 407 (.inl (cI, 200, .inl (upd S.trn S.n z)))) 408 (.inl (cI, 200, .inl (upd S.shp S.n (nI S.sh))))) 409 (.inl (cI, 200, .inl (upd S.tr S.n (-1))))) 400 (mO ad a (S.n + 1) S.sh S.pg S.ce S.mg S.kn S.cs S.sm) else co) : r = bI (okRow S.n S.sec x y z) ∧ mOS cI cJ ad co9 a (nRow S x y z) ∧ ∀ i, i < 400 → co9 i = co i := by
  obtain ⟨rfl, rfl⟩ := hp
  refine ⟨rfl, ?_⟩
  unfold nRow
  by_cases hc : okRow S.n S.sec x y z = true
  · rw [if_pos hc, if_pos hc]
    obtain ⟨w400, w405, w406, w407, w408, w409, w410, w411, w412, w413, w414, w415, w416, w417, w418, w419, ⟨fm, fs, w401, w402, hmv, hsp⟩, om, os, so, lg, sc, lc, f0, g0, fd, w403, w404, w420, w421, w422, w423, w424, w425, w426⟩ := hm
    exact ⟨⟨(va_up_self _ _ _), ((va_up_ne _ _ (by decide)).trans ((va_up_ne _ _ (by decide)).trans ((va_up_ne _ _ (by decide)).trans ((va_up_ne _ _ (by decide)).trans ((va_up_ne _ _ (by decide)).trans (va_up_self _ _ _)))))), ((va_up_ne _ _ (by decide)).trans ((va_up_ne _ _ (by decide)).trans ((va_up_ne _ _ (by decide)).trans ((va_up_ne _ _ (by decide)).trans (va_up_self _ _ _))))), ((va_up_ne _ _ (by decide)).trans ((va_up_ne _ _ (by decide)).trans ((va_up_ne _ _ (by decide)).trans (va_up_self _ _ _)))), ((va_up_ne _ _ (by decide)).trans ((va_up_ne _ _ (by decide)).trans (va_up_self _ _ _))), ((va_up_ne _ _ (by decide)).trans (va_up_self _ _ _)), ((va_up_ne _ _ (by decide)).trans ((va_up_ne _ _ (by decide)).trans ((va_up_ne _ _ (by decide)).trans ((va_up_ne _ _ (by decide)).trans ((va_up_ne _ _ (by decide)).trans ((va_up_ne _ _ (by decide)).trans w410)))))), ((va_up_ne _ _ (by decide)).trans ((va_up_ne _ _ (by decide)).trans ((va_up_ne _ _ (by decide)).trans ((va_up_ne _ _ (by decide)).trans ((va_up_ne _ _ (by decide)).trans ((va_up_ne _ _ (by decide)).trans w411)))))), ((va_up_ne _ _ (by decide)).trans ((va_up_ne _ _ (by decide)).trans ((va_up_ne _ _ (by decide)).trans ((va_up_ne _ _ (by decide)).trans ((va_up_ne _ _ (by decide)).trans ((va_up_ne _ _ (by decide)).trans w412)))))), ((va_up_ne _ _ (by decide)).trans ((va_up_ne _ _ (by decide)).trans ((va_up_ne _ _ (by decide)).trans ((va_up_ne _ _ (by decide)).trans ((va_up_ne _ _ (by decide)).trans ((va_up_ne _ _ (by decide)).trans w413)))))), ((va_up_ne _ _ (by decide)).trans ((va_up_ne _ _ (by decide)).trans ((va_up_ne _ _ (by decide)).trans ((va_up_ne _ _ (by decide)).trans ((va_up_ne _ _ (by decide)).trans ((va_up_ne _ _ (by decide)).trans w414)))))), ((va_up_ne _ _ (by decide)).trans ((va_up_ne _ _ (by decide)).trans ((va_up_ne _ _ (by decide)).trans ((va_up_ne _ _ (by decide)).trans ((va_up_ne _ _ (by decide)).trans ((va_up_ne _ _ (by decide)).trans w415)))))), ((va_up_ne _ _ (by decide)).trans ((va_up_ne _ _ (by decide)).trans ((va_up_ne _ _ (by decide)).trans ((va_up_ne _ _ (by decide)).trans ((va_up_ne _ _ (by decide)).trans ((va_up_ne _ _ (by decide)).trans w416)))))), ((va_up_ne _ _ (by decide)).trans ((va_up_ne _ _ (by decide)).trans ((va_up_ne _ _ (by decide)).trans ((va_up_ne _ _ (by decide)).trans ((va_up_ne _ _ (by decide)).trans ((va_up_ne _ _ (by decide)).trans w417)))))), ((va_up_ne _ _ (by decide)).trans ((va_up_ne _ _ (by decide)).trans ((va_up_ne _ _ (by decide)).trans ((va_up_ne _ _ (by decide)).trans ((va_up_ne _ _ (by decide)).trans ((va_up_ne _ _ (by decide)).trans w418)))))), ((va_up_ne _ _ (by decide)).trans ((va_up_ne _ _ (by decide)).trans ((va_up_ne _ _ (by decide)).trans ((va_up_ne _ _ (by decide)).trans ((va_up_ne _ _ (by decide)).trans ((va_up_ne _ _ (by decide)).trans w419)))))), ⟨fm, fs, ((va_up_ne _ _ (by decide)).trans ((va_up_ne _ _ (by decide)).trans ((va_up_ne _ _ (by decide)).trans ((va_up_ne _ _ (by decide)).trans ((va_up_ne _ _ (by decide)).trans ((va_up_ne _ _ (by decide)).trans w401)))))), ((va_up_ne _ _ (by decide)).trans ((va_up_ne _ _ (by decide)).trans ((va_up_ne _ _ (by decide)).trans ((va_up_ne _ _ (by decide)).trans ((va_up_ne _ _ (by decide)).trans ((va_up_ne _ _ (by decide)).trans w402)))))), hmv, hsp⟩, om, os, so, lg, sc, lc, f0, g0, fd, ((va_up_ne _ _ (by decide)).trans ((va_up_ne _ _ (by decide)).trans ((va_up_ne _ _ (by decide)).trans ((va_up_ne _ _ (by decide)).trans ((va_up_ne _ _ (by decide)).trans ((va_up_ne _ _ (by decide)).trans w403)))))), ((va_up_ne _ _ (by decide)).trans ((va_up_ne _ _ (by decide)).trans ((va_up_ne _ _ (by decide)).trans ((va_up_ne _ _ (by decide)).trans ((va_up_ne _ _ (by decide)).trans ((va_up_ne _ _ (by decide)).trans w404)))))), ((va_up_ne _ _ (by decide)).trans ((va_up_ne _ _ (by decide)).trans ((va_up_ne _ _ (by decide)).trans ((va_up_ne _ _ (by decide)).trans ((va_up_ne _ _ (by decide)).trans ((va_up_ne _ _ (by decide)).trans w420)))))), ((va_up_ne _ _ (by decide)).trans ((va_up_ne _ _ (by decide)).trans ((va_up_ne _ _ (by decide)).trans ((va_up_ne _ _ (by decide)).trans ((va_up_ne _ _ (by decide)).trans ((va_up_ne _ _ (by decide)).trans w421)))))), ((va_up_ne _ _ (by decide)).trans ((va_up_ne _ _ (by decide)).trans ((va_up_ne _ _ (by decide)).trans ((va_up_ne _ _ (by decide)).trans ((va_up_ne _ _ (by decide)).trans ((va_up_ne _ _ (by decide)).trans w422)))))), ((va_up_ne _ _ (by decide)).trans ((va_up_ne _ _ (by decide)).trans ((va_up_ne _ _ (by decide)).trans ((va_up_ne _ _ (by decide)).trans ((va_up_ne _ _ (by decide)).trans ((va_up_ne _ _ (by decide)).trans w423)))))), ((va_up_ne _ _ (by decide)).trans ((va_up_ne _ _ (by decide)).trans ((va_up_ne _ _ (by decide)).trans ((va_up_ne _ _ (by decide)).trans ((va_up_ne _ _ (by decide)).trans ((va_up_ne _ _ (by decide)).trans w424)))))), ((va_up_ne _ _ (by decide)).trans ((va_up_ne _ _ (by decide)).trans ((va_up_ne _ _ (by decide)).trans ((va_up_ne _ _ (by decide)).trans ((va_up_ne _ _ (by decide)).trans ((va_up_ne _ _ (by decide)).trans w425)))))), ((va_up_ne _ _ (by decide)).trans ((va_up_ne _ _ (by decide)).trans ((va_up_ne _ _ (by decide)).trans ((va_up_ne _ _ (by decide)).trans ((va_up_ne _ _ (by decide)).trans ((va_up_ne _ _ (by decide)).trans w426))))))⟩, fun i hi => ((va_up_ne _ _ (by omega)).trans ((va_up_ne _ _ (by omega)).trans ((va_up_ne _ _ (by omega)).trans ((va_up_ne _ _ (by omega)).trans ((va_up_ne _ _ (by omega)).trans ((va_up_ne _ _ (by omega)).trans rfl))))))⟩
  · rw [if_neg hc, if_neg hc]
    exact ⟨hm, fun i hi => rfl⟩
theorem kp_page {cI cJ cG : ClassId} {ad : Nat → Nat} {co co9 : Nat → va_E} {a : Nat} {S : lSt} (hl : lOk a S) (hk : kOS cI cJ cG ad co a S) (x y : Int64) (z : Int32) {r : Int32} (hp : r = bI (okPage a S.pg x y z) ∧ co9 = if okPage a S.pg x y z then va_up (va_up (va_up (va_up co 26 (.inl (cJ, 50, .inr (.inl (vp_updL S.pf S.pg x))))) 27 (.inl (cJ, 50, .inr (.inl (vp_updL S.pt S.pg y))))) 28 (.inl (cI, 50, .inl (upd S.pa S.pg z)))) 25 (oP ad (S.pg + 1)) else co) : r = bI (okPage a S.pg x y z) ∧ kOS cI cJ cG ad co9 a (nPage a S x y z) ∧ ∀ i, 400 ≤ i → co9 i = co i := by
  obtain ⟨rfl, rfl⟩ := hp
  refine ⟨rfl, ?_⟩
  unfold nPage
  by_cases hc : okPage a S.pg x y z = true
  · rw [if_pos hc, if_pos hc]
    obtain ⟨w0, w1, w2, w3, w4, w5, w6, w25, w26, w27, w28, w29, w30, w31, w32, w33, w34, k1, k2, k3, k4⟩ := hk
    have h9 : ∀ i, ¬ kFr i → (va_up (va_up (va_up (va_up co 26 (.inl (cJ, 50, .inr (.inl (vp_updL S.pf S.pg x))))) 27 (.inl (cJ, 50, .inr (.inl (vp_updL S.pt S.pg y))))) 28 (.inl (cI, 50, .inl (upd S.pa S.pg z)))) 25 (oP ad (S.pg + 1))) i = co i := (upx (upx (upx (upx (fun _ _ => rfl) (by unfold kFr; decide)) (by unfold kFr; decide)) (by unfold kFr; decide)) (by unfold kFr; decide))
    exact ⟨⟨((va_up_ne _ _ (by decide)).trans ((va_up_ne _ _ (by decide)).trans ((va_up_ne _ _ (by decide)).trans ((va_up_ne _ _ (by decide)).trans w0)))), ((va_up_ne _ _ (by decide)).trans ((va_up_ne _ _ (by decide)).trans ((va_up_ne _ _ (by decide)).trans ((va_up_ne _ _ (by decide)).trans w1)))), ((va_up_ne _ _ (by decide)).trans ((va_up_ne _ _ (by decide)).trans ((va_up_ne _ _ (by decide)).trans ((va_up_ne _ _ (by decide)).trans w2)))), ((va_up_ne _ _ (by decide)).trans ((va_up_ne _ _ (by decide)).trans ((va_up_ne _ _ (by decide)).trans ((va_up_ne _ _ (by decide)).trans w3)))), ((va_up_ne _ _ (by decide)).trans ((va_up_ne _ _ (by decide)).trans ((va_up_ne _ _ (by decide)).trans ((va_up_ne _ _ (by decide)).trans w4)))), ((va_up_ne _ _ (by decide)).trans ((va_up_ne _ _ (by decide)).trans ((va_up_ne _ _ (by decide)).trans ((va_up_ne _ _ (by decide)).trans w5)))), ((va_up_ne _ _ (by decide)).trans ((va_up_ne _ _ (by decide)).trans ((va_up_ne _ _ (by decide)).trans ((va_up_ne _ _ (by decide)).trans w6)))), (va_up_self _ _ _), ((va_up_ne _ _ (by decide)).trans ((va_up_ne _ _ (by decide)).trans ((va_up_ne _ _ (by decide)).trans (va_up_self _ _ _)))), ((va_up_ne _ _ (by decide)).trans ((va_up_ne _ _ (by decide)).trans (va_up_self _ _ _))), ((va_up_ne _ _ (by decide)).trans (va_up_self _ _ _)), ((va_up_ne _ _ (by decide)).trans ((va_up_ne _ _ (by decide)).trans ((va_up_ne _ _ (by decide)).trans ((va_up_ne _ _ (by decide)).trans w29)))), ((va_up_ne _ _ (by decide)).trans ((va_up_ne _ _ (by decide)).trans ((va_up_ne _ _ (by decide)).trans ((va_up_ne _ _ (by decide)).trans w30)))), ((va_up_ne _ _ (by decide)).trans ((va_up_ne _ _ (by decide)).trans ((va_up_ne _ _ (by decide)).trans ((va_up_ne _ _ (by decide)).trans w31)))), ((va_up_ne _ _ (by decide)).trans ((va_up_ne _ _ (by decide)).trans ((va_up_ne _ _ (by decide)).trans ((va_up_ne _ _ (by decide)).trans w32)))), ((va_up_ne _ _ (by decide)).trans ((va_up_ne _ _ (by decide)).trans ((va_up_ne _ _ (by decide)).trans ((va_up_ne _ _ (by decide)).trans w33)))), ((va_up_ne _ _ (by decide)).trans ((va_up_ne _ _ (by decide)).trans ((va_up_ne _ _ (by decide)).trans ((va_up_ne _ _ (by decide)).trans w34)))), kSt_tr h9 k1, kSc_tr hl.a2 h9 k2, kTb_tr hl.a2 h9 k3, kLt_tr h9 k4⟩, fun i hi => ((va_up_ne _ _ (by omega)).trans ((va_up_ne _ _ (by omega)).trans ((va_up_ne _ _ (by omega)).trans ((va_up_ne _ _ (by omega)).trans rfl))))⟩
  · rw [if_neg hc, if_neg hc]
    exact ⟨hk, fun i hi => rfl⟩
theorem mp_page {cI cJ : ClassId} {ad : Nat → Nat} {co co9 : Nat → va_E} {a : Nat} {S : lSt} (hl : lOk a S) (hm : mOS cI cJ ad co a S) (x y : Int64) (z : Int32) {r : Int32} (hp : r = bI (okPage a S.pg x y z) ∧ co9 = if okPage a S.pg x y z then va_up (va_up (va_up (va_up co 410 (.inl (cJ, 50, .inr (.inl (vp_updL S.pf S.pg x))))) 411 (.inl (cJ, 50, .inr (.inl (vp_updL S.pt S.pg y))))) 412 (.inl (cI, 50, .inl (upd S.pa S.pg z)))) 400 (mO ad a S.n S.sh (S.pg + 1) S.ce S.mg S.kn S.cs S.sm) else co) : r = bI (okPage a S.pg x y z) ∧ mOS cI cJ ad co9 a (nPage a S x y z) ∧ ∀ i, i < 400 → co9 i = co i := by
  obtain ⟨rfl, rfl⟩ := hp
  refine ⟨rfl, ?_⟩
  unfold nPage
  by_cases hc : okPage a S.pg x y z = true
  · rw [if_pos hc, if_pos hc]
    obtain ⟨w400, w405, w406, w407, w408, w409, w410, w411, w412, w413, w414, w415, w416, w417, w418, w419, ⟨fm, fs, w401, w402, hmv, hsp⟩, om, os, so, lg, sc, lc, f0, g0, fd, w403, w404, w420, w421, w422, w423, w424, w425, w426⟩ := hm
    exact ⟨⟨(va_up_self _ _ _), ((va_up_ne _ _ (by decide)).trans ((va_up_ne _ _ (by decide)).trans ((va_up_ne _ _ (by decide)).trans ((va_up_ne _ _ (by decide)).trans w405)))), ((va_up_ne _ _ (by decide)).trans ((va_up_ne _ _ (by decide)).trans ((va_up_ne _ _ (by decide)).trans ((va_up_ne _ _ (by decide)).trans w406)))), ((va_up_ne _ _ (by decide)).trans ((va_up_ne _ _ (by decide)).trans ((va_up_ne _ _ (by decide)).trans ((va_up_ne _ _ (by decide)).trans w407)))), ((va_up_ne _ _ (by decide)).trans ((va_up_ne _ _ (by decide)).trans ((va_up_ne _ _ (by decide)).trans ((va_up_ne _ _ (by decide)).trans w408)))), ((va_up_ne _ _ (by decide)).trans ((va_up_ne _ _ (by decide)).trans ((va_up_ne _ _ (by decide)).trans ((va_up_ne _ _ (by decide)).trans w409)))), ((va_up_ne _ _ (by decide)).trans ((va_up_ne _ _ (by decide)).trans ((va_up_ne _ _ (by decide)).trans (va_up_self _ _ _)))), ((va_up_ne _ _ (by decide)).trans ((va_up_ne _ _ (by decide)).trans (va_up_self _ _ _))), ((va_up_ne _ _ (by decide)).trans (va_up_self _ _ _)), ((va_up_ne _ _ (by decide)).trans ((va_up_ne _ _ (by decide)).trans ((va_up_ne _ _ (by decide)).trans ((va_up_ne _ _ (by decide)).trans w413)))), ((va_up_ne _ _ (by decide)).trans ((va_up_ne _ _ (by decide)).trans ((va_up_ne _ _ (by decide)).trans ((va_up_ne _ _ (by decide)).trans w414)))), ((va_up_ne _ _ (by decide)).trans ((va_up_ne _ _ (by decide)).trans ((va_up_ne _ _ (by decide)).trans ((va_up_ne _ _ (by decide)).trans w415)))), ((va_up_ne _ _ (by decide)).trans ((va_up_ne _ _ (by decide)).trans ((va_up_ne _ _ (by decide)).trans ((va_up_ne _ _ (by decide)).trans w416)))), ((va_up_ne _ _ (by decide)).trans ((va_up_ne _ _ (by decide)).trans ((va_up_ne _ _ (by decide)).trans ((va_up_ne _ _ (by decide)).trans w417)))), ((va_up_ne _ _ (by decide)).trans ((va_up_ne _ _ (by decide)).trans ((va_up_ne _ _ (by decide)).trans ((va_up_ne _ _ (by decide)).trans w418)))), ((va_up_ne _ _ (by decide)).trans ((va_up_ne _ _ (by decide)).trans ((va_up_ne _ _ (by decide)).trans ((va_up_ne _ _ (by decide)).trans w419)))), ⟨fm, fs, ((va_up_ne _ _ (by decide)).trans ((va_up_ne _ _ (by decide)).trans ((va_up_ne _ _ (by decide)).trans ((va_up_ne _ _ (by decide)).trans w401)))), ((va_up_ne _ _ (by decide)).trans ((va_up_ne _ _ (by decide)).trans ((va_up_ne _ _ (by decide)).trans ((va_up_ne _ _ (by decide)).trans w402)))), hmv, hsp⟩, om, os, so, lg, sc, lc, f0, g0, fd, ((va_up_ne _ _ (by decide)).trans ((va_up_ne _ _ (by decide)).trans ((va_up_ne _ _ (by decide)).trans ((va_up_ne _ _ (by decide)).trans w403)))), ((va_up_ne _ _ (by decide)).trans ((va_up_ne _ _ (by decide)).trans ((va_up_ne _ _ (by decide)).trans ((va_up_ne _ _ (by decide)).trans w404)))), ((va_up_ne _ _ (by decide)).trans ((va_up_ne _ _ (by decide)).trans ((va_up_ne _ _ (by decide)).trans ((va_up_ne _ _ (by decide)).trans w420)))), ((va_up_ne _ _ (by decide)).trans ((va_up_ne _ _ (by decide)).trans ((va_up_ne _ _ (by decide)).trans ((va_up_ne _ _ (by decide)).trans w421)))), ((va_up_ne _ _ (by decide)).trans ((va_up_ne _ _ (by decide)).trans ((va_up_ne _ _ (by decide)).trans ((va_up_ne _ _ (by decide)).trans w422)))), ((va_up_ne _ _ (by decide)).trans ((va_up_ne _ _ (by decide)).trans ((va_up_ne _ _ (by decide)).trans ((va_up_ne _ _ (by decide)).trans w423)))), ((va_up_ne _ _ (by decide)).trans ((va_up_ne _ _ (by decide)).trans ((va_up_ne _ _ (by decide)).trans ((va_up_ne _ _ (by decide)).trans w424)))), ((va_up_ne _ _ (by decide)).trans ((va_up_ne _ _ (by decide)).trans ((va_up_ne _ _ (by decide)).trans ((va_up_ne _ _ (by decide)).trans w425)))), ((va_up_ne _ _ (by decide)).trans ((va_up_ne _ _ (by decide)).trans ((va_up_ne _ _ (by decide)).trans ((va_up_ne _ _ (by decide)).trans w426))))⟩, fun i hi => ((va_up_ne _ _ (by omega)).trans ((va_up_ne _ _ (by omega)).trans ((va_up_ne _ _ (by omega)).trans ((va_up_ne _ _ (by omega)).trans rfl))))⟩
  · rw [if_neg hc, if_neg hc]
    exact ⟨hm, fun i hi => rfl⟩
theorem kp_cell {cI cJ cG : ClassId} {ad : Nat → Nat} {co co9 : Nat → va_E} {a : Nat} {S : lSt} (hl : lOk a S) (hk : kOS cI cJ cG ad co a S) (k x y : Int32) (z : Int64) {r : Int32} (hp : r = bI (okCell S.n S.ce k x y z) ∧ co9 = if okCell S.n S.ce k x y z then va_up (va_up (va_up (va_up (va_up co 30 (.inl (cI, 300, .inl (upd S.cr S.ce k)))) 31 (.inl (cI, 300, .inl (upd S.cx S.ce x)))) 32 (.inl (cI, 300, .inl (upd S.cy S.ce y)))) 33 (.inl (cJ, 300, .inr (.inl (vp_updL S.ct S.ce z))))) 29 (oC ad (S.ce + 1)) else co) : r = bI (okCell S.n S.ce k x y z) ∧ kOS cI cJ cG ad co9 a (nCell S k x y z) ∧ ∀ i, 400 ≤ i → co9 i = co i := by
  obtain ⟨rfl, rfl⟩ := hp
  refine ⟨rfl, ?_⟩
  unfold nCell
  by_cases hc : okCell S.n S.ce k x y z = true
  · rw [if_pos hc, if_pos hc]
    obtain ⟨w0, w1, w2, w3, w4, w5, w6, w25, w26, w27, w28, w29, w30, w31, w32, w33, w34, k1, k2, k3, k4⟩ := hk
    have h9 : ∀ i, ¬ kFr i → (va_up (va_up (va_up (va_up (va_up co 30 (.inl (cI, 300, .inl (upd S.cr S.ce k)))) 31 (.inl (cI, 300, .inl (upd S.cx S.ce x)))) 32 (.inl (cI, 300, .inl (upd S.cy S.ce y)))) 33 (.inl (cJ, 300, .inr (.inl (vp_updL S.ct S.ce z))))) 29 (oC ad (S.ce + 1))) i = co i := (upx (upx (upx (upx (upx (fun _ _ => rfl) (by unfold kFr; decide)) (by unfold kFr; decide)) (by unfold kFr; decide)) (by unfold kFr; decide)) (by unfold kFr; decide))
    exact ⟨⟨((va_up_ne _ _ (by decide)).trans ((va_up_ne _ _ (by decide)).trans ((va_up_ne _ _ (by decide)).trans ((va_up_ne _ _ (by decide)).trans ((va_up_ne _ _ (by decide)).trans w0))))), ((va_up_ne _ _ (by decide)).trans ((va_up_ne _ _ (by decide)).trans ((va_up_ne _ _ (by decide)).trans ((va_up_ne _ _ (by decide)).trans ((va_up_ne _ _ (by decide)).trans w1))))), ((va_up_ne _ _ (by decide)).trans ((va_up_ne _ _ (by decide)).trans ((va_up_ne _ _ (by decide)).trans ((va_up_ne _ _ (by decide)).trans ((va_up_ne _ _ (by decide)).trans w2))))), ((va_up_ne _ _ (by decide)).trans ((va_up_ne _ _ (by decide)).trans ((va_up_ne _ _ (by decide)).trans ((va_up_ne _ _ (by decide)).trans ((va_up_ne _ _ (by decide)).trans w3))))), ((va_up_ne _ _ (by decide)).trans ((va_up_ne _ _ (by decide)).trans ((va_up_ne _ _ (by decide)).trans ((va_up_ne _ _ (by decide)).trans ((va_up_ne _ _ (by decide)).trans w4))))), ((va_up_ne _ _ (by decide)).trans ((va_up_ne _ _ (by decide)).trans ((va_up_ne _ _ (by decide)).trans ((va_up_ne _ _ (by decide)).trans ((va_up_ne _ _ (by decide)).trans w5))))), ((va_up_ne _ _ (by decide)).trans ((va_up_ne _ _ (by decide)).trans ((va_up_ne _ _ (by decide)).trans ((va_up_ne _ _ (by decide)).trans ((va_up_ne _ _ (by decide)).trans w6))))), ((va_up_ne _ _ (by decide)).trans ((va_up_ne _ _ (by decide)).trans ((va_up_ne _ _ (by decide)).trans ((va_up_ne _ _ (by decide)).trans ((va_up_ne _ _ (by decide)).trans w25))))), ((va_up_ne _ _ (by decide)).trans ((va_up_ne _ _ (by decide)).trans ((va_up_ne _ _ (by decide)).trans ((va_up_ne _ _ (by decide)).trans ((va_up_ne _ _ (by decide)).trans w26))))), ((va_up_ne _ _ (by decide)).trans ((va_up_ne _ _ (by decide)).trans ((va_up_ne _ _ (by decide)).trans ((va_up_ne _ _ (by decide)).trans ((va_up_ne _ _ (by decide)).trans w27))))), ((va_up_ne _ _ (by decide)).trans ((va_up_ne _ _ (by decide)).trans ((va_up_ne _ _ (by decide)).trans ((va_up_ne _ _ (by decide)).trans ((va_up_ne _ _ (by decide)).trans w28))))), (va_up_self _ _ _), ((va_up_ne _ _ (by decide)).trans ((va_up_ne _ _ (by decide)).trans ((va_up_ne _ _ (by decide)).trans ((va_up_ne _ _ (by decide)).trans (va_up_self _ _ _))))), ((va_up_ne _ _ (by decide)).trans ((va_up_ne _ _ (by decide)).trans ((va_up_ne _ _ (by decide)).trans (va_up_self _ _ _)))), ((va_up_ne _ _ (by decide)).trans ((va_up_ne _ _ (by decide)).trans (va_up_self _ _ _))), ((va_up_ne _ _ (by decide)).trans (va_up_self _ _ _)), ((va_up_ne _ _ (by decide)).trans ((va_up_ne _ _ (by decide)).trans ((va_up_ne _ _ (by decide)).trans ((va_up_ne _ _ (by decide)).trans ((va_up_ne _ _ (by decide)).trans w34))))), kSt_tr h9 k1, kSc_tr hl.a2 h9 k2, kTb_tr hl.a2 h9 k3, kLt_tr h9 k4⟩, fun i hi => ((va_up_ne _ _ (by omega)).trans ((va_up_ne _ _ (by omega)).trans ((va_up_ne _ _ (by omega)).trans ((va_up_ne _ _ (by omega)).trans ((va_up_ne _ _ (by omega)).trans rfl)))))⟩
  · rw [if_neg hc, if_neg hc]
    exact ⟨hk, fun i hi => rfl⟩
theorem mp_cell {cI cJ : ClassId} {ad : Nat → Nat} {co co9 : Nat → va_E} {a : Nat} {S : lSt} (hl : lOk a S) (hm : mOS cI cJ ad co a S) (k x y : Int32) (z : Int64) {r : Int32} (hp : r = bI (okCell S.n S.ce k x y z) ∧ co9 = if okCell S.n S.ce k x y z then va_up (va_up (va_up (va_up (va_up co 413 (.inl (cI, 300, .inl (upd S.cr S.ce k)))) 414 (.inl (cI, 300, .inl (upd S.cx S.ce x)))) 415 (.inl (cI, 300, .inl (upd S.cy S.ce y)))) 416 (.inl (cJ, 300, .inr (.inl (vp_updL S.ct S.ce z))))) 400 (mO ad a S.n S.sh S.pg (S.ce + 1) S.mg S.kn S.cs S.sm) else co) : r = bI (okCell S.n S.ce k x y z) ∧ mOS cI cJ ad co9 a (nCell S k x y z) ∧ ∀ i, i < 400 → co9 i = co i := by
  obtain ⟨rfl, rfl⟩ := hp
  refine ⟨rfl, ?_⟩
  unfold nCell
  by_cases hc : okCell S.n S.ce k x y z = true
  · rw [if_pos hc, if_pos hc]
    obtain ⟨w400, w405, w406, w407, w408, w409, w410, w411, w412, w413, w414, w415, w416, w417, w418, w419, ⟨fm, fs, w401, w402, hmv, hsp⟩, om, os, so, lg, sc, lc, f0, g0, fd, w403, w404, w420, w421, w422, w423, w424, w425, w426⟩ := hm
    exact ⟨⟨(va_up_self _ _ _), ((va_up_ne _ _ (by decide)).trans ((va_up_ne _ _ (by decide)).trans ((va_up_ne _ _ (by decide)).trans ((va_up_ne _ _ (by decide)).trans ((va_up_ne _ _ (by decide)).trans w405))))), ((va_up_ne _ _ (by decide)).trans ((va_up_ne _ _ (by decide)).trans ((va_up_ne _ _ (by decide)).trans ((va_up_ne _ _ (by decide)).trans ((va_up_ne _ _ (by decide)).trans w406))))), ((va_up_ne _ _ (by decide)).trans ((va_up_ne _ _ (by decide)).trans ((va_up_ne _ _ (by decide)).trans ((va_up_ne _ _ (by decide)).trans ((va_up_ne _ _ (by decide)).trans w407))))), ((va_up_ne _ _ (by decide)).trans ((va_up_ne _ _ (by decide)).trans ((va_up_ne _ _ (by decide)).trans ((va_up_ne _ _ (by decide)).trans ((va_up_ne _ _ (by decide)).trans w408))))), ((va_up_ne _ _ (by decide)).trans ((va_up_ne _ _ (by decide)).trans ((va_up_ne _ _ (by decide)).trans ((va_up_ne _ _ (by decide)).trans ((va_up_ne _ _ (by decide)).trans w409))))), ((va_up_ne _ _ (by decide)).trans ((va_up_ne _ _ (by decide)).trans ((va_up_ne _ _ (by decide)).trans ((va_up_ne _ _ (by decide)).trans ((va_up_ne _ _ (by decide)).trans w410))))), ((va_up_ne _ _ (by decide)).trans ((va_up_ne _ _ (by decide)).trans ((va_up_ne _ _ (by decide)).trans ((va_up_ne _ _ (by decide)).trans ((va_up_ne _ _ (by decide)).trans w411))))), ((va_up_ne _ _ (by decide)).trans ((va_up_ne _ _ (by decide)).trans ((va_up_ne _ _ (by decide)).trans ((va_up_ne _ _ (by decide)).trans ((va_up_ne _ _ (by decide)).trans w412))))), ((va_up_ne _ _ (by decide)).trans ((va_up_ne _ _ (by decide)).trans ((va_up_ne _ _ (by decide)).trans ((va_up_ne _ _ (by decide)).trans (va_up_self _ _ _))))), ((va_up_ne _ _ (by decide)).trans ((va_up_ne _ _ (by decide)).trans ((va_up_ne _ _ (by decide)).trans (va_up_self _ _ _)))), ((va_up_ne _ _ (by decide)).trans ((va_up_ne _ _ (by decide)).trans (va_up_self _ _ _))), ((va_up_ne _ _ (by decide)).trans (va_up_self _ _ _)), ((va_up_ne _ _ (by decide)).trans ((va_up_ne _ _ (by decide)).trans ((va_up_ne _ _ (by decide)).trans ((va_up_ne _ _ (by decide)).trans ((va_up_ne _ _ (by decide)).trans w417))))), ((va_up_ne _ _ (by decide)).trans ((va_up_ne _ _ (by decide)).trans ((va_up_ne _ _ (by decide)).trans ((va_up_ne _ _ (by decide)).trans ((va_up_ne _ _ (by decide)).trans w418))))), ((va_up_ne _ _ (by decide)).trans ((va_up_ne _ _ (by decide)).trans ((va_up_ne _ _ (by decide)).trans ((va_up_ne _ _ (by decide)).trans ((va_up_ne _ _ (by decide)).trans w419))))), ⟨fm, fs, ((va_up_ne _ _ (by decide)).trans ((va_up_ne _ _ (by decide)).trans ((va_up_ne _ _ (by decide)).trans ((va_up_ne _ _ (by decide)).trans ((va_up_ne _ _ (by decide)).trans w401))))), ((va_up_ne _ _ (by decide)).trans ((va_up_ne _ _ (by decide)).trans ((va_up_ne _ _ (by decide)).trans ((va_up_ne _ _ (by decide)).trans ((va_up_ne _ _ (by decide)).trans w402))))), hmv, hsp⟩, om, os, so, lg, sc, lc, f0, g0, fd, ((va_up_ne _ _ (by decide)).trans ((va_up_ne _ _ (by decide)).trans ((va_up_ne _ _ (by decide)).trans ((va_up_ne _ _ (by decide)).trans ((va_up_ne _ _ (by decide)).trans w403))))), ((va_up_ne _ _ (by decide)).trans ((va_up_ne _ _ (by decide)).trans ((va_up_ne _ _ (by decide)).trans ((va_up_ne _ _ (by decide)).trans ((va_up_ne _ _ (by decide)).trans w404))))), ((va_up_ne _ _ (by decide)).trans ((va_up_ne _ _ (by decide)).trans ((va_up_ne _ _ (by decide)).trans ((va_up_ne _ _ (by decide)).trans ((va_up_ne _ _ (by decide)).trans w420))))), ((va_up_ne _ _ (by decide)).trans ((va_up_ne _ _ (by decide)).trans ((va_up_ne _ _ (by decide)).trans ((va_up_ne _ _ (by decide)).trans ((va_up_ne _ _ (by decide)).trans w421))))), ((va_up_ne _ _ (by decide)).trans ((va_up_ne _ _ (by decide)).trans ((va_up_ne _ _ (by decide)).trans ((va_up_ne _ _ (by decide)).trans ((va_up_ne _ _ (by decide)).trans w422))))), ((va_up_ne _ _ (by decide)).trans ((va_up_ne _ _ (by decide)).trans ((va_up_ne _ _ (by decide)).trans ((va_up_ne _ _ (by decide)).trans ((va_up_ne _ _ (by decide)).trans w423))))), ((va_up_ne _ _ (by decide)).trans ((va_up_ne _ _ (by decide)).trans ((va_up_ne _ _ (by decide)).trans ((va_up_ne _ _ (by decide)).trans ((va_up_ne _ _ (by decide)).trans w424))))), ((va_up_ne _ _ (by decide)).trans ((va_up_ne _ _ (by decide)).trans ((va_up_ne _ _ (by decide)).trans ((va_up_ne _ _ (by decide)).trans ((va_up_ne _ _ (by decide)).trans w425))))), ((va_up_ne _ _ (by decide)).trans ((va_up_ne _ _ (by decide)).trans ((va_up_ne _ _ (by decide)).trans ((va_up_ne _ _ (by decide)).trans ((va_up_ne _ _ (by decide)).trans w426)))))⟩, fun i hi => ((va_up_ne _ _ (by omega)).trans ((va_up_ne _ _ (by omega)).trans ((va_up_ne _ _ (by omega)).trans ((va_up_ne _ _ (by omega)).trans ((va_up_ne _ _ (by omega)).trans rfl)))))⟩
  · rw [if_neg hc, if_neg hc]
    exact ⟨hm, fun i hi => rfl⟩
theorem kp_move {cI cJ cG : ClassId} {ad : Nat → Nat} {co co9 : Nat → va_E} {a : Nat} {S : lSt} (hl : lOk a S) (hk : kOS cI cJ cG ad co a S) (x y v : Int32) {MV SP : Nat → Nat → Int32} (wm1 : ∀ i, i < a → co (40 + i) = .inl (cI, a, .inl (MV i))) (wm2 : ∀ i, i < a → co (60 + i) = .inl (cI, 10, .inl (SP i))) (wm3 : ∀ i j, i < a → j < a → MV i j = nI (S.mv i j)) (wm4 : ∀ i c, i < a → c < 10 → SP i c = nI (S.sp i c)) {r : Int32} (hp : r = bI (okMove a x y v) ∧ co9 = if okMove a x y v then va_up co (40 + x.toNatClampNeg) (.inl (cI, a, .inl (upd (MV x.toNatClampNeg) y.toNatClampNeg v))) else co) : r = bI (okMove a x y v) ∧ kOS cI cJ cG ad co9 a (nMove a S x y v) ∧ ∀ i, 400 ≤ i → co9 i = co i := by
  obtain ⟨rfl, rfl⟩ := hp
  refine ⟨rfl, ?_⟩
  have ha := hl.a2
  unfold nMove
  by_cases hc : okMove a x y v = true
  · rw [if_pos hc, if_pos hc]
    obtain ⟨h1, h3⟩ := lw_and.mp hc
    obtain ⟨h1, h2⟩ := lw_and.mp h1
    have hX := (lw_in (by omega) h1).1
    have hV := (lw_in (by decide) h3).2
    obtain ⟨X, hXe⟩ : ∃ q, x.toNatClampNeg = q := ⟨_, rfl⟩
    obtain ⟨Y, hYe⟩ : ∃ q, y.toNatClampNeg = q := ⟨_, rfl⟩
    rw [hXe] at hX ⊢
    rw [hYe]
    obtain ⟨w0, w1, w2, w3, w4, w5, w6, w25, w26, w27, w28, w29, w30, w31, w32, w33, w34, k1, k2, k3, k4⟩ := hk
    have h8 : ∀ i, ¬ i = 40 + X → va_up co (40 + X) (.inl (cI, a, .inl (upd (MV X) Y v))) i = co i := fun i hi => va_up_ne _ _ hi
    have hn : ∀ i, i < 35 → va_up co (40 + X) (.inl (cI, a, .inl (upd (MV X) Y v))) i = co i := fun i hi => h8 i (by omega)
    obtain ⟨c7, c8, c9, c10, c11, c12, c13, c14, c15, c18, zz, c19, hzz⟩ := k1
    obtain ⟨fc, xx, yy, fl, g20, g21, G, MF, SF, MC, SC, e0, e1, e2, e3, e4, e5, e6, e7, e8, e9⟩ := k2
    obtain ⟨l1, l2, l3⟩ := k4
    refine ⟨⟨(hn _ (by decide)).trans w0, (hn _ (by decide)).trans w1, (hn _ (by decide)).trans w2, (hn _ (by decide)).trans w3, (hn _ (by decide)).trans w4, (hn _ (by decide)).trans w5, (hn _ (by decide)).trans w6, (hn _ (by decide)).trans w25, (hn _ (by decide)).trans w26, (hn _ (by decide)).trans w27, (hn _ (by decide)).trans w28, (hn _ (by decide)).trans w29, (hn _ (by decide)).trans w30, (hn _ (by decide)).trans w31, (hn _ (by decide)).trans w32, (hn _ (by decide)).trans w33, (hn _ (by decide)).trans w34, ⟨(hn _ (by decide)).trans c7, (hn _ (by decide)).trans c8, (hn _ (by decide)).trans c9, (hn _ (by decide)).trans c10, (hn _ (by decide)).trans c11, (hn _ (by decide)).trans c12, (hn _ (by decide)).trans c13, (hn _ (by decide)).trans c14, (hn _ (by decide)).trans c15, (hn _ (by decide)).trans c18, zz, (hn _ (by decide)).trans c19, hzz⟩, ⟨fc, xx, yy, fl, g20, g21, G, MF, SF, MC, SC, e0, (hn _ (by decide)).trans e1, (hn _ (by decide)).trans e2, (hn _ (by decide)).trans e3, (hn _ (by decide)).trans e4, fun r hr => (h8 _ (by omega)).trans (e5 r hr), fun r hr => (h8 _ (by omega)).trans (e6 r hr), fun r hr => (h8 _ (by omega)).trans (e7 r hr), fun r hr => (h8 _ (by omega)).trans (e8 r hr), fun r hr => (h8 _ (by omega)).trans (e9 r hr)⟩, ?_, ⟨(hn _ (by decide)).trans l1, (hn _ (by decide)).trans l2, (hn _ (by decide)).trans l3⟩⟩, fun i hi => h8 i (by omega)⟩
    refine ⟨va_up MV X (upd (MV X) Y v), SP, fun i hi => ?_, fun i hi => (h8 _ (by omega)).trans (wm2 i hi), fun i j hi hj => ?_, wm4⟩
    · by_cases hq : i = X
      · rw [hq, va_up_self, va_up_self]
      · rw [h8 _ (by omega), va_up_ne _ _ hq, wm1 i hi]
    · show va_up MV X (upd (MV X) Y v) i j = nI (if i = X ∧ j = Y then v.toNatClampNeg else S.mv i j)
      by_cases hq : i = X
      · rw [hq, va_up_self]
        by_cases hw : j = Y
        · rw [if_pos ⟨rfl, hw⟩, ← hV]
          exact if_pos hw
        · rw [if_neg (fun q => hw q.2)]
          exact (if_neg hw).trans (wm3 X j hX hj)
      · rw [va_up_ne _ _ hq, if_neg (fun q => hq q.1)]
        exact wm3 i j hi hj
  · rw [if_neg hc, if_neg hc]
    exact ⟨hk, fun i hi => rfl⟩
theorem mp_move {cI cJ : ClassId} {ad : Nat → Nat} {co co9 : Nat → va_E} {a : Nat} {S : lSt} (hl : lOk a S) (hm : mOS cI cJ ad co a S) (x y v : Int32) {fz : Nat → Int32} (hz : co 401 = .inl (cI, 144, .inl fz)) {r : Int32} (hp : r = bI (okMove a x y v) ∧ co9 = if okMove a x y v then va_up co 401 (.inl (cI, 144, .inl (upd fz (12 * x.toNatClampNeg + y.toNatClampNeg) v))) else co) : r = bI (okMove a x y v) ∧ mOS cI cJ ad co9 a (nMove a S x y v) ∧ ∀ i, i < 400 → co9 i = co i := by
  obtain ⟨rfl, rfl⟩ := hp
  refine ⟨rfl, ?_⟩
  have ha := hl.a2
  unfold nMove
  by_cases hc : okMove a x y v = true
  · rw [if_pos hc, if_pos hc]
    obtain ⟨h1, h3⟩ := lw_and.mp hc
    obtain ⟨h1, h2⟩ := lw_and.mp h1
    have hV := (lw_in (by decide) h3).2
    have hY := (lw_in (by omega) h2).1
    obtain ⟨X, hXe⟩ : ∃ q, x.toNatClampNeg = q := ⟨_, rfl⟩
    obtain ⟨Y, hYe⟩ : ∃ q, y.toNatClampNeg = q := ⟨_, rfl⟩
    rw [hYe] at hY
    rw [hXe, hYe]
    obtain ⟨w400, w405, w406, w407, w408, w409, w410, w411, w412, w413, w414, w415, w416, w417, w418, w419, ⟨fm, fs, w401, w402, hmv, hsp⟩, om, os, so, lg, sc, lc, f0, g0, fd, w403, w404, w420, w421, w422, w423, w424, w425, w426⟩ := hm
    have hfz : fz = fm := Sum.inl.inj (Prod.mk.inj (Prod.mk.inj (Sum.inl.inj (hz.symm.trans w401))).2).2
    subst hfz
    refine ⟨⟨((va_up_ne _ _ (by decide)).trans w400), ((va_up_ne _ _ (by decide)).trans w405), ((va_up_ne _ _ (by decide)).trans w406), ((va_up_ne _ _ (by decide)).trans w407), ((va_up_ne _ _ (by decide)).trans w408), ((va_up_ne _ _ (by decide)).trans w409), ((va_up_ne _ _ (by decide)).trans w410), ((va_up_ne _ _ (by decide)).trans w411), ((va_up_ne _ _ (by decide)).trans w412), ((va_up_ne _ _ (by decide)).trans w413), ((va_up_ne _ _ (by decide)).trans w414), ((va_up_ne _ _ (by decide)).trans w415), ((va_up_ne _ _ (by decide)).trans w416), ((va_up_ne _ _ (by decide)).trans w417), ((va_up_ne _ _ (by decide)).trans w418), ((va_up_ne _ _ (by decide)).trans w419), ⟨upd fz (12 * X + Y) v, fs, (va_up_self _ _ _), ((va_up_ne _ _ (by decide)).trans w402), fun i j hi hj => ?_, hsp⟩, om, os, so, lg, sc, lc, f0, g0, fd, ((va_up_ne _ _ (by decide)).trans w403), ((va_up_ne _ _ (by decide)).trans w404), ((va_up_ne _ _ (by decide)).trans w420), ((va_up_ne _ _ (by decide)).trans w421), ((va_up_ne _ _ (by decide)).trans w422), ((va_up_ne _ _ (by decide)).trans w423), ((va_up_ne _ _ (by decide)).trans w424), ((va_up_ne _ _ (by decide)).trans w425), ((va_up_ne _ _ (by decide)).trans w426)⟩, fun i hi => va_up_ne _ _ (by omega)⟩
    show (if 12 * i + j = 12 * X + Y then v else fz (12 * i + j)) = nI (if i = X ∧ j = Y then v.toNatClampNeg else S.mv i j)
    by_cases hq : i = X ∧ j = Y
    · rw [if_pos hq, if_pos (by rw [hq.1, hq.2]), ← hV]
    · rw [if_neg hq, if_neg (by omega)]
      exact hmv i j hi hj
  · rw [if_neg hc, if_neg hc]
    exact ⟨hm, fun i hi => rfl⟩
theorem kp_speed {cI cJ cG : ClassId} {ad : Nat → Nat} {co co9 : Nat → va_E} {a : Nat} {S : lSt} (hl : lOk a S) (hk : kOS cI cJ cG ad co a S) (x y v : Int32) {MV SP : Nat → Nat → Int32} (wm1 : ∀ i, i < a → co (40 + i) = .inl (cI, a, .inl (MV i))) (wm2 : ∀ i, i < a → co (60 + i) = .inl (cI, 10, .inl (SP i))) (wm3 : ∀ i j, i < a → j < a → MV i j = nI (S.mv i j)) (wm4 : ∀ i c, i < a → c < 10 → SP i c = nI (S.sp i c)) {r : Int32} (hp : r = bI (okSpeed a x y v) ∧ co9 = if okSpeed a x y v then va_up co (60 + x.toNatClampNeg) (.inl (cI, 10, .inl (upd (SP x.toNatClampNeg) y.toNatClampNeg v))) else co) : r = bI (okSpeed a x y v) ∧ kOS cI cJ cG ad co9 a (nSpeed a S x y v) ∧ ∀ i, 400 ≤ i → co9 i = co i := by
  obtain ⟨rfl, rfl⟩ := hp
  refine ⟨rfl, ?_⟩
  have ha := hl.a2
  unfold nSpeed
  by_cases hc : okSpeed a x y v = true
  · rw [if_pos hc, if_pos hc]
    obtain ⟨h1, h3⟩ := lw_and.mp hc
    obtain ⟨h1, h2⟩ := lw_and.mp h1
    have hX := (lw_in (by omega) h1).1
    have hV := (lw_in (by decide) h3).2
    obtain ⟨X, hXe⟩ : ∃ q, x.toNatClampNeg = q := ⟨_, rfl⟩
    obtain ⟨Y, hYe⟩ : ∃ q, y.toNatClampNeg = q := ⟨_, rfl⟩
    rw [hXe] at hX ⊢
    rw [hYe]
    obtain ⟨w0, w1, w2, w3, w4, w5, w6, w25, w26, w27, w28, w29, w30, w31, w32, w33, w34, k1, k2, k3, k4⟩ := hk
    have h8 : ∀ i, ¬ i = 60 + X → va_up co (60 + X) (.inl (cI, 10, .inl (upd (SP X) Y v))) i = co i := fun i hi => va_up_ne _ _ hi
    have hn : ∀ i, i < 35 → va_up co (60 + X) (.inl (cI, 10, .inl (upd (SP X) Y v))) i = co i := fun i hi => h8 i (by omega)
    obtain ⟨c7, c8, c9, c10, c11, c12, c13, c14, c15, c18, zz, c19, hzz⟩ := k1
    obtain ⟨fc, xx, yy, fl, g20, g21, G, MF, SF, MC, SC, e0, e1, e2, e3, e4, e5, e6, e7, e8, e9⟩ := k2
    obtain ⟨l1, l2, l3⟩ := k4
    refine ⟨⟨(hn _ (by decide)).trans w0, (hn _ (by decide)).trans w1, (hn _ (by decide)).trans w2, (hn _ (by decide)).trans w3, (hn _ (by decide)).trans w4, (hn _ (by decide)).trans w5, (hn _ (by decide)).trans w6, (hn _ (by decide)).trans w25, (hn _ (by decide)).trans w26, (hn _ (by decide)).trans w27, (hn _ (by decide)).trans w28, (hn _ (by decide)).trans w29, (hn _ (by decide)).trans w30, (hn _ (by decide)).trans w31, (hn _ (by decide)).trans w32, (hn _ (by decide)).trans w33, (hn _ (by decide)).trans w34, ⟨(hn _ (by decide)).trans c7, (hn _ (by decide)).trans c8, (hn _ (by decide)).trans c9, (hn _ (by decide)).trans c10, (hn _ (by decide)).trans c11, (hn _ (by decide)).trans c12, (hn _ (by decide)).trans c13, (hn _ (by decide)).trans c14, (hn _ (by decide)).trans c15, (hn _ (by decide)).trans c18, zz, (hn _ (by decide)).trans c19, hzz⟩, ⟨fc, xx, yy, fl, g20, g21, G, MF, SF, MC, SC, e0, (hn _ (by decide)).trans e1, (hn _ (by decide)).trans e2, (hn _ (by decide)).trans e3, (hn _ (by decide)).trans e4, fun r hr => (h8 _ (by omega)).trans (e5 r hr), fun r hr => (h8 _ (by omega)).trans (e6 r hr), fun r hr => (h8 _ (by omega)).trans (e7 r hr), fun r hr => (h8 _ (by omega)).trans (e8 r hr), fun r hr => (h8 _ (by omega)).trans (e9 r hr)⟩, ?_, ⟨(hn _ (by decide)).trans l1, (hn _ (by decide)).trans l2, (hn _ (by decide)).trans l3⟩⟩, fun i hi => h8 i (by omega)⟩
    refine ⟨MV, va_up SP X (upd (SP X) Y v), fun i hi => (h8 _ (by omega)).trans (wm1 i hi), fun i hi => ?_, wm3, fun i j hi hj => ?_⟩
    · by_cases hq : i = X
      · rw [hq, va_up_self, va_up_self]
      · rw [h8 _ (by omega), va_up_ne _ _ hq, wm2 i hi]
    · show va_up SP X (upd (SP X) Y v) i j = nI (if i = X ∧ j = Y then v.toNatClampNeg else S.sp i j)
      by_cases hq : i = X
      · rw [hq, va_up_self]
        by_cases hw : j = Y
        · rw [if_pos ⟨rfl, hw⟩, ← hV]
          exact if_pos hw
        · rw [if_neg (fun q => hw q.2)]
          exact (if_neg hw).trans (wm4 X j hX hj)
      · rw [va_up_ne _ _ hq, if_neg (fun q => hq q.1)]
        exact wm4 i j hi hj
  · rw [if_neg hc, if_neg hc]
    exact ⟨hk, fun i hi => rfl⟩
theorem mp_speed {cI cJ : ClassId} {ad : Nat → Nat} {co co9 : Nat → va_E} {a : Nat} {S : lSt} (hl : lOk a S) (hm : mOS cI cJ ad co a S) (x y v : Int32) {fz : Nat → Int32} (hz : co 402 = .inl (cI, 120, .inl fz)) {r : Int32} (hp : r = bI (okSpeed a x y v) ∧ co9 = if okSpeed a x y v then va_up co 402 (.inl (cI, 120, .inl (upd fz (10 * x.toNatClampNeg + y.toNatClampNeg) v))) else co) : r = bI (okSpeed a x y v) ∧ mOS cI cJ ad co9 a (nSpeed a S x y v) ∧ ∀ i, i < 400 → co9 i = co i := by
  obtain ⟨rfl, rfl⟩ := hp
  refine ⟨rfl, ?_⟩
  have ha := hl.a2
  unfold nSpeed
  by_cases hc : okSpeed a x y v = true
  · rw [if_pos hc, if_pos hc]
    obtain ⟨h1, h3⟩ := lw_and.mp hc
    obtain ⟨h1, h2⟩ := lw_and.mp h1
    have hV := (lw_in (by decide) h3).2
    have hY := (lw_in (by omega) h2).1
    obtain ⟨X, hXe⟩ : ∃ q, x.toNatClampNeg = q := ⟨_, rfl⟩
    obtain ⟨Y, hYe⟩ : ∃ q, y.toNatClampNeg = q := ⟨_, rfl⟩
    rw [hYe] at hY
    rw [hXe, hYe]
    obtain ⟨w400, w405, w406, w407, w408, w409, w410, w411, w412, w413, w414, w415, w416, w417, w418, w419, ⟨fm, fs, w401, w402, hmv, hsp⟩, om, os, so, lg, sc, lc, f0, g0, fd, w403, w404, w420, w421, w422, w423, w424, w425, w426⟩ := hm
    have hfz : fz = fs := Sum.inl.inj (Prod.mk.inj (Prod.mk.inj (Sum.inl.inj (hz.symm.trans w402))).2).2
    subst hfz
    refine ⟨⟨((va_up_ne _ _ (by decide)).trans w400), ((va_up_ne _ _ (by decide)).trans w405), ((va_up_ne _ _ (by decide)).trans w406), ((va_up_ne _ _ (by decide)).trans w407), ((va_up_ne _ _ (by decide)).trans w408), ((va_up_ne _ _ (by decide)).trans w409), ((va_up_ne _ _ (by decide)).trans w410), ((va_up_ne _ _ (by decide)).trans w411), ((va_up_ne _ _ (by decide)).trans w412), ((va_up_ne _ _ (by decide)).trans w413), ((va_up_ne _ _ (by decide)).trans w414), ((va_up_ne _ _ (by decide)).trans w415), ((va_up_ne _ _ (by decide)).trans w416), ((va_up_ne _ _ (by decide)).trans w417), ((va_up_ne _ _ (by decide)).trans w418), ((va_up_ne _ _ (by decide)).trans w419), ⟨fm, upd fz (10 * X + Y) v, ((va_up_ne _ _ (by decide)).trans w401), (va_up_self _ _ _), hmv, fun i j hi hj => ?_⟩, om, os, so, lg, sc, lc, f0, g0, fd, ((va_up_ne _ _ (by decide)).trans w403), ((va_up_ne _ _ (by decide)).trans w404), ((va_up_ne _ _ (by decide)).trans w420), ((va_up_ne _ _ (by decide)).trans w421), ((va_up_ne _ _ (by decide)).trans w422), ((va_up_ne _ _ (by decide)).trans w423), ((va_up_ne _ _ (by decide)).trans w424), ((va_up_ne _ _ (by decide)).trans w425), ((va_up_ne _ _ (by decide)).trans w426)⟩, fun i hi => va_up_ne _ _ (by omega)⟩
    show (if 10 * i + j = 10 * X + Y then v else fz (10 * i + j)) = nI (if i = X ∧ j = Y then v.toNatClampNeg else S.sp i j)
    by_cases hq : i = X ∧ j = Y
    · rw [if_pos hq, if_pos (by rw [hq.1, hq.2]), ← hV]
    · rw [if_neg hq, if_neg (by omega)]
      exact hsp i j hi hj
  · rw [if_neg hc, if_neg hc]
    exact ⟨hm, fun i hi => rfl⟩
theorem kp_run {cI cJ cG : ClassId} {ad : Nat → Nat} {co co9 : Nat → va_E} {a : Nat} {S : lSt} (hl : lOk a S) (hk : kOS cI cJ cG ad co a S) {r : Int32} (hp : (S.n = 0 ∧ r = -1 ∧ co9 = co) ∨ (0 < S.n ∧ r = nI (bcs a (alw S.tr S.shp (-1)) S.cl S.mv S.sp S.n) ∧ kSt cI cG ad a co9 ∧ kSc cI ad a co9 ∧ kTb cI a S.mv S.sp co9 ∧ kLt cI ad S.n (bcs a (alw S.tr S.shp (-1)) S.cl S.mv S.sp S.n) (fun j => if j < S.n then nI (bln a (alw S.tr S.shp (-1)) S.cl S.mv S.sp S.n j) else S.ln j) (fun j => if j < S.n then nxt a (alw S.tr S.shp (-1)) S.cl S.mv S.sp S.n S.tr j else S.nx j) co9 ∧ ∀ i, kFr i → co9 i = co i)) : r = vRun a S ∧ kOS cI cJ cG ad co9 a (nRun a S) ∧ ∀ i, 400 ≤ i → co9 i = co i := by
  unfold vRun nRun
  rcases hp with ⟨h1, rfl, rfl⟩ | ⟨h1, rfl, q1, q2, q3, q4, h9⟩
  · rw [if_pos h1, if_pos h1]
    exact ⟨rfl, hk, fun i hi => rfl⟩
  · rw [if_neg (Nat.ne_of_gt h1), if_neg (Nat.ne_of_gt h1)]
    obtain ⟨w0, w1, w2, w3, w4, w5, w6, w25, w26, w27, w28, w29, w30, w31, w32, w33, w34, k1, k2, k3, k4⟩ := hk
    exact ⟨rfl, ⟨(h9 _ (by unfold kFr; decide)).trans w0, (h9 _ (by unfold kFr; decide)).trans w1, (h9 _ (by unfold kFr; decide)).trans w2, (h9 _ (by unfold kFr; decide)).trans w3, (h9 _ (by unfold kFr; decide)).trans w4, (h9 _ (by unfold kFr; decide)).trans w5, (h9 _ (by unfold kFr; decide)).trans w6, (h9 _ (by unfold kFr; decide)).trans w25, (h9 _ (by unfold kFr; decide)).trans w26, (h9 _ (by unfold kFr; decide)).trans w27, (h9 _ (by unfold kFr; decide)).trans w28, (h9 _ (by unfold kFr; decide)).trans w29, (h9 _ (by unfold kFr; decide)).trans w30, (h9 _ (by unfold kFr; decide)).trans w31, (h9 _ (by unfold kFr; decide)).trans w32, (h9 _ (by unfold kFr; decide)).trans w33, (h9 _ (by unfold kFr; decide)).trans w34, q1, q2, q3, q4⟩, fun i hi => h9 i (by unfold kFr; omega)⟩
theorem mp_run {cI cJ : ClassId} {ad : Nat → Nat} {co co9 : Nat → va_E} {a : Nat} {S : lSt} (hl : lOk a S) (hm : mOS cI cJ ad co a S) {r : Int32} (hp : (S.n = 0 ∧ r = -1 ∧ co9 = co) ∨ (0 < S.n ∧ r = nI (bcs a (alw S.tr S.shp (-1)) S.cl S.mv S.sp S.n) ∧ ∃ f420 f421 f422 f423 f424 f425 f426 : Nat → Int32, co9 = va_up (wX cI cJ co (fun j => if j < S.n then nI (bln a (alw S.tr S.shp (-1)) S.cl S.mv S.sp S.n j) else S.ln j) (fun j => if j < S.n then nxt a (alw S.tr S.shp (-1)) S.cl S.mv S.sp S.n S.tr j else S.nx j) f420 f421 f422 f423 f424 f425 f426) 400 (mO ad a S.n S.sh S.pg S.ce S.mg S.n (bcs a (alw S.tr S.shp (-1)) S.cl S.mv S.sp S.n) S.sm))) : r = vRun a S ∧ mOS cI cJ ad co9 a (nRun a S) ∧ ∀ i, i < 400 → co9 i = co i := by
  unfold vRun nRun
  rcases hp with ⟨h1, rfl, rfl⟩ | ⟨h1, rfl, f420, f421, f422, f423, f424, f425, f426, rfl⟩
  · rw [if_pos h1, if_pos h1]
    exact ⟨rfl, hm, fun i hi => rfl⟩
  · rw [if_neg (Nat.ne_of_gt h1), if_neg (Nat.ne_of_gt h1)]
    obtain ⟨w400, w405, w406, w407, w408, w409, w410, w411, w412, w413, w414, w415, w416, w417, w418, w419, ⟨fm, fs, w401, w402, hmv, hsp⟩, om, os, so, lg, sc, lc, f0, g0, fd, w403, w404, w420, w421, w422, w423, w424, w425, w426⟩ := hm
    unfold wX
    exact ⟨rfl, ⟨(va_up_self _ _ _), ((va_up_ne _ _ (by decide)).trans ((va_up_ne _ _ (by decide)).trans ((va_up_ne _ _ (by decide)).trans ((va_up_ne _ _ (by decide)).trans ((va_up_ne _ _ (by decide)).trans ((va_up_ne _ _ (by decide)).trans ((va_up_ne _ _ (by decide)).trans ((va_up_ne _ _ (by decide)).trans ((va_up_ne _ _ (by decide)).trans ((va_up_ne _ _ (by decide)).trans w405)))))))))), ((va_up_ne _ _ (by decide)).trans ((va_up_ne _ _ (by decide)).trans ((va_up_ne _ _ (by decide)).trans ((va_up_ne _ _ (by decide)).trans ((va_up_ne _ _ (by decide)).trans ((va_up_ne _ _ (by decide)).trans ((va_up_ne _ _ (by decide)).trans ((va_up_ne _ _ (by decide)).trans ((va_up_ne _ _ (by decide)).trans ((va_up_ne _ _ (by decide)).trans w406)))))))))), ((va_up_ne _ _ (by decide)).trans ((va_up_ne _ _ (by decide)).trans ((va_up_ne _ _ (by decide)).trans ((va_up_ne _ _ (by decide)).trans ((va_up_ne _ _ (by decide)).trans ((va_up_ne _ _ (by decide)).trans ((va_up_ne _ _ (by decide)).trans ((va_up_ne _ _ (by decide)).trans ((va_up_ne _ _ (by decide)).trans ((va_up_ne _ _ (by decide)).trans w407)))))))))), ((va_up_ne _ _ (by decide)).trans ((va_up_ne _ _ (by decide)).trans ((va_up_ne _ _ (by decide)).trans ((va_up_ne _ _ (by decide)).trans ((va_up_ne _ _ (by decide)).trans ((va_up_ne _ _ (by decide)).trans ((va_up_ne _ _ (by decide)).trans ((va_up_ne _ _ (by decide)).trans ((va_up_ne _ _ (by decide)).trans ((va_up_ne _ _ (by decide)).trans w408)))))))))), ((va_up_ne _ _ (by decide)).trans ((va_up_ne _ _ (by decide)).trans ((va_up_ne _ _ (by decide)).trans ((va_up_ne _ _ (by decide)).trans ((va_up_ne _ _ (by decide)).trans ((va_up_ne _ _ (by decide)).trans ((va_up_ne _ _ (by decide)).trans ((va_up_ne _ _ (by decide)).trans ((va_up_ne _ _ (by decide)).trans ((va_up_ne _ _ (by decide)).trans w409)))))))))), ((va_up_ne _ _ (by decide)).trans ((va_up_ne _ _ (by decide)).trans ((va_up_ne _ _ (by decide)).trans ((va_up_ne _ _ (by decide)).trans ((va_up_ne _ _ (by decide)).trans ((va_up_ne _ _ (by decide)).trans ((va_up_ne _ _ (by decide)).trans ((va_up_ne _ _ (by decide)).trans ((va_up_ne _ _ (by decide)).trans ((va_up_ne _ _ (by decide)).trans w410)))))))))), ((va_up_ne _ _ (by decide)).trans ((va_up_ne _ _ (by decide)).trans ((va_up_ne _ _ (by decide)).trans ((va_up_ne _ _ (by decide)).trans ((va_up_ne _ _ (by decide)).trans ((va_up_ne _ _ (by decide)).trans ((va_up_ne _ _ (by decide)).trans ((va_up_ne _ _ (by decide)).trans ((va_up_ne _ _ (by decide)).trans ((va_up_ne _ _ (by decide)).trans w411)))))))))), ((va_up_ne _ _ (by decide)).trans ((va_up_ne _ _ (by decide)).trans ((va_up_ne _ _ (by decide)).trans ((va_up_ne _ _ (by decide)).trans ((va_up_ne _ _ (by decide)).trans ((va_up_ne _ _ (by decide)).trans ((va_up_ne _ _ (by decide)).trans ((va_up_ne _ _ (by decide)).trans ((va_up_ne _ _ (by decide)).trans ((va_up_ne _ _ (by decide)).trans w412)))))))))), ((va_up_ne _ _ (by decide)).trans ((va_up_ne _ _ (by decide)).trans ((va_up_ne _ _ (by decide)).trans ((va_up_ne _ _ (by decide)).trans ((va_up_ne _ _ (by decide)).trans ((va_up_ne _ _ (by decide)).trans ((va_up_ne _ _ (by decide)).trans ((va_up_ne _ _ (by decide)).trans ((va_up_ne _ _ (by decide)).trans ((va_up_ne _ _ (by decide)).trans w413)))))))))), ((va_up_ne _ _ (by decide)).trans ((va_up_ne _ _ (by decide)).trans ((va_up_ne _ _ (by decide)).trans ((va_up_ne _ _ (by decide)).trans ((va_up_ne _ _ (by decide)).trans ((va_up_ne _ _ (by decide)).trans ((va_up_ne _ _ (by decide)).trans ((va_up_ne _ _ (by decide)).trans ((va_up_ne _ _ (by decide)).trans ((va_up_ne _ _ (by decide)).trans w414)))))))))), ((va_up_ne _ _ (by decide)).trans ((va_up_ne _ _ (by decide)).trans ((va_up_ne _ _ (by decide)).trans ((va_up_ne _ _ (by decide)).trans ((va_up_ne _ _ (by decide)).trans ((va_up_ne _ _ (by decide)).trans ((va_up_ne _ _ (by decide)).trans ((va_up_ne _ _ (by decide)).trans ((va_up_ne _ _ (by decide)).trans ((va_up_ne _ _ (by decide)).trans w415)))))))))), ((va_up_ne _ _ (by decide)).trans ((va_up_ne _ _ (by decide)).trans ((va_up_ne _ _ (by decide)).trans ((va_up_ne _ _ (by decide)).trans ((va_up_ne _ _ (by decide)).trans ((va_up_ne _ _ (by decide)).trans ((va_up_ne _ _ (by decide)).trans ((va_up_ne _ _ (by decide)).trans ((va_up_ne _ _ (by decide)).trans ((va_up_ne _ _ (by decide)).trans w416)))))))))), ((va_up_ne _ _ (by decide)).trans ((va_up_ne _ _ (by decide)).trans ((va_up_ne _ _ (by decide)).trans ((va_up_ne _ _ (by decide)).trans ((va_up_ne _ _ (by decide)).trans ((va_up_ne _ _ (by decide)).trans ((va_up_ne _ _ (by decide)).trans ((va_up_ne _ _ (by decide)).trans ((va_up_ne _ _ (by decide)).trans (va_up_self _ _ _)))))))))), ((va_up_ne _ _ (by decide)).trans ((va_up_ne _ _ (by decide)).trans ((va_up_ne _ _ (by decide)).trans ((va_up_ne _ _ (by decide)).trans ((va_up_ne _ _ (by decide)).trans ((va_up_ne _ _ (by decide)).trans ((va_up_ne _ _ (by decide)).trans ((va_up_ne _ _ (by decide)).trans (va_up_self _ _ _))))))))), ((va_up_ne _ _ (by decide)).trans ((va_up_ne _ _ (by decide)).trans ((va_up_ne _ _ (by decide)).trans ((va_up_ne _ _ (by decide)).trans ((va_up_ne _ _ (by decide)).trans ((va_up_ne _ _ (by decide)).trans ((va_up_ne _ _ (by decide)).trans ((va_up_ne _ _ (by decide)).trans ((va_up_ne _ _ (by decide)).trans ((va_up_ne _ _ (by decide)).trans w419)))))))))), ⟨fm, fs, ((va_up_ne _ _ (by decide)).trans ((va_up_ne _ _ (by decide)).trans ((va_up_ne _ _ (by decide)).trans ((va_up_ne _ _ (by decide)).trans ((va_up_ne _ _ (by decide)).trans ((va_up_ne _ _ (by decide)).trans ((va_up_ne _ _ (by decide)).trans ((va_up_ne _ _ (by decide)).trans ((va_up_ne _ _ (by decide)).trans ((va_up_ne _ _ (by decide)).trans w401)))))))))), ((va_up_ne _ _ (by decide)).trans ((va_up_ne _ _ (by decide)).trans ((va_up_ne _ _ (by decide)).trans ((va_up_ne _ _ (by decide)).trans ((va_up_ne _ _ (by decide)).trans ((va_up_ne _ _ (by decide)).trans ((va_up_ne _ _ (by decide)).trans ((va_up_ne _ _ (by decide)).trans ((va_up_ne _ _ (by decide)).trans ((va_up_ne _ _ (by decide)).trans w402)))))))))), hmv, hsp⟩, om, os, f420, f421, f422, f423, f424, f425, f426, ((va_up_ne _ _ (by decide)).trans ((va_up_ne _ _ (by decide)).trans ((va_up_ne _ _ (by decide)).trans ((va_up_ne _ _ (by decide)).trans ((va_up_ne _ _ (by decide)).trans ((va_up_ne _ _ (by decide)).trans ((va_up_ne _ _ (by decide)).trans ((va_up_ne _ _ (by decide)).trans ((va_up_ne _ _ (by decide)).trans ((va_up_ne _ _ (by decide)).trans w403)))))))))), ((va_up_ne _ _ (by decide)).trans ((va_up_ne _ _ (by decide)).trans ((va_up_ne _ _ (by decide)).trans ((va_up_ne _ _ (by decide)).trans ((va_up_ne _ _ (by decide)).trans ((va_up_ne _ _ (by decide)).trans ((va_up_ne _ _ (by decide)).trans ((va_up_ne _ _ (by decide)).trans ((va_up_ne _ _ (by decide)).trans ((va_up_ne _ _ (by decide)).trans w404)))))))))), ((va_up_ne _ _ (by decide)).trans ((va_up_ne _ _ (by decide)).trans ((va_up_ne _ _ (by decide)).trans ((va_up_ne _ _ (by decide)).trans ((va_up_ne _ _ (by decide)).trans ((va_up_ne _ _ (by decide)).trans ((va_up_ne _ _ (by decide)).trans (va_up_self _ _ _)))))))), ((va_up_ne _ _ (by decide)).trans ((va_up_ne _ _ (by decide)).trans ((va_up_ne _ _ (by decide)).trans ((va_up_ne _ _ (by decide)).trans ((va_up_ne _ _ (by decide)).trans ((va_up_ne _ _ (by decide)).trans (va_up_self _ _ _))))))), ((va_up_ne _ _ (by decide)).trans ((va_up_ne _ _ (by decide)).trans ((va_up_ne _ _ (by decide)).trans ((va_up_ne _ _ (by decide)).trans ((va_up_ne _ _ (by decide)).trans (va_up_self _ _ _)))))), ((va_up_ne _ _ (by decide)).trans ((va_up_ne _ _ (by decide)).trans ((va_up_ne _ _ (by decide)).trans ((va_up_ne _ _ (by decide)).trans (va_up_self _ _ _))))), ((va_up_ne _ _ (by decide)).trans ((va_up_ne _ _ (by decide)).trans ((va_up_ne _ _ (by decide)).trans (va_up_self _ _ _)))), ((va_up_ne _ _ (by decide)).trans ((va_up_ne _ _ (by decide)).trans (va_up_self _ _ _))), ((va_up_ne _ _ (by decide)).trans (va_up_self _ _ _))⟩, fun i hi => ((va_up_ne _ _ (by omega)).trans ((va_up_ne _ _ (by omega)).trans ((va_up_ne _ _ (by omega)).trans ((va_up_ne _ _ (by omega)).trans ((va_up_ne _ _ (by omega)).trans ((va_up_ne _ _ (by omega)).trans ((va_up_ne _ _ (by omega)).trans ((va_up_ne _ _ (by omega)).trans ((va_up_ne _ _ (by omega)).trans ((va_up_ne _ _ (by omega)).trans rfl))))))))))⟩
theorem kp_fit {cI cJ cG : ClassId} {ad : Nat → Nat} {co co9 : Nat → va_E} {a : Nat} {S : lSt} (hl : lOk a S) (hk : kOS cI cJ cG ad co a S) (x : Int32) {r : Int32} (hp : (refF x S.n ∧ r = -1 ∧ co9 = co) ∨ (¬ refF x S.n ∧ ∃ J, J = fitN (fkp a (alw S.tr S.shp (-1)) S.cl S.n S.mv S.sp) x.toNatClampNeg 0 ∧ r = nI J ∧ co9 0 = oK ad a (nI J) S.sh S.mg ∧ co9 34 = .inl (cJ, 21, .inr (.inl (fun i => if i ≤ J then (nI (fcs a (alw S.tr S.shp (-1)) S.cl S.n S.mv S.sp i)).toInt64 else S.su i))) ∧ (kSt cI cG ad a co9 ∧ kSc cI ad a co9 ∧ kTb cI a (fitQ a (alw S.tr S.shp (-1)) S.cl S.n S.mv S.sp J).1 (fitQ a (alw S.tr S.shp (-1)) S.cl S.n S.mv S.sp J).2 co9 ∧ kLt cI ad S.n (fcs a (alw S.tr S.shp (-1)) S.cl S.n S.mv S.sp J) (fun i => if i < S.n then nI (bln a (alw S.tr S.shp (-1)) S.cl (fitQ a (alw S.tr S.shp (-1)) S.cl S.n S.mv S.sp J).1 (fitQ a (alw S.tr S.shp (-1)) S.cl S.n S.mv S.sp J).2 S.n i) else S.ln i) (fun i => if i < S.n then nxt a (alw S.tr S.shp (-1)) S.cl (fitQ a (alw S.tr S.shp (-1)) S.cl S.n S.mv S.sp J).1 (fitQ a (alw S.tr S.shp (-1)) S.cl S.n S.mv S.sp J).2 S.n S.tr i else S.nx i) co9) ∧ ∀ i, kFr i → i ≠ 0 → i ≠ 34 → co9 i = co i)) : r = vFit a S x ∧ kOS cI cJ cG ad co9 a (nFit a S x) ∧ ∀ i, 400 ≤ i → co9 i = co i := by
  unfold vFit nFit
  rcases hp with ⟨h1, rfl, rfl⟩ | ⟨h1, J, hJ, rfl, p0, p34, ⟨q1, q2, q3, q4⟩, h9⟩
  · rw [if_pos (show x < nI 1 ∨ nI 20 < x ∨ S.n = 0 from h1), if_pos (show x < nI 1 ∨ nI 20 < x ∨ S.n = 0 from h1)]
    exact ⟨rfl, hk, fun i hi => rfl⟩
  · rw [if_neg (show ¬ (x < nI 1 ∨ nI 20 < x ∨ S.n = 0) from h1), if_neg (show ¬ (x < nI 1 ∨ nI 20 < x ∨ S.n = 0) from h1)]
    have hJ2 : lJ a S x = J := hJ.symm
    rw [hJ2]
    obtain ⟨w0, w1, w2, w3, w4, w5, w6, w25, w26, w27, w28, w29, w30, w31, w32, w33, w34, k1, k2, k3, k4⟩ := hk
    have hs : nI (J + 1) - nI 1 = nI J := lw_s1 J
    exact ⟨rfl, ⟨p0.trans (congrArg (fun z => oK ad a z S.sh S.mg) hs.symm), (h9 _ (by unfold kFr; decide) (by decide) (by decide)).trans w1, (h9 _ (by unfold kFr; decide) (by decide) (by decide)).trans w2, (h9 _ (by unfold kFr; decide) (by decide) (by decide)).trans w3, (h9 _ (by unfold kFr; decide) (by decide) (by decide)).trans w4, (h9 _ (by unfold kFr; decide) (by decide) (by decide)).trans w5, (h9 _ (by unfold kFr; decide) (by decide) (by decide)).trans w6, (h9 _ (by unfold kFr; decide) (by decide) (by decide)).trans w25, (h9 _ (by unfold kFr; decide) (by decide) (by decide)).trans w26, (h9 _ (by unfold kFr; decide) (by decide) (by decide)).trans w27, (h9 _ (by unfold kFr; decide) (by decide) (by decide)).trans w28, (h9 _ (by unfold kFr; decide) (by decide) (by decide)).trans w29, (h9 _ (by unfold kFr; decide) (by decide) (by decide)).trans w30, (h9 _ (by unfold kFr; decide) (by decide) (by decide)).trans w31, (h9 _ (by unfold kFr; decide) (by decide) (by decide)).trans w32, (h9 _ (by unfold kFr; decide) (by decide) (by decide)).trans w33, p34, q1, q2, q3, q4⟩, fun i hi => h9 i (by unfold kFr; omega) (by omega) (by omega)⟩
theorem mp_fit {cI cJ : ClassId} {ad : Nat → Nat} {co co9 : Nat → va_E} {a : Nat} {S : lSt} (hl : lOk a S) (hm : mOS cI cJ ad co a S) (x : Int32) {r : Int32} (hp : (refF x S.n ∧ r = -1 ∧ co9 = co) ∨ (¬ refF x S.n ∧ ∃ J, J = (fitN (fkp a (alw S.tr S.shp (-1)) S.cl S.n S.mv S.sp) x.toNatClampNeg 0) ∧ r = nI J ∧ ∃ g401 g402 g403 g404 g420 g421 g422 g423 g424 g425 g426 : Nat → Int32, co9 = va_up (wF cI cJ co g401 g402 g403 g404 (fun i => if i < S.n then nI (bln a (alw S.tr S.shp (-1)) S.cl (fitQ a (alw S.tr S.shp (-1)) S.cl S.n S.mv S.sp J).1 (fitQ a (alw S.tr S.shp (-1)) S.cl S.n S.mv S.sp J).2 S.n i) else S.ln i) (fun i => if i < S.n then nxt a (alw S.tr S.shp (-1)) S.cl (fitQ a (alw S.tr S.shp (-1)) S.cl S.n S.mv S.sp J).1 (fitQ a (alw S.tr S.shp (-1)) S.cl S.n S.mv S.sp J).2 S.n S.tr i else S.nx i) (fun i => if i ≤ J then (nI (fcs a (alw S.tr S.shp (-1)) S.cl S.n S.mv S.sp i)).toInt64 else S.su i) g420 g421 g422 g423 g424 g425 g426) 400 (mO ad a S.n S.sh S.pg S.ce S.mg S.n (fcs a (alw S.tr S.shp (-1)) S.cl S.n S.mv S.sp J) (J + 1)) ∧ (∀ i j, i < a → j < a → g401 (12 * i + j) = nI ((fitQ a (alw S.tr S.shp (-1)) S.cl S.n S.mv S.sp J).1 i j)) ∧ ∀ i c, i < a → c < 10 → g402 (10 * i + c) = nI ((fitQ a (alw S.tr S.shp (-1)) S.cl S.n S.mv S.sp J).2 i c))) : r = vFit a S x ∧ mOS cI cJ ad co9 a (nFit a S x) ∧ ∀ i, i < 400 → co9 i = co i := by
  unfold vFit nFit
  rcases hp with ⟨h1, rfl, rfl⟩ | ⟨h1, J, hJ, rfl, g401, g402, g403, g404, g420, g421, g422, g423, g424, g425, g426, rfl, hm1, hs1⟩
  · rw [if_pos (show x < nI 1 ∨ nI 20 < x ∨ S.n = 0 from h1), if_pos (show x < nI 1 ∨ nI 20 < x ∨ S.n = 0 from h1)]
    exact ⟨rfl, hm, fun i hi => rfl⟩
  · rw [if_neg (show ¬ (x < nI 1 ∨ nI 20 < x ∨ S.n = 0) from h1), if_neg (show ¬ (x < nI 1 ∨ nI 20 < x ∨ S.n = 0) from h1)]
    have hJ2 : lJ a S x = J := hJ.symm
    rw [hJ2]
    obtain ⟨w400, w405, w406, w407, w408, w409, w410, w411, w412, w413, w414, w415, w416, w417, w418, w419, ⟨fm, fs, w401, w402, hmv, hsp⟩, om, os, so, lg, sc, lc, f0, g0, fd, w403, w404, w420, w421, w422, w423, w424, w425, w426⟩ := hm
    unfold wF
    exact ⟨rfl, ⟨(va_up_self _ _ _), ((va_up_ne _ _ (by decide)).trans ((va_up_ne _ _ (by decide)).trans ((va_up_ne _ _ (by decide)).trans ((va_up_ne _ _ (by decide)).trans ((va_up_ne _ _ (by decide)).trans ((va_up_ne _ _ (by decide)).trans ((va_up_ne _ _ (by decide)).trans ((va_up_ne _ _ (by decide)).trans ((va_up_ne _ _ (by decide)).trans ((va_up_ne _ _ (by decide)).trans ((va_up_ne _ _ (by decide)).trans ((va_up_ne _ _ (by decide)).trans ((va_up_ne _ _ (by decide)).trans ((va_up_ne _ _ (by decide)).trans ((va_up_ne _ _ (by decide)).trans w405))))))))))))))), ((va_up_ne _ _ (by decide)).trans ((va_up_ne _ _ (by decide)).trans ((va_up_ne _ _ (by decide)).trans ((va_up_ne _ _ (by decide)).trans ((va_up_ne _ _ (by decide)).trans ((va_up_ne _ _ (by decide)).trans ((va_up_ne _ _ (by decide)).trans ((va_up_ne _ _ (by decide)).trans ((va_up_ne _ _ (by decide)).trans ((va_up_ne _ _ (by decide)).trans ((va_up_ne _ _ (by decide)).trans ((va_up_ne _ _ (by decide)).trans ((va_up_ne _ _ (by decide)).trans ((va_up_ne _ _ (by decide)).trans ((va_up_ne _ _ (by decide)).trans w406))))))))))))))), ((va_up_ne _ _ (by decide)).trans ((va_up_ne _ _ (by decide)).trans ((va_up_ne _ _ (by decide)).trans ((va_up_ne _ _ (by decide)).trans ((va_up_ne _ _ (by decide)).trans ((va_up_ne _ _ (by decide)).trans ((va_up_ne _ _ (by decide)).trans ((va_up_ne _ _ (by decide)).trans ((va_up_ne _ _ (by decide)).trans ((va_up_ne _ _ (by decide)).trans ((va_up_ne _ _ (by decide)).trans ((va_up_ne _ _ (by decide)).trans ((va_up_ne _ _ (by decide)).trans ((va_up_ne _ _ (by decide)).trans ((va_up_ne _ _ (by decide)).trans w407))))))))))))))), ((va_up_ne _ _ (by decide)).trans ((va_up_ne _ _ (by decide)).trans ((va_up_ne _ _ (by decide)).trans ((va_up_ne _ _ (by decide)).trans ((va_up_ne _ _ (by decide)).trans ((va_up_ne _ _ (by decide)).trans ((va_up_ne _ _ (by decide)).trans ((va_up_ne _ _ (by decide)).trans ((va_up_ne _ _ (by decide)).trans ((va_up_ne _ _ (by decide)).trans ((va_up_ne _ _ (by decide)).trans ((va_up_ne _ _ (by decide)).trans ((va_up_ne _ _ (by decide)).trans ((va_up_ne _ _ (by decide)).trans ((va_up_ne _ _ (by decide)).trans w408))))))))))))))), ((va_up_ne _ _ (by decide)).trans ((va_up_ne _ _ (by decide)).trans ((va_up_ne _ _ (by decide)).trans ((va_up_ne _ _ (by decide)).trans ((va_up_ne _ _ (by decide)).trans ((va_up_ne _ _ (by decide)).trans ((va_up_ne _ _ (by decide)).trans ((va_up_ne _ _ (by decide)).trans ((va_up_ne _ _ (by decide)).trans ((va_up_ne _ _ (by decide)).trans ((va_up_ne _ _ (by decide)).trans ((va_up_ne _ _ (by decide)).trans ((va_up_ne _ _ (by decide)).trans ((va_up_ne _ _ (by decide)).trans ((va_up_ne _ _ (by decide)).trans w409))))))))))))))), ((va_up_ne _ _ (by decide)).trans ((va_up_ne _ _ (by decide)).trans ((va_up_ne _ _ (by decide)).trans ((va_up_ne _ _ (by decide)).trans ((va_up_ne _ _ (by decide)).trans ((va_up_ne _ _ (by decide)).trans ((va_up_ne _ _ (by decide)).trans ((va_up_ne _ _ (by decide)).trans ((va_up_ne _ _ (by decide)).trans ((va_up_ne _ _ (by decide)).trans ((va_up_ne _ _ (by decide)).trans ((va_up_ne _ _ (by decide)).trans ((va_up_ne _ _ (by decide)).trans ((va_up_ne _ _ (by decide)).trans ((va_up_ne _ _ (by decide)).trans w410))))))))))))))), ((va_up_ne _ _ (by decide)).trans ((va_up_ne _ _ (by decide)).trans ((va_up_ne _ _ (by decide)).trans ((va_up_ne _ _ (by decide)).trans ((va_up_ne _ _ (by decide)).trans ((va_up_ne _ _ (by decide)).trans ((va_up_ne _ _ (by decide)).trans ((va_up_ne _ _ (by decide)).trans ((va_up_ne _ _ (by decide)).trans ((va_up_ne _ _ (by decide)).trans ((va_up_ne _ _ (by decide)).trans ((va_up_ne _ _ (by decide)).trans ((va_up_ne _ _ (by decide)).trans ((va_up_ne _ _ (by decide)).trans ((va_up_ne _ _ (by decide)).trans w411))))))))))))))), ((va_up_ne _ _ (by decide)).trans ((va_up_ne _ _ (by decide)).trans ((va_up_ne _ _ (by decide)).trans ((va_up_ne _ _ (by decide)).trans ((va_up_ne _ _ (by decide)).trans ((va_up_ne _ _ (by decide)).trans ((va_up_ne _ _ (by decide)).trans ((va_up_ne _ _ (by decide)).trans ((va_up_ne _ _ (by decide)).trans ((va_up_ne _ _ (by decide)).trans ((va_up_ne _ _ (by decide)).trans ((va_up_ne _ _ (by decide)).trans ((va_up_ne _ _ (by decide)).trans ((va_up_ne _ _ (by decide)).trans ((va_up_ne _ _ (by decide)).trans w412))))))))))))))), ((va_up_ne _ _ (by decide)).trans ((va_up_ne _ _ (by decide)).trans ((va_up_ne _ _ (by decide)).trans ((va_up_ne _ _ (by decide)).trans ((va_up_ne _ _ (by decide)).trans ((va_up_ne _ _ (by decide)).trans ((va_up_ne _ _ (by decide)).trans ((va_up_ne _ _ (by decide)).trans ((va_up_ne _ _ (by decide)).trans ((va_up_ne _ _ (by decide)).trans ((va_up_ne _ _ (by decide)).trans ((va_up_ne _ _ (by decide)).trans ((va_up_ne _ _ (by decide)).trans ((va_up_ne _ _ (by decide)).trans ((va_up_ne _ _ (by decide)).trans w413))))))))))))))), ((va_up_ne _ _ (by decide)).trans ((va_up_ne _ _ (by decide)).trans ((va_up_ne _ _ (by decide)).trans ((va_up_ne _ _ (by decide)).trans ((va_up_ne _ _ (by decide)).trans ((va_up_ne _ _ (by decide)).trans ((va_up_ne _ _ (by decide)).trans ((va_up_ne _ _ (by decide)).trans ((va_up_ne _ _ (by decide)).trans ((va_up_ne _ _ (by decide)).trans ((va_up_ne _ _ (by decide)).trans ((va_up_ne _ _ (by decide)).trans ((va_up_ne _ _ (by decide)).trans ((va_up_ne _ _ (by decide)).trans ((va_up_ne _ _ (by decide)).trans w414))))))))))))))), ((va_up_ne _ _ (by decide)).trans ((va_up_ne _ _ (by decide)).trans ((va_up_ne _ _ (by decide)).trans ((va_up_ne _ _ (by decide)).trans ((va_up_ne _ _ (by decide)).trans ((va_up_ne _ _ (by decide)).trans ((va_up_ne _ _ (by decide)).trans ((va_up_ne _ _ (by decide)).trans ((va_up_ne _ _ (by decide)).trans ((va_up_ne _ _ (by decide)).trans ((va_up_ne _ _ (by decide)).trans ((va_up_ne _ _ (by decide)).trans ((va_up_ne _ _ (by decide)).trans ((va_up_ne _ _ (by decide)).trans ((va_up_ne _ _ (by decide)).trans w415))))))))))))))), ((va_up_ne _ _ (by decide)).trans ((va_up_ne _ _ (by decide)).trans ((va_up_ne _ _ (by decide)).trans ((va_up_ne _ _ (by decide)).trans ((va_up_ne _ _ (by decide)).trans ((va_up_ne _ _ (by decide)).trans ((va_up_ne _ _ (by decide)).trans ((va_up_ne _ _ (by decide)).trans ((va_up_ne _ _ (by decide)).trans ((va_up_ne _ _ (by decide)).trans ((va_up_ne _ _ (by decide)).trans ((va_up_ne _ _ (by decide)).trans ((va_up_ne _ _ (by decide)).trans ((va_up_ne _ _ (by decide)).trans ((va_up_ne _ _ (by decide)).trans w416))))))))))))))), ((va_up_ne _ _ (by decide)).trans ((va_up_ne _ _ (by decide)).trans ((va_up_ne _ _ (by decide)).trans ((va_up_ne _ _ (by decide)).trans ((va_up_ne _ _ (by decide)).trans ((va_up_ne _ _ (by decide)).trans ((va_up_ne _ _ (by decide)).trans ((va_up_ne _ _ (by decide)).trans ((va_up_ne _ _ (by decide)).trans ((va_up_ne _ _ (by decide)).trans (va_up_self _ _ _))))))))))), ((va_up_ne _ _ (by decide)).trans ((va_up_ne _ _ (by decide)).trans ((va_up_ne _ _ (by decide)).trans ((va_up_ne _ _ (by decide)).trans ((va_up_ne _ _ (by decide)).trans ((va_up_ne _ _ (by decide)).trans ((va_up_ne _ _ (by decide)).trans ((va_up_ne _ _ (by decide)).trans ((va_up_ne _ _ (by decide)).trans (va_up_self _ _ _)))))))))), ((va_up_ne _ _ (by decide)).trans ((va_up_ne _ _ (by decide)).trans ((va_up_ne _ _ (by decide)).trans ((va_up_ne _ _ (by decide)).trans ((va_up_ne _ _ (by decide)).trans ((va_up_ne _ _ (by decide)).trans ((va_up_ne _ _ (by decide)).trans ((va_up_ne _ _ (by decide)).trans (va_up_self _ _ _))))))))), ⟨g401, g402, ((va_up_ne _ _ (by decide)).trans ((va_up_ne _ _ (by decide)).trans ((va_up_ne _ _ (by decide)).trans ((va_up_ne _ _ (by decide)).trans ((va_up_ne _ _ (by decide)).trans ((va_up_ne _ _ (by decide)).trans ((va_up_ne _ _ (by decide)).trans ((va_up_ne _ _ (by decide)).trans ((va_up_ne _ _ (by decide)).trans ((va_up_ne _ _ (by decide)).trans ((va_up_ne _ _ (by decide)).trans ((va_up_ne _ _ (by decide)).trans ((va_up_ne _ _ (by decide)).trans ((va_up_ne _ _ (by decide)).trans (va_up_self _ _ _))))))))))))))), ((va_up_ne _ _ (by decide)).trans ((va_up_ne _ _ (by decide)).trans ((va_up_ne _ _ (by decide)).trans ((va_up_ne _ _ (by decide)).trans ((va_up_ne _ _ (by decide)).trans ((va_up_ne _ _ (by decide)).trans ((va_up_ne _ _ (by decide)).trans ((va_up_ne _ _ (by decide)).trans ((va_up_ne _ _ (by decide)).trans ((va_up_ne _ _ (by decide)).trans ((va_up_ne _ _ (by decide)).trans ((va_up_ne _ _ (by decide)).trans ((va_up_ne _ _ (by decide)).trans (va_up_self _ _ _)))))))))))))), hm1, hs1⟩, g403, g404, g420, g421, g422, g423, g424, g425, g426, ((va_up_ne _ _ (by decide)).trans ((va_up_ne _ _ (by decide)).trans ((va_up_ne _ _ (by decide)).trans ((va_up_ne _ _ (by decide)).trans ((va_up_ne _ _ (by decide)).trans ((va_up_ne _ _ (by decide)).trans ((va_up_ne _ _ (by decide)).trans ((va_up_ne _ _ (by decide)).trans ((va_up_ne _ _ (by decide)).trans ((va_up_ne _ _ (by decide)).trans ((va_up_ne _ _ (by decide)).trans ((va_up_ne _ _ (by decide)).trans (va_up_self _ _ _))))))))))))), ((va_up_ne _ _ (by decide)).trans ((va_up_ne _ _ (by decide)).trans ((va_up_ne _ _ (by decide)).trans ((va_up_ne _ _ (by decide)).trans ((va_up_ne _ _ (by decide)).trans ((va_up_ne _ _ (by decide)).trans ((va_up_ne _ _ (by decide)).trans ((va_up_ne _ _ (by decide)).trans ((va_up_ne _ _ (by decide)).trans ((va_up_ne _ _ (by decide)).trans ((va_up_ne _ _ (by decide)).trans (va_up_self _ _ _)))))))))))), ((va_up_ne _ _ (by decide)).trans ((va_up_ne _ _ (by decide)).trans ((va_up_ne _ _ (by decide)).trans ((va_up_ne _ _ (by decide)).trans ((va_up_ne _ _ (by decide)).trans ((va_up_ne _ _ (by decide)).trans ((va_up_ne _ _ (by decide)).trans (va_up_self _ _ _)))))))), ((va_up_ne _ _ (by decide)).trans ((va_up_ne _ _ (by decide)).trans ((va_up_ne _ _ (by decide)).trans ((va_up_ne _ _ (by decide)).trans ((va_up_ne _ _ (by decide)).trans ((va_up_ne _ _ (by decide)).trans (va_up_self _ _ _))))))), ((va_up_ne _ _ (by decide)).trans ((va_up_ne _ _ (by decide)).trans ((va_up_ne _ _ (by decide)).trans ((va_up_ne _ _ (by decide)).trans ((va_up_ne _ _ (by decide)).trans (va_up_self _ _ _)))))), ((va_up_ne _ _ (by decide)).trans ((va_up_ne _ _ (by decide)).trans ((va_up_ne _ _ (by decide)).trans ((va_up_ne _ _ (by decide)).trans (va_up_self _ _ _))))), ((va_up_ne _ _ (by decide)).trans ((va_up_ne _ _ (by decide)).trans ((va_up_ne _ _ (by decide)).trans (va_up_self _ _ _)))), ((va_up_ne _ _ (by decide)).trans ((va_up_ne _ _ (by decide)).trans (va_up_self _ _ _))), ((va_up_ne _ _ (by decide)).trans (va_up_self _ _ _))⟩, fun i hi => ((va_up_ne _ _ (by omega)).trans ((va_up_ne _ _ (by omega)).trans ((va_up_ne _ _ (by omega)).trans ((va_up_ne _ _ (by omega)).trans ((va_up_ne _ _ (by omega)).trans ((va_up_ne _ _ (by omega)).trans ((va_up_ne _ _ (by omega)).trans ((va_up_ne _ _ (by omega)).trans ((va_up_ne _ _ (by omega)).trans ((va_up_ne _ _ (by omega)).trans ((va_up_ne _ _ (by omega)).trans ((va_up_ne _ _ (by omega)).trans ((va_up_ne _ _ (by omega)).trans ((va_up_ne _ _ (by omega)).trans ((va_up_ne _ _ (by omega)).trans rfl)))))))))))))))⟩
theorem kp_leftOut {cI cJ cG : ClassId} {ad : Nat → Nat} {co co9 : Nat → va_E} {a : Nat} {S : lSt} (hl : lOk a S) (hk : kOS cI cJ cG ad co a S) (w : Int32) {r : Int32} (hp : (cntF (fun k => decide (S.shp k = w) && decide (¬ S.tr k = -1)) S.n = 0 ∧ r = -1 ∧ co9 = co) ∨ (0 < cntF (fun k => decide (S.shp k = w) && decide (¬ S.tr k = -1)) S.n ∧ r = nI (1000 * cntF (fun k => decide (S.shp k = w) && decide (¬ S.tr k = -1) && decide (¬ S.tr k = nI (bln a (alw S.tr S.shp w) S.cl S.mv S.sp S.n k))) S.n / cntF (fun k => decide (S.shp k = w) && decide (¬ S.tr k = -1)) S.n) ∧ kSt cI cG ad a co9 ∧ kSc cI ad a co9 ∧ kTb cI a S.mv S.sp co9 ∧ kLt cI ad S.kn S.cs S.ln S.nx co9 ∧ ∀ i, kFr i → co9 i = co i)) : r = vLeft a S w ∧ kOS cI cJ cG ad co9 a S ∧ ∀ i, 400 ≤ i → co9 i = co i := by
  unfold vLeft
  rcases hp with ⟨h1, rfl, rfl⟩ | ⟨h1, rfl, q1, q2, q3, q4, h9⟩
  · rw [if_pos h1]
    exact ⟨rfl, hk, fun i hi => rfl⟩
  · rw [if_neg (Nat.ne_of_gt h1)]
    obtain ⟨w0, w1, w2, w3, w4, w5, w6, w25, w26, w27, w28, w29, w30, w31, w32, w33, w34, k1, k2, k3, k4⟩ := hk
    exact ⟨rfl, ⟨(h9 _ (by unfold kFr; decide)).trans w0, (h9 _ (by unfold kFr; decide)).trans w1, (h9 _ (by unfold kFr; decide)).trans w2, (h9 _ (by unfold kFr; decide)).trans w3, (h9 _ (by unfold kFr; decide)).trans w4, (h9 _ (by unfold kFr; decide)).trans w5, (h9 _ (by unfold kFr; decide)).trans w6, (h9 _ (by unfold kFr; decide)).trans w25, (h9 _ (by unfold kFr; decide)).trans w26, (h9 _ (by unfold kFr; decide)).trans w27, (h9 _ (by unfold kFr; decide)).trans w28, (h9 _ (by unfold kFr; decide)).trans w29, (h9 _ (by unfold kFr; decide)).trans w30, (h9 _ (by unfold kFr; decide)).trans w31, (h9 _ (by unfold kFr; decide)).trans w32, (h9 _ (by unfold kFr; decide)).trans w33, (h9 _ (by unfold kFr; decide)).trans w34, q1, q2, q3, q4⟩, fun i hi => h9 i (by unfold kFr; omega)⟩
theorem mp_leftOut {cI cJ : ClassId} {ad : Nat → Nat} {co co9 : Nat → va_E} {a : Nat} {S : lSt} (hl : lOk a S) (hm : mOS cI cJ ad co a S) (w : Int32) {r : Int32} (hp : (cntF (fun k => decide (S.shp k = w) && decide (¬ S.tr k = -1)) S.n = 0 ∧ r = -1 ∧ co9 = co) ∨ (0 < cntF (fun k => decide (S.shp k = w) && decide (¬ S.tr k = -1)) S.n ∧ r = nI (1000 * cntF (fun k => decide (S.shp k = w) && decide (¬ S.tr k = -1) && decide (¬ S.tr k = nI (bln a (alw S.tr S.shp w) S.cl S.mv S.sp S.n k))) S.n / cntF (fun k => decide (S.shp k = w) && decide (¬ S.tr k = -1)) S.n) ∧ ∃ f420 f421 f422 f423 f426 : Nat → Int32, co9 = wS cI cJ co f420 f421 f422 f423 f426)) : r = vLeft a S w ∧ mOS cI cJ ad co9 a S ∧ ∀ i, i < 400 → co9 i = co i := by
  unfold vLeft
  rcases hp with ⟨h1, rfl, rfl⟩ | ⟨h1, rfl, f420, f421, f422, f423, f426, rfl⟩
  · rw [if_pos h1]
    exact ⟨rfl, hm, fun i hi => rfl⟩
  · rw [if_neg (Nat.ne_of_gt h1)]
    obtain ⟨w400, w405, w406, w407, w408, w409, w410, w411, w412, w413, w414, w415, w416, w417, w418, w419, ⟨fm, fs, w401, w402, hmv, hsp⟩, om, os, so, lg, sc, lc, f0, g0, fd, w403, w404, w420, w421, w422, w423, w424, w425, w426⟩ := hm
    unfold wS
    exact ⟨rfl, ⟨((va_up_ne _ _ (by decide)).trans ((va_up_ne _ _ (by decide)).trans ((va_up_ne _ _ (by decide)).trans ((va_up_ne _ _ (by decide)).trans ((va_up_ne _ _ (by decide)).trans w400))))), ((va_up_ne _ _ (by decide)).trans ((va_up_ne _ _ (by decide)).trans ((va_up_ne _ _ (by decide)).trans ((va_up_ne _ _ (by decide)).trans ((va_up_ne _ _ (by decide)).trans w405))))), ((va_up_ne _ _ (by decide)).trans ((va_up_ne _ _ (by decide)).trans ((va_up_ne _ _ (by decide)).trans ((va_up_ne _ _ (by decide)).trans ((va_up_ne _ _ (by decide)).trans w406))))), ((va_up_ne _ _ (by decide)).trans ((va_up_ne _ _ (by decide)).trans ((va_up_ne _ _ (by decide)).trans ((va_up_ne _ _ (by decide)).trans ((va_up_ne _ _ (by decide)).trans w407))))), ((va_up_ne _ _ (by decide)).trans ((va_up_ne _ _ (by decide)).trans ((va_up_ne _ _ (by decide)).trans ((va_up_ne _ _ (by decide)).trans ((va_up_ne _ _ (by decide)).trans w408))))), ((va_up_ne _ _ (by decide)).trans ((va_up_ne _ _ (by decide)).trans ((va_up_ne _ _ (by decide)).trans ((va_up_ne _ _ (by decide)).trans ((va_up_ne _ _ (by decide)).trans w409))))), ((va_up_ne _ _ (by decide)).trans ((va_up_ne _ _ (by decide)).trans ((va_up_ne _ _ (by decide)).trans ((va_up_ne _ _ (by decide)).trans ((va_up_ne _ _ (by decide)).trans w410))))), ((va_up_ne _ _ (by decide)).trans ((va_up_ne _ _ (by decide)).trans ((va_up_ne _ _ (by decide)).trans ((va_up_ne _ _ (by decide)).trans ((va_up_ne _ _ (by decide)).trans w411))))), ((va_up_ne _ _ (by decide)).trans ((va_up_ne _ _ (by decide)).trans ((va_up_ne _ _ (by decide)).trans ((va_up_ne _ _ (by decide)).trans ((va_up_ne _ _ (by decide)).trans w412))))), ((va_up_ne _ _ (by decide)).trans ((va_up_ne _ _ (by decide)).trans ((va_up_ne _ _ (by decide)).trans ((va_up_ne _ _ (by decide)).trans ((va_up_ne _ _ (by decide)).trans w413))))), ((va_up_ne _ _ (by decide)).trans ((va_up_ne _ _ (by decide)).trans ((va_up_ne _ _ (by decide)).trans ((va_up_ne _ _ (by decide)).trans ((va_up_ne _ _ (by decide)).trans w414))))), ((va_up_ne _ _ (by decide)).trans ((va_up_ne _ _ (by decide)).trans ((va_up_ne _ _ (by decide)).trans ((va_up_ne _ _ (by decide)).trans ((va_up_ne _ _ (by decide)).trans w415))))), ((va_up_ne _ _ (by decide)).trans ((va_up_ne _ _ (by decide)).trans ((va_up_ne _ _ (by decide)).trans ((va_up_ne _ _ (by decide)).trans ((va_up_ne _ _ (by decide)).trans w416))))), ((va_up_ne _ _ (by decide)).trans ((va_up_ne _ _ (by decide)).trans ((va_up_ne _ _ (by decide)).trans ((va_up_ne _ _ (by decide)).trans ((va_up_ne _ _ (by decide)).trans w417))))), ((va_up_ne _ _ (by decide)).trans ((va_up_ne _ _ (by decide)).trans ((va_up_ne _ _ (by decide)).trans ((va_up_ne _ _ (by decide)).trans ((va_up_ne _ _ (by decide)).trans w418))))), ((va_up_ne _ _ (by decide)).trans ((va_up_ne _ _ (by decide)).trans ((va_up_ne _ _ (by decide)).trans ((va_up_ne _ _ (by decide)).trans ((va_up_ne _ _ (by decide)).trans w419))))), ⟨fm, fs, ((va_up_ne _ _ (by decide)).trans ((va_up_ne _ _ (by decide)).trans ((va_up_ne _ _ (by decide)).trans ((va_up_ne _ _ (by decide)).trans ((va_up_ne _ _ (by decide)).trans w401))))), ((va_up_ne _ _ (by decide)).trans ((va_up_ne _ _ (by decide)).trans ((va_up_ne _ _ (by decide)).trans ((va_up_ne _ _ (by decide)).trans ((va_up_ne _ _ (by decide)).trans w402))))), hmv, hsp⟩, om, os, f420, f421, f422, f423, f0, g0, f426, ((va_up_ne _ _ (by decide)).trans ((va_up_ne _ _ (by decide)).trans ((va_up_ne _ _ (by decide)).trans ((va_up_ne _ _ (by decide)).trans ((va_up_ne _ _ (by decide)).trans w403))))), ((va_up_ne _ _ (by decide)).trans ((va_up_ne _ _ (by decide)).trans ((va_up_ne _ _ (by decide)).trans ((va_up_ne _ _ (by decide)).trans ((va_up_ne _ _ (by decide)).trans w404))))), ((va_up_ne _ _ (by decide)).trans ((va_up_ne _ _ (by decide)).trans ((va_up_ne _ _ (by decide)).trans ((va_up_ne _ _ (by decide)).trans (va_up_self _ _ _))))), ((va_up_ne _ _ (by decide)).trans ((va_up_ne _ _ (by decide)).trans ((va_up_ne _ _ (by decide)).trans (va_up_self _ _ _)))), ((va_up_ne _ _ (by decide)).trans ((va_up_ne _ _ (by decide)).trans (va_up_self _ _ _))), ((va_up_ne _ _ (by decide)).trans (va_up_self _ _ _)), ((va_up_ne _ _ (by decide)).trans ((va_up_ne _ _ (by decide)).trans ((va_up_ne _ _ (by decide)).trans ((va_up_ne _ _ (by decide)).trans ((va_up_ne _ _ (by decide)).trans w424))))), ((va_up_ne _ _ (by decide)).trans ((va_up_ne _ _ (by decide)).trans ((va_up_ne _ _ (by decide)).trans ((va_up_ne _ _ (by decide)).trans ((va_up_ne _ _ (by decide)).trans w425))))), (va_up_self _ _ _)⟩, fun i hi => ((va_up_ne _ _ (by omega)).trans ((va_up_ne _ _ (by omega)).trans ((va_up_ne _ _ (by omega)).trans ((va_up_ne _ _ (by omega)).trans ((va_up_ne _ _ (by omega)).trans rfl)))))⟩
