theorem gMi_post {l : Launch} {y : MethodName} {ws : List Cond} {rm : Room} {D : va_G} {cl : List vw_C} {tys : List (ClassId × FieldType)} {nl : List Cond} {av : List Value} {ad : Nat → Nat} {co : Nat → va_E} {dl : List Nat} {post post' : Int32 → (Nat → va_E) → Prop} (h : gMi l y ws rm D cl tys nl av ad co dl post) (hp : ∀ r c, post r c → post' r c) : gMi l y ws rm D cl tys nl av ad co dl post' := fun sz => MetFree.mono (h sz) (fun _ _ q => q) (fun _ _ _ _ _ q => q) (fun a st oc t _ q => by
  obtain ⟨⟨⟨r, u, h1, h2, h3⟩, h4⟩, h5⟩ := q
  exact ⟨⟨⟨r, u, h1, hp r u h2, h3⟩, h4⟩, h5⟩)
theorem gMl_post {l : Launch} {y : MethodName} {ws : List Cond} {rm : Room} {D : va_G} {cl : List vw_C} {tys : List (ClassId × FieldType)} {nl : List Cond} {av : List Value} {ad : Nat → Nat} {co : Nat → va_E} {dl : List Nat} {post post' : Int64 → (Nat → va_E) → Prop} (h : gMl l y ws rm D cl tys nl av ad co dl post) (hp : ∀ r c, post r c → post' r c) : gMl l y ws rm D cl tys nl av ad co dl post' := fun sz => MetFree.mono (h sz) (fun _ _ q => q) (fun _ _ _ _ _ q => q) (fun a st oc t _ q => by
  obtain ⟨⟨⟨r, u, h1, h2, h3⟩, h4⟩, h5⟩ := q
  exact ⟨⟨⟨r, u, h1, hp r u h2, h3⟩, h4⟩, h5⟩)
theorem k_move (l : Launch) {D : va_G} {cI cJ cG : ClassId} {ad : Nat → Nat} {co : Nat → va_E} {dl : List Nat} {a : Nat} {S : lSt} (hdl : ∀ i, kD a i → i ∈ dl) (hl : lOk a S) (hk : kOS cI cJ cG ad co a S) (x : Int32) (y : Int32) (v : Int32) : gMi l y_K_move (Cond.code y_K_move b_K_move 4 (some .boolean) :: wA) ({ frames := 2, cells := 0, slots := 0, locals := 42 }) D gCl (gTy cI cJ cG) gNl [.ref (ad 0), .int x, .int y, .int v] ad co dl (fun r co9 => r = (bI (okMove a x y v)) ∧ kOS cI cJ cG ad co9 a (nMove a S x y v) ∧ ∀ i, 400 ≤ i → co9 i = co i) := by
  obtain ⟨w0, w1, w2, w3, w4, w5, w6, w25, w26, w27, w28, w29, w30, w31, w32, w33, w34, k1, k2, k3, k4⟩ := id hk
  obtain ⟨w7, w8, w9, -⟩ := id k1
  obtain ⟨MV, SP, wm1, wm2, wm3, wm4⟩ := id k3
  obtain ⟨w22, w23, w24⟩ := id k4
  exact gMi_post (c_K_move l hdl w0 w7 w8 w9 wm1 wm2 x y v hl.a2) (fun r co9 hp => kp_move hl hk x y v wm1 wm2 wm3 wm4 hp)
theorem m_move (l : Launch) {D : va_G} {cI cJ cG : ClassId} {ad : Nat → Nat} {co : Nat → va_E} {dl : List Nat} {a : Nat} {S : lSt} (hdl : ∀ i, 400 ≤ i → i < 427 → i ∈ dl) (hl : lOk a S) (hm : mOS cI cJ ad co a S) (x : Int32) (y : Int32) (v : Int32) : gMi l y_M_move (Cond.code y_M_move b_M_move 4 (some .boolean) :: wA) ({ frames := 1, cells := 0, slots := 0, locals := 21 }) D gCl (gTy cI cJ cG) gNl [.ref (ad 400), .int x, .int y, .int v] ad co dl (fun r co9 => r = (bI (okMove a x y v)) ∧ mOS cI cJ ad co9 a (nMove a S x y v) ∧ ∀ i, i < 400 → co9 i = co i) := by
  obtain ⟨w400, w405, w406, w407, w408, w409, w410, w411, w412, w413, w414, w415, w416, w417, w418, w419, ⟨fm, fs, w401, w402, hmv, hsp⟩, om, os, so, lg, sc, lc, f0, g0, fd, w403, w404, w420, w421, w422, w423, w424, w425, w426⟩ := id hm
  exact gMi_post (c_M_move l hdl w400 w401 x y v hl.a2) (fun r co9 hp => mp_move hl hm x y v w401 hp)
theorem k_speed (l : Launch) {D : va_G} {cI cJ cG : ClassId} {ad : Nat → Nat} {co : Nat → va_E} {dl : List Nat} {a : Nat} {S : lSt} (hdl : ∀ i, kD a i → i ∈ dl) (hl : lOk a S) (hk : kOS cI cJ cG ad co a S) (x : Int32) (y : Int32) (v : Int32) : gMi l y_K_speed (Cond.code y_K_speed b_K_speed 4 (some .boolean) :: wA) ({ frames := 2, cells := 0, slots := 0, locals := 42 }) D gCl (gTy cI cJ cG) gNl [.ref (ad 0), .int x, .int y, .int v] ad co dl (fun r co9 => r = (bI (okSpeed a x y v)) ∧ kOS cI cJ cG ad co9 a (nSpeed a S x y v) ∧ ∀ i, 400 ≤ i → co9 i = co i) := by
  obtain ⟨w0, w1, w2, w3, w4, w5, w6, w25, w26, w27, w28, w29, w30, w31, w32, w33, w34, k1, k2, k3, k4⟩ := id hk
  obtain ⟨w7, w8, w9, -⟩ := id k1
  obtain ⟨MV, SP, wm1, wm2, wm3, wm4⟩ := id k3
  obtain ⟨w22, w23, w24⟩ := id k4
  exact gMi_post (c_K_speed l hdl w0 w7 w8 w9 wm1 wm2 x y v hl.a2) (fun r co9 hp => kp_speed hl hk x y v wm1 wm2 wm3 wm4 hp)
theorem m_speed (l : Launch) {D : va_G} {cI cJ cG : ClassId} {ad : Nat → Nat} {co : Nat → va_E} {dl : List Nat} {a : Nat} {S : lSt} (hdl : ∀ i, 400 ≤ i → i < 427 → i ∈ dl) (hl : lOk a S) (hm : mOS cI cJ ad co a S) (x : Int32) (y : Int32) (v : Int32) : gMi l y_M_speed (Cond.code y_M_speed b_M_speed 4 (some .boolean) :: wA) ({ frames := 1, cells := 0, slots := 0, locals := 21 }) D gCl (gTy cI cJ cG) gNl [.ref (ad 400), .int x, .int y, .int v] ad co dl (fun r co9 => r = (bI (okSpeed a x y v)) ∧ mOS cI cJ ad co9 a (nSpeed a S x y v) ∧ ∀ i, i < 400 → co9 i = co i) := by
  obtain ⟨w400, w405, w406, w407, w408, w409, w410, w411, w412, w413, w414, w415, w416, w417, w418, w419, ⟨fm, fs, w401, w402, hmv, hsp⟩, om, os, so, lg, sc, lc, f0, g0, fd, w403, w404, w420, w421, w422, w423, w424, w425, w426⟩ := id hm
  exact gMi_post (c_M_speed l hdl w400 w402 x y v hl.a2) (fun r co9 hp => mp_speed hl hm x y v w402 hp)
theorem k_row (l : Launch) {D : va_G} {cI cJ cG : ClassId} {ad : Nat → Nat} {co : Nat → va_E} {dl : List Nat} {a : Nat} {S : lSt} (hdl : ∀ i, kD a i → i ∈ dl) (hl : lOk a S) (hk : kOS cI cJ cG ad co a S) (x : Int64) (y : Int32) (z : Int32) : gMi l y_K_row (Cond.code y_K_row b_K_row 5 (some .boolean) :: wA) ({ frames := 1, cells := 0, slots := 0, locals := 25 }) D gCl (gTy cI cJ cG) gNl [.ref (ad 0), .long x, .int y, .int z] ad co dl (fun r co9 => r = (bI (okRow S.n S.sec x y z)) ∧ kOS cI cJ cG ad co9 a (nRow S x y z) ∧ ∀ i, 400 ≤ i → co9 i = co i) := by
  obtain ⟨w0, w1, w2, w3, w4, w5, w6, w25, w26, w27, w28, w29, w30, w31, w32, w33, w34, k1, k2, k3, k4⟩ := id hk
  obtain ⟨w7, w8, w9, -⟩ := id k1
  obtain ⟨MV, SP, wm1, wm2, wm3, wm4⟩ := id k3
  obtain ⟨w22, w23, w24⟩ := id k4
  exact gMi_post (c_K_row l hdl w0 w1 w2 w3 w4 w5 w6 x y z hl.n2) (fun r co9 hp => kp_row hl hk x y z hp)
theorem m_row (l : Launch) {D : va_G} {cI cJ cG : ClassId} {ad : Nat → Nat} {co : Nat → va_E} {dl : List Nat} {a : Nat} {S : lSt} (hdl : ∀ i, 400 ≤ i → i < 427 → i ∈ dl) (hl : lOk a S) (hm : mOS cI cJ ad co a S) (x : Int64) (y : Int32) (z : Int32) : gMi l y_M_row (Cond.code y_M_row b_M_row 5 (some .boolean) :: wA) ({ frames := 0, cells := 0, slots := 0, locals := 0 }) D gCl (gTy cI cJ cG) gNl [.ref (ad 400), .long x, .int y, .int z] ad co dl (fun r co9 => r = (bI (okRow S.n S.sec x y z)) ∧ mOS cI cJ ad co9 a (nRow S x y z) ∧ ∀ i, i < 400 → co9 i = co i) := by
  obtain ⟨w400, w405, w406, w407, w408, w409, w410, w411, w412, w413, w414, w415, w416, w417, w418, w419, ⟨fm, fs, w401, w402, hmv, hsp⟩, om, os, so, lg, sc, lc, f0, g0, fd, w403, w404, w420, w421, w422, w423, w424, w425, w426⟩ := id hm
  exact gMi_post (c_M_row l hdl w400 w405 w406 w407 w408 w409 x y z hl.n2) (fun r co9 hp => mp_row hl hm x y z hp)
theorem k_run (l : Launch) {D : va_G} {cI cJ cG : ClassId} {ad : Nat → Nat} {co : Nat → va_E} {dl : List Nat} {a : Nat} {S : lSt} (hdl : ∀ i, kD a i → i ∈ dl) (hl : lOk a S) (hk : kOS cI cJ cG ad co a S)  : gMi l y_K_run (Cond.code y_K_run b_K_run 1 (some .int) :: wA) ({ frames := 4, cells := 0, slots := 0, locals := 135 }) D gCl (gTy cI cJ cG) gNl [.ref (ad 0)] ad co dl (fun r co9 => r = (vRun a S) ∧ kOS cI cJ cG ad co9 a (nRun a S) ∧ ∀ i, 400 ≤ i → co9 i = co i) := by
  obtain ⟨w0, w1, w2, w3, w4, w5, w6, w25, w26, w27, w28, w29, w30, w31, w32, w33, w34, k1, k2, k3, k4⟩ := id hk
  obtain ⟨w7, w8, w9, -⟩ := id k1
  obtain ⟨MV, SP, wm1, wm2, wm3, wm4⟩ := id k3
  obtain ⟨w22, w23, w24⟩ := id k4
  exact gMi_post (c_K_run l hdl w0 w1 w3 w5 w6 hl.a2 hl.n2 hl.cl2 hl.shp2 k1 k2 k3 k4 (fun h => hl.okN (-1) h)) (fun r co9 hp => kp_run hl hk  hp)
theorem m_run (l : Launch) {D : va_G} {cI cJ cG : ClassId} {ad : Nat → Nat} {co : Nat → va_E} {dl : List Nat} {a : Nat} {S : lSt} (hdl : ∀ i, 400 ≤ i → i < 427 → i ∈ dl) (hl : lOk a S) (hm : mOS cI cJ ad co a S)  : gMi l y_M_run (Cond.code y_M_run b_M_run 1 (some .int) :: wA) ({ frames := 3, cells := 0, slots := 0, locals := 76 }) D gCl (gTy cI cJ cG) gNl [.ref (ad 400)] ad co dl (fun r co9 => r = (vRun a S) ∧ mOS cI cJ ad co9 a (nRun a S) ∧ ∀ i, i < 400 → co9 i = co i) := by
  obtain ⟨w400, w405, w406, w407, w408, w409, w410, w411, w412, w413, w414, w415, w416, w417, w418, w419, ⟨fm, fs, w401, w402, hmv, hsp⟩, om, os, so, lg, sc, lc, f0, g0, fd, w403, w404, w420, w421, w422, w423, w424, w425, w426⟩ := id hm
  exact gMi_post (c_M_run l hdl w400 w401 w402 w406 w408 w409 w417 w418 w420 w421 w422 w423 w424 w425 w426 hl.a2 hl.n2 (fun h => hl.okN (-1) h) hl.cl2 hmv hsp hl.shp2) (fun r co9 hp => mp_run hl hm  hp)
theorem k_act (l : Launch) {D : va_G} {cI cJ cG : ClassId} {ad : Nat → Nat} {co : Nat → va_E} {dl : List Nat} {a : Nat} {S : lSt} (hdl : ∀ i, kD a i → i ∈ dl) (hl : lOk a S) (hk : kOS cI cJ cG ad co a S) (x : Int32) : gMi l y_K_act (Cond.code y_K_act b_K_act 2 (some .int) :: wA) ({ frames := 2, cells := 0, slots := 0, locals := 42 }) D gCl (gTy cI cJ cG) gNl [.ref (ad 0), .int x] ad co dl (fun r co9 => r = (if inB x S.kn then S.ln x.toNatClampNeg else -1) ∧ kOS cI cJ cG ad co9 a (S) ∧ ∀ i, 400 ≤ i → co9 i = co i) := by
  obtain ⟨w0, w1, w2, w3, w4, w5, w6, w25, w26, w27, w28, w29, w30, w31, w32, w33, w34, k1, k2, k3, k4⟩ := id hk
  obtain ⟨w7, w8, w9, -⟩ := id k1
  obtain ⟨MV, SP, wm1, wm2, wm3, wm4⟩ := id k3
  obtain ⟨w22, w23, w24⟩ := id k4
  exact gMi_post (c_K_act l hdl w0 w22 w23 x hl.kn2) (fun r co9 hp => ⟨hp.1, by rw [hp.2]; exact ⟨hk, fun i hi => rfl⟩⟩)
theorem m_act (l : Launch) {D : va_G} {cI cJ cG : ClassId} {ad : Nat → Nat} {co : Nat → va_E} {dl : List Nat} {a : Nat} {S : lSt} (hdl : ∀ i, 400 ≤ i → i < 427 → i ∈ dl) (hl : lOk a S) (hm : mOS cI cJ ad co a S) (x : Int32) : gMi l y_M_act (Cond.code y_M_act b_M_act 2 (some .int) :: wA) ({ frames := 1, cells := 0, slots := 0, locals := 21 }) D gCl (gTy cI cJ cG) gNl [.ref (ad 400), .int x] ad co dl (fun r co9 => r = (if inB x S.kn then S.ln x.toNatClampNeg else -1) ∧ mOS cI cJ ad co9 a (S) ∧ ∀ i, i < 400 → co9 i = co i) := by
  obtain ⟨w400, w405, w406, w407, w408, w409, w410, w411, w412, w413, w414, w415, w416, w417, w418, w419, ⟨fm, fs, w401, w402, hmv, hsp⟩, om, os, so, lg, sc, lc, f0, g0, fd, w403, w404, w420, w421, w422, w423, w424, w425, w426⟩ := id hm
  exact gMi_post (c_M_act l hdl w400 w417 x hl.kn2) (fun r co9 hp => ⟨hp.1, by rw [hp.2]; exact ⟨hm, fun i hi => rfl⟩⟩)
theorem k_greatest (l : Launch) {D : va_G} {cI cJ cG : ClassId} {ad : Nat → Nat} {co : Nat → va_E} {dl : List Nat} {a : Nat} {S : lSt} (hdl : ∀ i, kD a i → i ∈ dl) (hl : lOk a S) (hk : kOS cI cJ cG ad co a S)  : gMi l y_K_greatest (Cond.code y_K_greatest b_K_greatest 1 (some .boolean) :: wA) ({ frames := 1, cells := 0, slots := 0, locals := 20 }) D gCl (gTy cI cJ cG) gNl [.ref (ad 0)] ad co dl (fun r co9 => r = (bI (decide (0 < S.kn))) ∧ kOS cI cJ cG ad co9 a (S) ∧ ∀ i, 400 ≤ i → co9 i = co i) := by
  obtain ⟨w0, w1, w2, w3, w4, w5, w6, w25, w26, w27, w28, w29, w30, w31, w32, w33, w34, k1, k2, k3, k4⟩ := id hk
  obtain ⟨w7, w8, w9, -⟩ := id k1
  obtain ⟨MV, SP, wm1, wm2, wm3, wm4⟩ := id k3
  obtain ⟨w22, w23, w24⟩ := id k4
  exact gMi_post (c_K_greatest l hdl w0 w22 hl.kn2) (fun r co9 hp => ⟨hp.1, by rw [hp.2]; exact ⟨hk, fun i hi => rfl⟩⟩)
theorem m_greatest (l : Launch) {D : va_G} {cI cJ cG : ClassId} {ad : Nat → Nat} {co : Nat → va_E} {dl : List Nat} {a : Nat} {S : lSt} (hdl : ∀ i, 400 ≤ i → i < 427 → i ∈ dl) (hl : lOk a S) (hm : mOS cI cJ ad co a S)  : gMi l y_M_greatest (Cond.code y_M_greatest b_M_greatest 1 (some .boolean) :: wA) ({ frames := 0, cells := 0, slots := 0, locals := 0 }) D gCl (gTy cI cJ cG) gNl [.ref (ad 400)] ad co dl (fun r co9 => r = (bI (decide (0 < S.kn))) ∧ mOS cI cJ ad co9 a (S) ∧ ∀ i, i < 400 → co9 i = co i) := by
  obtain ⟨w400, w405, w406, w407, w408, w409, w410, w411, w412, w413, w414, w415, w416, w417, w418, w419, ⟨fm, fs, w401, w402, hmv, hsp⟩, om, os, so, lg, sc, lc, f0, g0, fd, w403, w404, w420, w421, w422, w423, w424, w425, w426⟩ := id hm
  exact gMi_post (c_M_greatest l hdl w400 hl.kn2) (fun r co9 hp => ⟨hp.1, by rw [hp.2]; exact ⟨hm, fun i hi => rfl⟩⟩)
theorem k_truth (l : Launch) {D : va_G} {cI cJ cG : ClassId} {ad : Nat → Nat} {co : Nat → va_E} {dl : List Nat} {a : Nat} {S : lSt} (hdl : ∀ i, kD a i → i ∈ dl) (hl : lOk a S) (hk : kOS cI cJ cG ad co a S) (x : Int32) (y : Int32) : gMi l y_K_truth (Cond.code y_K_truth b_K_truth 3 (some .boolean) :: wA) ({ frames := 2, cells := 0, slots := 0, locals := 42 }) D gCl (gTy cI cJ cG) gNl [.ref (ad 0), .int x, .int y] ad co dl (fun r co9 => r = (bI (okTruth S.n a x y)) ∧ kOS cI cJ cG ad co9 a (nTruth a S x y) ∧ ∀ i, 400 ≤ i → co9 i = co i) := by
  obtain ⟨w0, w1, w2, w3, w4, w5, w6, w25, w26, w27, w28, w29, w30, w31, w32, w33, w34, k1, k2, k3, k4⟩ := id hk
  obtain ⟨w7, w8, w9, -⟩ := id k1
  obtain ⟨MV, SP, wm1, wm2, wm3, wm4⟩ := id k3
  obtain ⟨w22, w23, w24⟩ := id k4
  exact gMi_post (c_K_truth l hdl w0 w1 w6 x y hl.a2 hl.n2) (fun r co9 hp => kp_truth hl hk x y hp)
theorem m_truth (l : Launch) {D : va_G} {cI cJ cG : ClassId} {ad : Nat → Nat} {co : Nat → va_E} {dl : List Nat} {a : Nat} {S : lSt} (hdl : ∀ i, 400 ≤ i → i < 427 → i ∈ dl) (hl : lOk a S) (hm : mOS cI cJ ad co a S) (x : Int32) (y : Int32) : gMi l y_M_truth (Cond.code y_M_truth b_M_truth 3 (some .boolean) :: wA) ({ frames := 1, cells := 0, slots := 0, locals := 21 }) D gCl (gTy cI cJ cG) gNl [.ref (ad 400), .int x, .int y] ad co dl (fun r co9 => r = (bI (okTruth S.n a x y)) ∧ mOS cI cJ ad co9 a (nTruth a S x y) ∧ ∀ i, i < 400 → co9 i = co i) := by
  obtain ⟨w400, w405, w406, w407, w408, w409, w410, w411, w412, w413, w414, w415, w416, w417, w418, w419, ⟨fm, fs, w401, w402, hmv, hsp⟩, om, os, so, lg, sc, lc, f0, g0, fd, w403, w404, w420, w421, w422, w423, w424, w425, w426⟩ := id hm
  exact gMi_post (c_M_truth l hdl w400 w409 x y hl.a2 hl.n2) (fun r co9 hp => mp_truth hl hm x y hp)
theorem k_fit (l : Launch) {D : va_G} {cI cJ cG : ClassId} {ad : Nat → Nat} {co : Nat → va_E} {dl : List Nat} {a : Nat} {S : lSt} (hdl : ∀ i, kD a i → i ∈ dl) (hl : lOk a S) (hk : kOS cI cJ cG ad co a S) (x : Int32) : gMi l y_K_fit (Cond.code y_K_fit b_K_fit 3 (some .int) :: wA) ({ frames := 5, cells := 0, slots := 0, locals := 155 }) D gCl (gTy cI cJ cG) gNl [.ref (ad 0), .int x] ad co dl (fun r co9 => r = (vFit a S x) ∧ kOS cI cJ cG ad co9 a (nFit a S x) ∧ ∀ i, 400 ≤ i → co9 i = co i) := by
  obtain ⟨w0, w1, w2, w3, w4, w5, w6, w25, w26, w27, w28, w29, w30, w31, w32, w33, w34, k1, k2, k3, k4⟩ := id hk
  obtain ⟨w7, w8, w9, -⟩ := id k1
  obtain ⟨MV, SP, wm1, wm2, wm3, wm4⟩ := id k3
  obtain ⟨w22, w23, w24⟩ := id k4
  exact gMi_post (c_K_fit l hdl w0 w1 w3 w5 w6 w34 x hl.a2 hl.n2 hl.cl2 hl.shp2 k1 k2 k3 k4 (fun h => hl.okN (-1) h)) (fun r co9 hp => kp_fit hl hk x hp)
theorem m_fit (l : Launch) {D : va_G} {cI cJ cG : ClassId} {ad : Nat → Nat} {co : Nat → va_E} {dl : List Nat} {a : Nat} {S : lSt} (hdl : ∀ i, 400 ≤ i → i < 427 → i ∈ dl) (hl : lOk a S) (hm : mOS cI cJ ad co a S) (x : Int32) : gMi l y_M_fit (Cond.code y_M_fit b_M_fit 4 (some .int) :: wA) ({ frames := 3, cells := 0, slots := 0, locals := 76 }) D gCl (gTy cI cJ cG) gNl [.ref (ad 400), .int x] ad co dl (fun r co9 => r = (vFit a S x) ∧ mOS cI cJ ad co9 a (nFit a S x) ∧ ∀ i, i < 400 → co9 i = co i) := by
  obtain ⟨w400, w405, w406, w407, w408, w409, w410, w411, w412, w413, w414, w415, w416, w417, w418, w419, ⟨fm, fs, w401, w402, hmv, hsp⟩, om, os, so, lg, sc, lc, f0, g0, fd, w403, w404, w420, w421, w422, w423, w424, w425, w426⟩ := id hm
  exact gMi_post (c_M_fit l hdl w400 w401 w402 w403 w404 w406 w408 w409 w417 w418 w419 w420 w421 w422 w423 w424 w425 w426 x hl.a2 hl.n2 (fun h => hl.okN (-1) h) hl.cl2 hmv hsp hl.shp2) (fun r co9 hp => mp_fit hl hm x hp)
theorem k_sum (l : Launch) {D : va_G} {cI cJ cG : ClassId} {ad : Nat → Nat} {co : Nat → va_E} {dl : List Nat} {a : Nat} {S : lSt} (hdl : ∀ i, kD a i → i ∈ dl) (hl : lOk a S) (hk : kOS cI cJ cG ad co a S) (x : Int32) : gMl l y_K_sum (Cond.code y_K_sum b_K_sum 2 (some .long) :: wA) ({ frames := 0, cells := 0, slots := 0, locals := 0 }) D gCl (gTy cI cJ cG) gNl [.ref (ad 0), .int x] ad co dl (fun r co9 => r = (if inB x S.sm then S.su x.toNatClampNeg else -1) ∧ kOS cI cJ cG ad co9 a (S) ∧ ∀ i, 400 ≤ i → co9 i = co i) := by
  obtain ⟨w0, w1, w2, w3, w4, w5, w6, w25, w26, w27, w28, w29, w30, w31, w32, w33, w34, k1, k2, k3, k4⟩ := id hk
  obtain ⟨w7, w8, w9, -⟩ := id k1
  obtain ⟨MV, SP, wm1, wm2, wm3, wm4⟩ := id k3
  obtain ⟨w22, w23, w24⟩ := id k4
  exact gMl_post (c_K_sum l hdl w0 w34 x hl.sm2 rfl) (fun r co9 hp => ⟨hp.1, by rw [hp.2]; exact ⟨hk, fun i hi => rfl⟩⟩)
theorem m_sum (l : Launch) {D : va_G} {cI cJ cG : ClassId} {ad : Nat → Nat} {co : Nat → va_E} {dl : List Nat} {a : Nat} {S : lSt} (hdl : ∀ i, 400 ≤ i → i < 427 → i ∈ dl) (hl : lOk a S) (hm : mOS cI cJ ad co a S) (x : Int32) : gMl l y_M_sum (Cond.code y_M_sum b_M_sum 2 (some .long) :: wA) ({ frames := 0, cells := 0, slots := 0, locals := 0 }) D gCl (gTy cI cJ cG) gNl [.ref (ad 400), .int x] ad co dl (fun r co9 => r = (if inB x S.sm then S.su x.toNatClampNeg else -1) ∧ mOS cI cJ ad co9 a (S) ∧ ∀ i, i < 400 → co9 i = co i) := by
  obtain ⟨w400, w405, w406, w407, w408, w409, w410, w411, w412, w413, w414, w415, w416, w417, w418, w419, ⟨fm, fs, w401, w402, hmv, hsp⟩, om, os, so, lg, sc, lc, f0, g0, fd, w403, w404, w420, w421, w422, w423, w424, w425, w426⟩ := id hm
  exact gMl_post (c_M_sum l hdl w400 w419 x hl.sm2) (fun r co9 hp => ⟨hp.1, by rw [hp.2]; exact ⟨hm, fun i hi => rfl⟩⟩)
theorem k_leftOut (l : Launch) {D : va_G} {cI cJ cG : ClassId} {ad : Nat → Nat} {co : Nat → va_E} {dl : List Nat} {a : Nat} {S : lSt} (hdl : ∀ i, kD a i → i ∈ dl) (hl : lOk a S) (hk : kOS cI cJ cG ad co a S) (w : Int32) : gMi l y_K_leftOut (Cond.code y_K_leftOut b_K_leftOut 3 (some .int) :: wA) ({ frames := 3, cells := 0, slots := 0, locals := 78 }) D gCl (gTy cI cJ cG) gNl [.ref (ad 0), .int w] ad co dl (fun r co9 => r = (vLeft a S w) ∧ kOS cI cJ cG ad co9 a (S) ∧ ∀ i, 400 ≤ i → co9 i = co i) := by
  obtain ⟨w0, w1, w2, w3, w4, w5, w6, w25, w26, w27, w28, w29, w30, w31, w32, w33, w34, k1, k2, k3, k4⟩ := id hk
  obtain ⟨w7, w8, w9, -⟩ := id k1
  obtain ⟨MV, SP, wm1, wm2, wm3, wm4⟩ := id k3
  obtain ⟨w22, w23, w24⟩ := id k4
  exact gMi_post (c_K_leftOut l hdl w0 w1 w3 w5 w6 hl.a2 hl.n2 hl.cl2 hl.shp2 k1 k2 k3 k4 w (fun h => hl.okN w h)) (fun r co9 hp => kp_leftOut hl hk w hp)
theorem m_leftOut (l : Launch) {D : va_G} {cI cJ cG : ClassId} {ad : Nat → Nat} {co : Nat → va_E} {dl : List Nat} {a : Nat} {S : lSt} (hdl : ∀ i, 400 ≤ i → i < 427 → i ∈ dl) (hl : lOk a S) (hm : mOS cI cJ ad co a S) (w : Int32) : gMi l y_M_leftOut (Cond.code y_M_leftOut b_M_leftOut 6 (some .int) :: wA) ({ frames := 2, cells := 0, slots := 0, locals := 51 }) D gCl (gTy cI cJ cG) gNl [.ref (ad 400), .int w] ad co dl (fun r co9 => r = (vLeft a S w) ∧ mOS cI cJ ad co9 a (S) ∧ ∀ i, i < 400 → co9 i = co i) := by
  obtain ⟨w400, w405, w406, w407, w408, w409, w410, w411, w412, w413, w414, w415, w416, w417, w418, w419, ⟨fm, fs, w401, w402, hmv, hsp⟩, om, os, so, lg, sc, lc, f0, g0, fd, w403, w404, w420, w421, w422, w423, w424, w425, w426⟩ := id hm
  exact gMi_post (c_M_leftOut l hdl w400 w401 w402 w406 w408 w409 w420 w421 w422 w423 w426 w hl.a2 hl.n2 (fun h => hl.okN w h) hl.cl2 hmv hsp hl.shp2) (fun r co9 hp => mp_leftOut hl hm w hp)
theorem k_hours (l : Launch) {D : va_G} {cI cJ cG : ClassId} {ad : Nat → Nat} {co : Nat → va_E} {dl : List Nat} {a : Nat} {S : lSt} (hdl : ∀ i, kD a i → i ∈ dl) (hl : lOk a S) (hk : kOS cI cJ cG ad co a S) (x : Int32) : gMl l y_K_hours (Cond.code y_K_hours b_K_hours 2 (some .long) :: wA) ({ frames := 3, cells := 0, slots := 0, locals := 107 }) D gCl (gTy cI cJ cG) gNl [.ref (ad 0), .int x] ad co dl (fun r co9 => r = (if inB x a = true ∧ 0 < S.kn then sHours S.kn S.ln S.sec x S.kn else -1) ∧ kOS cI cJ cG ad co9 a (S) ∧ ∀ i, 400 ≤ i → co9 i = co i) := by
  obtain ⟨w0, w1, w2, w3, w4, w5, w6, w25, w26, w27, w28, w29, w30, w31, w32, w33, w34, k1, k2, k3, k4⟩ := id hk
  obtain ⟨w7, w8, w9, -⟩ := id k1
  obtain ⟨MV, SP, wm1, wm2, wm3, wm4⟩ := id k3
  obtain ⟨w22, w23, w24⟩ := id k4
  exact gMl_post (c_K_hours l hdl w0 w22 w1 w2 w23 x hl.a2 hl.kn2) (fun r co9 hp => ⟨hp.1, by rw [hp.2]; exact ⟨hk, fun i hi => rfl⟩⟩)
theorem m_hours (l : Launch) {D : va_G} {cI cJ cG : ClassId} {ad : Nat → Nat} {co : Nat → va_E} {dl : List Nat} {a : Nat} {S : lSt} (hdl : ∀ i, 400 ≤ i → i < 427 → i ∈ dl) (hl : lOk a S) (hm : mOS cI cJ ad co a S) (x : Int32) : gMl l y_M_hours (Cond.code y_M_hours b_M_hours 5 (some .long) :: wA) ({ frames := 1, cells := 0, slots := 0, locals := 21 }) D gCl (gTy cI cJ cG) gNl [.ref (ad 400), .int x] ad co dl (fun r co9 => r = (if inB x a = true ∧ 0 < S.kn then sHours S.kn S.ln S.sec x S.kn else -1) ∧ mOS cI cJ ad co9 a (S) ∧ ∀ i, i < 400 → co9 i = co i) := by
  obtain ⟨w400, w405, w406, w407, w408, w409, w410, w411, w412, w413, w414, w415, w416, w417, w418, w419, ⟨fm, fs, w401, w402, hmv, hsp⟩, om, os, so, lg, sc, lc, f0, g0, fd, w403, w404, w420, w421, w422, w423, w424, w425, w426⟩ := id hm
  exact gMl_post (c_M_hours l hdl w400 w405 w417 x hl.a2 hl.kn2) (fun r co9 hp => ⟨hp.1, by rw [hp.2]; exact ⟨hm, fun i hi => rfl⟩⟩)
theorem k_haul (l : Launch) {D : va_G} {cI cJ cG : ClassId} {ad : Nat → Nat} {co : Nat → va_E} {dl : List Nat} {a : Nat} {S : lSt} (hdl : ∀ i, kD a i → i ∈ dl) (hl : lOk a S) (hk : kOS cI cJ cG ad co a S) (x : Int32) (e9 : Int32) : gMi l y_K_haul (Cond.code y_K_haul b_K_haul 6 (some .int) :: wA) ({ frames := 4, cells := 0, slots := 0, locals := 86 }) D gCl (gTy cI cJ cG) gNl [.ref (ad 0), .int x, .int e9] ad co dl (fun r co9 => r = (sHaul S.kn S.ln S.sec x e9) ∧ kOS cI cJ cG ad co9 a (S) ∧ ∀ i, 400 ≤ i → co9 i = co i) := by
  obtain ⟨w0, w1, w2, w3, w4, w5, w6, w25, w26, w27, w28, w29, w30, w31, w32, w33, w34, k1, k2, k3, k4⟩ := id hk
  obtain ⟨w7, w8, w9, -⟩ := id k1
  obtain ⟨MV, SP, wm1, wm2, wm3, wm4⟩ := id k3
  obtain ⟨w22, w23, w24⟩ := id k4
  exact gMi_post (c_K_haul l hdl w0 w22 w1 w2 w23 x e9 hl.kn2) (fun r co9 hp => ⟨hp.1, by rw [hp.2]; exact ⟨hk, fun i hi => rfl⟩⟩)
theorem m_haul (l : Launch) {D : va_G} {cI cJ cG : ClassId} {ad : Nat → Nat} {co : Nat → va_E} {dl : List Nat} {a : Nat} {S : lSt} (hdl : ∀ i, 400 ≤ i → i < 427 → i ∈ dl) (hl : lOk a S) (hm : mOS cI cJ ad co a S) (x : Int32) (e9 : Int32) : gMi l y_M_haul (Cond.code y_M_haul b_M_haul 6 (some .int) :: wA) ({ frames := 1, cells := 0, slots := 0, locals := 23 }) D gCl (gTy cI cJ cG) gNl [.ref (ad 400), .int x, .int e9] ad co dl (fun r co9 => r = (sHaul S.kn S.ln S.sec x e9) ∧ mOS cI cJ ad co9 a (S) ∧ ∀ i, i < 400 → co9 i = co i) := by
  obtain ⟨w400, w405, w406, w407, w408, w409, w410, w411, w412, w413, w414, w415, w416, w417, w418, w419, ⟨fm, fs, w401, w402, hmv, hsp⟩, om, os, so, lg, sc, lc, f0, g0, fd, w403, w404, w420, w421, w422, w423, w424, w425, w426⟩ := id hm
  exact gMi_post (c_M_haul l hdl w400 w405 w417 x e9 hl.kn2) (fun r co9 hp => ⟨hp.1, by rw [hp.2]; exact ⟨hm, fun i hi => rfl⟩⟩)
theorem k_differs (l : Launch) {D : va_G} {cI cJ cG : ClassId} {ad : Nat → Nat} {co : Nat → va_E} {dl : List Nat} {a : Nat} {S : lSt} (hdl : ∀ i, kD a i → i ∈ dl) (hl : lOk a S) (hk : kOS cI cJ cG ad co a S) (x : Int32) (e9 : Int32) : gMi l y_K_differs (Cond.code y_K_differs b_K_differs 4 (some .int) :: wA) ({ frames := 2, cells := 0, slots := 0, locals := 47 }) D gCl (gTy cI cJ cG) gNl [.ref (ad 0), .int x, .int e9] ad co dl (fun r co9 => r = (sDiffers S.kn S.pg S.pf S.pt S.pa S.ln S.sec x e9) ∧ kOS cI cJ cG ad co9 a (S) ∧ ∀ i, 400 ≤ i → co9 i = co i) := by
  obtain ⟨w0, w1, w2, w3, w4, w5, w6, w25, w26, w27, w28, w29, w30, w31, w32, w33, w34, k1, k2, k3, k4⟩ := id hk
  obtain ⟨w7, w8, w9, -⟩ := id k1
  obtain ⟨MV, SP, wm1, wm2, wm3, wm4⟩ := id k3
  obtain ⟨w22, w23, w24⟩ := id k4
  exact gMi_post (c_K_differs l hdl w0 w22 w1 w25 w2 w23 w26 w27 w28 x e9 hl.kn2 hl.pg2) (fun r co9 hp => ⟨hp.1, by rw [hp.2]; exact ⟨hk, fun i hi => rfl⟩⟩)
theorem m_differs (l : Launch) {D : va_G} {cI cJ cG : ClassId} {ad : Nat → Nat} {co : Nat → va_E} {dl : List Nat} {a : Nat} {S : lSt} (hdl : ∀ i, 400 ≤ i → i < 427 → i ∈ dl) (hl : lOk a S) (hm : mOS cI cJ ad co a S) (x : Int32) (e9 : Int32) : gMi l y_M_differs (Cond.code y_M_differs b_M_differs 6 (some .int) :: wA) ({ frames := 1, cells := 0, slots := 0, locals := 23 }) D gCl (gTy cI cJ cG) gNl [.ref (ad 400), .int x, .int e9] ad co dl (fun r co9 => r = (sDiffers S.kn S.pg S.pf S.pt S.pa S.ln S.sec x e9) ∧ mOS cI cJ ad co9 a (S) ∧ ∀ i, i < 400 → co9 i = co i) := by
  obtain ⟨w400, w405, w406, w407, w408, w409, w410, w411, w412, w413, w414, w415, w416, w417, w418, w419, ⟨fm, fs, w401, w402, hmv, hsp⟩, om, os, so, lg, sc, lc, f0, g0, fd, w403, w404, w420, w421, w422, w423, w424, w425, w426⟩ := id hm
  exact gMi_post (c_M_differs l hdl w400 w405 w410 w411 w412 w417 x e9 hl.kn2 hl.pg2) (fun r co9 hp => ⟨hp.1, by rw [hp.2]; exact ⟨hm, fun i hi => rfl⟩⟩)
theorem k_page (l : Launch) {D : va_G} {cI cJ cG : ClassId} {ad : Nat → Nat} {co : Nat → va_E} {dl : List Nat} {a : Nat} {S : lSt} (hdl : ∀ i, kD a i → i ∈ dl) (hl : lOk a S) (hk : kOS cI cJ cG ad co a S) (x : Int64) (y : Int64) (z : Int32) : gMi l y_K_page (Cond.code y_K_page b_K_page 6 (some .boolean) :: wA) ({ frames := 2, cells := 0, slots := 0, locals := 42 }) D gCl (gTy cI cJ cG) gNl [.ref (ad 0), .long x, .long y, .int z] ad co dl (fun r co9 => r = (bI (okPage a S.pg x y z)) ∧ kOS cI cJ cG ad co9 a (nPage a S x y z) ∧ ∀ i, 400 ≤ i → co9 i = co i) := by
  obtain ⟨w0, w1, w2, w3, w4, w5, w6, w25, w26, w27, w28, w29, w30, w31, w32, w33, w34, k1, k2, k3, k4⟩ := id hk
  obtain ⟨w7, w8, w9, -⟩ := id k1
  obtain ⟨MV, SP, wm1, wm2, wm3, wm4⟩ := id k3
  obtain ⟨w22, w23, w24⟩ := id k4
  exact gMi_post (c_K_page l hdl w0 w25 w26 w27 w28 x y z hl.a2 hl.pg2) (fun r co9 hp => kp_page hl hk x y z hp)
theorem m_page (l : Launch) {D : va_G} {cI cJ cG : ClassId} {ad : Nat → Nat} {co : Nat → va_E} {dl : List Nat} {a : Nat} {S : lSt} (hdl : ∀ i, 400 ≤ i → i < 427 → i ∈ dl) (hl : lOk a S) (hm : mOS cI cJ ad co a S) (x : Int64) (y : Int64) (z : Int32) : gMi l y_M_page (Cond.code y_M_page b_M_page 6 (some .boolean) :: wA) ({ frames := 1, cells := 0, slots := 0, locals := 21 }) D gCl (gTy cI cJ cG) gNl [.ref (ad 400), .long x, .long y, .int z] ad co dl (fun r co9 => r = (bI (okPage a S.pg x y z)) ∧ mOS cI cJ ad co9 a (nPage a S x y z) ∧ ∀ i, i < 400 → co9 i = co i) := by
  obtain ⟨w400, w405, w406, w407, w408, w409, w410, w411, w412, w413, w414, w415, w416, w417, w418, w419, ⟨fm, fs, w401, w402, hmv, hsp⟩, om, os, so, lg, sc, lc, f0, g0, fd, w403, w404, w420, w421, w422, w423, w424, w425, w426⟩ := id hm
  exact gMi_post (c_M_page l hdl w400 w410 w411 w412 x y z hl.a2 hl.pg2) (fun r co9 hp => mp_page hl hm x y z hp)
theorem k_unsure (l : Launch) {D : va_G} {cI cJ cG : ClassId} {ad : Nat → Nat} {co : Nat → va_E} {dl : List Nat} {a : Nat} {S : lSt} (hdl : ∀ i, kD a i → i ∈ dl) (hl : lOk a S) (hk : kOS cI cJ cG ad co a S) (x : Int32) : gMi l y_K_unsure (Cond.code y_K_unsure b_K_unsure 2 (some .boolean) :: wA) ({ frames := 3, cells := 0, slots := 0, locals := 63 }) D gCl (gTy cI cJ cG) gNl [.ref (ad 0), .int x] ad co dl (fun r co9 => r = (bI (sUnsure S.kn S.mg S.cs S.nx x)) ∧ kOS cI cJ cG ad co9 a (S) ∧ ∀ i, 400 ≤ i → co9 i = co i) := by
  obtain ⟨w0, w1, w2, w3, w4, w5, w6, w25, w26, w27, w28, w29, w30, w31, w32, w33, w34, k1, k2, k3, k4⟩ := id hk
  obtain ⟨w7, w8, w9, -⟩ := id k1
  obtain ⟨MV, SP, wm1, wm2, wm3, wm4⟩ := id k3
  obtain ⟨w22, w23, w24⟩ := id k4
  exact gMi_post (c_K_unsure l hdl w0 w22 w24 x hl.kn2) (fun r co9 hp => ⟨hp.1, by rw [hp.2]; exact ⟨hk, fun i hi => rfl⟩⟩)
theorem m_unsure (l : Launch) {D : va_G} {cI cJ cG : ClassId} {ad : Nat → Nat} {co : Nat → va_E} {dl : List Nat} {a : Nat} {S : lSt} (hdl : ∀ i, 400 ≤ i → i < 427 → i ∈ dl) (hl : lOk a S) (hm : mOS cI cJ ad co a S) (x : Int32) : gMi l y_M_unsure (Cond.code y_M_unsure b_M_unsure 2 (some .boolean) :: wA) ({ frames := 1, cells := 0, slots := 0, locals := 21 }) D gCl (gTy cI cJ cG) gNl [.ref (ad 400), .int x] ad co dl (fun r co9 => r = (bI (sUnsure S.kn S.mg S.cs S.nx x)) ∧ mOS cI cJ ad co9 a (S) ∧ ∀ i, i < 400 → co9 i = co i) := by
  obtain ⟨w400, w405, w406, w407, w408, w409, w410, w411, w412, w413, w414, w415, w416, w417, w418, w419, ⟨fm, fs, w401, w402, hmv, hsp⟩, om, os, so, lg, sc, lc, f0, g0, fd, w403, w404, w420, w421, w422, w423, w424, w425, w426⟩ := id hm
  exact gMi_post (c_M_unsure l hdl w400 w418 x hl.kn2) (fun r co9 hp => ⟨hp.1, by rw [hp.2]; exact ⟨hm, fun i hi => rfl⟩⟩)
theorem k_margin (l : Launch) {D : va_G} {cI cJ cG : ClassId} {ad : Nat → Nat} {co : Nat → va_E} {dl : List Nat} {a : Nat} {S : lSt} (hdl : ∀ i, kD a i → i ∈ dl) (hl : lOk a S) (hk : kOS cI cJ cG ad co a S) (x : Int32) : gMi l y_K_margin (Cond.code y_K_margin b_K_margin 2 (some .boolean) :: wA) ({ frames := 0, cells := 0, slots := 0, locals := 0 }) D gCl (gTy cI cJ cG) gNl [.ref (ad 0), .int x] ad co dl (fun r co9 => r = (bI (inB x 100001)) ∧ kOS cI cJ cG ad co9 a (nMargin S x) ∧ ∀ i, 400 ≤ i → co9 i = co i) := by
  obtain ⟨w0, w1, w2, w3, w4, w5, w6, w25, w26, w27, w28, w29, w30, w31, w32, w33, w34, k1, k2, k3, k4⟩ := id hk
  obtain ⟨w7, w8, w9, -⟩ := id k1
  obtain ⟨MV, SP, wm1, wm2, wm3, wm4⟩ := id k3
  obtain ⟨w22, w23, w24⟩ := id k4
  exact gMi_post (c_K_margin l hdl w0 x) (fun r co9 hp => kp_margin hl hk x hp)
theorem m_margin (l : Launch) {D : va_G} {cI cJ cG : ClassId} {ad : Nat → Nat} {co : Nat → va_E} {dl : List Nat} {a : Nat} {S : lSt} (hdl : ∀ i, 400 ≤ i → i < 427 → i ∈ dl) (hl : lOk a S) (hm : mOS cI cJ ad co a S) (x : Int32) : gMi l y_M_margin (Cond.code y_M_margin b_M_margin 2 (some .boolean) :: wA) ({ frames := 0, cells := 0, slots := 0, locals := 0 }) D gCl (gTy cI cJ cG) gNl [.ref (ad 400), .int x] ad co dl (fun r co9 => r = (bI (inB x 100001)) ∧ mOS cI cJ ad co9 a (nMargin S x) ∧ ∀ i, i < 400 → co9 i = co i) := by
  obtain ⟨w400, w405, w406, w407, w408, w409, w410, w411, w412, w413, w414, w415, w416, w417, w418, w419, ⟨fm, fs, w401, w402, hmv, hsp⟩, om, os, so, lg, sc, lc, f0, g0, fd, w403, w404, w420, w421, w422, w423, w424, w425, w426⟩ := id hm
  exact gMi_post (c_M_margin l hdl w400 x) (fun r co9 hp => mp_margin hl hm x hp)
theorem k_map (l : Launch) {D : va_G} {cI cJ cG : ClassId} {ad : Nat → Nat} {co : Nat → va_E} {dl : List Nat} {a : Nat} {S : lSt} (hdl : ∀ i, kD a i → i ∈ dl) (hl : lOk a S) (hk : kOS cI cJ cG ad co a S) (x : Int32) (y : Int32) : gMl l y_K_map (Cond.code y_K_map b_K_map 3 (some .long) :: wA) ({ frames := 4, cells := 0, slots := 0, locals := 89 }) D gCl (gTy cI cJ cG) gNl [.ref (ad 0), .int x, .int y] ad co dl (fun r co9 => r = (if 0 < S.kn ∧ inB x 20 = true ∧ inB y 20 = true then sMap S.kn S.ln S.cr S.cx S.cy S.ct x y S.ce else -1) ∧ kOS cI cJ cG ad co9 a (S) ∧ ∀ i, 400 ≤ i → co9 i = co i) := by
  obtain ⟨w0, w1, w2, w3, w4, w5, w6, w25, w26, w27, w28, w29, w30, w31, w32, w33, w34, k1, k2, k3, k4⟩ := id hk
  obtain ⟨w7, w8, w9, -⟩ := id k1
  obtain ⟨MV, SP, wm1, wm2, wm3, wm4⟩ := id k3
  obtain ⟨w22, w23, w24⟩ := id k4
  exact gMl_post (c_K_map l hdl w0 w29 w22 w30 w31 w32 w33 w23 x y hl.kn2 hl.ce2 hl.cr2) (fun r co9 hp => ⟨hp.1, by rw [hp.2]; exact ⟨hk, fun i hi => rfl⟩⟩)
theorem m_map (l : Launch) {D : va_G} {cI cJ cG : ClassId} {ad : Nat → Nat} {co : Nat → va_E} {dl : List Nat} {a : Nat} {S : lSt} (hdl : ∀ i, 400 ≤ i → i < 427 → i ∈ dl) (hl : lOk a S) (hm : mOS cI cJ ad co a S) (x : Int32) (y : Int32) : gMl l y_M_map (Cond.code y_M_map b_M_map 6 (some .long) :: wA) ({ frames := 0, cells := 0, slots := 0, locals := 0 }) D gCl (gTy cI cJ cG) gNl [.ref (ad 400), .int x, .int y] ad co dl (fun r co9 => r = (if 0 < S.kn ∧ inB x 20 = true ∧ inB y 20 = true then sMap S.kn S.ln S.cr S.cx S.cy S.ct x y S.ce else -1) ∧ mOS cI cJ ad co9 a (S) ∧ ∀ i, i < 400 → co9 i = co i) := by
  obtain ⟨w400, w405, w406, w407, w408, w409, w410, w411, w412, w413, w414, w415, w416, w417, w418, w419, ⟨fm, fs, w401, w402, hmv, hsp⟩, om, os, so, lg, sc, lc, f0, g0, fd, w403, w404, w420, w421, w422, w423, w424, w425, w426⟩ := id hm
  exact gMl_post (c_M_map l hdl w400 w413 w414 w415 w416 w417 x y hl.kn2 hl.ce2 hl.cr2) (fun r co9 hp => ⟨hp.1, by rw [hp.2]; exact ⟨hm, fun i hi => rfl⟩⟩)
theorem k_cell (l : Launch) {D : va_G} {cI cJ cG : ClassId} {ad : Nat → Nat} {co : Nat → va_E} {dl : List Nat} {a : Nat} {S : lSt} (hdl : ∀ i, kD a i → i ∈ dl) (hl : lOk a S) (hk : kOS cI cJ cG ad co a S) (k : Int32) (x : Int32) (y : Int32) (z : Int64) : gMi l y_K_cell (Cond.code y_K_cell b_K_cell 6 (some .boolean) :: wA) ({ frames := 2, cells := 0, slots := 0, locals := 42 }) D gCl (gTy cI cJ cG) gNl [.ref (ad 0), .int k, .int x, .int y, .long z] ad co dl (fun r co9 => r = (bI (okCell S.n S.ce k x y z)) ∧ kOS cI cJ cG ad co9 a (nCell S k x y z) ∧ ∀ i, 400 ≤ i → co9 i = co i) := by
  obtain ⟨w0, w1, w2, w3, w4, w5, w6, w25, w26, w27, w28, w29, w30, w31, w32, w33, w34, k1, k2, k3, k4⟩ := id hk
  obtain ⟨w7, w8, w9, -⟩ := id k1
  obtain ⟨MV, SP, wm1, wm2, wm3, wm4⟩ := id k3
  obtain ⟨w22, w23, w24⟩ := id k4
  exact gMi_post (c_K_cell l hdl w0 w1 w29 w30 w31 w32 w33 k x y z hl.n2 hl.ce2) (fun r co9 hp => kp_cell hl hk k x y z hp)
theorem m_cell (l : Launch) {D : va_G} {cI cJ cG : ClassId} {ad : Nat → Nat} {co : Nat → va_E} {dl : List Nat} {a : Nat} {S : lSt} (hdl : ∀ i, 400 ≤ i → i < 427 → i ∈ dl) (hl : lOk a S) (hm : mOS cI cJ ad co a S) (k : Int32) (x : Int32) (y : Int32) (z : Int64) : gMi l y_M_cell (Cond.code y_M_cell b_M_cell 6 (some .boolean) :: wA) ({ frames := 1, cells := 0, slots := 0, locals := 21 }) D gCl (gTy cI cJ cG) gNl [.ref (ad 400), .int k, .int x, .int y, .long z] ad co dl (fun r co9 => r = (bI (okCell S.n S.ce k x y z)) ∧ mOS cI cJ ad co9 a (nCell S k x y z) ∧ ∀ i, i < 400 → co9 i = co i) := by
  obtain ⟨w400, w405, w406, w407, w408, w409, w410, w411, w412, w413, w414, w415, w416, w417, w418, w419, ⟨fm, fs, w401, w402, hmv, hsp⟩, om, os, so, lg, sc, lc, f0, g0, fd, w403, w404, w420, w421, w422, w423, w424, w425, w426⟩ := id hm
  exact gMi_post (c_M_cell l hdl w400 w413 w414 w415 w416 k x y z hl.n2 hl.ce2) (fun r co9 hp => mp_cell hl hm k x y z hp)
theorem k_gear (l : Launch) {D : va_G} {cI cJ cG : ClassId} {ad : Nat → Nat} {co : Nat → va_E} {dl : List Nat} {a : Nat} {S : lSt} (hdl : ∀ i, kD a i → i ∈ dl) (hl : lOk a S) (hk : kOS cI cJ cG ad co a S) (x : Int32) : gMi l y_K_gear (Cond.code y_K_gear b_K_gear 5 (some .int) :: wA) ({ frames := 4, cells := 0, slots := 0, locals := 86 }) D gCl (gTy cI cJ cG) gNl [.ref (ad 0), .int x] ad co dl (fun r co9 => r = (sGear S.kn S.ln S.trn x) ∧ kOS cI cJ cG ad co9 a (S) ∧ ∀ i, 400 ≤ i → co9 i = co i) := by
  obtain ⟨w0, w1, w2, w3, w4, w5, w6, w25, w26, w27, w28, w29, w30, w31, w32, w33, w34, k1, k2, k3, k4⟩ := id hk
  obtain ⟨w7, w8, w9, -⟩ := id k1
  obtain ⟨MV, SP, wm1, wm2, wm3, wm4⟩ := id k3
  obtain ⟨w22, w23, w24⟩ := id k4
  exact gMi_post (c_K_gear l hdl w0 w22 w1 w4 w23 x hl.kn2) (fun r co9 hp => ⟨hp.1, by rw [hp.2]; exact ⟨hk, fun i hi => rfl⟩⟩)
theorem m_gear (l : Launch) {D : va_G} {cI cJ cG : ClassId} {ad : Nat → Nat} {co : Nat → va_E} {dl : List Nat} {a : Nat} {S : lSt} (hdl : ∀ i, 400 ≤ i → i < 427 → i ∈ dl) (hl : lOk a S) (hm : mOS cI cJ ad co a S) (x : Int32) : gMi l y_M_gear (Cond.code y_M_gear b_M_gear 5 (some .int) :: wA) ({ frames := 1, cells := 0, slots := 0, locals := 23 }) D gCl (gTy cI cJ cG) gNl [.ref (ad 400), .int x] ad co dl (fun r co9 => r = (sGear S.kn S.ln S.trn x) ∧ mOS cI cJ ad co9 a (S) ∧ ∀ i, i < 400 → co9 i = co i) := by
  obtain ⟨w400, w405, w406, w407, w408, w409, w410, w411, w412, w413, w414, w415, w416, w417, w418, w419, ⟨fm, fs, w401, w402, hmv, hsp⟩, om, os, so, lg, sc, lc, f0, g0, fd, w403, w404, w420, w421, w422, w423, w424, w425, w426⟩ := id hm
  exact gMi_post (c_M_gear l hdl w400 w407 w417 x hl.kn2) (fun r co9 hp => ⟨hp.1, by rw [hp.2]; exact ⟨hm, fun i hi => rfl⟩⟩)
theorem k_ship (l : Launch) {D : va_G} {cI cJ cG : ClassId} {ad : Nat → Nat} {co : Nat → va_E} {dl : List Nat} {a : Nat} {S : lSt} (hdl : ∀ i, kD a i → i ∈ dl) (hl : lOk a S) (hk : kOS cI cJ cG ad co a S) (x : Int32) : gMi l y_K_ship (Cond.code y_K_ship b_K_ship 2 (some .boolean) :: wA) ({ frames := 1, cells := 0, slots := 0, locals := 21 }) D gCl (gTy cI cJ cG) gNl [.ref (ad 0), .int x] ad co dl (fun r co9 => r = (bI (inB x 10)) ∧ kOS cI cJ cG ad co9 a (nShip S x) ∧ ∀ i, 400 ≤ i → co9 i = co i) := by
  obtain ⟨w0, w1, w2, w3, w4, w5, w6, w25, w26, w27, w28, w29, w30, w31, w32, w33, w34, k1, k2, k3, k4⟩ := id hk
  obtain ⟨w7, w8, w9, -⟩ := id k1
  obtain ⟨MV, SP, wm1, wm2, wm3, wm4⟩ := id k3
  obtain ⟨w22, w23, w24⟩ := id k4
  exact gMi_post (c_K_ship l hdl w0 x) (fun r co9 hp => kp_ship hl hk x hp)
theorem m_ship (l : Launch) {D : va_G} {cI cJ cG : ClassId} {ad : Nat → Nat} {co : Nat → va_E} {dl : List Nat} {a : Nat} {S : lSt} (hdl : ∀ i, 400 ≤ i → i < 427 → i ∈ dl) (hl : lOk a S) (hm : mOS cI cJ ad co a S) (x : Int32) : gMi l y_M_ship (Cond.code y_M_ship b_M_ship 2 (some .boolean) :: wA) ({ frames := 0, cells := 0, slots := 0, locals := 0 }) D gCl (gTy cI cJ cG) gNl [.ref (ad 400), .int x] ad co dl (fun r co9 => r = (bI (inB x 10)) ∧ mOS cI cJ ad co9 a (nShip S x) ∧ ∀ i, i < 400 → co9 i = co i) := by
  obtain ⟨w400, w405, w406, w407, w408, w409, w410, w411, w412, w413, w414, w415, w416, w417, w418, w419, ⟨fm, fs, w401, w402, hmv, hsp⟩, om, os, so, lg, sc, lc, f0, g0, fd, w403, w404, w420, w421, w422, w423, w424, w425, w426⟩ := id hm
  exact gMi_post (c_M_ship l hdl w400 x) (fun r co9 hp => mp_ship hl hm x hp)
theorem k_total (l : Launch) {D : va_G} {cI cJ cG : ClassId} {ad : Nat → Nat} {co : Nat → va_E} {dl : List Nat} {a : Nat} {S : lSt} (hdl : ∀ i, kD a i → i ∈ dl) (hl : lOk a S) (hk : kOS cI cJ cG ad co a S)  : gMl l y_K_total (Cond.code y_K_total b_K_total 1 (some .long) :: wA) ({ frames := 1, cells := 0, slots := 0, locals := 20 }) D gCl (gTy cI cJ cG) gNl [.ref (ad 0)] ad co dl (fun r co9 => r = (sTotal S.kn S.sec) ∧ kOS cI cJ cG ad co9 a (S) ∧ ∀ i, 400 ≤ i → co9 i = co i) := by
  obtain ⟨w0, w1, w2, w3, w4, w5, w6, w25, w26, w27, w28, w29, w30, w31, w32, w33, w34, k1, k2, k3, k4⟩ := id hk
  obtain ⟨w7, w8, w9, -⟩ := id k1
  obtain ⟨MV, SP, wm1, wm2, wm3, wm4⟩ := id k3
  obtain ⟨w22, w23, w24⟩ := id k4
  exact gMl_post (c_K_total l hdl w0 w22 w1 w2 hl.kn2) (fun r co9 hp => ⟨hp.1, by rw [hp.2]; exact ⟨hk, fun i hi => rfl⟩⟩)
theorem m_total (l : Launch) {D : va_G} {cI cJ cG : ClassId} {ad : Nat → Nat} {co : Nat → va_E} {dl : List Nat} {a : Nat} {S : lSt} (hdl : ∀ i, 400 ≤ i → i < 427 → i ∈ dl) (hl : lOk a S) (hm : mOS cI cJ ad co a S)  : gMl l y_M_total (Cond.code y_M_total b_M_total 1 (some .long) :: wA) ({ frames := 0, cells := 0, slots := 0, locals := 0 }) D gCl (gTy cI cJ cG) gNl [.ref (ad 400)] ad co dl (fun r co9 => r = (sTotal S.kn S.sec) ∧ mOS cI cJ ad co9 a (S) ∧ ∀ i, i < 400 → co9 i = co i) := by
  obtain ⟨w400, w405, w406, w407, w408, w409, w410, w411, w412, w413, w414, w415, w416, w417, w418, w419, ⟨fm, fs, w401, w402, hmv, hsp⟩, om, os, so, lg, sc, lc, f0, g0, fd, w403, w404, w420, w421, w422, w423, w424, w425, w426⟩ := id hm
  exact gMl_post (c_M_total l hdl w400 w405 hl.kn2) (fun r co9 hp => ⟨hp.1, by rw [hp.2]; exact ⟨hm, fun i hi => rfl⟩⟩)
theorem k_tied (l : Launch) {D : va_G} {cI cJ cG : ClassId} {ad : Nat → Nat} {co : Nat → va_E} {dl : List Nat} {a : Nat} {S : lSt} (hdl : ∀ i, kD a i → i ∈ dl) (hl : lOk a S) (hk : kOS cI cJ cG ad co a S) (x : Int32) : gMi l y_K_tied (Cond.code y_K_tied b_K_tied 2 (some .boolean) :: wA) ({ frames := 3, cells := 0, slots := 0, locals := 63 }) D gCl (gTy cI cJ cG) gNl [.ref (ad 0), .int x] ad co dl (fun r co9 => r = (bI (sTied S.kn S.cs S.nx x)) ∧ kOS cI cJ cG ad co9 a (S) ∧ ∀ i, 400 ≤ i → co9 i = co i) := by
  obtain ⟨w0, w1, w2, w3, w4, w5, w6, w25, w26, w27, w28, w29, w30, w31, w32, w33, w34, k1, k2, k3, k4⟩ := id hk
  obtain ⟨w7, w8, w9, -⟩ := id k1
  obtain ⟨MV, SP, wm1, wm2, wm3, wm4⟩ := id k3
  obtain ⟨w22, w23, w24⟩ := id k4
  exact gMi_post (c_K_tied l hdl w0 w22 w24 x hl.kn2 hl.cs2) (fun r co9 hp => ⟨hp.1, by rw [hp.2]; exact ⟨hk, fun i hi => rfl⟩⟩)
theorem m_tied (l : Launch) {D : va_G} {cI cJ cG : ClassId} {ad : Nat → Nat} {co : Nat → va_E} {dl : List Nat} {a : Nat} {S : lSt} (hdl : ∀ i, 400 ≤ i → i < 427 → i ∈ dl) (hl : lOk a S) (hm : mOS cI cJ ad co a S) (x : Int32) : gMi l y_M_tied (Cond.code y_M_tied b_M_tied 2 (some .boolean) :: wA) ({ frames := 1, cells := 0, slots := 0, locals := 21 }) D gCl (gTy cI cJ cG) gNl [.ref (ad 400), .int x] ad co dl (fun r co9 => r = (bI (sTied S.kn S.cs S.nx x)) ∧ mOS cI cJ ad co9 a (S) ∧ ∀ i, i < 400 → co9 i = co i) := by
  obtain ⟨w400, w405, w406, w407, w408, w409, w410, w411, w412, w413, w414, w415, w416, w417, w418, w419, ⟨fm, fs, w401, w402, hmv, hsp⟩, om, os, so, lg, sc, lc, f0, g0, fd, w403, w404, w420, w421, w422, w423, w424, w425, w426⟩ := id hm
  exact gMi_post (c_M_tied l hdl w400 w418 x hl.kn2) (fun r co9 hp => ⟨hp.1, by rw [hp.2]; exact ⟨hm, fun i hi => rfl⟩⟩)
theorem k_night (l : Launch) {D : va_G} {cI cJ cG : ClassId} {ad : Nat → Nat} {co : Nat → va_E} {dl : List Nat} {a : Nat} {S : lSt} (hdl : ∀ i, kD a i → i ∈ dl) (hl : lOk a S) (hk : kOS cI cJ cG ad co a S) (x : Int32) : gMi l y_K_night (Cond.code y_K_night b_K_night 4 (some .int) :: wA) ({ frames := 1, cells := 0, slots := 0, locals := 21 }) D gCl (gTy cI cJ cG) gNl [.ref (ad 0), .int x] ad co dl (fun r co9 => r = (if inB x S.n then sNight (S.sec x.toNatClampNeg) else -1) ∧ kOS cI cJ cG ad co9 a (S) ∧ ∀ i, 400 ≤ i → co9 i = co i) := by
  obtain ⟨w0, w1, w2, w3, w4, w5, w6, w25, w26, w27, w28, w29, w30, w31, w32, w33, w34, k1, k2, k3, k4⟩ := id hk
  obtain ⟨w7, w8, w9, -⟩ := id k1
  obtain ⟨MV, SP, wm1, wm2, wm3, wm4⟩ := id k3
  obtain ⟨w22, w23, w24⟩ := id k4
  exact gMi_post (c_K_night l hdl w0 w1 w2 x hl.n2) (fun r co9 hp => ⟨hp.1, by rw [hp.2]; exact ⟨hk, fun i hi => rfl⟩⟩)
theorem m_night (l : Launch) {D : va_G} {cI cJ cG : ClassId} {ad : Nat → Nat} {co : Nat → va_E} {dl : List Nat} {a : Nat} {S : lSt} (hdl : ∀ i, 400 ≤ i → i < 427 → i ∈ dl) (hl : lOk a S) (hm : mOS cI cJ ad co a S) (x : Int32) : gMi l y_M_night (Cond.code y_M_night b_M_night 4 (some .int) :: wA) ({ frames := 1, cells := 0, slots := 0, locals := 21 }) D gCl (gTy cI cJ cG) gNl [.ref (ad 400), .int x] ad co dl (fun r co9 => r = (if inB x S.n then sNight (S.sec x.toNatClampNeg) else -1) ∧ mOS cI cJ ad co9 a (S) ∧ ∀ i, i < 400 → co9 i = co i) := by
  obtain ⟨w400, w405, w406, w407, w408, w409, w410, w411, w412, w413, w414, w415, w416, w417, w418, w419, ⟨fm, fs, w401, w402, hmv, hsp⟩, om, os, so, lg, sc, lc, f0, g0, fd, w403, w404, w420, w421, w422, w423, w424, w425, w426⟩ := id hm
  exact gMi_post (c_M_night l hdl w400 w405 x hl.n2) (fun r co9 hp => ⟨hp.1, by rw [hp.2]; exact ⟨hm, fun i hi => rfl⟩⟩)
