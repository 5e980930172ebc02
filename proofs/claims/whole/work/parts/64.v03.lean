def vBT_makePriced_160 (Q : Int → St → Prop) (x0 : Int) (x1 : Int) (x5 : Int) (S : St) : Prop := (∀ S1 : St, S1 = up S x0 10 x1 → (∀ S5 : St, S5 = up S1 x0 9 1 → (Q x5 S5)))
theorem aBT_makePriced_160 {ad : Int → Nat} {Q : Int → St → Prop} {post : Int32 → Hp → Prop} (hp : ∀ (r : Int) (S : St) (M : Hp), US ad S M → rI r → Q r S → post (Int32.ofInt r) M) {w_x0 : Nat} {x0 : Int} (e_x0 : w_x0 = ad x0) (t_x0 : kt (20 + 0) x0) {w_x1 : Int32} {x1 : Int} (e_x1 : w_x1 = Int32.ofInt x1) (r_x1 : rI x1) {w_x5 : Int32} {x5 : Int} (e_x5 : w_x5 = Int32.ofInt x5) (r_x5 : rI x5) {S : St} {M : Hp} (h : US ad S M) (hv : vBT_makePriced_160 Q x0 x1 x5 S) : wBT_makePriced_160 post w_x0 w_x1 w_x5 M := by
  subst e_x0
  subst e_x1
  subst e_x5
  unfold vBT_makePriced_160 at hv
  unfold wBT_makePriced_160
  refine g_pI h t_x0 rfl rfl (show _ = Int32.ofInt x1 from rfl) r_x1 (fun S1 N2 e4 h3 => ?_)
  replace hv := hv S1 e4
  refine g_pI h3 t_x0 rfl rfl LI_1 LI_1r (fun S5 N6 e8 h7 => ?_)
  replace hv := hv S5 e8
  refine ek_v (P := fun y => post y _) (show _ = Int32.ofInt x5 from rfl) ?_
  exact hp _ _ _ h7 r_x5 hv
def vBT_makePriced_144 (Q : Int → St → Prop) (x0 : Int) (x1 : Int) (x2 : Int) (x3 : Int) (x5 : Int) (S : St) : Prop := (((x3 = 0 → (vpPl_burnBeyondLimits x2 102 S (fun (S3 : St) => (vpBT_keepTrial x0 S3 (fun (S8 : St) => (vBT_makePriced_160 Q x0 x1 x5 S8)))))) ∧ (¬ x3 = 0 → (vBT_makePriced_160 Q x0 x1 x5 S))))
theorem aBT_makePriced_144 {ad : Int → Nat} {Q : Int → St → Prop} {post : Int32 → Hp → Prop} (hp : ∀ (r : Int) (S : St) (M : Hp), US ad S M → rI r → Q r S → post (Int32.ofInt r) M) {w_x0 : Nat} {x0 : Int} (e_x0 : w_x0 = ad x0) (t_x0 : kt (20 + 0) x0) {w_x1 : Int32} {x1 : Int} (e_x1 : w_x1 = Int32.ofInt x1) (r_x1 : rI x1) {w_x2 : Nat} {x2 : Int} (e_x2 : w_x2 = ad x2) (t_x2 : kt (20 + 5) x2) {w_x3 : Int32} {x3 : Int} (e_x3 : w_x3 = Int32.ofInt x3) (r_x3 : rI x3) {w_x5 : Int32} {x5 : Int} (e_x5 : w_x5 = Int32.ofInt x5) (r_x5 : rI x5) {S : St} {M : Hp} (h : US ad S M) (hv : vBT_makePriced_144 Q x0 x1 x2 x3 x5 S) : wBT_makePriced_144 post w_x0 w_x1 w_x2 w_x3 w_x5 M := by
  subst e_x0
  subst e_x1
  subst e_x2
  subst e_x3
  subst e_x5
  unfold vBT_makePriced_144 at hv
  unfold wBT_makePriced_144
  refine ek_if (c_eq (show _ = Int32.ofInt x3 from rfl) LI_0 r_x3 LI_0r) (fun g1 => ?_) (fun g1 => ?_)
  · replace hv := hv.1 g1
    refine g_fA h t_x0 rfl (rv_0_1 t_x0) ?_
    refine ⟨g_ob h t_x2, ?_⟩
    refine apPl_burnBeyondLimits (fun S3 N4 h5 hv => ?_) rfl t_x2 rfl (show kt (10 + 4) 102 by decide) h hv
    refine ⟨g_ob h5 t_x0, ?_⟩
    refine apBT_keepTrial (fun S8 N9 h10 hv => ?_) rfl t_x0 h5 hv
    exact aBT_makePriced_160 hp  rfl t_x0 (show _ = Int32.ofInt x1 from rfl) r_x1 (show _ = Int32.ofInt x5 from rfl) r_x5 h10 hv
  · replace hv := hv.2 g1
    exact aBT_makePriced_160 hp  rfl t_x0 (show _ = Int32.ofInt x1 from rfl) r_x1 (show _ = Int32.ofInt x5 from rfl) r_x5 h hv
def vBT_makePriced_141 (Q : Int → St → Prop) (K17 : Int → Int → Int → Int → Int → Int → St → Prop) (x0 : Int) (x1 : Int) (x2 : Int) (x3 : Int) (x4 : Int) (x5 : Int) (S : St) : Prop := (K17 x0 x1 x2 x3 x4 x5 S)
theorem aBT_makePriced_141 {ad : Int → Nat} {Q : Int → St → Prop} {K17 : Int → Int → Int → Int → Int → Int → St → Prop} {post : Int32 → Hp → Prop} {k17 : Nat → Int32 → Nat → Int32 → Int32 → Int32 → Hp → Prop} (hp : ∀ (r : Int) (S : St) (M : Hp), US ad S M → rI r → Q r S → post (Int32.ofInt r) M) (hk17 : ∀ (b0 b1 b2 b3 b4 b5 : Int) (S : St) (M : Hp), kt (20 + 0) b0 → rI b1 → kt (20 + 5) b2 → rI b3 → rI b4 → rI b5 → US ad S M → K17 b0 b1 b2 b3 b4 b5 S → k17 (ad b0) (Int32.ofInt b1) (ad b2) (Int32.ofInt b3) (Int32.ofInt b4) (Int32.ofInt b5) M) {w_x0 : Nat} {x0 : Int} (e_x0 : w_x0 = ad x0) (t_x0 : kt (20 + 0) x0) {w_x1 : Int32} {x1 : Int} (e_x1 : w_x1 = Int32.ofInt x1) (r_x1 : rI x1) {w_x2 : Nat} {x2 : Int} (e_x2 : w_x2 = ad x2) (t_x2 : kt (20 + 5) x2) {w_x3 : Int32} {x3 : Int} (e_x3 : w_x3 = Int32.ofInt x3) (r_x3 : rI x3) {w_x4 : Int32} {x4 : Int} (e_x4 : w_x4 = Int32.ofInt x4) (r_x4 : rI x4) {w_x5 : Int32} {x5 : Int} (e_x5 : w_x5 = Int32.ofInt x5) (r_x5 : rI x5) {S : St} {M : Hp} (h : US ad S M) (hv : vBT_makePriced_141 Q K17 x0 x1 x2 x3 x4 x5 S) : wBT_makePriced_141 post k17 w_x0 w_x1 w_x2 w_x3 w_x4 w_x5 M := by
  subst e_x0
  subst e_x1
  subst e_x2
  subst e_x3
  subst e_x4
  subst e_x5
  unfold vBT_makePriced_141 at hv
  unfold wBT_makePriced_141
  exact hk17 _ _ _ _ _ _ _ _ t_x0 r_x1 t_x2 r_x3 r_x4 r_x5 h hv
def vBT_makePriced_135 (Q : Int → St → Prop) (K17 : Int → Int → Int → Int → Int → Int → St → Prop) (x0 : Int) (x1 : Int) (x2 : Int) (x4 : Int) (x5 : Int) (S : St) : Prop := (vpBT_keepTrial x0 S (fun (S2 : St) => (vBT_makePriced_141 Q K17 x0 x1 x2 1 x4 x5 S2)))
theorem aBT_makePriced_135 {ad : Int → Nat} {Q : Int → St → Prop} {K17 : Int → Int → Int → Int → Int → Int → St → Prop} {post : Int32 → Hp → Prop} {k17 : Nat → Int32 → Nat → Int32 → Int32 → Int32 → Hp → Prop} (hp : ∀ (r : Int) (S : St) (M : Hp), US ad S M → rI r → Q r S → post (Int32.ofInt r) M) (hk17 : ∀ (b0 b1 b2 b3 b4 b5 : Int) (S : St) (M : Hp), kt (20 + 0) b0 → rI b1 → kt (20 + 5) b2 → rI b3 → rI b4 → rI b5 → US ad S M → K17 b0 b1 b2 b3 b4 b5 S → k17 (ad b0) (Int32.ofInt b1) (ad b2) (Int32.ofInt b3) (Int32.ofInt b4) (Int32.ofInt b5) M) {w_x0 : Nat} {x0 : Int} (e_x0 : w_x0 = ad x0) (t_x0 : kt (20 + 0) x0) {w_x1 : Int32} {x1 : Int} (e_x1 : w_x1 = Int32.ofInt x1) (r_x1 : rI x1) {w_x2 : Nat} {x2 : Int} (e_x2 : w_x2 = ad x2) (t_x2 : kt (20 + 5) x2) {w_x4 : Int32} {x4 : Int} (e_x4 : w_x4 = Int32.ofInt x4) (r_x4 : rI x4) {w_x5 : Int32} {x5 : Int} (e_x5 : w_x5 = Int32.ofInt x5) (r_x5 : rI x5) {S : St} {M : Hp} (h : US ad S M) (hv : vBT_makePriced_135 Q K17 x0 x1 x2 x4 x5 S) : wBT_makePriced_135 post k17 w_x0 w_x1 w_x2 w_x4 w_x5 M := by
  subst e_x0
  subst e_x1
  subst e_x2
  subst e_x4
  subst e_x5
  unfold vBT_makePriced_135 at hv
  unfold wBT_makePriced_135
  refine ⟨g_ob h t_x0, ?_⟩
  refine apBT_keepTrial (fun S2 N3 h4 hv => ?_) rfl t_x0 h hv
  exact aBT_makePriced_141 hp hk17 rfl t_x0 (show _ = Int32.ofInt x1 from rfl) r_x1 rfl t_x2 LI_1 LI_1r (show _ = Int32.ofInt x4 from rfl) r_x4 (show _ = Int32.ofInt x5 from rfl) r_x5 h4 hv
def vBT_makePriced_109 (Q : Int → St → Prop) (K17 : Int → Int → Int → Int → Int → Int → St → Prop) (x0 : Int) (x1 : Int) (x2 : Int) (x3 : Int) (x5 : Int) (x8 : Int) (y0 : Int) (S : St) : Prop := (((x8 = 0 → (vBT_makePriced_141 Q K17 x0 x1 x2 x3 y0 x5 S)) ∧ (¬ x8 = 0 → (((x3 = 0 → (vBT_makePriced_135 Q K17 x0 x1 x2 y0 x5 S)) ∧ (¬ x3 = 0 → ((((S x2 4) ≤ (S (S 100 7) 4) → (vBT_makePriced_141 Q K17 x0 x1 x2 x3 y0 x5 S)) ∧ (¬ (S x2 4) ≤ (S (S 100 7) 4) → (vBT_makePriced_135 Q K17 x0 x1 x2 y0 x5 S))))))))))
theorem aBT_makePriced_109 {ad : Int → Nat} {Q : Int → St → Prop} {K17 : Int → Int → Int → Int → Int → Int → St → Prop} {post : Int32 → Hp → Prop} {k17 : Nat → Int32 → Nat → Int32 → Int32 → Int32 → Hp → Prop} (hp : ∀ (r : Int) (S : St) (M : Hp), US ad S M → rI r → Q r S → post (Int32.ofInt r) M) (hk17 : ∀ (b0 b1 b2 b3 b4 b5 : Int) (S : St) (M : Hp), kt (20 + 0) b0 → rI b1 → kt (20 + 5) b2 → rI b3 → rI b4 → rI b5 → US ad S M → K17 b0 b1 b2 b3 b4 b5 S → k17 (ad b0) (Int32.ofInt b1) (ad b2) (Int32.ofInt b3) (Int32.ofInt b4) (Int32.ofInt b5) M) {w_x0 : Nat} {x0 : Int} (e_x0 : w_x0 = ad x0) (t_x0 : kt (20 + 0) x0) {w_x1 : Int32} {x1 : Int} (e_x1 : w_x1 = Int32.ofInt x1) (r_x1 : rI x1) {w_x2 : Nat} {x2 : Int} (e_x2 : w_x2 = ad x2) (t_x2 : kt (20 + 5) x2) {w_x3 : Int32} {x3 : Int} (e_x3 : w_x3 = Int32.ofInt x3) (r_x3 : rI x3) {w_x5 : Int32} {x5 : Int} (e_x5 : w_x5 = Int32.ofInt x5) (r_x5 : rI x5) {w_x8 : Int32} {x8 : Int} (e_x8 : w_x8 = Int32.ofInt x8) (r_x8 : rI x8) {w_y0 : Int32} {y0 : Int} (e_y0 : w_y0 = Int32.ofInt y0) (r_y0 : rI y0) {S : St} {M : Hp} (h : US ad S M) (hv : vBT_makePriced_109 Q K17 x0 x1 x2 x3 x5 x8 y0 S) : wBT_makePriced_109 post k17 w_x0 w_x1 w_x2 w_x3 w_x5 w_x8 w_y0 M := by
  subst e_x0
  subst e_x1
  subst e_x2
  subst e_x3
  subst e_x5
  subst e_x8
  subst e_y0
  unfold vBT_makePriced_109 at hv
  unfold wBT_makePriced_109
  refine ek_if (c_eq (show _ = Int32.ofInt x8 from rfl) LI_0 r_x8 LI_0r) (fun g1 => ?_) (fun g1 => ?_)
  · replace hv := hv.1 g1
    exact aBT_makePriced_141 hp hk17 rfl t_x0 (show _ = Int32.ofInt x1 from rfl) r_x1 rfl t_x2 (show _ = Int32.ofInt x3 from rfl) r_x3 (show _ = Int32.ofInt y0 from rfl) r_y0 (show _ = Int32.ofInt x5 from rfl) r_x5 h hv
  · replace hv := hv.2 g1
    refine ek_if (c_eq (show _ = Int32.ofInt x3 from rfl) LI_0 r_x3 LI_0r) (fun g2 => ?_) (fun g2 => ?_)
    · replace hv := hv.1 g2
      exact aBT_makePriced_135 hp hk17 rfl t_x0 (show _ = Int32.ofInt x1 from rfl) r_x1 rfl t_x2 (show _ = Int32.ofInt y0 from rfl) r_y0 (show _ = Int32.ofInt x5 from rfl) r_x5 h hv
    · replace hv := hv.2 g2
      refine g_fJ h t_x2 rfl rfl ?_
      refine g_fA h t_x0 rfl (rv_0_7 t_x0) ?_
      refine g_fJ h (g_k7 h) rfl rfl ?_
      refine ek_if (C_le (show _ = Int64.ofInt (S x2 4) from rfl) (show _ = Int64.ofInt (S (S 100 7) 4) from rfl) (g_rF (j := 4) h t_x2 rfl rfl) (g_rF (j := 4) h (g_k7 h) rfl rfl)) (fun g3 => ?_) (fun g3 => ?_)
      · replace hv := hv.1 g3
        exact aBT_makePriced_141 hp hk17 rfl t_x0 (show _ = Int32.ofInt x1 from rfl) r_x1 rfl t_x2 (show _ = Int32.ofInt x3 from rfl) r_x3 (show _ = Int32.ofInt y0 from rfl) r_y0 (show _ = Int32.ofInt x5 from rfl) r_x5 h hv
      · replace hv := hv.2 g3
        exact aBT_makePriced_135 hp hk17 rfl t_x0 (show _ = Int32.ofInt x1 from rfl) r_x1 rfl t_x2 (show _ = Int32.ofInt y0 from rfl) r_y0 (show _ = Int32.ofInt x5 from rfl) r_x5 h hv
def vBT_makePriced_108 (Q : Int → St → Prop) (K17 : Int → Int → Int → Int → Int → Int → St → Prop) (x0 : Int) (x1 : Int) (x2 : Int) (x3 : Int) (x5 : Int) (x8 : Int) (S : St) : Prop := (vBT_makePriced_109 Q K17 x0 x1 x2 x3 x5 x8 0 S)
theorem aBT_makePriced_108 {ad : Int → Nat} {Q : Int → St → Prop} {K17 : Int → Int → Int → Int → Int → Int → St → Prop} {post : Int32 → Hp → Prop} {k17 : Nat → Int32 → Nat → Int32 → Int32 → Int32 → Hp → Prop} (hp : ∀ (r : Int) (S : St) (M : Hp), US ad S M → rI r → Q r S → post (Int32.ofInt r) M) (hk17 : ∀ (b0 b1 b2 b3 b4 b5 : Int) (S : St) (M : Hp), kt (20 + 0) b0 → rI b1 → kt (20 + 5) b2 → rI b3 → rI b4 → rI b5 → US ad S M → K17 b0 b1 b2 b3 b4 b5 S → k17 (ad b0) (Int32.ofInt b1) (ad b2) (Int32.ofInt b3) (Int32.ofInt b4) (Int32.ofInt b5) M) {w_x0 : Nat} {x0 : Int} (e_x0 : w_x0 = ad x0) (t_x0 : kt (20 + 0) x0) {w_x1 : Int32} {x1 : Int} (e_x1 : w_x1 = Int32.ofInt x1) (r_x1 : rI x1) {w_x2 : Nat} {x2 : Int} (e_x2 : w_x2 = ad x2) (t_x2 : kt (20 + 5) x2) {w_x3 : Int32} {x3 : Int} (e_x3 : w_x3 = Int32.ofInt x3) (r_x3 : rI x3) {w_x5 : Int32} {x5 : Int} (e_x5 : w_x5 = Int32.ofInt x5) (r_x5 : rI x5) {w_x8 : Int32} {x8 : Int} (e_x8 : w_x8 = Int32.ofInt x8) (r_x8 : rI x8) {S : St} {M : Hp} (h : US ad S M) (hv : vBT_makePriced_108 Q K17 x0 x1 x2 x3 x5 x8 S) : wBT_makePriced_108 post k17 w_x0 w_x1 w_x2 w_x3 w_x5 w_x8 M := by
  subst e_x0
  subst e_x1
  subst e_x2
  subst e_x3
  subst e_x5
  subst e_x8
  unfold vBT_makePriced_108 at hv
  unfold wBT_makePriced_108
  exact aBT_makePriced_109 hp hk17 rfl t_x0 (show _ = Int32.ofInt x1 from rfl) r_x1 rfl t_x2 (show _ = Int32.ofInt x3 from rfl) r_x3 (show _ = Int32.ofInt x5 from rfl) r_x5 (show _ = Int32.ofInt x8 from rfl) r_x8 LI_0 LI_0r h hv
def vBT_makePriced_81 (Q : Int → St → Prop) (K17 : Int → Int → Int → Int → Int → Int → St → Prop) (x0 : Int) (x1 : Int) (x2 : Int) (x3 : Int) (x5 : Int) (y0 : Int) (y1 : Int) (S : St) : Prop := (∀ S1 : St, S1 = up S y1 11 y0 → (vpBT_limitsHold x0 x2 S1 (fun (r5 : Int) (S6 : St) => (((r5 = 0 → (vBT_makePriced_108 Q K17 x0 x1 x2 x3 x5 r5 S6)) ∧ (¬ r5 = 0 → (vpBT_pricesAreUsed x0 x2 S6 (fun (r11 : Int) (S12 : St) => (((r11 = 0 → (vBT_makePriced_108 Q K17 x0 x1 x2 x3 x5 r5 S12)) ∧ (¬ r11 = 0 → (vBT_makePriced_109 Q K17 x0 x1 x2 x3 x5 r5 1 S12))))))))))))
theorem aBT_makePriced_81 {ad : Int → Nat} {Q : Int → St → Prop} {K17 : Int → Int → Int → Int → Int → Int → St → Prop} {post : Int32 → Hp → Prop} {k17 : Nat → Int32 → Nat → Int32 → Int32 → Int32 → Hp → Prop} (hp : ∀ (r : Int) (S : St) (M : Hp), US ad S M → rI r → Q r S → post (Int32.ofInt r) M) (hk17 : ∀ (b0 b1 b2 b3 b4 b5 : Int) (S : St) (M : Hp), kt (20 + 0) b0 → rI b1 → kt (20 + 5) b2 → rI b3 → rI b4 → rI b5 → US ad S M → K17 b0 b1 b2 b3 b4 b5 S → k17 (ad b0) (Int32.ofInt b1) (ad b2) (Int32.ofInt b3) (Int32.ofInt b4) (Int32.ofInt b5) M) {w_x0 : Nat} {x0 : Int} (e_x0 : w_x0 = ad x0) (t_x0 : kt (20 + 0) x0) {w_x1 : Int32} {x1 : Int} (e_x1 : w_x1 = Int32.ofInt x1) (r_x1 : rI x1) {w_x2 : Nat} {x2 : Int} (e_x2 : w_x2 = ad x2) (t_x2 : kt (20 + 5) x2) {w_x3 : Int32} {x3 : Int} (e_x3 : w_x3 = Int32.ofInt x3) (r_x3 : rI x3) {w_x5 : Int32} {x5 : Int} (e_x5 : w_x5 = Int32.ofInt x5) (r_x5 : rI x5) {w_y0 : Int64} {y0 : Int} (e_y0 : w_y0 = Int64.ofInt y0) (r_y0 : rJ y0) {w_y1 : Nat} {y1 : Int} (e_y1 : w_y1 = ad y1) (t_y1 : kt (20 + 0) y1) {S : St} {M : Hp} (h : US ad S M) (hv : vBT_makePriced_81 Q K17 x0 x1 x2 x3 x5 y0 y1 S) : wBT_makePriced_81 post k17 w_x0 w_x1 w_x2 w_x3 w_x5 w_y0 w_y1 M := by
  subst e_x0
  subst e_x1
  subst e_x2
  subst e_x3
  subst e_x5
  subst e_y0
  subst e_y1
  unfold vBT_makePriced_81 at hv
  unfold wBT_makePriced_81
  refine g_pJ h t_y1 rfl rfl (show _ = Int64.ofInt y0 from rfl) r_y0 (fun S1 N2 e4 h3 => ?_)
  replace hv := hv S1 e4
  refine ⟨g_ob h3 t_x0, ?_⟩
  refine apBT_limitsHold (fun r5 S6 N7 h8 r9 hv => ?_) rfl t_x0 rfl t_x2 h3 hv
  refine ek_if (c_eq (show _ = Int32.ofInt r5 from rfl) LI_0 r9 LI_0r) (fun g10 => ?_) (fun g10 => ?_)
  · replace hv := hv.1 g10
    exact aBT_makePriced_108 hp hk17 rfl t_x0 (show _ = Int32.ofInt x1 from rfl) r_x1 rfl t_x2 (show _ = Int32.ofInt x3 from rfl) r_x3 (show _ = Int32.ofInt x5 from rfl) r_x5 (show _ = Int32.ofInt r5 from rfl) r9 h8 hv
  · replace hv := hv.2 g10
    refine ⟨g_ob h8 t_x0, ?_⟩
    refine apBT_pricesAreUsed (fun r11 S12 N13 h14 r15 hv => ?_) rfl t_x0 rfl t_x2 h8 hv
    refine ek_if (c_eq (show _ = Int32.ofInt r11 from rfl) LI_0 r15 LI_0r) (fun g16 => ?_) (fun g16 => ?_)
    · replace hv := hv.1 g16
      exact aBT_makePriced_108 hp hk17 rfl t_x0 (show _ = Int32.ofInt x1 from rfl) r_x1 rfl t_x2 (show _ = Int32.ofInt x3 from rfl) r_x3 (show _ = Int32.ofInt x5 from rfl) r_x5 (show _ = Int32.ofInt r5 from rfl) r9 h14 hv
    · replace hv := hv.2 g16
      exact aBT_makePriced_109 hp hk17 rfl t_x0 (show _ = Int32.ofInt x1 from rfl) r_x1 rfl t_x2 (show _ = Int32.ofInt x3 from rfl) r_x3 (show _ = Int32.ofInt x5 from rfl) r_x5 (show _ = Int32.ofInt r5 from rfl) r9 LI_1 LI_1r h14 hv
def vBT_makePriced_40 (Q : Int → St → Prop) (K17 : Int → Int → Int → Int → Int → Int → St → Prop) (x0 : Int) (x1 : Int) (x3 : Int) (x5 : Int) (S : St) : Prop := ((rI (x5 + 1)) ∧ ∀ z47 : Int, z47 = (x5 + 1) → (vpBT_cutAll x0 (S 100 8) S (fun (S5 : St) => (vpBT_valueOf x0 (S 100 8) S5 (fun (r9 : Int) (S10 : St) => (((z47 = 1 → (vBT_makePriced_81 Q K17 x0 x1 (S 100 8) x3 z47 r9 x0 S10)) ∧ (¬ z47 = 1 → ((rJ (min r9 (S10 x0 11))) ∧ vBT_makePriced_81 Q K17 x0 x1 (S 100 8) x3 z47 (min r9 (S10 x0 11)) x0 S10)))))))))
theorem aBT_makePriced_40 {ad : Int → Nat} {Q : Int → St → Prop} {K17 : Int → Int → Int → Int → Int → Int → St → Prop} {post : Int32 → Hp → Prop} {k17 : Nat → Int32 → Nat → Int32 → Int32 → Int32 → Hp → Prop} (hp : ∀ (r : Int) (S : St) (M : Hp), US ad S M → rI r → Q r S → post (Int32.ofInt r) M) (hk17 : ∀ (b0 b1 b2 b3 b4 b5 : Int) (S : St) (M : Hp), kt (20 + 0) b0 → rI b1 → kt (20 + 5) b2 → rI b3 → rI b4 → rI b5 → US ad S M → K17 b0 b1 b2 b3 b4 b5 S → k17 (ad b0) (Int32.ofInt b1) (ad b2) (Int32.ofInt b3) (Int32.ofInt b4) (Int32.ofInt b5) M) {w_x0 : Nat} {x0 : Int} (e_x0 : w_x0 = ad x0) (t_x0 : kt (20 + 0) x0) {w_x1 : Int32} {x1 : Int} (e_x1 : w_x1 = Int32.ofInt x1) (r_x1 : rI x1) {w_x3 : Int32} {x3 : Int} (e_x3 : w_x3 = Int32.ofInt x3) (r_x3 : rI x3) {w_x5 : Int32} {x5 : Int} (e_x5 : w_x5 = Int32.ofInt x5) (r_x5 : rI x5) {S : St} {M : Hp} (h : US ad S M) (hv : vBT_makePriced_40 Q K17 x0 x1 x3 x5 S) : wBT_makePriced_40 post k17 w_x0 w_x1 w_x3 w_x5 M := by
  subst e_x0
  subst e_x1
  subst e_x3
  subst e_x5
  unfold vBT_makePriced_40 at hv
  unfold wBT_makePriced_40
  obtain ⟨c1, hv⟩ := hv
  refine nm_z (h_add (show _ = Int32.ofInt x5 from rfl) LI_1) (fun z47 e2 => ?_)
  have r3 : rI z47 := by rw [e2]; exact c1
  replace hv := hv z47 e2
  refine g_fA h t_x0 rfl (rv_0_8 t_x0) ?_
  refine ⟨g_ob h t_x0, ?_⟩
  refine apBT_cutAll (fun S5 N6 h7 hv => ?_) rfl t_x0 rfl (g_k8 h) h hv
  refine ⟨g_ob h7 t_x0, ?_⟩
  refine apBT_valueOf (fun r9 S10 N11 h12 r13 hv => ?_) rfl t_x0 rfl (g_k8 h) h7 hv
  refine ek_if (c_eq (show _ = Int32.ofInt z47 from rfl) LI_1 r3 LI_1r) (fun g14 => ?_) (fun g14 => ?_)
  · replace hv := hv.1 g14
    exact aBT_makePriced_81 hp hk17 rfl t_x0 (show _ = Int32.ofInt x1 from rfl) r_x1 rfl (g_k8 h) (show _ = Int32.ofInt x3 from rfl) r_x3 (show _ = Int32.ofInt z47 from rfl) r3 (show _ = Int64.ofInt r9 from rfl) r13 rfl t_x0 h12 hv
  · replace hv := hv.2 g14
    refine g_fJ h12 t_x0 rfl rfl ?_
    obtain ⟨c15, hv⟩ := hv
    exact aBT_makePriced_81 hp hk17 rfl t_x0 (show _ = Int32.ofInt x1 from rfl) r_x1 rfl (g_k8 h) (show _ = Int32.ofInt x3 from rfl) r_x3 (show _ = Int32.ofInt z47 from rfl) r3 (H_min (show _ = Int64.ofInt r9 from rfl) (show _ = Int64.ofInt (S10 x0 11) from rfl) r13 (g_rF (j := 11) h12 t_x0 rfl rfl)) c15 rfl t_x0 h12 hv
def vBT_makePriced_17 (Q : Int → St → Prop) : Nat → Int → Int → Int → Int → Int → Int → St → Prop
  | 0 => fun _ _ _ _ _ _ _ => False
  | n + 1 => fun x0 x1 x2 x3 x4 x5 S => (((x1 ≤ x5 → (vBT_makePriced_144 Q x0 x1 x2 x3 x5 S)) ∧ (¬ x1 ≤ x5 → (((x4 = 0 → (((x5 ≤ 0 → (vBT_makePriced_40 Q (vBT_makePriced_17 Q n) x0 x1 x3 x5 S)) ∧ (¬ x5 ≤ 0 → (vpBT_changePrices x0 x2 x5 S (fun (S5 : St) => (vBT_makePriced_40 Q (vBT_makePriced_17 Q n) x0 x1 x3 x5 S5))))))) ∧ (¬ x4 = 0 → (vBT_makePriced_144 Q x0 x1 x2 x3 x5 S)))))))
theorem aBT_makePriced_17 {ad : Int → Nat} {Q : Int → St → Prop} {post : Int32 → Hp → Prop} (hp : ∀ (r : Int) (S : St) (M : Hp), US ad S M → rI r → Q r S → post (Int32.ofInt r) M) : ∀ (n : Nat) (w_x0 : Nat) (x0 : Int) (e_x0 : w_x0 = ad x0) (t_x0 : kt (20 + 0) x0) (w_x1 : Int32) (x1 : Int) (e_x1 : w_x1 = Int32.ofInt x1) (r_x1 : rI x1) (w_x2 : Nat) (x2 : Int) (e_x2 : w_x2 = ad x2) (t_x2 : kt (20 + 5) x2) (w_x3 : Int32) (x3 : Int) (e_x3 : w_x3 = Int32.ofInt x3) (r_x3 : rI x3) (w_x4 : Int32) (x4 : Int) (e_x4 : w_x4 = Int32.ofInt x4) (r_x4 : rI x4) (w_x5 : Int32) (x5 : Int) (e_x5 : w_x5 = Int32.ofInt x5) (r_x5 : rI x5) (S : St) (M : Hp), US ad S M → vBT_makePriced_17 Q n x0 x1 x2 x3 x4 x5 S → wBT_makePriced_17 post n w_x0 w_x1 w_x2 w_x3 w_x4 w_x5 M := by
  intro n
  induction n with
  | zero => intro w_x0 x0 e_x0 t_x0 w_x1 x1 e_x1 r_x1 w_x2 x2 e_x2 t_x2 w_x3 x3 e_x3 r_x3 w_x4 x4 e_x4 r_x4 w_x5 x5 e_x5 r_x5 S M h hv; exact hv.elim
  | succ n ih =>
    intro w_x0 x0 e_x0 t_x0 w_x1 x1 e_x1 r_x1 w_x2 x2 e_x2 t_x2 w_x3 x3 e_x3 r_x3 w_x4 x4 e_x4 r_x4 w_x5 x5 e_x5 r_x5 S M h hv
    subst e_x0
    subst e_x1
    subst e_x2
    subst e_x3
    subst e_x4
    subst e_x5
    unfold vBT_makePriced_17 at hv
    unfold wBT_makePriced_17
    refine ek_if (c_le (show _ = Int32.ofInt x1 from rfl) (show _ = Int32.ofInt x5 from rfl) r_x1 r_x5) (fun g1 => ?_) (fun g1 => ?_)
    · replace hv := hv.1 g1
      exact aBT_makePriced_144 hp  rfl t_x0 (show _ = Int32.ofInt x1 from rfl) r_x1 rfl t_x2 (show _ = Int32.ofInt x3 from rfl) r_x3 (show _ = Int32.ofInt x5 from rfl) r_x5 h hv
    · replace hv := hv.2 g1
      refine ek_if (c_eq (show _ = Int32.ofInt x4 from rfl) LI_0 r_x4 LI_0r) (fun g2 => ?_) (fun g2 => ?_)
      · replace hv := hv.1 g2
        refine ek_if (c_le (show _ = Int32.ofInt x5 from rfl) LI_0 r_x5 LI_0r) (fun g3 => ?_) (fun g3 => ?_)
        · replace hv := hv.1 g3
          exact aBT_makePriced_40 hp (fun b0 b1 b2 b3 b4 b5 S9 M9 y0 y1 y2 y3 y4 y5 h9 hv9 => ih _ b0 rfl y0 _ b1 rfl y1 _ b2 rfl y2 _ b3 rfl y3 _ b4 rfl y4 _ b5 rfl y5 S9 M9 h9 hv9) rfl t_x0 (show _ = Int32.ofInt x1 from rfl) r_x1 (show _ = Int32.ofInt x3 from rfl) r_x3 (show _ = Int32.ofInt x5 from rfl) r_x5 h hv
        · replace hv := hv.2 g3
          refine ⟨g_ob h t_x0, ?_⟩
          refine apBT_changePrices (fun S5 N6 h7 hv => ?_) rfl t_x0 rfl t_x2 (show _ = Int32.ofInt x5 from rfl) r_x5 h hv
          exact aBT_makePriced_40 hp (fun b0 b1 b2 b3 b4 b5 S9 M9 y0 y1 y2 y3 y4 y5 h9 hv9 => ih _ b0 rfl y0 _ b1 rfl y1 _ b2 rfl y2 _ b3 rfl y3 _ b4 rfl y4 _ b5 rfl y5 S9 M9 h9 hv9) rfl t_x0 (show _ = Int32.ofInt x1 from rfl) r_x1 (show _ = Int32.ofInt x3 from rfl) r_x3 (show _ = Int32.ofInt x5 from rfl) r_x5 h7 hv
      · replace hv := hv.2 g2
        exact aBT_makePriced_144 hp  rfl t_x0 (show _ = Int32.ofInt x1 from rfl) r_x1 rfl t_x2 (show _ = Int32.ofInt x3 from rfl) r_x3 (show _ = Int32.ofInt x5 from rfl) r_x5 h hv
def vpBT_makePriced (self : Int) (p0 : Int) (S : St) (Q : Int → St → Prop) : Prop := (vpBT_startPlans self S (fun (S2 : St) => (∃ n73 : Nat, (vBT_makePriced_17 Q n73 self p0 (S2 100 8) 0 0 0 S2))))
theorem apBT_makePriced {ad : Int → Nat} {Q : Int → St → Prop} {post : Int32 → Hp → Prop} (hp : ∀ (r : Int) (S : St) (M : Hp), US ad S M → rI r → Q r S → post (Int32.ofInt r) M) {w_self : Nat} {self : Int} (e_self : w_self = ad self) (t_self : kt (20 + 0) self) {w_p0 : Int32} {p0 : Int} (e_p0 : w_p0 = Int32.ofInt p0) (r_p0 : rI p0) {S : St} {M : Hp} (h : US ad S M) (hv : vpBT_makePriced self p0 S Q) : wpBT_makePriced w_self w_p0 M post := by
  subst e_self
  subst e_p0
  unfold vpBT_makePriced at hv
  unfold wpBT_makePriced
  refine ⟨g_ob h t_self, ?_⟩
  refine apBT_startPlans (fun S2 N3 h4 hv => ?_) rfl t_self h hv
  refine g_fA h4 t_self rfl (rv_0_8 t_self) ?_
  obtain ⟨n73, hv⟩ := hv
  refine ⟨n73, ?_⟩
  exact aBT_makePriced_17 hp  n73 _ _ rfl t_self _ _ (show _ = Int32.ofInt p0 from rfl) r_p0 _ _ rfl (g_k8 h4) _ _ LI_0 LI_0r _ _ LI_0 LI_0r _ _ LI_0 LI_0r _ _ h4 hv
def vBT_priced_11 (Q : Int → St → Prop) (QX : String → St → Prop) (S : St) : Prop := (QX "java/lang/IllegalArgumentException" S)
theorem aBT_priced_11 {ad : Int → Nat} {Q : Int → St → Prop} {QX : String → St → Prop} {post : Int32 → Hp → Prop} {px : String → Hp → Prop} (hp : ∀ (r : Int) (S : St) (M : Hp), US ad S M → rI r → Q r S → post (Int32.ofInt r) M) (hx : ∀ (E : String) (S : St) (M : Hp), US ad S M → QX E S → px E M)  {S : St} {M : Hp} (h : US ad S M) (hv : vBT_priced_11 Q QX  S) : wBT_priced_11 post px  M := by
  unfold vBT_priced_11 at hv
  unfold wBT_priced_11
  exact hx _ _ _ h hv
def vpBT_priced (self : Int) (p0 : Int) (S : St) (Q : Int → St → Prop) (QX : String → St → Prop) : Prop := (((p0 < 1 → (vBT_priced_11 Q QX  S)) ∧ (¬ p0 < 1 → (((p0 ≤ 10 → (vpBT_makePriced self p0 S (fun (r3 : Int) (S4 : St) => (Q r3 S4)))) ∧ (¬ p0 ≤ 10 → (vBT_priced_11 Q QX  S)))))))
theorem apBT_priced {ad : Int → Nat} {Q : Int → St → Prop} {QX : String → St → Prop} {post : Int32 → Hp → Prop} {px : String → Hp → Prop} (hp : ∀ (r : Int) (S : St) (M : Hp), US ad S M → rI r → Q r S → post (Int32.ofInt r) M) (hx : ∀ (E : String) (S : St) (M : Hp), US ad S M → QX E S → px E M) {w_self : Nat} {self : Int} (e_self : w_self = ad self) (t_self : kt (20 + 0) self) {w_p0 : Int32} {p0 : Int} (e_p0 : w_p0 = Int32.ofInt p0) (r_p0 : rI p0) {S : St} {M : Hp} (h : US ad S M) (hv : vpBT_priced self p0 S Q QX) : wpBT_priced w_self w_p0 M post px := by
  subst e_self
  subst e_p0
  unfold vpBT_priced at hv
  unfold wpBT_priced
  refine ek_if (c_lt (show _ = Int32.ofInt p0 from rfl) LI_1 r_p0 LI_1r) (fun g1 => ?_) (fun g1 => ?_)
  · replace hv := hv.1 g1
    exact aBT_priced_11 hp hx   h hv
  · replace hv := hv.2 g1
    refine ek_if (c_le (show _ = Int32.ofInt p0 from rfl) LI_10 r_p0 LI_10r) (fun g2 => ?_) (fun g2 => ?_)
    · replace hv := hv.1 g2
      refine ⟨g_ob h t_self, ?_⟩
      refine apBT_makePriced (fun r3 S4 N5 h6 r7 hv => ?_) rfl t_self (show _ = Int32.ofInt p0 from rfl) r_p0 h hv
      refine ek_v (P := fun y => post y _) (show _ = Int32.ofInt r3 from rfl) ?_
      exact hp _ _ _ h6 r7 hv
    · replace hv := hv.2 g2
      exact aBT_priced_11 hp hx   h hv
def vpBT_needPlan (self : Int) (S : St) (Q : St → Prop) (QX : String → St → Prop) : Prop := ((((S self 9) = 0 → (QX "java/lang/IllegalStateException" S)) ∧ (¬ (S self 9) = 0 → (Q S))))
theorem apBT_needPlan {ad : Int → Nat} {Q : St → Prop} {QX : String → St → Prop} {post : Hp → Prop} {px : String → Hp → Prop} (hp : ∀ (S : St) (M : Hp), US ad S M → Q S → post M) (hx : ∀ (E : String) (S : St) (M : Hp), US ad S M → QX E S → px E M) {w_self : Nat} {self : Int} (e_self : w_self = ad self) (t_self : kt (20 + 0) self) {S : St} {M : Hp} (h : US ad S M) (hv : vpBT_needPlan self S Q QX) : wpBT_needPlan w_self M post px := by
  subst e_self
  unfold vpBT_needPlan at hv
  unfold wpBT_needPlan
  refine g_fI h t_self rfl rfl ?_
  refine ek_if (c_eq (show _ = Int32.ofInt (S self 9) from rfl) LI_0 (g_rf (j := 9) h t_self rfl rfl) LI_0r) (fun g1 => ?_) (fun g1 => ?_)
  · replace hv := hv.1 g1
    exact hx _ _ _ h hv
  · replace hv := hv.2 g1
    exact hp _ _ h hv
def vpBT_worth (self : Int) (S : St) (Q : Int → St → Prop) (QX : String → St → Prop) : Prop := (vpBT_needPlan self S (fun (S2 : St) => (Q (S2 (S2 100 7) 4) S2)) QX)
theorem apBT_worth {ad : Int → Nat} {Q : Int → St → Prop} {QX : String → St → Prop} {post : Int64 → Hp → Prop} {px : String → Hp → Prop} (hp : ∀ (r : Int) (S : St) (M : Hp), US ad S M → rJ r → Q r S → post (Int64.ofInt r) M) (hx : ∀ (E : String) (S : St) (M : Hp), US ad S M → QX E S → px E M) {w_self : Nat} {self : Int} (e_self : w_self = ad self) (t_self : kt (20 + 0) self) {S : St} {M : Hp} (h : US ad S M) (hv : vpBT_worth self S Q QX) : wpBT_worth w_self M post px := by
  subst e_self
  unfold vpBT_worth at hv
  unfold wpBT_worth
  refine ⟨g_ob h t_self, ?_⟩
  refine apBT_needPlan (fun S2 N3 h4 hv => ?_) hx rfl t_self h hv
  refine g_fA h4 t_self rfl (rv_0_7 t_self) ?_
  refine g_fJ h4 (g_k7 h4) rfl rfl ?_
  refine ek_v (P := fun y => post y _) (show _ = Int64.ofInt (S2 (S2 100 7) 4) from rfl) ?_
  exact hp _ _ _ h4 (g_rF (j := 4) h4 (g_k7 h4) rfl rfl) hv
def vBT_needRow_27 (Q : St → Prop) (QX : String → St → Prop) (S : St) : Prop := (Q S)
theorem aBT_needRow_27 {ad : Int → Nat} {Q : St → Prop} {QX : String → St → Prop} {post : Hp → Prop} {px : String → Hp → Prop} (hp : ∀ (S : St) (M : Hp), US ad S M → Q S → post M) (hx : ∀ (E : String) (S : St) (M : Hp), US ad S M → QX E S → px E M)  {S : St} {M : Hp} (h : US ad S M) (hv : vBT_needRow_27 Q QX  S) : wBT_needRow_27 post px  M := by
  unfold vBT_needRow_27 at hv
  unfold wBT_needRow_27
  exact hp _ _ h hv
def vpBT_needRow (p0 : Int) (p1 : Int) (S : St) (Q : St → Prop) (QX : String → St → Prop) : Prop := (((p0 = (-1) → (vBT_needRow_27 Q QX  S)) ∧ (¬ p0 = (-1) → ((rI (p1 - 1)) ∧ vpBT_isOutside p0 (p1 - 1) S (fun (r3 : Int) (S4 : St) => (((r3 = 0 → (vBT_needRow_27 Q QX  S4)) ∧ (¬ r3 = 0 → (QX "java/lang/IndexOutOfBoundsException" S4)))))))))
theorem apBT_needRow {ad : Int → Nat} {Q : St → Prop} {QX : String → St → Prop} {post : Hp → Prop} {px : String → Hp → Prop} (hp : ∀ (S : St) (M : Hp), US ad S M → Q S → post M) (hx : ∀ (E : String) (S : St) (M : Hp), US ad S M → QX E S → px E M) {w_p0 : Int32} {p0 : Int} (e_p0 : w_p0 = Int32.ofInt p0) (r_p0 : rI p0) {w_p1 : Int32} {p1 : Int} (e_p1 : w_p1 = Int32.ofInt p1) (r_p1 : rI p1) {S : St} {M : Hp} (h : US ad S M) (hv : vpBT_needRow p0 p1 S Q QX) : wpBT_needRow w_p0 w_p1 M post px := by
  subst e_p0
  subst e_p1
  unfold vpBT_needRow at hv
  unfold wpBT_needRow
  refine ek_if (c_eq (show _ = Int32.ofInt p0 from rfl) LI_m1 r_p0 LI_m1r) (fun g1 => ?_) (fun g1 => ?_)
  · replace hv := hv.1 g1
    exact aBT_needRow_27 hp hx   h hv
  · replace hv := hv.2 g1
    obtain ⟨c2, hv⟩ := hv
    refine apBT_isOutside (fun r3 S4 N5 h6 r7 hv => ?_) (h_toL (show _ = Int32.ofInt p0 from rfl) r_p0) (rI_J r_p0) (h_toL (h_sub (show _ = Int32.ofInt p1 from rfl) LI_1) c2) (rI_J c2) h hv
    refine ek_if (c_eq (show _ = Int32.ofInt r3 from rfl) LI_0 r7 LI_0r) (fun g8 => ?_) (fun g8 => ?_)
    · replace hv := hv.1 g8
      exact aBT_needRow_27 hp hx   h6 hv
    · replace hv := hv.2 g8
      exact hx _ _ _ h6 hv
def vpBT_needPart (p0 : Int) (p1 : Int) (S : St) (Q : St → Prop) (QX : String → St → Prop) : Prop := ((rI (p1 - 1)) ∧ vpBT_isOutside p0 (p1 - 1) S (fun (r2 : Int) (S3 : St) => (((r2 = 0 → (Q S3)) ∧ (¬ r2 = 0 → (QX "java/lang/IllegalArgumentException" S3))))))
theorem apBT_needPart {ad : Int → Nat} {Q : St → Prop} {QX : String → St → Prop} {post : Hp → Prop} {px : String → Hp → Prop} (hp : ∀ (S : St) (M : Hp), US ad S M → Q S → post M) (hx : ∀ (E : String) (S : St) (M : Hp), US ad S M → QX E S → px E M) {w_p0 : Int32} {p0 : Int} (e_p0 : w_p0 = Int32.ofInt p0) (r_p0 : rI p0) {w_p1 : Int32} {p1 : Int} (e_p1 : w_p1 = Int32.ofInt p1) (r_p1 : rI p1) {S : St} {M : Hp} (h : US ad S M) (hv : vpBT_needPart p0 p1 S Q QX) : wpBT_needPart w_p0 w_p1 M post px := by
  subst e_p0
  subst e_p1
  unfold vpBT_needPart at hv
  unfold wpBT_needPart
  obtain ⟨c1, hv⟩ := hv
  refine apBT_isOutside (fun r2 S3 N4 h5 r6 hv => ?_) (h_toL (show _ = Int32.ofInt p0 from rfl) r_p0) (rI_J r_p0) (h_toL (h_sub (show _ = Int32.ofInt p1 from rfl) LI_1) c1) (rI_J c1) h hv
  refine ek_if (c_eq (show _ = Int32.ofInt r2 from rfl) LI_0 r6 LI_0r) (fun g7 => ?_) (fun g7 => ?_)
  · replace hv := hv.1 g7
    exact hp _ _ h5 hv
  · replace hv := hv.2 g7
    exact hx _ _ _ h5 hv
def vBT_log_44 (Q : Int → St → Prop) (QX : String → St → Prop) (y0 : Int) (S : St) : Prop := (Q y0 S)
theorem aBT_log_44 {ad : Int → Nat} {Q : Int → St → Prop} {QX : String → St → Prop} {post : Int32 → Hp → Prop} {px : String → Hp → Prop} (hp : ∀ (r : Int) (S : St) (M : Hp), US ad S M → rI r → Q r S → post (Int32.ofInt r) M) (hx : ∀ (E : String) (S : St) (M : Hp), US ad S M → QX E S → px E M) {w_y0 : Int32} {y0 : Int} (e_y0 : w_y0 = Int32.ofInt y0) (r_y0 : rI y0) {S : St} {M : Hp} (h : US ad S M) (hv : vBT_log_44 Q QX y0 S) : wBT_log_44 post px w_y0 M := by
  subst e_y0
  unfold vBT_log_44 at hv
  unfold wBT_log_44
  refine ek_v (P := fun y => post y _) (show _ = Int32.ofInt y0 from rfl) ?_
  exact hp _ _ _ h r_y0 hv
def vpBT_log (self : Int) (p0 : Int) (p1 : Int) (S : St) (Q : Int → St → Prop) (QX : String → St → Prop) : Prop := (vpBT_needPlan self S (fun (S2 : St) => (vpBT_needRow p0 (S2 (S2 100 7) 3) S2 (fun (S7 : St) => (vpBT_needPart p1 5 S7 (fun (S12 : St) => (((p0 = (-1) → (vBT_log_44 Q QX (S12 (S12 100 7) 3) S12)) ∧ (¬ p0 = (-1) → (vpPl_tellLog (S12 100 7) p0 p1 S12 (fun (r17 : Int) (S18 : St) => (vBT_log_44 Q QX r17 S18))))))) QX)) QX)) QX)
theorem apBT_log {ad : Int → Nat} {Q : Int → St → Prop} {QX : String → St → Prop} {post : Int32 → Hp → Prop} {px : String → Hp → Prop} (hp : ∀ (r : Int) (S : St) (M : Hp), US ad S M → rI r → Q r S → post (Int32.ofInt r) M) (hx : ∀ (E : String) (S : St) (M : Hp), US ad S M → QX E S → px E M) {w_self : Nat} {self : Int} (e_self : w_self = ad self) (t_self : kt (20 + 0) self) {w_p0 : Int32} {p0 : Int} (e_p0 : w_p0 = Int32.ofInt p0) (r_p0 : rI p0) {w_p1 : Int32} {p1 : Int} (e_p1 : w_p1 = Int32.ofInt p1) (r_p1 : rI p1) {S : St} {M : Hp} (h : US ad S M) (hv : vpBT_log self p0 p1 S Q QX) : wpBT_log w_self w_p0 w_p1 M post px := by
  subst e_self
  subst e_p0
  subst e_p1
  unfold vpBT_log at hv
  unfold wpBT_log
  refine ⟨g_ob h t_self, ?_⟩
  refine apBT_needPlan (fun S2 N3 h4 hv => ?_) hx rfl t_self h hv
  refine g_fA h4 t_self rfl (rv_0_7 t_self) ?_
  refine g_fI h4 (g_k7 h4) rfl rfl ?_
  refine apBT_needRow (fun S7 N8 h9 hv => ?_) hx (show _ = Int32.ofInt p0 from rfl) r_p0 (show _ = Int32.ofInt (S2 (S2 100 7) 3) from rfl) (g_rf (j := 3) h4 (g_k7 h4) rfl rfl) h4 hv
  refine apBT_needPart (fun S12 N13 h14 hv => ?_) hx (show _ = Int32.ofInt p1 from rfl) r_p1 LI_5 LI_5r h9 hv
  refine ek_if (c_eq (show _ = Int32.ofInt p0 from rfl) LI_m1 r_p0 LI_m1r) (fun g16 => ?_) (fun g16 => ?_)
  · replace hv := hv.1 g16
    refine g_fA h14 t_self rfl (rv_0_7 t_self) ?_
    refine g_fI h14 (g_k7 h14) rfl rfl ?_
    exact aBT_log_44 hp hx  (show _ = Int32.ofInt (S12 (S12 100 7) 3) from rfl) (g_rf (j := 3) h14 (g_k7 h14) rfl rfl) h14 hv
  · replace hv := hv.2 g16
    refine g_fA h14 t_self rfl (rv_0_7 t_self) ?_
    refine ⟨g_ob h14 (g_k7 h14), ?_⟩
    refine apPl_tellLog (fun r17 S18 N19 h20 r21 hv => ?_) rfl (g_k7 h14) (show _ = Int32.ofInt p0 from rfl) r_p0 (show _ = Int32.ofInt p1 from rfl) r_p1 h14 hv
    exact aBT_log_44 hp hx  (show _ = Int32.ofInt r17 from rfl) r21 h20 hv
def vPl_beginsFuelRow_32 (Q : Int → St → Prop) (y0 : Int) (S : St) : Prop := (((y0 : Int) = 0 ∨ (y0 : Int) = 1) ∧ (Q y0 S))
theorem aPl_beginsFuelRow_32 {ad : Int → Nat} {Q : Int → St → Prop} {post : Int32 → Hp → Prop} (hp : ∀ (r : Int) (S : St) (M : Hp), US ad S M → rI r → Q r S → post (Int32.ofInt r) M) {w_y0 : Int32} {y0 : Int} (e_y0 : w_y0 = Int32.ofInt y0) (r_y0 : rI y0) {S : St} {M : Hp} (h : US ad S M) (hv : vPl_beginsFuelRow_32 Q y0 S) : wPl_beginsFuelRow_32 post w_y0 M := by
  subst e_y0
  unfold vPl_beginsFuelRow_32 at hv
  unfold wPl_beginsFuelRow_32
  refine ⟨b01 (show _ = Int32.ofInt y0 from rfl) hv.1, ?_⟩
  replace hv := hv.2
  refine ek_v (P := fun y => post y _) (show _ = Int32.ofInt y0 from rfl) ?_
  exact hp _ _ _ h r_y0 hv
def vPl_beginsFuelRow_31 (Q : Int → St → Prop) (S : St) : Prop := (vPl_beginsFuelRow_32 Q 0 S)
theorem aPl_beginsFuelRow_31 {ad : Int → Nat} {Q : Int → St → Prop} {post : Int32 → Hp → Prop} (hp : ∀ (r : Int) (S : St) (M : Hp), US ad S M → rI r → Q r S → post (Int32.ofInt r) M)  {S : St} {M : Hp} (h : US ad S M) (hv : vPl_beginsFuelRow_31 Q  S) : wPl_beginsFuelRow_31 post  M := by
  unfold vPl_beginsFuelRow_31 at hv
  unfold wPl_beginsFuelRow_31
  exact aPl_beginsFuelRow_32 hp  LI_0 LI_0r h hv
def vPl_beginsFuelRow_27 (Q : Int → St → Prop) (S : St) : Prop := (vPl_beginsFuelRow_32 Q 1 S)
theorem aPl_beginsFuelRow_27 {ad : Int → Nat} {Q : Int → St → Prop} {post : Int32 → Hp → Prop} (hp : ∀ (r : Int) (S : St) (M : Hp), US ad S M → rI r → Q r S → post (Int32.ofInt r) M)  {S : St} {M : Hp} (h : US ad S M) (hv : vPl_beginsFuelRow_27 Q  S) : wPl_beginsFuelRow_27 post  M := by
  unfold vPl_beginsFuelRow_27 at hv
  unfold wPl_beginsFuelRow_27
  exact aPl_beginsFuelRow_32 hp  LI_1 LI_1r h hv
def vpPl_beginsFuelRow (self : Int) (p0 : Int) (S : St) (Q : Int → St → Prop) : Prop := (((0 : Int) ≤ p0 ∧ (p0 : Int) < 480) ∧ ((((S (self + 2) p0) = 0 → (vPl_beginsFuelRow_31 Q  S)) ∧ (¬ (S (self + 2) p0) = 0 → (((0 : Int) ≤ p0 ∧ (p0 : Int) < 2147483648) ∧ ((0 : Int) < 80 ∧ (80 : Int) < 2147483648) ∧ (rI (p0 % 80)) ∧ (((p0 % 80) = 0 → (vPl_beginsFuelRow_27 Q  S)) ∧ (¬ (p0 % 80) = 0 → (((0 : Int) ≤ (p0 - 1) ∧ ((p0 - 1) : Int) < 480) ∧ ((((S (self + 2) (p0 - 1)) = 0 → (vPl_beginsFuelRow_27 Q  S)) ∧ (¬ (S (self + 2) (p0 - 1)) = 0 → (vPl_beginsFuelRow_31 Q  S))))))))))))
theorem apPl_beginsFuelRow {ad : Int → Nat} {Q : Int → St → Prop} {post : Int32 → Hp → Prop} (hp : ∀ (r : Int) (S : St) (M : Hp), US ad S M → rI r → Q r S → post (Int32.ofInt r) M) {w_self : Nat} {self : Int} (e_self : w_self = ad self) (t_self : kt (20 + 5) self) {w_p0 : Int32} {p0 : Int} (e_p0 : w_p0 = Int32.ofInt p0) (r_p0 : rI p0) {S : St} {M : Hp} (h : US ad S M) (hv : vpPl_beginsFuelRow self p0 S Q) : wpPl_beginsFuelRow w_self w_p0 M post := by
  subst e_self
  subst e_p0
  unfold vpPl_beginsFuelRow at hv
  unfold wpPl_beginsFuelRow
  refine g_fA h t_self rfl (rv_5_1 t_self) ?_
  obtain ⟨c1, hv⟩ := hv
  refine g_aZ h (kt_5_1 t_self) (al_5_1 t_self) (show _ = Int32.ofInt p0 from rfl) c1 ?_
  refine ek_if (c_eq (show _ = Int32.ofInt (S (self + 2) p0) from rfl) LI_0 (g_rI h (kt_5_1 t_self) (by decide)) LI_0r) (fun g2 => ?_) (fun g2 => ?_)
  · replace hv := hv.1 g2
    exact aPl_beginsFuelRow_31 hp   h hv
  · replace hv := hv.2 g2
    obtain ⟨c3, c4, c5, hv⟩ := hv
    refine ek_if (c_eq (h_rem (show _ = Int32.ofInt p0 from rfl) LI_80 c3 c4) LI_0 c5 LI_0r) (fun g6 => ?_) (fun g6 => ?_)
    · replace hv := hv.1 g6
      exact aPl_beginsFuelRow_27 hp   h hv
    · replace hv := hv.2 g6
      refine g_fA h t_self rfl (rv_5_1 t_self) ?_
      obtain ⟨c7, hv⟩ := hv
      refine g_aZ h (kt_5_1 t_self) (al_5_1 t_self) (h_sub (show _ = Int32.ofInt p0 from rfl) LI_1) c7 ?_
      refine ek_if (c_eq (show _ = Int32.ofInt (S (self + 2) (p0 - 1)) from rfl) LI_0 (g_rI h (kt_5_1 t_self) (by decide)) LI_0r) (fun g8 => ?_) (fun g8 => ?_)
      · replace hv := hv.1 g8
        exact aPl_beginsFuelRow_27 hp   h hv
      · replace hv := hv.2 g8
        exact aPl_beginsFuelRow_31 hp   h hv
def vPl_countFuelRows_24 (Q : Int → St → Prop) (K4 : Int → Int → Int → St → Prop) (x0 : Int) (x1 : Int) (x2 : Int) (S : St) : Prop := ((rI (x2 + 1)) ∧ ∀ z1 : Int, z1 = (x2 + 1) → (K4 x0 x1 z1 S))
theorem aPl_countFuelRows_24 {ad : Int → Nat} {Q : Int → St → Prop} {K4 : Int → Int → Int → St → Prop} {post : Int32 → Hp → Prop} {k4 : Nat → Int32 → Int32 → Hp → Prop} (hp : ∀ (r : Int) (S : St) (M : Hp), US ad S M → rI r → Q r S → post (Int32.ofInt r) M) (hk4 : ∀ (b0 b1 b2 : Int) (S : St) (M : Hp), kt (20 + 5) b0 → rI b1 → rI b2 → US ad S M → K4 b0 b1 b2 S → k4 (ad b0) (Int32.ofInt b1) (Int32.ofInt b2) M) {w_x0 : Nat} {x0 : Int} (e_x0 : w_x0 = ad x0) (t_x0 : kt (20 + 5) x0) {w_x1 : Int32} {x1 : Int} (e_x1 : w_x1 = Int32.ofInt x1) (r_x1 : rI x1) {w_x2 : Int32} {x2 : Int} (e_x2 : w_x2 = Int32.ofInt x2) (r_x2 : rI x2) {S : St} {M : Hp} (h : US ad S M) (hv : vPl_countFuelRows_24 Q K4 x0 x1 x2 S) : wPl_countFuelRows_24 post k4 w_x0 w_x1 w_x2 M := by
  subst e_x0
  subst e_x1
  subst e_x2
  unfold vPl_countFuelRows_24 at hv
  unfold wPl_countFuelRows_24
  obtain ⟨c1, hv⟩ := hv
  refine nm_z (h_add (show _ = Int32.ofInt x2 from rfl) LI_1) (fun z1 e2 => ?_)
  have r3 : rI z1 := by rw [e2]; exact c1
  replace hv := hv z1 e2
  exact hk4 _ _ _ _ _ t_x0 r_x1 r3 h hv
def vPl_countFuelRows_4 (Q : Int → St → Prop) : Nat → Int → Int → Int → St → Prop
  | 0 => fun _ _ _ _ => False
  | n + 1 => fun x0 x1 x2 S => ((rI 480) ∧ ((480 ≤ x2 → (Q x1 S)) ∧ (¬ 480 ≤ x2 → (vpPl_beginsFuelRow x0 x2 S (fun (r3 : Int) (S4 : St) => (((r3 = 0 → (vPl_countFuelRows_24 Q (vPl_countFuelRows_4 Q n) x0 x1 x2 S4)) ∧ (¬ r3 = 0 → ((rI (x1 + 1)) ∧ ∀ z14 : Int, z14 = (x1 + 1) → (vPl_countFuelRows_24 Q (vPl_countFuelRows_4 Q n) x0 z14 x2 S4))))))))))
theorem aPl_countFuelRows_4 {ad : Int → Nat} {Q : Int → St → Prop} {post : Int32 → Hp → Prop} (hp : ∀ (r : Int) (S : St) (M : Hp), US ad S M → rI r → Q r S → post (Int32.ofInt r) M) : ∀ (n : Nat) (w_x0 : Nat) (x0 : Int) (e_x0 : w_x0 = ad x0) (t_x0 : kt (20 + 5) x0) (w_x1 : Int32) (x1 : Int) (e_x1 : w_x1 = Int32.ofInt x1) (r_x1 : rI x1) (w_x2 : Int32) (x2 : Int) (e_x2 : w_x2 = Int32.ofInt x2) (r_x2 : rI x2) (S : St) (M : Hp), US ad S M → vPl_countFuelRows_4 Q n x0 x1 x2 S → wPl_countFuelRows_4 post n w_x0 w_x1 w_x2 M := by
  intro n
  induction n with
  | zero => intro w_x0 x0 e_x0 t_x0 w_x1 x1 e_x1 r_x1 w_x2 x2 e_x2 r_x2 S M h hv; exact hv.elim
  | succ n ih =>
    intro w_x0 x0 e_x0 t_x0 w_x1 x1 e_x1 r_x1 w_x2 x2 e_x2 r_x2 S M h hv
    subst e_x0
    subst e_x1
    subst e_x2
    unfold vPl_countFuelRows_4 at hv
    unfold wPl_countFuelRows_4
    refine g_fA h t_x0 rfl (rv_5_1 t_x0) ?_
    refine g_aL h (kt_5_1 t_x0) (by decide) (al_5_1 t_x0) ?_
    obtain ⟨c1, hv⟩ := hv
    refine ek_if (c_le (nL (by decide)) (show _ = Int32.ofInt x2 from rfl) c1 r_x2) (fun g2 => ?_) (fun g2 => ?_)
    · replace hv := hv.1 g2
      refine ek_v (P := fun y => post y _) (show _ = Int32.ofInt x1 from rfl) ?_
      exact hp _ _ _ h r_x1 hv
    · replace hv := hv.2 g2
      refine ⟨g_ob h t_x0, ?_⟩
      refine apPl_beginsFuelRow (fun r3 S4 N5 h6 r7 hv => ?_) rfl t_x0 (show _ = Int32.ofInt x2 from rfl) r_x2 h hv
      refine ek_if (c_eq (show _ = Int32.ofInt r3 from rfl) LI_0 r7 LI_0r) (fun g8 => ?_) (fun g8 => ?_)
      · replace hv := hv.1 g8
        exact aPl_countFuelRows_24 hp (fun b0 b1 b2 S9 M9 y0 y1 y2 h9 hv9 => ih _ b0 rfl y0 _ b1 rfl y1 _ b2 rfl y2 S9 M9 h9 hv9) rfl t_x0 (show _ = Int32.ofInt x1 from rfl) r_x1 (show _ = Int32.ofInt x2 from rfl) r_x2 h6 hv
      · replace hv := hv.2 g8
        obtain ⟨c9, hv⟩ := hv
        refine nm_z (h_add (show _ = Int32.ofInt x1 from rfl) LI_1) (fun z14 e10 => ?_)
        have r11 : rI z14 := by rw [e10]; exact c9
        replace hv := hv z14 e10
        exact aPl_countFuelRows_24 hp (fun b0 b1 b2 S9 M9 y0 y1 y2 h9 hv9 => ih _ b0 rfl y0 _ b1 rfl y1 _ b2 rfl y2 S9 M9 h9 hv9) rfl t_x0 (show _ = Int32.ofInt z14 from rfl) r11 (show _ = Int32.ofInt x2 from rfl) r_x2 h6 hv
def vpPl_countFuelRows (self : Int) (S : St) (Q : Int → St → Prop) : Prop := (∃ n15 : Nat, (vPl_countFuelRows_4 Q n15 self 0 0 S))
theorem apPl_countFuelRows {ad : Int → Nat} {Q : Int → St → Prop} {post : Int32 → Hp → Prop} (hp : ∀ (r : Int) (S : St) (M : Hp), US ad S M → rI r → Q r S → post (Int32.ofInt r) M) {w_self : Nat} {self : Int} (e_self : w_self = ad self) (t_self : kt (20 + 5) self) {S : St} {M : Hp} (h : US ad S M) (hv : vpPl_countFuelRows self S Q) : wpPl_countFuelRows w_self M post := by
  subst e_self
  unfold vpPl_countFuelRows at hv
  unfold wpPl_countFuelRows
  obtain ⟨n15, hv⟩ := hv
  refine ⟨n15, ?_⟩
  exact aPl_countFuelRows_4 hp  n15 _ _ rfl t_self _ _ LI_0 LI_0r _ _ LI_0 LI_0r _ _ h hv
def vPl_fuelRowBegin_31 (Q : Int → St → Prop) (K4 : Int → Int → Int → Int → St → Prop) (x0 : Int) (x1 : Int) (x2 : Int) (x3 : Int) (S : St) : Prop := ((rI (x3 + 1)) ∧ ∀ z1 : Int, z1 = (x3 + 1) → (K4 x0 x1 x2 z1 S))
theorem aPl_fuelRowBegin_31 {ad : Int → Nat} {Q : Int → St → Prop} {K4 : Int → Int → Int → Int → St → Prop} {post : Int32 → Hp → Prop} {k4 : Nat → Int32 → Int32 → Int32 → Hp → Prop} (hp : ∀ (r : Int) (S : St) (M : Hp), US ad S M → rI r → Q r S → post (Int32.ofInt r) M) (hk4 : ∀ (b0 b1 b2 b3 : Int) (S : St) (M : Hp), kt (20 + 5) b0 → rI b1 → rI b2 → rI b3 → US ad S M → K4 b0 b1 b2 b3 S → k4 (ad b0) (Int32.ofInt b1) (Int32.ofInt b2) (Int32.ofInt b3) M) {w_x0 : Nat} {x0 : Int} (e_x0 : w_x0 = ad x0) (t_x0 : kt (20 + 5) x0) {w_x1 : Int32} {x1 : Int} (e_x1 : w_x1 = Int32.ofInt x1) (r_x1 : rI x1) {w_x2 : Int32} {x2 : Int} (e_x2 : w_x2 = Int32.ofInt x2) (r_x2 : rI x2) {w_x3 : Int32} {x3 : Int} (e_x3 : w_x3 = Int32.ofInt x3) (r_x3 : rI x3) {S : St} {M : Hp} (h : US ad S M) (hv : vPl_fuelRowBegin_31 Q K4 x0 x1 x2 x3 S) : wPl_fuelRowBegin_31 post k4 w_x0 w_x1 w_x2 w_x3 M := by
  subst e_x0
  subst e_x1
  subst e_x2
  subst e_x3
  unfold vPl_fuelRowBegin_31 at hv
  unfold wPl_fuelRowBegin_31
  obtain ⟨c1, hv⟩ := hv
  refine nm_z (h_add (show _ = Int32.ofInt x3 from rfl) LI_1) (fun z1 e2 => ?_)
  have r3 : rI z1 := by rw [e2]; exact c1
  replace hv := hv z1 e2
  exact hk4 _ _ _ _ _ _ t_x0 r_x1 r_x2 r3 h hv
def vPl_fuelRowBegin_4 (Q : Int → St → Prop) : Nat → Int → Int → Int → Int → St → Prop
  | 0 => fun _ _ _ _ _ => False
  | n + 1 => fun x0 x1 x2 x3 S => ((rI 480) ∧ ((480 ≤ x3 → (Q 0 S)) ∧ (¬ 480 ≤ x3 → (vpPl_beginsFuelRow x0 x3 S (fun (r3 : Int) (S4 : St) => (((r3 = 0 → (vPl_fuelRowBegin_31 Q (vPl_fuelRowBegin_4 Q n) x0 x1 x2 x3 S4)) ∧ (¬ r3 = 0 → (((x2 = x1 → (Q x3 S4)) ∧ (¬ x2 = x1 → ((rI (x2 + 1)) ∧ ∀ z15 : Int, z15 = (x2 + 1) → (vPl_fuelRowBegin_31 Q (vPl_fuelRowBegin_4 Q n) x0 x1 z15 x3 S4)))))))))))))
theorem aPl_fuelRowBegin_4 {ad : Int → Nat} {Q : Int → St → Prop} {post : Int32 → Hp → Prop} (hp : ∀ (r : Int) (S : St) (M : Hp), US ad S M → rI r → Q r S → post (Int32.ofInt r) M) : ∀ (n : Nat) (w_x0 : Nat) (x0 : Int) (e_x0 : w_x0 = ad x0) (t_x0 : kt (20 + 5) x0) (w_x1 : Int32) (x1 : Int) (e_x1 : w_x1 = Int32.ofInt x1) (r_x1 : rI x1) (w_x2 : Int32) (x2 : Int) (e_x2 : w_x2 = Int32.ofInt x2) (r_x2 : rI x2) (w_x3 : Int32) (x3 : Int) (e_x3 : w_x3 = Int32.ofInt x3) (r_x3 : rI x3) (S : St) (M : Hp), US ad S M → vPl_fuelRowBegin_4 Q n x0 x1 x2 x3 S → wPl_fuelRowBegin_4 post n w_x0 w_x1 w_x2 w_x3 M := by
  intro n
  induction n with
  | zero => intro w_x0 x0 e_x0 t_x0 w_x1 x1 e_x1 r_x1 w_x2 x2 e_x2 r_x2 w_x3 x3 e_x3 r_x3 S M h hv; exact hv.elim
  | succ n ih =>
    intro w_x0 x0 e_x0 t_x0 w_x1 x1 e_x1 r_x1 w_x2 x2 e_x2 r_x2 w_x3 x3 e_x3 r_x3 S M h hv
    subst e_x0
    subst e_x1
    subst e_x2
    subst e_x3
    unfold vPl_fuelRowBegin_4 at hv
    unfold wPl_fuelRowBegin_4
    refine g_fA h t_x0 rfl (rv_5_1 t_x0) ?_
    refine g_aL h (kt_5_1 t_x0) (by decide) (al_5_1 t_x0) ?_
    obtain ⟨c1, hv⟩ := hv
    refine ek_if (c_le (nL (by decide)) (show _ = Int32.ofInt x3 from rfl) c1 r_x3) (fun g2 => ?_) (fun g2 => ?_)
    · replace hv := hv.1 g2
      refine ek_v (P := fun y => post y _) LI_0 ?_
      exact hp _ _ _ h LI_0r hv
    · replace hv := hv.2 g2
      refine ⟨g_ob h t_x0, ?_⟩
      refine apPl_beginsFuelRow (fun r3 S4 N5 h6 r7 hv => ?_) rfl t_x0 (show _ = Int32.ofInt x3 from rfl) r_x3 h hv
      refine ek_if (c_eq (show _ = Int32.ofInt r3 from rfl) LI_0 r7 LI_0r) (fun g8 => ?_) (fun g8 => ?_)
      · replace hv := hv.1 g8
        exact aPl_fuelRowBegin_31 hp (fun b0 b1 b2 b3 S9 M9 y0 y1 y2 y3 h9 hv9 => ih _ b0 rfl y0 _ b1 rfl y1 _ b2 rfl y2 _ b3 rfl y3 S9 M9 h9 hv9) rfl t_x0 (show _ = Int32.ofInt x1 from rfl) r_x1 (show _ = Int32.ofInt x2 from rfl) r_x2 (show _ = Int32.ofInt x3 from rfl) r_x3 h6 hv
      · replace hv := hv.2 g8
        refine ek_if (c_eq (show _ = Int32.ofInt x2 from rfl) (show _ = Int32.ofInt x1 from rfl) r_x2 r_x1) (fun g9 => ?_) (fun g9 => ?_)
        · replace hv := hv.1 g9
          refine ek_v (P := fun y => post y _) (show _ = Int32.ofInt x3 from rfl) ?_
          exact hp _ _ _ h6 r_x3 hv
        · replace hv := hv.2 g9
          obtain ⟨c10, hv⟩ := hv
          refine nm_z (h_add (show _ = Int32.ofInt x2 from rfl) LI_1) (fun z15 e11 => ?_)
          have r12 : rI z15 := by rw [e11]; exact c10
          replace hv := hv z15 e11
          exact aPl_fuelRowBegin_31 hp (fun b0 b1 b2 b3 S9 M9 y0 y1 y2 y3 h9 hv9 => ih _ b0 rfl y0 _ b1 rfl y1 _ b2 rfl y2 _ b3 rfl y3 S9 M9 h9 hv9) rfl t_x0 (show _ = Int32.ofInt x1 from rfl) r_x1 (show _ = Int32.ofInt z15 from rfl) r12 (show _ = Int32.ofInt x3 from rfl) r_x3 h6 hv
def vpPl_fuelRowBegin (self : Int) (p0 : Int) (S : St) (Q : Int → St → Prop) : Prop := (∃ n16 : Nat, (vPl_fuelRowBegin_4 Q n16 self p0 0 0 S))
theorem apPl_fuelRowBegin {ad : Int → Nat} {Q : Int → St → Prop} {post : Int32 → Hp → Prop} (hp : ∀ (r : Int) (S : St) (M : Hp), US ad S M → rI r → Q r S → post (Int32.ofInt r) M) {w_self : Nat} {self : Int} (e_self : w_self = ad self) (t_self : kt (20 + 5) self) {w_p0 : Int32} {p0 : Int} (e_p0 : w_p0 = Int32.ofInt p0) (r_p0 : rI p0) {S : St} {M : Hp} (h : US ad S M) (hv : vpPl_fuelRowBegin self p0 S Q) : wpPl_fuelRowBegin w_self w_p0 M post := by
  subst e_self
  subst e_p0
  unfold vpPl_fuelRowBegin at hv
  unfold wpPl_fuelRowBegin
  obtain ⟨n16, hv⟩ := hv
  refine ⟨n16, ?_⟩
  exact aPl_fuelRowBegin_4 hp  n16 _ _ rfl t_self _ _ (show _ = Int32.ofInt p0 from rfl) r_p0 _ _ LI_0 LI_0r _ _ LI_0 LI_0r _ _ h hv
def vPl_fuelRowSteps_35 (Q : Int → St → Prop) (x1 : Int) (x2 : Int) (S : St) : Prop := ((rI (x2 - x1)) ∧ Q (x2 - x1) S)
theorem aPl_fuelRowSteps_35 {ad : Int → Nat} {Q : Int → St → Prop} {post : Int32 → Hp → Prop} (hp : ∀ (r : Int) (S : St) (M : Hp), US ad S M → rI r → Q r S → post (Int32.ofInt r) M) {w_x1 : Int32} {x1 : Int} (e_x1 : w_x1 = Int32.ofInt x1) (r_x1 : rI x1) {w_x2 : Int32} {x2 : Int} (e_x2 : w_x2 = Int32.ofInt x2) (r_x2 : rI x2) {S : St} {M : Hp} (h : US ad S M) (hv : vPl_fuelRowSteps_35 Q x1 x2 S) : wPl_fuelRowSteps_35 post w_x1 w_x2 M := by
  subst e_x1
  subst e_x2
  unfold vPl_fuelRowSteps_35 at hv
  unfold wPl_fuelRowSteps_35
  obtain ⟨c1, hv⟩ := hv
  refine ek_v (P := fun y => post y _) (h_sub (show _ = Int32.ofInt x2 from rfl) (show _ = Int32.ofInt x1 from rfl)) ?_
  exact hp _ _ _ h c1 hv
def vPl_fuelRowSteps_4 (Q : Int → St → Prop) : Nat → Int → Int → Int → St → Prop
  | 0 => fun _ _ _ _ => False
  | n + 1 => fun x0 x1 x2 S => ((rI 480) ∧ ((480 ≤ x2 → (vPl_fuelRowSteps_35 Q x1 x2 S)) ∧ (¬ 480 ≤ x2 → (((0 : Int) ≤ x2 ∧ (x2 : Int) < 2147483648) ∧ ((0 : Int) < 80 ∧ (80 : Int) < 2147483648) ∧ (rI (x2 % 80)) ∧ (((x2 % 80) = 0 → (vPl_fuelRowSteps_35 Q x1 x2 S)) ∧ (¬ (x2 % 80) = 0 → (((0 : Int) ≤ x2 ∧ (x2 : Int) < 480) ∧ ((((S (x0 + 2) x2) = 0 → (vPl_fuelRowSteps_35 Q x1 x2 S)) ∧ (¬ (S (x0 + 2) x2) = 0 → ((rI (x2 + 1)) ∧ ∀ z20 : Int, z20 = (x2 + 1) → (vPl_fuelRowSteps_4 Q n x0 x1 z20 S))))))))))))
theorem aPl_fuelRowSteps_4 {ad : Int → Nat} {Q : Int → St → Prop} {post : Int32 → Hp → Prop} (hp : ∀ (r : Int) (S : St) (M : Hp), US ad S M → rI r → Q r S → post (Int32.ofInt r) M) : ∀ (n : Nat) (w_x0 : Nat) (x0 : Int) (e_x0 : w_x0 = ad x0) (t_x0 : kt (20 + 5) x0) (w_x1 : Int32) (x1 : Int) (e_x1 : w_x1 = Int32.ofInt x1) (r_x1 : rI x1) (w_x2 : Int32) (x2 : Int) (e_x2 : w_x2 = Int32.ofInt x2) (r_x2 : rI x2) (S : St) (M : Hp), US ad S M → vPl_fuelRowSteps_4 Q n x0 x1 x2 S → wPl_fuelRowSteps_4 post n w_x0 w_x1 w_x2 M := by
  intro n
  induction n with
  | zero => intro w_x0 x0 e_x0 t_x0 w_x1 x1 e_x1 r_x1 w_x2 x2 e_x2 r_x2 S M h hv; exact hv.elim
  | succ n ih =>
    intro w_x0 x0 e_x0 t_x0 w_x1 x1 e_x1 r_x1 w_x2 x2 e_x2 r_x2 S M h hv
    subst e_x0
    subst e_x1
    subst e_x2
    unfold vPl_fuelRowSteps_4 at hv
    unfold wPl_fuelRowSteps_4
    refine g_fA h t_x0 rfl (rv_5_1 t_x0) ?_
    refine g_aL h (kt_5_1 t_x0) (by decide) (al_5_1 t_x0) ?_
    obtain ⟨c1, hv⟩ := hv
    refine ek_if (c_le (nL (by decide)) (show _ = Int32.ofInt x2 from rfl) c1 r_x2) (fun g2 => ?_) (fun g2 => ?_)
    · replace hv := hv.1 g2
      exact aPl_fuelRowSteps_35 hp  (show _ = Int32.ofInt x1 from rfl) r_x1 (show _ = Int32.ofInt x2 from rfl) r_x2 h hv
    · replace hv := hv.2 g2
      obtain ⟨c3, c4, c5, hv⟩ := hv
      refine ek_if (c_eq (h_rem (show _ = Int32.ofInt x2 from rfl) LI_80 c3 c4) LI_0 c5 LI_0r) (fun g6 => ?_) (fun g6 => ?_)
      · replace hv := hv.1 g6
        exact aPl_fuelRowSteps_35 hp  (show _ = Int32.ofInt x1 from rfl) r_x1 (show _ = Int32.ofInt x2 from rfl) r_x2 h hv
      · replace hv := hv.2 g6
        refine g_fA h t_x0 rfl (rv_5_1 t_x0) ?_
        obtain ⟨c7, hv⟩ := hv
        refine g_aZ h (kt_5_1 t_x0) (al_5_1 t_x0) (show _ = Int32.ofInt x2 from rfl) c7 ?_
        refine ek_if (c_eq (show _ = Int32.ofInt (S (x0 + 2) x2) from rfl) LI_0 (g_rI h (kt_5_1 t_x0) (by decide)) LI_0r) (fun g8 => ?_) (fun g8 => ?_)
        · replace hv := hv.1 g8
          exact aPl_fuelRowSteps_35 hp  (show _ = Int32.ofInt x1 from rfl) r_x1 (show _ = Int32.ofInt x2 from rfl) r_x2 h hv
        · replace hv := hv.2 g8
          obtain ⟨c9, hv⟩ := hv
          refine nm_z (h_add (show _ = Int32.ofInt x2 from rfl) LI_1) (fun z20 e10 => ?_)
          have r11 : rI z20 := by rw [e10]; exact c9
          replace hv := hv z20 e10
          exact ih _ _ rfl t_x0 _ _ (show _ = Int32.ofInt x1 from rfl) r_x1 _ _ (show _ = Int32.ofInt z20 from rfl) r11 _ _ h hv
def vpPl_fuelRowSteps (self : Int) (p0 : Int) (S : St) (Q : Int → St → Prop) : Prop := ((rI (p0 + 1)) ∧ ∀ z21 : Int, z21 = (p0 + 1) → (∃ n22 : Nat, (vPl_fuelRowSteps_4 Q n22 self p0 z21 S)))
theorem apPl_fuelRowSteps {ad : Int → Nat} {Q : Int → St → Prop} {post : Int32 → Hp → Prop} (hp : ∀ (r : Int) (S : St) (M : Hp), US ad S M → rI r → Q r S → post (Int32.ofInt r) M) {w_self : Nat} {self : Int} (e_self : w_self = ad self) (t_self : kt (20 + 5) self) {w_p0 : Int32} {p0 : Int} (e_p0 : w_p0 = Int32.ofInt p0) (r_p0 : rI p0) {S : St} {M : Hp} (h : US ad S M) (hv : vpPl_fuelRowSteps self p0 S Q) : wpPl_fuelRowSteps w_self w_p0 M post := by
  subst e_self
  subst e_p0
  unfold vpPl_fuelRowSteps at hv
  unfold wpPl_fuelRowSteps
  obtain ⟨c1, hv⟩ := hv
  refine nm_z (h_add (show _ = Int32.ofInt p0 from rfl) LI_1) (fun z21 e2 => ?_)
  have r3 : rI z21 := by rw [e2]; exact c1
  replace hv := hv z21 e2
  obtain ⟨n22, hv⟩ := hv
  refine ⟨n22, ?_⟩
  exact aPl_fuelRowSteps_4 hp  n22 _ _ rfl t_self _ _ (show _ = Int32.ofInt p0 from rfl) r_p0 _ _ (show _ = Int32.ofInt z21 from rfl) r3 _ _ h hv
def vPl_tellFuel_32 (Q : Int → St → Prop) (y0 : Int) (S : St) : Prop := (Q y0 S)
theorem aPl_tellFuel_32 {ad : Int → Nat} {Q : Int → St → Prop} {post : Int32 → Hp → Prop} (hp : ∀ (r : Int) (S : St) (M : Hp), US ad S M → rI r → Q r S → post (Int32.ofInt r) M) {w_y0 : Int32} {y0 : Int} (e_y0 : w_y0 = Int32.ofInt y0) (r_y0 : rI y0) {S : St} {M : Hp} (h : US ad S M) (hv : vPl_tellFuel_32 Q y0 S) : wPl_tellFuel_32 post w_y0 M := by
  subst e_y0
  unfold vPl_tellFuel_32 at hv
  unfold wPl_tellFuel_32
  refine ek_v (P := fun y => post y _) (show _ = Int32.ofInt y0 from rfl) ?_
  exact hp _ _ _ h r_y0 hv
def vpPl_tellFuel (self : Int) (p0 : Int) (p1 : Int) (S : St) (Q : Int → St → Prop) : Prop := (vpPl_fuelRowBegin self p0 S (fun (r1 : Int) (S2 : St) => (((p1 = 0 → (((0 : Int) ≤ r1 ∧ (r1 : Int) < 2147483648) ∧ ((0 : Int) < 80 ∧ (80 : Int) < 2147483648) ∧ (rI (r1 / 80)) ∧ Q (r1 / 80) S2)) ∧ (¬ p1 = 0 → (((p1 = 1 → (((0 : Int) ≤ r1 ∧ (r1 : Int) < 2147483648) ∧ ((0 : Int) < 80 ∧ (80 : Int) < 2147483648) ∧ (rI (r1 % 80)) ∧ vPl_tellFuel_32 Q (r1 % 80) S2)) ∧ (¬ p1 = 1 → (vpPl_fuelRowSteps self r1 S2 (fun (r14 : Int) (S15 : St) => (vPl_tellFuel_32 Q r14 S15)))))))))))
theorem apPl_tellFuel {ad : Int → Nat} {Q : Int → St → Prop} {post : Int32 → Hp → Prop} (hp : ∀ (r : Int) (S : St) (M : Hp), US ad S M → rI r → Q r S → post (Int32.ofInt r) M) {w_self : Nat} {self : Int} (e_self : w_self = ad self) (t_self : kt (20 + 5) self) {w_p0 : Int32} {p0 : Int} (e_p0 : w_p0 = Int32.ofInt p0) (r_p0 : rI p0) {w_p1 : Int32} {p1 : Int} (e_p1 : w_p1 = Int32.ofInt p1) (r_p1 : rI p1) {S : St} {M : Hp} (h : US ad S M) (hv : vpPl_tellFuel self p0 p1 S Q) : wpPl_tellFuel w_self w_p0 w_p1 M post := by
  subst e_self
  subst e_p0
  subst e_p1
  unfold vpPl_tellFuel at hv
  unfold wpPl_tellFuel
  refine ⟨g_ob h t_self, ?_⟩
  refine apPl_fuelRowBegin (fun r1 S2 N3 h4 r5 hv => ?_) rfl t_self (show _ = Int32.ofInt p0 from rfl) r_p0 h hv
  refine ek_if (c_eq (show _ = Int32.ofInt p1 from rfl) LI_0 r_p1 LI_0r) (fun g6 => ?_) (fun g6 => ?_)
  · replace hv := hv.1 g6
    obtain ⟨c7, c8, c9, hv⟩ := hv
    refine ek_v (P := fun y => post y _) (h_div (show _ = Int32.ofInt r1 from rfl) LI_80 c7 c8) ?_
    exact hp _ _ _ h4 c9 hv
  · replace hv := hv.2 g6
    refine ek_if (c_eq (show _ = Int32.ofInt p1 from rfl) LI_1 r_p1 LI_1r) (fun g10 => ?_) (fun g10 => ?_)
    · replace hv := hv.1 g10
      obtain ⟨c11, c12, c13, hv⟩ := hv
      exact aPl_tellFuel_32 hp  (h_rem (show _ = Int32.ofInt r1 from rfl) LI_80 c11 c12) c13 h4 hv
    · replace hv := hv.2 g10
      refine ⟨g_ob h4 t_self, ?_⟩
      refine apPl_fuelRowSteps (fun r14 S15 N16 h17 r18 hv => ?_) rfl t_self (show _ = Int32.ofInt r1 from rfl) r5 h4 hv
      exact aPl_tellFuel_32 hp  (show _ = Int32.ofInt r14 from rfl) r18 h17 hv
def vBT_fuel_40 (Q : Int → St → Prop) (QX : String → St → Prop) (y0 : Int) (S : St) : Prop := (Q y0 S)
theorem aBT_fuel_40 {ad : Int → Nat} {Q : Int → St → Prop} {QX : String → St → Prop} {post : Int32 → Hp → Prop} {px : String → Hp → Prop} (hp : ∀ (r : Int) (S : St) (M : Hp), US ad S M → rI r → Q r S → post (Int32.ofInt r) M) (hx : ∀ (E : String) (S : St) (M : Hp), US ad S M → QX E S → px E M) {w_y0 : Int32} {y0 : Int} (e_y0 : w_y0 = Int32.ofInt y0) (r_y0 : rI y0) {S : St} {M : Hp} (h : US ad S M) (hv : vBT_fuel_40 Q QX y0 S) : wBT_fuel_40 post px w_y0 M := by
  subst e_y0
  unfold vBT_fuel_40 at hv
  unfold wBT_fuel_40
  refine ek_v (P := fun y => post y _) (show _ = Int32.ofInt y0 from rfl) ?_
  exact hp _ _ _ h r_y0 hv
def vpBT_fuel (self : Int) (p0 : Int) (p1 : Int) (S : St) (Q : Int → St → Prop) (QX : String → St → Prop) : Prop := (vpBT_needPlan self S (fun (S2 : St) => (vpPl_countFuelRows (S2 100 7) S2 (fun (r6 : Int) (S7 : St) => (vpBT_needRow p0 r6 S7 (fun (S12 : St) => (vpBT_needPart p1 3 S12 (fun (S17 : St) => (((p0 = (-1) → (vBT_fuel_40 Q QX r6 S17)) ∧ (¬ p0 = (-1) → (vpPl_tellFuel (S17 100 7) p0 p1 S17 (fun (r22 : Int) (S23 : St) => (vBT_fuel_40 Q QX r22 S23))))))) QX)) QX)))) QX)
theorem apBT_fuel {ad : Int → Nat} {Q : Int → St → Prop} {QX : String → St → Prop} {post : Int32 → Hp → Prop} {px : String → Hp → Prop} (hp : ∀ (r : Int) (S : St) (M : Hp), US ad S M → rI r → Q r S → post (Int32.ofInt r) M) (hx : ∀ (E : String) (S : St) (M : Hp), US ad S M → QX E S → px E M) {w_self : Nat} {self : Int} (e_self : w_self = ad self) (t_self : kt (20 + 0) self) {w_p0 : Int32} {p0 : Int} (e_p0 : w_p0 = Int32.ofInt p0) (r_p0 : rI p0) {w_p1 : Int32} {p1 : Int} (e_p1 : w_p1 = Int32.ofInt p1) (r_p1 : rI p1) {S : St} {M : Hp} (h : US ad S M) (hv : vpBT_fuel self p0 p1 S Q QX) : wpBT_fuel w_self w_p0 w_p1 M post px := by
  subst e_self
  subst e_p0
  subst e_p1
  unfold vpBT_fuel at hv
  unfold wpBT_fuel
  refine ⟨g_ob h t_self, ?_⟩
  refine apBT_needPlan (fun S2 N3 h4 hv => ?_) hx rfl t_self h hv
  refine g_fA h4 t_self rfl (rv_0_7 t_self) ?_
  refine ⟨g_ob h4 (g_k7 h4), ?_⟩
  refine apPl_countFuelRows (fun r6 S7 N8 h9 r10 hv => ?_) rfl (g_k7 h4) h4 hv
  refine apBT_needRow (fun S12 N13 h14 hv => ?_) hx (show _ = Int32.ofInt p0 from rfl) r_p0 (show _ = Int32.ofInt r6 from rfl) r10 h9 hv
  refine apBT_needPart (fun S17 N18 h19 hv => ?_) hx (show _ = Int32.ofInt p1 from rfl) r_p1 LI_3 LI_3r h14 hv
  refine ek_if (c_eq (show _ = Int32.ofInt p0 from rfl) LI_m1 r_p0 LI_m1r) (fun g21 => ?_) (fun g21 => ?_)
  · replace hv := hv.1 g21
    exact aBT_fuel_40 hp hx  (show _ = Int32.ofInt r6 from rfl) r10 h19 hv
  · replace hv := hv.2 g21
    refine g_fA h19 t_self rfl (rv_0_7 t_self) ?_
    refine ⟨g_ob h19 (g_k7 h19), ?_⟩
    refine apPl_tellFuel (fun r22 S23 N24 h25 r26 hv => ?_) rfl (g_k7 h19) (show _ = Int32.ofInt p0 from rfl) r_p0 (show _ = Int32.ofInt p1 from rfl) r_p1 h19 hv
    exact aBT_fuel_40 hp hx  (show _ = Int32.ofInt r22 from rfl) r26 h25 hv
def vpBT_bound (self : Int) (S : St) (Q : Int → St → Prop) (QX : String → St → Prop) : Prop := (vpBT_needPlan self S (fun (S2 : St) => (Q (S2 self 11) S2)) QX)
theorem apBT_bound {ad : Int → Nat} {Q : Int → St → Prop} {QX : String → St → Prop} {post : Int64 → Hp → Prop} {px : String → Hp → Prop} (hp : ∀ (r : Int) (S : St) (M : Hp), US ad S M → rJ r → Q r S → post (Int64.ofInt r) M) (hx : ∀ (E : String) (S : St) (M : Hp), US ad S M → QX E S → px E M) {w_self : Nat} {self : Int} (e_self : w_self = ad self) (t_self : kt (20 + 0) self) {S : St} {M : Hp} (h : US ad S M) (hv : vpBT_bound self S Q QX) : wpBT_bound w_self M post px := by
  subst e_self
  unfold vpBT_bound at hv
  unfold wpBT_bound
  refine ⟨g_ob h t_self, ?_⟩
  refine apBT_needPlan (fun S2 N3 h4 hv => ?_) hx rfl t_self h hv
  refine g_fJ h4 t_self rfl rfl ?_
  refine ek_v (P := fun y => post y _) (show _ = Int64.ofInt (S2 self 11) from rfl) ?_
  exact hp _ _ _ h4 (g_rF (j := 11) h4 t_self rfl rfl) hv
def vBT_price_62 (Q : Int → St → Prop) (QX : String → St → Prop) (y0 : Int) (S : St) : Prop := (Q y0 S)
theorem aBT_price_62 {ad : Int → Nat} {Q : Int → St → Prop} {QX : String → St → Prop} {post : Int64 → Hp → Prop} {px : String → Hp → Prop} (hp : ∀ (r : Int) (S : St) (M : Hp), US ad S M → rJ r → Q r S → post (Int64.ofInt r) M) (hx : ∀ (E : String) (S : St) (M : Hp), US ad S M → QX E S → px E M) {w_y0 : Int64} {y0 : Int} (e_y0 : w_y0 = Int64.ofInt y0) (r_y0 : rJ y0) {S : St} {M : Hp} (h : US ad S M) (hv : vBT_price_62 Q QX y0 S) : wBT_price_62 post px w_y0 M := by
  subst e_y0
  unfold vBT_price_62 at hv
  unfold wBT_price_62
  refine ek_v (P := fun y => post y _) (show _ = Int64.ofInt y0 from rfl) ?_
  exact hp _ _ _ h r_y0 hv
def vpBT_price (self : Int) (p0 : Int) (p1 : Int) (S : St) (Q : Int → St → Prop) (QX : String → St → Prop) : Prop := (vpBT_needPlan self S (fun (S2 : St) => (vpBT_productAt self p0 S2 (fun (r6 : Int) (S7 : St) => (vpBT_isOutside p1 2 S7 (fun (r11 : Int) (S12 : St) => (((r11 = 0 → (((p1 = 0 → (Q (S12 r6 9) S12)) ∧ (¬ p1 = 0 → (((p1 = 1 → (((0 : Int) ≤ p0 ∧ (p0 : Int) < 8) ∧ (vBT_price_62 Q QX (S12 ((S12 100 7) + 3) p0) S12))) ∧ (¬ p1 = 1 → (vBT_price_62 Q QX (S12 r6 8) S12)))))))) ∧ (¬ r11 = 0 → (QX "java/lang/IndexOutOfBoundsException" S12))))))) QX)) QX)
theorem apBT_price {ad : Int → Nat} {Q : Int → St → Prop} {QX : String → St → Prop} {post : Int64 → Hp → Prop} {px : String → Hp → Prop} (hp : ∀ (r : Int) (S : St) (M : Hp), US ad S M → rJ r → Q r S → post (Int64.ofInt r) M) (hx : ∀ (E : String) (S : St) (M : Hp), US ad S M → QX E S → px E M) {w_self : Nat} {self : Int} (e_self : w_self = ad self) (t_self : kt (20 + 0) self) {w_p0 : Int32} {p0 : Int} (e_p0 : w_p0 = Int32.ofInt p0) (r_p0 : rI p0) {w_p1 : Int32} {p1 : Int} (e_p1 : w_p1 = Int32.ofInt p1) (r_p1 : rI p1) {S : St} {M : Hp} (h : US ad S M) (hv : vpBT_price self p0 p1 S Q QX) : wpBT_price w_self w_p0 w_p1 M post px := by
  subst e_self
  subst e_p0
  subst e_p1
  unfold vpBT_price at hv
  unfold wpBT_price
  refine ⟨g_ob h t_self, ?_⟩
  refine apBT_needPlan (fun S2 N3 h4 hv => ?_) hx rfl t_self h hv
  refine ⟨g_ob h4 t_self, ?_⟩
  refine apBT_productAt (fun r6 S7 N8 h9 r10 hv => ?_) hx rfl t_self (show _ = Int32.ofInt p0 from rfl) r_p0 h4 hv
  refine apBT_isOutside (fun r11 S12 N13 h14 r15 hv => ?_) (h_toL (show _ = Int32.ofInt p1 from rfl) r_p1) (rI_J r_p1) LJ_2 LJ_2r h9 hv
  refine ek_if (c_eq (show _ = Int32.ofInt r11 from rfl) LI_0 r15 LI_0r) (fun g16 => ?_) (fun g16 => ?_)
  · replace hv := hv.1 g16
    refine ek_if (c_eq (show _ = Int32.ofInt p1 from rfl) LI_0 r_p1 LI_0r) (fun g17 => ?_) (fun g17 => ?_)
    · replace hv := hv.1 g17
      refine g_fJ h14 r10 rfl rfl ?_
      refine ek_v (P := fun y => post y _) (show _ = Int64.ofInt (S12 r6 9) from rfl) ?_
      exact hp _ _ _ h14 (g_rF (j := 9) h14 r10 rfl rfl) hv
    · replace hv := hv.2 g17
      refine ek_if (c_eq (show _ = Int32.ofInt p1 from rfl) LI_1 r_p1 LI_1r) (fun g18 => ?_) (fun g18 => ?_)
      · replace hv := hv.1 g18
        refine g_fA h14 t_self rfl (rv_0_7 t_self) ?_
        refine g_fA h14 (g_k7 h14) rfl (rv_5_2 (g_k7 h14)) ?_
        obtain ⟨c19, hv⟩ := hv
        refine g_aI h14 (kt_5_2 (g_k7 h14)) (al_5_2 (g_k7 h14)) (show _ = Int32.ofInt p0 from rfl) c19 ?_
        exact aBT_price_62 hp hx  (h_toL (show _ = Int32.ofInt (S12 ((S12 100 7) + 3) p0) from rfl) (g_rI h14 (kt_5_2 (g_k7 h14)) (by decide))) (rI_J (g_rI h14 (kt_5_2 (g_k7 h14)) (by decide))) h14 hv
      · replace hv := hv.2 g18
        refine g_fJ h14 r10 rfl rfl ?_
        exact aBT_price_62 hp hx  (show _ = Int64.ofInt (S12 r6 8) from rfl) (g_rF (j := 8) h14 r10 rfl rfl) h14 hv
  · replace hv := hv.2 g16
    exact hx _ _ _ h14 hv
def vBT_override_53 (Q : Int → St → Prop) (QX : String → St → Prop) (x0 : Int) (x2 : Int) (S : St) : Prop := ((rJ (x2 - (S (S 100 7) 4))) ∧ (rI (x2 - (S (S 100 7) 4))) ∧ Q (x2 - (S (S 100 7) 4)) S)
theorem aBT_override_53 {ad : Int → Nat} {Q : Int → St → Prop} {QX : String → St → Prop} {post : Int32 → Hp → Prop} {px : String → Hp → Prop} (hp : ∀ (r : Int) (S : St) (M : Hp), US ad S M → rI r → Q r S → post (Int32.ofInt r) M) (hx : ∀ (E : String) (S : St) (M : Hp), US ad S M → QX E S → px E M) {w_x0 : Nat} {x0 : Int} (e_x0 : w_x0 = ad x0) (t_x0 : kt (20 + 0) x0) {w_x2 : Int64} {x2 : Int} (e_x2 : w_x2 = Int64.ofInt x2) (r_x2 : rJ x2) {S : St} {M : Hp} (h : US ad S M) (hv : vBT_override_53 Q QX x0 x2 S) : wBT_override_53 post px w_x0 w_x2 M := by
  subst e_x0
  subst e_x2
  unfold vBT_override_53 at hv
  unfold wBT_override_53
  refine g_fA h t_x0 rfl (rv_0_7 t_x0) ?_
  refine g_fJ h (g_k7 h) rfl rfl ?_
  obtain ⟨c1, c2, hv⟩ := hv
  refine ek_v (P := fun y => post y _) (H_toI (H_sub (show _ = Int64.ofInt x2 from rfl) (show _ = Int64.ofInt (S (S 100 7) 4) from rfl)) c1) ?_
  exact hp _ _ _ h c2 hv
def vpBT_override (self : Int) (p0 : Int) (S : St) (Q : Int → St → Prop) (QX : String → St → Prop) : Prop := (vpBT_needPlan self S (fun (S2 : St) => (vpBT_forceLatest self p0 S2 (fun (r6 : Int) (S7 : St) => (((r6 = 0 → (QX "java/lang/IllegalArgumentException" S7)) ∧ (¬ r6 = 0 → ((((S7 self 10) = 0 → (vpBT_makePlain self S7 (fun (S14 : St) => (vBT_override_53 Q QX self (S7 (S7 100 7) 4) S14)))) ∧ (¬ (S7 self 10) = 0 → (vpBT_makePriced self (S7 self 10) S7 (fun (r18 : Int) (S19 : St) => (vBT_override_53 Q QX self (S7 (S7 100 7) 4) S19)))))))))))) QX)
theorem apBT_override {ad : Int → Nat} {Q : Int → St → Prop} {QX : String → St → Prop} {post : Int32 → Hp → Prop} {px : String → Hp → Prop} (hp : ∀ (r : Int) (S : St) (M : Hp), US ad S M → rI r → Q r S → post (Int32.ofInt r) M) (hx : ∀ (E : String) (S : St) (M : Hp), US ad S M → QX E S → px E M) {w_self : Nat} {self : Int} (e_self : w_self = ad self) (t_self : kt (20 + 0) self) {w_p0 : Int32} {p0 : Int} (e_p0 : w_p0 = Int32.ofInt p0) (r_p0 : rI p0) {S : St} {M : Hp} (h : US ad S M) (hv : vpBT_override self p0 S Q QX) : wpBT_override w_self w_p0 M post px := by
  subst e_self
  subst e_p0
  unfold vpBT_override at hv
  unfold wpBT_override
  refine ⟨g_ob h t_self, ?_⟩
  refine apBT_needPlan (fun S2 N3 h4 hv => ?_) hx rfl t_self h hv
  refine ⟨g_ob h4 t_self, ?_⟩
  refine apBT_forceLatest (fun r6 S7 N8 h9 r10 hv => ?_) rfl t_self (show _ = Int32.ofInt p0 from rfl) r_p0 h4 hv
  refine ek_if (c_eq (show _ = Int32.ofInt r6 from rfl) LI_0 r10 LI_0r) (fun g11 => ?_) (fun g11 => ?_)
  · replace hv := hv.1 g11
    exact hx _ _ _ h9 hv
  · replace hv := hv.2 g11
    refine g_fA h9 t_self rfl (rv_0_7 t_self) ?_
    refine g_fJ h9 (g_k7 h9) rfl rfl ?_
    refine g_fI h9 t_self rfl rfl ?_
    refine ek_if (c_eq (show _ = Int32.ofInt (S7 self 10) from rfl) LI_0 (g_rf (j := 10) h9 t_self rfl rfl) LI_0r) (fun g12 => ?_) (fun g12 => ?_)
    · replace hv := hv.1 g12
      refine ⟨g_ob h9 t_self, ?_⟩
      refine apBT_makePlain (fun S14 N15 h16 hv => ?_) rfl t_self h9 hv
      exact aBT_override_53 hp hx  rfl t_self (show _ = Int64.ofInt (S7 (S7 100 7) 4) from rfl) (g_rF (j := 4) h9 (g_k7 h9) rfl rfl) h16 hv
    · replace hv := hv.2 g12
      refine g_fI h9 t_self rfl rfl ?_
      refine ⟨g_ob h9 t_self, ?_⟩
      refine apBT_makePriced (fun r18 S19 N20 h21 r22 hv => ?_) rfl t_self (show _ = Int32.ofInt (S7 self 10) from rfl) (g_rf (j := 10) h9 t_self rfl rfl) h9 hv
      exact aBT_override_53 hp hx  rfl t_self (show _ = Int64.ofInt (S7 (S7 100 7) 4) from rfl) (g_rF (j := 4) h9 (g_k7 h9) rfl rfl) h21 hv
def vBT_greatest_24 (Q : Int → St → Prop) (QX : String → St → Prop) (y0 : Int) (S : St) : Prop := (((y0 : Int) = 0 ∨ (y0 : Int) = 1) ∧ (Q y0 S))
theorem aBT_greatest_24 {ad : Int → Nat} {Q : Int → St → Prop} {QX : String → St → Prop} {post : Int32 → Hp → Prop} {px : String → Hp → Prop} (hp : ∀ (r : Int) (S : St) (M : Hp), US ad S M → rI r → Q r S → post (Int32.ofInt r) M) (hx : ∀ (E : String) (S : St) (M : Hp), US ad S M → QX E S → px E M) {w_y0 : Int32} {y0 : Int} (e_y0 : w_y0 = Int32.ofInt y0) (r_y0 : rI y0) {S : St} {M : Hp} (h : US ad S M) (hv : vBT_greatest_24 Q QX y0 S) : wBT_greatest_24 post px w_y0 M := by
  subst e_y0
  unfold vBT_greatest_24 at hv
  unfold wBT_greatest_24
  refine ⟨b01 (show _ = Int32.ofInt y0 from rfl) hv.1, ?_⟩
  replace hv := hv.2
  refine ek_v (P := fun y => post y _) (show _ = Int32.ofInt y0 from rfl) ?_
  exact hp _ _ _ h r_y0 hv
def vpBT_greatest (self : Int) (S : St) (Q : Int → St → Prop) (QX : String → St → Prop) : Prop := (vpBT_needPlan self S (fun (S2 : St) => ((((S2 (S2 100 7) 4) = (S2 self 11) → (vBT_greatest_24 Q QX 1 S2)) ∧ (¬ (S2 (S2 100 7) 4) = (S2 self 11) → (vBT_greatest_24 Q QX 0 S2))))) QX)
theorem apBT_greatest {ad : Int → Nat} {Q : Int → St → Prop} {QX : String → St → Prop} {post : Int32 → Hp → Prop} {px : String → Hp → Prop} (hp : ∀ (r : Int) (S : St) (M : Hp), US ad S M → rI r → Q r S → post (Int32.ofInt r) M) (hx : ∀ (E : String) (S : St) (M : Hp), US ad S M → QX E S → px E M) {w_self : Nat} {self : Int} (e_self : w_self = ad self) (t_self : kt (20 + 0) self) {S : St} {M : Hp} (h : US ad S M) (hv : vpBT_greatest self S Q QX) : wpBT_greatest w_self M post px := by
  subst e_self
  unfold vpBT_greatest at hv
  unfold wpBT_greatest
  refine ⟨g_ob h t_self, ?_⟩
  refine apBT_needPlan (fun S2 N3 h4 hv => ?_) hx rfl t_self h hv
  refine g_fA h4 t_self rfl (rv_0_7 t_self) ?_
  refine g_fJ h4 (g_k7 h4) rfl rfl ?_
  refine g_fJ h4 t_self rfl rfl ?_
  refine ek_if (C_eq (show _ = Int64.ofInt (S2 (S2 100 7) 4) from rfl) (show _ = Int64.ofInt (S2 self 11) from rfl) (g_rF (j := 4) h4 (g_k7 h4) rfl rfl) (g_rF (j := 11) h4 t_self rfl rfl)) (fun g6 => ?_) (fun g6 => ?_)
  · replace hv := hv.1 g6
    exact aBT_greatest_24 hp hx  LI_1 LI_1r h4 hv
  · replace hv := hv.2 g6
    exact aBT_greatest_24 hp hx  LI_0 LI_0r h4 hv
def vpMo_thrown (self : Int) (S : St) (Q : Int → St → Prop) : Prop := (Q (S self 0) S)
theorem apMo_thrown {ad : Int → Nat} {Q : Int → St → Prop} {post : Int32 → Hp → Prop} (hp : ∀ (r : Int) (S : St) (M : Hp), US ad S M → rI r → Q r S → post (Int32.ofInt r) M) {w_self : Nat} {self : Int} (e_self : w_self = ad self) (t_self : kt (20 + 6) self) {S : St} {M : Hp} (h : US ad S M) (hv : vpMo_thrown self S Q) : wpMo_thrown w_self M post := by
  subst e_self
  unfold vpMo_thrown at hv
  unfold wpMo_thrown
  refine g_fI h t_self rfl rfl ?_
  refine ek_v (P := fun y => post y _) (show _ = Int32.ofInt (S self 0) from rfl) ?_
  exact hp _ _ _ h (g_rf (j := 0) h t_self rfl rfl) hv
def vMo_isIn_18 (Q : Int → St → Prop) (y0 : Int) (S : St) : Prop := (((y0 : Int) = 0 ∨ (y0 : Int) = 1) ∧ (Q y0 S))
theorem aMo_isIn_18 {ad : Int → Nat} {Q : Int → St → Prop} {post : Int32 → Hp → Prop} (hp : ∀ (r : Int) (S : St) (M : Hp), US ad S M → rI r → Q r S → post (Int32.ofInt r) M) {w_y0 : Int32} {y0 : Int} (e_y0 : w_y0 = Int32.ofInt y0) (r_y0 : rI y0) {S : St} {M : Hp} (h : US ad S M) (hv : vMo_isIn_18 Q y0 S) : wMo_isIn_18 post w_y0 M := by
  subst e_y0
  unfold vMo_isIn_18 at hv
  unfold wMo_isIn_18
  refine ⟨b01 (show _ = Int32.ofInt y0 from rfl) hv.1, ?_⟩
  replace hv := hv.2
  refine ek_v (P := fun y => post y _) (show _ = Int32.ofInt y0 from rfl) ?_
  exact hp _ _ _ h r_y0 hv
def vMo_isIn_17 (Q : Int → St → Prop) (S : St) : Prop := (vMo_isIn_18 Q 0 S)
theorem aMo_isIn_17 {ad : Int → Nat} {Q : Int → St → Prop} {post : Int32 → Hp → Prop} (hp : ∀ (r : Int) (S : St) (M : Hp), US ad S M → rI r → Q r S → post (Int32.ofInt r) M)  {S : St} {M : Hp} (h : US ad S M) (hv : vMo_isIn_17 Q  S) : wMo_isIn_17 post  M := by
  unfold vMo_isIn_17 at hv
  unfold wMo_isIn_17
  exact aMo_isIn_18 hp  LI_0 LI_0r h hv
def vpMo_isIn (p0 : Int) (p1 : Int) (p2 : Int) (S : St) (Q : Int → St → Prop) : Prop := (((p0 < p1 → (vMo_isIn_17 Q  S)) ∧ (¬ p0 < p1 → (((p2 < p0 → (vMo_isIn_17 Q  S)) ∧ (¬ p2 < p0 → (vMo_isIn_18 Q 1 S)))))))
theorem apMo_isIn {ad : Int → Nat} {Q : Int → St → Prop} {post : Int32 → Hp → Prop} (hp : ∀ (r : Int) (S : St) (M : Hp), US ad S M → rI r → Q r S → post (Int32.ofInt r) M) {w_p0 : Int64} {p0 : Int} (e_p0 : w_p0 = Int64.ofInt p0) (r_p0 : rJ p0) {w_p1 : Int64} {p1 : Int} (e_p1 : w_p1 = Int64.ofInt p1) (r_p1 : rJ p1) {w_p2 : Int64} {p2 : Int} (e_p2 : w_p2 = Int64.ofInt p2) (r_p2 : rJ p2) {S : St} {M : Hp} (h : US ad S M) (hv : vpMo_isIn p0 p1 p2 S Q) : wpMo_isIn w_p0 w_p1 w_p2 M post := by
  subst e_p0
  subst e_p1
  subst e_p2
  unfold vpMo_isIn at hv
  unfold wpMo_isIn
  refine ek_if (C_lt (show _ = Int64.ofInt p0 from rfl) (show _ = Int64.ofInt p1 from rfl) r_p0 r_p1) (fun g1 => ?_) (fun g1 => ?_)
  · replace hv := hv.1 g1
    exact aMo_isIn_17 hp   h hv
  · replace hv := hv.2 g1
    refine ek_if (C_lt (show _ = Int64.ofInt p2 from rfl) (show _ = Int64.ofInt p0 from rfl) r_p2 r_p0) (fun g2 => ?_) (fun g2 => ?_)
    · replace hv := hv.1 g2
      exact aMo_isIn_17 hp   h hv
    · replace hv := hv.2 g2
      exact aMo_isIn_18 hp  LI_1 LI_1r h hv
