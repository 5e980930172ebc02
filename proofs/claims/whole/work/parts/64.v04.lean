def vMo_told_17 (Q : Int → St → Prop) (x1 : Int) (y0 : Int) (y1 : Int) (S : St) : Prop := (((y0 : Int) = 0 ∨ (y0 : Int) = 1) ∧ (∀ S1 : St, S1 = up S y1 33 y0 → (((x1 : Int) = 0 ∨ (x1 : Int) = 1) ∧ (Q x1 S1))))
theorem aMo_told_17 {ad : Int → Nat} {Q : Int → St → Prop} {post : Int32 → Hp → Prop} (hp : ∀ (r : Int) (S : St) (M : Hp), US ad S M → rI r → Q r S → post (Int32.ofInt r) M) {w_x1 : Int32} {x1 : Int} (e_x1 : w_x1 = Int32.ofInt x1) (r_x1 : rI x1) {w_y0 : Int32} {y0 : Int} (e_y0 : w_y0 = Int32.ofInt y0) (r_y0 : rI y0) {w_y1 : Nat} {y1 : Int} (e_y1 : w_y1 = ad y1) (t_y1 : kt (20 + 6) y1) {S : St} {M : Hp} (h : US ad S M) (hv : vMo_told_17 Q x1 y0 y1 S) : wMo_told_17 post w_x1 w_y0 w_y1 M := by
  subst e_x1
  subst e_y0
  subst e_y1
  unfold vMo_told_17 at hv
  unfold wMo_told_17
  refine ⟨b01 (show _ = Int32.ofInt y0 from rfl) hv.1, ?_⟩
  replace hv := hv.2
  refine g_pI h t_y1 rfl rfl (show _ = Int32.ofInt y0 from rfl) r_y0 (fun S1 N2 e4 h3 => ?_)
  replace hv := hv S1 e4
  refine ⟨b01 (show _ = Int32.ofInt x1 from rfl) hv.1, ?_⟩
  replace hv := hv.2
  refine ek_v (P := fun y => post y _) (show _ = Int32.ofInt x1 from rfl) ?_
  exact hp _ _ _ h3 r_x1 hv
def vMo_told_16 (Q : Int → St → Prop) (x1 : Int) (y0 : Int) (S : St) : Prop := (vMo_told_17 Q x1 0 y0 S)
theorem aMo_told_16 {ad : Int → Nat} {Q : Int → St → Prop} {post : Int32 → Hp → Prop} (hp : ∀ (r : Int) (S : St) (M : Hp), US ad S M → rI r → Q r S → post (Int32.ofInt r) M) {w_x1 : Int32} {x1 : Int} (e_x1 : w_x1 = Int32.ofInt x1) (r_x1 : rI x1) {w_y0 : Nat} {y0 : Int} (e_y0 : w_y0 = ad y0) (t_y0 : kt (20 + 6) y0) {S : St} {M : Hp} (h : US ad S M) (hv : vMo_told_16 Q x1 y0 S) : wMo_told_16 post w_x1 w_y0 M := by
  subst e_x1
  subst e_y0
  unfold vMo_told_16 at hv
  unfold wMo_told_16
  exact aMo_told_17 hp  (show _ = Int32.ofInt x1 from rfl) r_x1 LI_0 LI_0r rfl t_y0 h hv
def vpMo_told (self : Int) (p0 : Int) (S : St) (Q : Int → St → Prop) : Prop := ((((S self 33) = 0 → (vMo_told_16 Q p0 self S)) ∧ (¬ (S self 33) = 0 → (((p0 = 0 → (vMo_told_17 Q p0 1 self S)) ∧ (¬ p0 = 0 → (vMo_told_16 Q p0 self S)))))))
theorem apMo_told {ad : Int → Nat} {Q : Int → St → Prop} {post : Int32 → Hp → Prop} (hp : ∀ (r : Int) (S : St) (M : Hp), US ad S M → rI r → Q r S → post (Int32.ofInt r) M) {w_self : Nat} {self : Int} (e_self : w_self = ad self) (t_self : kt (20 + 6) self) {w_p0 : Int32} {p0 : Int} (e_p0 : w_p0 = Int32.ofInt p0) (r_p0 : rI p0) {S : St} {M : Hp} (h : US ad S M) (hv : vpMo_told self p0 S Q) : wpMo_told w_self w_p0 M post := by
  subst e_self
  subst e_p0
  unfold vpMo_told at hv
  unfold wpMo_told
  refine g_fI h t_self rfl rfl ?_
  refine ek_if (c_eq (show _ = Int32.ofInt (S self 33) from rfl) LI_0 (g_rf (j := 33) h t_self rfl rfl) LI_0r) (fun g1 => ?_) (fun g1 => ?_)
  · replace hv := hv.1 g1
    exact aMo_told_16 hp  (show _ = Int32.ofInt p0 from rfl) r_p0 rfl t_self h hv
  · replace hv := hv.2 g1
    refine ek_if (c_eq (show _ = Int32.ofInt p0 from rfl) LI_0 r_p0 LI_0r) (fun g2 => ?_) (fun g2 => ?_)
    · replace hv := hv.1 g2
      exact aMo_told_17 hp  (show _ = Int32.ofInt p0 from rfl) r_p0 LI_1 LI_1r rfl t_self h hv
    · replace hv := hv.2 g2
      exact aMo_told_16 hp  (show _ = Int32.ofInt p0 from rfl) r_p0 rfl t_self h hv
def vMo_stepsOf_36 (Q : Int → St → Prop) (y0 : Int) (S : St) : Prop := (Q y0 S)
theorem aMo_stepsOf_36 {ad : Int → Nat} {Q : Int → St → Prop} {post : Int32 → Hp → Prop} (hp : ∀ (r : Int) (S : St) (M : Hp), US ad S M → rI r → Q r S → post (Int32.ofInt r) M) {w_y0 : Int32} {y0 : Int} (e_y0 : w_y0 = Int32.ofInt y0) (r_y0 : rI y0) {S : St} {M : Hp} (h : US ad S M) (hv : vMo_stepsOf_36 Q y0 S) : wMo_stepsOf_36 post w_y0 M := by
  subst e_y0
  unfold vMo_stepsOf_36 at hv
  unfold wMo_stepsOf_36
  refine ek_v (P := fun y => post y _) (show _ = Int32.ofInt y0 from rfl) ?_
  exact hp _ _ _ h r_y0 hv
def vpMo_stepsOf (self : Int) (p0 : Int) (S : St) (Q : Int → St → Prop) : Prop := (((0 : Int) ≤ p0 ∧ (p0 : Int) < 6) ∧ ((((S 5 p0) = 0 → (vMo_stepsOf_36 Q 0 S)) ∧ (¬ (S 5 p0) = 0 → (((0 : Int) ≤ p0 ∧ (p0 : Int) < 6) ∧ (((0 : Int) ≤ (((60 * p0) + (S 5 p0)) - 1) ∧ ((((60 * p0) + (S 5 p0)) - 1) : Int) < 360) ∧ (¬ (S self 1) = 0 ∧ (((0 : Int) ≤ (S 6 (((60 * p0) + (S 5 p0)) - 1)) ∧ ((S 6 (((60 * p0) + (S 5 p0)) - 1)) : Int) < 2147483648) ∧ ((0 : Int) < (S self 1) ∧ ((S self 1) : Int) < 2147483648) ∧ (rI ((S 6 (((60 * p0) + (S 5 p0)) - 1)) / (S self 1))) ∧ vMo_stepsOf_36 Q ((S 6 (((60 * p0) + (S 5 p0)) - 1)) / (S self 1)) S))))))))
theorem apMo_stepsOf {ad : Int → Nat} {Q : Int → St → Prop} {post : Int32 → Hp → Prop} (hp : ∀ (r : Int) (S : St) (M : Hp), US ad S M → rI r → Q r S → post (Int32.ofInt r) M) {w_self : Nat} {self : Int} (e_self : w_self = ad self) (t_self : kt (20 + 6) self) {w_p0 : Int32} {p0 : Int} (e_p0 : w_p0 = Int32.ofInt p0) (r_p0 : rI p0) {S : St} {M : Hp} (h : US ad S M) (hv : vpMo_stepsOf self p0 S Q) : wpMo_stepsOf w_self w_p0 M post := by
  subst e_self
  subst e_p0
  unfold vpMo_stepsOf at hv
  unfold wpMo_stepsOf
  refine g_fA h t_self rfl (rv_6_5 t_self) ?_
  obtain ⟨c1, hv⟩ := hv
  refine g_aI h (show kt 1 5 by decide) (show alen 5 = 6 by decide) (show _ = Int32.ofInt p0 from rfl) c1 ?_
  refine ek_if (c_eq (show _ = Int32.ofInt (S 5 p0) from rfl) LI_0 (g_rI h (show kt 1 5 by decide) (by decide)) LI_0r) (fun g2 => ?_) (fun g2 => ?_)
  · replace hv := hv.1 g2
    exact aMo_stepsOf_36 hp  LI_0 LI_0r h hv
  · replace hv := hv.2 g2
    refine g_fA h t_self rfl (rv_6_6 t_self) ?_
    refine g_fA h t_self rfl (rv_6_5 t_self) ?_
    obtain ⟨c3, hv⟩ := hv
    refine g_aI h (show kt 1 5 by decide) (show alen 5 = 6 by decide) (show _ = Int32.ofInt p0 from rfl) c3 ?_
    obtain ⟨c4, hv⟩ := hv
    refine g_aI h (show kt 1 6 by decide) (show alen 6 = 360 by decide) (h_sub (h_add (h_mul LI_60 (show _ = Int32.ofInt p0 from rfl)) (show _ = Int32.ofInt (S 5 p0) from rfl)) LI_1) c4 ?_
    refine g_fI h t_self rfl rfl ?_
    refine ⟨fun z => hv.1 ((c_eq (show _ = Int32.ofInt (S self 1) from rfl) LI_0 (g_rf (j := 1) h t_self rfl rfl) LI_0r).mp z), ?_⟩
    replace hv := hv.2
    obtain ⟨c5, c6, c7, hv⟩ := hv
    exact aMo_stepsOf_36 hp  (h_div (show _ = Int32.ofInt (S 6 (((60 * p0) + (S 5 p0)) - 1)) from rfl) (show _ = Int32.ofInt (S self 1) from rfl) c5 c6) c7 h hv
def vMo_stem_164 (Q : Int → St → Prop) (S : St) : Prop := (Q 0 S)
theorem aMo_stem_164 {ad : Int → Nat} {Q : Int → St → Prop} {post : Int32 → Hp → Prop} (hp : ∀ (r : Int) (S : St) (M : Hp), US ad S M → rI r → Q r S → post (Int32.ofInt r) M)  {S : St} {M : Hp} (h : US ad S M) (hv : vMo_stem_164 Q  S) : wMo_stem_164 post  M := by
  unfold vMo_stem_164 at hv
  unfold wMo_stem_164
  refine ek_v (P := fun y => post y _) LI_0 ?_
  exact hp _ _ _ h LI_0r hv
def vMo_stem_146 (Q : Int → St → Prop) (x0 : Int) (x1 : Int) (x2 : Int) (x3 : Int) (x4 : Int) (x5 : Int) (y0 : Int) (S : St) : Prop := (((y0 = 0 → (vMo_stem_164 Q  S)) ∧ (¬ y0 = 0 → (¬ (S x0 1) = 0 ∧ (((0 : Int) ≤ x1 ∧ (x1 : Int) < 2147483648) ∧ ((0 : Int) < (S x0 1) ∧ ((S x0 1) : Int) < 2147483648) ∧ (rI (x1 / (S x0 1))) ∧ (((x1 / (S x0 1)) ≤ 80 → (((0 : Int) ≤ x5 ∧ (x5 : Int) < 360) ∧ ∀ S7 : St, S7 = up S 6 x5 x1 → (((0 : Int) ≤ x5 ∧ (x5 : Int) < 360) ∧ ∀ S12 : St, S12 = up S7 7 x5 x2 → (((0 : Int) ≤ x5 ∧ (x5 : Int) < 360) ∧ ∀ S17 : St, S17 = up S12 8 x5 x3 → (((0 : Int) ≤ x4 ∧ (x4 : Int) < 6) ∧ (((0 : Int) ≤ x4 ∧ (x4 : Int) < 6) ∧ (rI ((S17 5 x4) + 1)) ∧ ∀ S24 : St, S24 = up S17 5 x4 ((S17 5 x4) + 1) → (vpMo_told x0 1 S24 (fun (r28 : Int) (S29 : St) => (((r28 : Int) = 0 ∨ (r28 : Int) = 1) ∧ (Q r28 S29)))))))))) ∧ (¬ (x1 / (S x0 1)) ≤ 80 → (vMo_stem_164 Q  S))))))))
theorem aMo_stem_146 {ad : Int → Nat} {Q : Int → St → Prop} {post : Int32 → Hp → Prop} (hp : ∀ (r : Int) (S : St) (M : Hp), US ad S M → rI r → Q r S → post (Int32.ofInt r) M) {w_x0 : Nat} {x0 : Int} (e_x0 : w_x0 = ad x0) (t_x0 : kt (20 + 6) x0) {w_x1 : Int32} {x1 : Int} (e_x1 : w_x1 = Int32.ofInt x1) (r_x1 : rI x1) {w_x2 : Int32} {x2 : Int} (e_x2 : w_x2 = Int32.ofInt x2) (r_x2 : rI x2) {w_x3 : Int32} {x3 : Int} (e_x3 : w_x3 = Int32.ofInt x3) (r_x3 : rI x3) {w_x4 : Int32} {x4 : Int} (e_x4 : w_x4 = Int32.ofInt x4) (r_x4 : rI x4) {w_x5 : Int32} {x5 : Int} (e_x5 : w_x5 = Int32.ofInt x5) (r_x5 : rI x5) {w_y0 : Int32} {y0 : Int} (e_y0 : w_y0 = Int32.ofInt y0) (r_y0 : rI y0) {S : St} {M : Hp} (h : US ad S M) (hv : vMo_stem_146 Q x0 x1 x2 x3 x4 x5 y0 S) : wMo_stem_146 post w_x0 w_x1 w_x2 w_x3 w_x4 w_x5 w_y0 M := by
  subst e_x0
  subst e_x1
  subst e_x2
  subst e_x3
  subst e_x4
  subst e_x5
  subst e_y0
  unfold vMo_stem_146 at hv
  unfold wMo_stem_146
  refine ek_if (c_eq (show _ = Int32.ofInt y0 from rfl) LI_0 r_y0 LI_0r) (fun g1 => ?_) (fun g1 => ?_)
  · replace hv := hv.1 g1
    exact aMo_stem_164 hp   h hv
  · replace hv := hv.2 g1
    refine g_fI h t_x0 rfl rfl ?_
    refine ⟨fun z => hv.1 ((c_eq (show _ = Int32.ofInt (S x0 1) from rfl) LI_0 (g_rf (j := 1) h t_x0 rfl rfl) LI_0r).mp z), ?_⟩
    replace hv := hv.2
    obtain ⟨c2, c3, c4, hv⟩ := hv
    refine ek_if (c_le (h_div (show _ = Int32.ofInt x1 from rfl) (show _ = Int32.ofInt (S x0 1) from rfl) c2 c3) LI_80 c4 LI_80r) (fun g5 => ?_) (fun g5 => ?_)
    · replace hv := hv.1 g5
      refine g_fA h t_x0 rfl (rv_6_6 t_x0) ?_
      obtain ⟨c6, hv⟩ := hv
      refine g_sI h (show kt 1 6 by decide) (show alen 6 = 360 by decide) (show _ = Int32.ofInt x5 from rfl) c6 (show _ = Int32.ofInt x1 from rfl) r_x1 (fun S7 N8 e10 h9 => ?_)
      replace hv := hv S7 e10
      refine g_fA h9 t_x0 rfl (rv_6_7 t_x0) ?_
      obtain ⟨c11, hv⟩ := hv
      refine g_sI h9 (show kt 1 7 by decide) (show alen 7 = 360 by decide) (show _ = Int32.ofInt x5 from rfl) c11 (show _ = Int32.ofInt x2 from rfl) r_x2 (fun S12 N13 e15 h14 => ?_)
      replace hv := hv S12 e15
      refine g_fA h14 t_x0 rfl (rv_6_8 t_x0) ?_
      obtain ⟨c16, hv⟩ := hv
      refine g_sI h14 (show kt 1 8 by decide) (show alen 8 = 360 by decide) (show _ = Int32.ofInt x5 from rfl) c16 (show _ = Int32.ofInt x3 from rfl) r_x3 (fun S17 N18 e20 h19 => ?_)
      replace hv := hv S17 e20
      refine g_fA h19 t_x0 rfl (rv_6_5 t_x0) ?_
      obtain ⟨c21, hv⟩ := hv
      refine g_aI h19 (show kt 1 5 by decide) (show alen 5 = 6 by decide) (show _ = Int32.ofInt x4 from rfl) c21 ?_
      obtain ⟨c22, c23, hv⟩ := hv
      refine g_sI h19 (show kt 1 5 by decide) (show alen 5 = 6 by decide) (show _ = Int32.ofInt x4 from rfl) c22 (h_add (show _ = Int32.ofInt (S17 5 x4) from rfl) LI_1) c23 (fun S24 N25 e27 h26 => ?_)
      replace hv := hv S24 e27
      refine ⟨g_ob h26 t_x0, ?_⟩
      refine apMo_told (fun r28 S29 N30 h31 r32 hv => ?_) rfl t_x0 LI_1 LI_1r h26 hv
      refine ⟨b01 (show _ = Int32.ofInt r28 from rfl) hv.1, ?_⟩
      replace hv := hv.2
      refine ek_v (P := fun y => post y _) (show _ = Int32.ofInt r28 from rfl) ?_
      exact hp _ _ _ h31 r32 hv
    · replace hv := hv.2 g5
      exact aMo_stem_164 hp   h hv
def vMo_stem_145 (Q : Int → St → Prop) (x0 : Int) (x1 : Int) (x2 : Int) (x3 : Int) (x4 : Int) (x5 : Int) (S : St) : Prop := (vMo_stem_146 Q x0 x1 x2 x3 x4 x5 0 S)
theorem aMo_stem_145 {ad : Int → Nat} {Q : Int → St → Prop} {post : Int32 → Hp → Prop} (hp : ∀ (r : Int) (S : St) (M : Hp), US ad S M → rI r → Q r S → post (Int32.ofInt r) M) {w_x0 : Nat} {x0 : Int} (e_x0 : w_x0 = ad x0) (t_x0 : kt (20 + 6) x0) {w_x1 : Int32} {x1 : Int} (e_x1 : w_x1 = Int32.ofInt x1) (r_x1 : rI x1) {w_x2 : Int32} {x2 : Int} (e_x2 : w_x2 = Int32.ofInt x2) (r_x2 : rI x2) {w_x3 : Int32} {x3 : Int} (e_x3 : w_x3 = Int32.ofInt x3) (r_x3 : rI x3) {w_x4 : Int32} {x4 : Int} (e_x4 : w_x4 = Int32.ofInt x4) (r_x4 : rI x4) {w_x5 : Int32} {x5 : Int} (e_x5 : w_x5 = Int32.ofInt x5) (r_x5 : rI x5) {S : St} {M : Hp} (h : US ad S M) (hv : vMo_stem_145 Q x0 x1 x2 x3 x4 x5 S) : wMo_stem_145 post w_x0 w_x1 w_x2 w_x3 w_x4 w_x5 M := by
  subst e_x0
  subst e_x1
  subst e_x2
  subst e_x3
  subst e_x4
  subst e_x5
  unfold vMo_stem_145 at hv
  unfold wMo_stem_145
  exact aMo_stem_146 hp  rfl t_x0 (show _ = Int32.ofInt x1 from rfl) r_x1 (show _ = Int32.ofInt x2 from rfl) r_x2 (show _ = Int32.ofInt x3 from rfl) r_x3 (show _ = Int32.ofInt x4 from rfl) r_x4 (show _ = Int32.ofInt x5 from rfl) r_x5 LI_0 LI_0r h hv
def vMo_stem_66 (Q : Int → St → Prop) (x0 : Int) (x1 : Int) (x2 : Int) (x3 : Int) (x4 : Int) (y0 : Int) (y1 : Int) (S : St) : Prop := (∀ S1 : St, S1 = up S y1 0 y0 → ((((S1 x0 0) ≤ 0 → (((0 : Int) ≤ x4 ∧ (x4 : Int) < 6) ∧ ((rI ((60 * x4) + (S1 5 x4))) ∧ ∀ z71 : Int, z71 = ((60 * x4) + (S1 5 x4)) → (((0 : Int) ≤ x4 ∧ (x4 : Int) < 6) ∧ ((((S1 5 x4) = 0 → (((x1 = 0 → (vMo_stem_146 Q x0 x1 x2 x3 x4 z71 1 S1)) ∧ (¬ x1 = 0 → (vMo_stem_146 Q x0 x1 x2 x3 x4 z71 0 S1))))) ∧ (¬ (S1 5 x4) = 0 → (((0 : Int) ≤ (z71 - 1) ∧ ((z71 - 1) : Int) < 360) ∧ (((x1 ≤ (S1 6 (z71 - 1)) → (vMo_stem_145 Q x0 x1 x2 x3 x4 z71 S1)) ∧ (¬ x1 ≤ (S1 6 (z71 - 1)) → (((0 : Int) ≤ (z71 - 1) ∧ ((z71 - 1) : Int) < 360) ∧ ((((S1 7 (z71 - 1)) < x2 → (vMo_stem_145 Q x0 x1 x2 x3 x4 z71 S1)) ∧ (¬ (S1 7 (z71 - 1)) < x2 → (vMo_stem_146 Q x0 x1 x2 x3 x4 z71 1 S1)))))))))))))))) ∧ (¬ (S1 x0 0) ≤ 0 → (Q 0 S1)))))
theorem aMo_stem_66 {ad : Int → Nat} {Q : Int → St → Prop} {post : Int32 → Hp → Prop} (hp : ∀ (r : Int) (S : St) (M : Hp), US ad S M → rI r → Q r S → post (Int32.ofInt r) M) {w_x0 : Nat} {x0 : Int} (e_x0 : w_x0 = ad x0) (t_x0 : kt (20 + 6) x0) {w_x1 : Int32} {x1 : Int} (e_x1 : w_x1 = Int32.ofInt x1) (r_x1 : rI x1) {w_x2 : Int32} {x2 : Int} (e_x2 : w_x2 = Int32.ofInt x2) (r_x2 : rI x2) {w_x3 : Int32} {x3 : Int} (e_x3 : w_x3 = Int32.ofInt x3) (r_x3 : rI x3) {w_x4 : Int32} {x4 : Int} (e_x4 : w_x4 = Int32.ofInt x4) (r_x4 : rI x4) {w_y0 : Int32} {y0 : Int} (e_y0 : w_y0 = Int32.ofInt y0) (r_y0 : rI y0) {w_y1 : Nat} {y1 : Int} (e_y1 : w_y1 = ad y1) (t_y1 : kt (20 + 6) y1) {S : St} {M : Hp} (h : US ad S M) (hv : vMo_stem_66 Q x0 x1 x2 x3 x4 y0 y1 S) : wMo_stem_66 post w_x0 w_x1 w_x2 w_x3 w_x4 w_y0 w_y1 M := by
  subst e_x0
  subst e_x1
  subst e_x2
  subst e_x3
  subst e_x4
  subst e_y0
  subst e_y1
  unfold vMo_stem_66 at hv
  unfold wMo_stem_66
  refine g_pI h t_y1 rfl rfl (show _ = Int32.ofInt y0 from rfl) r_y0 (fun S1 N2 e4 h3 => ?_)
  replace hv := hv S1 e4
  refine g_fI h3 t_x0 rfl rfl ?_
  refine ek_if (c_le (show _ = Int32.ofInt (S1 x0 0) from rfl) LI_0 (g_rf (j := 0) h3 t_x0 rfl rfl) LI_0r) (fun g5 => ?_) (fun g5 => ?_)
  · replace hv := hv.1 g5
    refine g_fA h3 t_x0 rfl (rv_6_5 t_x0) ?_
    obtain ⟨c6, hv⟩ := hv
    refine g_aI h3 (show kt 1 5 by decide) (show alen 5 = 6 by decide) (show _ = Int32.ofInt x4 from rfl) c6 ?_
    obtain ⟨c7, hv⟩ := hv
    refine nm_z (h_add (h_mul LI_60 (show _ = Int32.ofInt x4 from rfl)) (show _ = Int32.ofInt (S1 5 x4) from rfl)) (fun z71 e8 => ?_)
    have r9 : rI z71 := by rw [e8]; exact c7
    replace hv := hv z71 e8
    refine g_fA h3 t_x0 rfl (rv_6_5 t_x0) ?_
    obtain ⟨c10, hv⟩ := hv
    refine g_aI h3 (show kt 1 5 by decide) (show alen 5 = 6 by decide) (show _ = Int32.ofInt x4 from rfl) c10 ?_
    refine ek_if (c_eq (show _ = Int32.ofInt (S1 5 x4) from rfl) LI_0 (g_rI h3 (show kt 1 5 by decide) (by decide)) LI_0r) (fun g11 => ?_) (fun g11 => ?_)
    · replace hv := hv.1 g11
      refine ek_if (c_eq (show _ = Int32.ofInt x1 from rfl) LI_0 r_x1 LI_0r) (fun g12 => ?_) (fun g12 => ?_)
      · replace hv := hv.1 g12
        exact aMo_stem_146 hp  rfl t_x0 (show _ = Int32.ofInt x1 from rfl) r_x1 (show _ = Int32.ofInt x2 from rfl) r_x2 (show _ = Int32.ofInt x3 from rfl) r_x3 (show _ = Int32.ofInt x4 from rfl) r_x4 (show _ = Int32.ofInt z71 from rfl) r9 LI_1 LI_1r h3 hv
      · replace hv := hv.2 g12
        exact aMo_stem_146 hp  rfl t_x0 (show _ = Int32.ofInt x1 from rfl) r_x1 (show _ = Int32.ofInt x2 from rfl) r_x2 (show _ = Int32.ofInt x3 from rfl) r_x3 (show _ = Int32.ofInt x4 from rfl) r_x4 (show _ = Int32.ofInt z71 from rfl) r9 LI_0 LI_0r h3 hv
    · replace hv := hv.2 g11
      refine g_fA h3 t_x0 rfl (rv_6_6 t_x0) ?_
      obtain ⟨c13, hv⟩ := hv
      refine g_aI h3 (show kt 1 6 by decide) (show alen 6 = 360 by decide) (h_sub (show _ = Int32.ofInt z71 from rfl) LI_1) c13 ?_
      refine ek_if (c_le (show _ = Int32.ofInt x1 from rfl) (show _ = Int32.ofInt (S1 6 (z71 - 1)) from rfl) r_x1 (g_rI h3 (show kt 1 6 by decide) (by decide))) (fun g14 => ?_) (fun g14 => ?_)
      · replace hv := hv.1 g14
        exact aMo_stem_145 hp  rfl t_x0 (show _ = Int32.ofInt x1 from rfl) r_x1 (show _ = Int32.ofInt x2 from rfl) r_x2 (show _ = Int32.ofInt x3 from rfl) r_x3 (show _ = Int32.ofInt x4 from rfl) r_x4 (show _ = Int32.ofInt z71 from rfl) r9 h3 hv
      · replace hv := hv.2 g14
        refine g_fA h3 t_x0 rfl (rv_6_7 t_x0) ?_
        obtain ⟨c15, hv⟩ := hv
        refine g_aI h3 (show kt 1 7 by decide) (show alen 7 = 360 by decide) (h_sub (show _ = Int32.ofInt z71 from rfl) LI_1) c15 ?_
        refine ek_if (c_lt (show _ = Int32.ofInt (S1 7 (z71 - 1)) from rfl) (show _ = Int32.ofInt x2 from rfl) (g_rI h3 (show kt 1 7 by decide) (by decide)) r_x2) (fun g16 => ?_) (fun g16 => ?_)
        · replace hv := hv.1 g16
          exact aMo_stem_145 hp  rfl t_x0 (show _ = Int32.ofInt x1 from rfl) r_x1 (show _ = Int32.ofInt x2 from rfl) r_x2 (show _ = Int32.ofInt x3 from rfl) r_x3 (show _ = Int32.ofInt x4 from rfl) r_x4 (show _ = Int32.ofInt z71 from rfl) r9 h3 hv
        · replace hv := hv.2 g16
          exact aMo_stem_146 hp  rfl t_x0 (show _ = Int32.ofInt x1 from rfl) r_x1 (show _ = Int32.ofInt x2 from rfl) r_x2 (show _ = Int32.ofInt x3 from rfl) r_x3 (show _ = Int32.ofInt x4 from rfl) r_x4 (show _ = Int32.ofInt z71 from rfl) r9 LI_1 LI_1r h3 hv
  · replace hv := hv.2 g5
    refine ek_v (P := fun y => post y _) LI_0 ?_
    exact hp _ _ _ h3 LI_0r hv
def vMo_stem_65 (Q : Int → St → Prop) (x0 : Int) (x1 : Int) (x2 : Int) (x3 : Int) (x4 : Int) (y0 : Int) (S : St) : Prop := (vMo_stem_66 Q x0 x1 x2 x3 x4 2 y0 S)
theorem aMo_stem_65 {ad : Int → Nat} {Q : Int → St → Prop} {post : Int32 → Hp → Prop} (hp : ∀ (r : Int) (S : St) (M : Hp), US ad S M → rI r → Q r S → post (Int32.ofInt r) M) {w_x0 : Nat} {x0 : Int} (e_x0 : w_x0 = ad x0) (t_x0 : kt (20 + 6) x0) {w_x1 : Int32} {x1 : Int} (e_x1 : w_x1 = Int32.ofInt x1) (r_x1 : rI x1) {w_x2 : Int32} {x2 : Int} (e_x2 : w_x2 = Int32.ofInt x2) (r_x2 : rI x2) {w_x3 : Int32} {x3 : Int} (e_x3 : w_x3 = Int32.ofInt x3) (r_x3 : rI x3) {w_x4 : Int32} {x4 : Int} (e_x4 : w_x4 = Int32.ofInt x4) (r_x4 : rI x4) {w_y0 : Nat} {y0 : Int} (e_y0 : w_y0 = ad y0) (t_y0 : kt (20 + 6) y0) {S : St} {M : Hp} (h : US ad S M) (hv : vMo_stem_65 Q x0 x1 x2 x3 x4 y0 S) : wMo_stem_65 post w_x0 w_x1 w_x2 w_x3 w_x4 w_y0 M := by
  subst e_x0
  subst e_x1
  subst e_x2
  subst e_x3
  subst e_x4
  subst e_y0
  unfold vMo_stem_65 at hv
  unfold wMo_stem_65
  exact aMo_stem_66 hp  rfl t_x0 (show _ = Int32.ofInt x1 from rfl) r_x1 (show _ = Int32.ofInt x2 from rfl) r_x2 (show _ = Int32.ofInt x3 from rfl) r_x3 (show _ = Int32.ofInt x4 from rfl) r_x4 LI_2 LI_2r rfl t_y0 h hv
def vpMo_stem (self : Int) (p0 : Int) (p1 : Int) (p2 : Int) (S : St) (Q : Int → St → Prop) : Prop := ((rI ((S self 4) - 1)) ∧ ∀ z107 : Int, z107 = ((S self 4) - 1) → (((0 : Int) ≤ z107 ∧ (z107 : Int) < 6) ∧ ((((S 5 z107) = 60 → (vMo_stem_66 Q self p0 p1 p2 z107 1 self S)) ∧ (¬ (S 5 z107) = 60 → (vpMo_isIn p0 0 10000000 S (fun (r6 : Int) (S7 : St) => (((r6 = 0 → (vMo_stem_65 Q self p0 p1 p2 z107 self S7)) ∧ (¬ r6 = 0 → (vpMo_isIn p1 0 100000 S7 (fun (r12 : Int) (S13 : St) => (((r12 = 0 → (vMo_stem_65 Q self p0 p1 p2 z107 self S13)) ∧ (¬ r12 = 0 → (vpMo_isIn p2 0 100000 S13 (fun (r18 : Int) (S19 : St) => (((r18 = 0 → (vMo_stem_65 Q self p0 p1 p2 z107 self S19)) ∧ (¬ r18 = 0 → (vMo_stem_66 Q self p0 p1 p2 z107 0 self S19)))))))))))))))))))))
theorem apMo_stem {ad : Int → Nat} {Q : Int → St → Prop} {post : Int32 → Hp → Prop} (hp : ∀ (r : Int) (S : St) (M : Hp), US ad S M → rI r → Q r S → post (Int32.ofInt r) M) {w_self : Nat} {self : Int} (e_self : w_self = ad self) (t_self : kt (20 + 6) self) {w_p0 : Int32} {p0 : Int} (e_p0 : w_p0 = Int32.ofInt p0) (r_p0 : rI p0) {w_p1 : Int32} {p1 : Int} (e_p1 : w_p1 = Int32.ofInt p1) (r_p1 : rI p1) {w_p2 : Int32} {p2 : Int} (e_p2 : w_p2 = Int32.ofInt p2) (r_p2 : rI p2) {S : St} {M : Hp} (h : US ad S M) (hv : vpMo_stem self p0 p1 p2 S Q) : wpMo_stem w_self w_p0 w_p1 w_p2 M post := by
  subst e_self
  subst e_p0
  subst e_p1
  subst e_p2
  unfold vpMo_stem at hv
  unfold wpMo_stem
  refine g_fI h t_self rfl rfl ?_
  obtain ⟨c1, hv⟩ := hv
  refine nm_z (h_sub (show _ = Int32.ofInt (S self 4) from rfl) LI_1) (fun z107 e2 => ?_)
  have r3 : rI z107 := by rw [e2]; exact c1
  replace hv := hv z107 e2
  refine g_fA h t_self rfl (rv_6_5 t_self) ?_
  obtain ⟨c4, hv⟩ := hv
  refine g_aI h (show kt 1 5 by decide) (show alen 5 = 6 by decide) (show _ = Int32.ofInt z107 from rfl) c4 ?_
  refine ek_if (c_eq (show _ = Int32.ofInt (S 5 z107) from rfl) LI_60 (g_rI h (show kt 1 5 by decide) (by decide)) LI_60r) (fun g5 => ?_) (fun g5 => ?_)
  · replace hv := hv.1 g5
    exact aMo_stem_66 hp  rfl t_self (show _ = Int32.ofInt p0 from rfl) r_p0 (show _ = Int32.ofInt p1 from rfl) r_p1 (show _ = Int32.ofInt p2 from rfl) r_p2 (show _ = Int32.ofInt z107 from rfl) r3 LI_1 LI_1r rfl t_self h hv
  · replace hv := hv.2 g5
    refine apMo_isIn (fun r6 S7 N8 h9 r10 hv => ?_) (h_toL (show _ = Int32.ofInt p0 from rfl) r_p0) (rI_J r_p0) LJ_0 LJ_0r LJ_10000000 LJ_10000000r h hv
    refine ek_if (c_eq (show _ = Int32.ofInt r6 from rfl) LI_0 r10 LI_0r) (fun g11 => ?_) (fun g11 => ?_)
    · replace hv := hv.1 g11
      exact aMo_stem_65 hp  rfl t_self (show _ = Int32.ofInt p0 from rfl) r_p0 (show _ = Int32.ofInt p1 from rfl) r_p1 (show _ = Int32.ofInt p2 from rfl) r_p2 (show _ = Int32.ofInt z107 from rfl) r3 rfl t_self h9 hv
    · replace hv := hv.2 g11
      refine apMo_isIn (fun r12 S13 N14 h15 r16 hv => ?_) (h_toL (show _ = Int32.ofInt p1 from rfl) r_p1) (rI_J r_p1) LJ_0 LJ_0r LJ_100000 LJ_100000r h9 hv
      refine ek_if (c_eq (show _ = Int32.ofInt r12 from rfl) LI_0 r16 LI_0r) (fun g17 => ?_) (fun g17 => ?_)
      · replace hv := hv.1 g17
        exact aMo_stem_65 hp  rfl t_self (show _ = Int32.ofInt p0 from rfl) r_p0 (show _ = Int32.ofInt p1 from rfl) r_p1 (show _ = Int32.ofInt p2 from rfl) r_p2 (show _ = Int32.ofInt z107 from rfl) r3 rfl t_self h15 hv
      · replace hv := hv.2 g17
        refine apMo_isIn (fun r18 S19 N20 h21 r22 hv => ?_) (h_toL (show _ = Int32.ofInt p2 from rfl) r_p2) (rI_J r_p2) LJ_0 LJ_0r LJ_100000 LJ_100000r h15 hv
        refine ek_if (c_eq (show _ = Int32.ofInt r18 from rfl) LI_0 r22 LI_0r) (fun g23 => ?_) (fun g23 => ?_)
        · replace hv := hv.1 g23
          exact aMo_stem_65 hp  rfl t_self (show _ = Int32.ofInt p0 from rfl) r_p0 (show _ = Int32.ofInt p1 from rfl) r_p1 (show _ = Int32.ofInt p2 from rfl) r_p2 (show _ = Int32.ofInt z107 from rfl) r3 rfl t_self h21 hv
        · replace hv := hv.2 g23
          exact aMo_stem_66 hp  rfl t_self (show _ = Int32.ofInt p0 from rfl) r_p0 (show _ = Int32.ofInt p1 from rfl) r_p1 (show _ = Int32.ofInt p2 from rfl) r_p2 (show _ = Int32.ofInt z107 from rfl) r3 LI_0 LI_0r rfl t_self h21 hv
def vMo_fault_81 (Q : Int → St → Prop) (S : St) : Prop := (Q 0 S)
theorem aMo_fault_81 {ad : Int → Nat} {Q : Int → St → Prop} {post : Int32 → Hp → Prop} (hp : ∀ (r : Int) (S : St) (M : Hp), US ad S M → rI r → Q r S → post (Int32.ofInt r) M)  {S : St} {M : Hp} (h : US ad S M) (hv : vMo_fault_81 Q  S) : wMo_fault_81 post  M := by
  unfold vMo_fault_81 at hv
  unfold wMo_fault_81
  refine ek_v (P := fun y => post y _) LI_0 ?_
  exact hp _ _ _ h LI_0r hv
def vMo_fault_66 (Q : Int → St → Prop) (x0 : Int) (x1 : Int) (x2 : Int) (x3 : Int) (x4 : Int) (y0 : Int) (y1 : Int) (S : St) : Prop := (∀ S1 : St, S1 = up S y1 0 y0 → (((0 < (S1 x0 0) → (vMo_fault_81 Q  S1)) ∧ (¬ 0 < (S1 x0 0) → (((x1 < x2 → (((0 : Int) ≤ x4 ∧ (x4 : Int) < 6) ∧ ((rI ((20 * x4) + (S1 9 x4))) ∧ ∀ z20 : Int, z20 = ((20 * x4) + (S1 9 x4)) → (((0 : Int) ≤ z20 ∧ (z20 : Int) < 120) ∧ ∀ S12 : St, S12 = up S1 10 z20 x1 → (((0 : Int) ≤ z20 ∧ (z20 : Int) < 120) ∧ ∀ S17 : St, S17 = up S12 11 z20 x2 → (((0 : Int) ≤ z20 ∧ (z20 : Int) < 120) ∧ ∀ S22 : St, S22 = up S17 12 z20 x3 → (((0 : Int) ≤ x4 ∧ (x4 : Int) < 6) ∧ (((0 : Int) ≤ x4 ∧ (x4 : Int) < 6) ∧ (rI ((S22 9 x4) + 1)) ∧ ∀ S29 : St, S29 = up S22 9 x4 ((S22 9 x4) + 1) → (vpMo_told x0 1 S29 (fun (r33 : Int) (S34 : St) => (((r33 : Int) = 0 ∨ (r33 : Int) = 1) ∧ (Q r33 S34)))))))))))) ∧ (¬ x1 < x2 → (vMo_fault_81 Q  S1))))))))
theorem aMo_fault_66 {ad : Int → Nat} {Q : Int → St → Prop} {post : Int32 → Hp → Prop} (hp : ∀ (r : Int) (S : St) (M : Hp), US ad S M → rI r → Q r S → post (Int32.ofInt r) M) {w_x0 : Nat} {x0 : Int} (e_x0 : w_x0 = ad x0) (t_x0 : kt (20 + 6) x0) {w_x1 : Int32} {x1 : Int} (e_x1 : w_x1 = Int32.ofInt x1) (r_x1 : rI x1) {w_x2 : Int32} {x2 : Int} (e_x2 : w_x2 = Int32.ofInt x2) (r_x2 : rI x2) {w_x3 : Int32} {x3 : Int} (e_x3 : w_x3 = Int32.ofInt x3) (r_x3 : rI x3) {w_x4 : Int32} {x4 : Int} (e_x4 : w_x4 = Int32.ofInt x4) (r_x4 : rI x4) {w_y0 : Int32} {y0 : Int} (e_y0 : w_y0 = Int32.ofInt y0) (r_y0 : rI y0) {w_y1 : Nat} {y1 : Int} (e_y1 : w_y1 = ad y1) (t_y1 : kt (20 + 6) y1) {S : St} {M : Hp} (h : US ad S M) (hv : vMo_fault_66 Q x0 x1 x2 x3 x4 y0 y1 S) : wMo_fault_66 post w_x0 w_x1 w_x2 w_x3 w_x4 w_y0 w_y1 M := by
  subst e_x0
  subst e_x1
  subst e_x2
  subst e_x3
  subst e_x4
  subst e_y0
  subst e_y1
  unfold vMo_fault_66 at hv
  unfold wMo_fault_66
  refine g_pI h t_y1 rfl rfl (show _ = Int32.ofInt y0 from rfl) r_y0 (fun S1 N2 e4 h3 => ?_)
  replace hv := hv S1 e4
  refine g_fI h3 t_x0 rfl rfl ?_
  refine ek_if (c_lt LI_0 (show _ = Int32.ofInt (S1 x0 0) from rfl) LI_0r (g_rf (j := 0) h3 t_x0 rfl rfl)) (fun g5 => ?_) (fun g5 => ?_)
  · replace hv := hv.1 g5
    exact aMo_fault_81 hp   h3 hv
  · replace hv := hv.2 g5
    refine ek_if (c_lt (show _ = Int32.ofInt x1 from rfl) (show _ = Int32.ofInt x2 from rfl) r_x1 r_x2) (fun g6 => ?_) (fun g6 => ?_)
    · replace hv := hv.1 g6
      refine g_fA h3 t_x0 rfl (rv_6_9 t_x0) ?_
      obtain ⟨c7, hv⟩ := hv
      refine g_aI h3 (show kt 1 9 by decide) (show alen 9 = 6 by decide) (show _ = Int32.ofInt x4 from rfl) c7 ?_
      obtain ⟨c8, hv⟩ := hv
      refine nm_z (h_add (h_mul LI_20 (show _ = Int32.ofInt x4 from rfl)) (show _ = Int32.ofInt (S1 9 x4) from rfl)) (fun z20 e9 => ?_)
      have r10 : rI z20 := by rw [e9]; exact c8
      replace hv := hv z20 e9
      refine g_fA h3 t_x0 rfl (rv_6_10 t_x0) ?_
      obtain ⟨c11, hv⟩ := hv
      refine g_sI h3 (show kt 1 10 by decide) (show alen 10 = 120 by decide) (show _ = Int32.ofInt z20 from rfl) c11 (show _ = Int32.ofInt x1 from rfl) r_x1 (fun S12 N13 e15 h14 => ?_)
      replace hv := hv S12 e15
      refine g_fA h14 t_x0 rfl (rv_6_11 t_x0) ?_
      obtain ⟨c16, hv⟩ := hv
      refine g_sI h14 (show kt 1 11 by decide) (show alen 11 = 120 by decide) (show _ = Int32.ofInt z20 from rfl) c16 (show _ = Int32.ofInt x2 from rfl) r_x2 (fun S17 N18 e20 h19 => ?_)
      replace hv := hv S17 e20
      refine g_fA h19 t_x0 rfl (rv_6_12 t_x0) ?_
      obtain ⟨c21, hv⟩ := hv
      refine g_sI h19 (show kt 1 12 by decide) (show alen 12 = 120 by decide) (show _ = Int32.ofInt z20 from rfl) c21 (show _ = Int32.ofInt x3 from rfl) r_x3 (fun S22 N23 e25 h24 => ?_)
      replace hv := hv S22 e25
      refine g_fA h24 t_x0 rfl (rv_6_9 t_x0) ?_
      obtain ⟨c26, hv⟩ := hv
      refine g_aI h24 (show kt 1 9 by decide) (show alen 9 = 6 by decide) (show _ = Int32.ofInt x4 from rfl) c26 ?_
      obtain ⟨c27, c28, hv⟩ := hv
      refine g_sI h24 (show kt 1 9 by decide) (show alen 9 = 6 by decide) (show _ = Int32.ofInt x4 from rfl) c27 (h_add (show _ = Int32.ofInt (S22 9 x4) from rfl) LI_1) c28 (fun S29 N30 e32 h31 => ?_)
      replace hv := hv S29 e32
      refine ⟨g_ob h31 t_x0, ?_⟩
      refine apMo_told (fun r33 S34 N35 h36 r37 hv => ?_) rfl t_x0 LI_1 LI_1r h31 hv
      refine ⟨b01 (show _ = Int32.ofInt r33 from rfl) hv.1, ?_⟩
      replace hv := hv.2
      refine ek_v (P := fun y => post y _) (show _ = Int32.ofInt r33 from rfl) ?_
      exact hp _ _ _ h36 r37 hv
    · replace hv := hv.2 g6
      exact aMo_fault_81 hp   h3 hv
def vMo_fault_65 (Q : Int → St → Prop) (x0 : Int) (x1 : Int) (x2 : Int) (x3 : Int) (x4 : Int) (y0 : Int) (S : St) : Prop := (vMo_fault_66 Q x0 x1 x2 x3 x4 2 y0 S)
theorem aMo_fault_65 {ad : Int → Nat} {Q : Int → St → Prop} {post : Int32 → Hp → Prop} (hp : ∀ (r : Int) (S : St) (M : Hp), US ad S M → rI r → Q r S → post (Int32.ofInt r) M) {w_x0 : Nat} {x0 : Int} (e_x0 : w_x0 = ad x0) (t_x0 : kt (20 + 6) x0) {w_x1 : Int32} {x1 : Int} (e_x1 : w_x1 = Int32.ofInt x1) (r_x1 : rI x1) {w_x2 : Int32} {x2 : Int} (e_x2 : w_x2 = Int32.ofInt x2) (r_x2 : rI x2) {w_x3 : Int32} {x3 : Int} (e_x3 : w_x3 = Int32.ofInt x3) (r_x3 : rI x3) {w_x4 : Int32} {x4 : Int} (e_x4 : w_x4 = Int32.ofInt x4) (r_x4 : rI x4) {w_y0 : Nat} {y0 : Int} (e_y0 : w_y0 = ad y0) (t_y0 : kt (20 + 6) y0) {S : St} {M : Hp} (h : US ad S M) (hv : vMo_fault_65 Q x0 x1 x2 x3 x4 y0 S) : wMo_fault_65 post w_x0 w_x1 w_x2 w_x3 w_x4 w_y0 M := by
  subst e_x0
  subst e_x1
  subst e_x2
  subst e_x3
  subst e_x4
  subst e_y0
  unfold vMo_fault_65 at hv
  unfold wMo_fault_65
  exact aMo_fault_66 hp  rfl t_x0 (show _ = Int32.ofInt x1 from rfl) r_x1 (show _ = Int32.ofInt x2 from rfl) r_x2 (show _ = Int32.ofInt x3 from rfl) r_x3 (show _ = Int32.ofInt x4 from rfl) r_x4 LI_2 LI_2r rfl t_y0 h hv
def vpMo_fault (self : Int) (p0 : Int) (p1 : Int) (p2 : Int) (S : St) (Q : Int → St → Prop) : Prop := ((rI ((S self 4) - 1)) ∧ ∀ z70 : Int, z70 = ((S self 4) - 1) → (((0 : Int) ≤ z70 ∧ (z70 : Int) < 6) ∧ ((((S 9 z70) = 20 → (vMo_fault_66 Q self p0 p1 p2 z70 1 self S)) ∧ (¬ (S 9 z70) = 20 → (vpMo_isIn p0 0 10000000 S (fun (r6 : Int) (S7 : St) => (((r6 = 0 → (vMo_fault_65 Q self p0 p1 p2 z70 self S7)) ∧ (¬ r6 = 0 → (vpMo_isIn p1 0 10000000 S7 (fun (r12 : Int) (S13 : St) => (((r12 = 0 → (vMo_fault_65 Q self p0 p1 p2 z70 self S13)) ∧ (¬ r12 = 0 → (vpMo_isIn p2 0 7 S13 (fun (r18 : Int) (S19 : St) => (((r18 = 0 → (vMo_fault_65 Q self p0 p1 p2 z70 self S19)) ∧ (¬ r18 = 0 → (vMo_fault_66 Q self p0 p1 p2 z70 0 self S19)))))))))))))))))))))
theorem apMo_fault {ad : Int → Nat} {Q : Int → St → Prop} {post : Int32 → Hp → Prop} (hp : ∀ (r : Int) (S : St) (M : Hp), US ad S M → rI r → Q r S → post (Int32.ofInt r) M) {w_self : Nat} {self : Int} (e_self : w_self = ad self) (t_self : kt (20 + 6) self) {w_p0 : Int32} {p0 : Int} (e_p0 : w_p0 = Int32.ofInt p0) (r_p0 : rI p0) {w_p1 : Int32} {p1 : Int} (e_p1 : w_p1 = Int32.ofInt p1) (r_p1 : rI p1) {w_p2 : Int32} {p2 : Int} (e_p2 : w_p2 = Int32.ofInt p2) (r_p2 : rI p2) {S : St} {M : Hp} (h : US ad S M) (hv : vpMo_fault self p0 p1 p2 S Q) : wpMo_fault w_self w_p0 w_p1 w_p2 M post := by
  subst e_self
  subst e_p0
  subst e_p1
  subst e_p2
  unfold vpMo_fault at hv
  unfold wpMo_fault
  refine g_fI h t_self rfl rfl ?_
  obtain ⟨c1, hv⟩ := hv
  refine nm_z (h_sub (show _ = Int32.ofInt (S self 4) from rfl) LI_1) (fun z70 e2 => ?_)
  have r3 : rI z70 := by rw [e2]; exact c1
  replace hv := hv z70 e2
  refine g_fA h t_self rfl (rv_6_9 t_self) ?_
  obtain ⟨c4, hv⟩ := hv
  refine g_aI h (show kt 1 9 by decide) (show alen 9 = 6 by decide) (show _ = Int32.ofInt z70 from rfl) c4 ?_
  refine ek_if (c_eq (show _ = Int32.ofInt (S 9 z70) from rfl) LI_20 (g_rI h (show kt 1 9 by decide) (by decide)) LI_20r) (fun g5 => ?_) (fun g5 => ?_)
  · replace hv := hv.1 g5
    exact aMo_fault_66 hp  rfl t_self (show _ = Int32.ofInt p0 from rfl) r_p0 (show _ = Int32.ofInt p1 from rfl) r_p1 (show _ = Int32.ofInt p2 from rfl) r_p2 (show _ = Int32.ofInt z70 from rfl) r3 LI_1 LI_1r rfl t_self h hv
  · replace hv := hv.2 g5
    refine apMo_isIn (fun r6 S7 N8 h9 r10 hv => ?_) (h_toL (show _ = Int32.ofInt p0 from rfl) r_p0) (rI_J r_p0) LJ_0 LJ_0r LJ_10000000 LJ_10000000r h hv
    refine ek_if (c_eq (show _ = Int32.ofInt r6 from rfl) LI_0 r10 LI_0r) (fun g11 => ?_) (fun g11 => ?_)
    · replace hv := hv.1 g11
      exact aMo_fault_65 hp  rfl t_self (show _ = Int32.ofInt p0 from rfl) r_p0 (show _ = Int32.ofInt p1 from rfl) r_p1 (show _ = Int32.ofInt p2 from rfl) r_p2 (show _ = Int32.ofInt z70 from rfl) r3 rfl t_self h9 hv
    · replace hv := hv.2 g11
      refine apMo_isIn (fun r12 S13 N14 h15 r16 hv => ?_) (h_toL (show _ = Int32.ofInt p1 from rfl) r_p1) (rI_J r_p1) LJ_0 LJ_0r LJ_10000000 LJ_10000000r h9 hv
      refine ek_if (c_eq (show _ = Int32.ofInt r12 from rfl) LI_0 r16 LI_0r) (fun g17 => ?_) (fun g17 => ?_)
      · replace hv := hv.1 g17
        exact aMo_fault_65 hp  rfl t_self (show _ = Int32.ofInt p0 from rfl) r_p0 (show _ = Int32.ofInt p1 from rfl) r_p1 (show _ = Int32.ofInt p2 from rfl) r_p2 (show _ = Int32.ofInt z70 from rfl) r3 rfl t_self h15 hv
      · replace hv := hv.2 g17
        refine apMo_isIn (fun r18 S19 N20 h21 r22 hv => ?_) (h_toL (show _ = Int32.ofInt p2 from rfl) r_p2) (rI_J r_p2) LJ_0 LJ_0r LJ_7 LJ_7r h15 hv
        refine ek_if (c_eq (show _ = Int32.ofInt r18 from rfl) LI_0 r22 LI_0r) (fun g23 => ?_) (fun g23 => ?_)
        · replace hv := hv.1 g23
          exact aMo_fault_65 hp  rfl t_self (show _ = Int32.ofInt p0 from rfl) r_p0 (show _ = Int32.ofInt p1 from rfl) r_p1 (show _ = Int32.ofInt p2 from rfl) r_p2 (show _ = Int32.ofInt z70 from rfl) r3 rfl t_self h21 hv
        · replace hv := hv.2 g23
          exact aMo_fault_66 hp  rfl t_self (show _ = Int32.ofInt p0 from rfl) r_p0 (show _ = Int32.ofInt p1 from rfl) r_p1 (show _ = Int32.ofInt p2 from rfl) r_p2 (show _ = Int32.ofInt z70 from rfl) r3 LI_0 LI_0r rfl t_self h21 hv
def vMo_stems_15 (Q : Int → St → Prop) (x0 : Int) (y0 : Int) (y1 : Int) (S : St) : Prop := (∀ S1 : St, S1 = up S y1 0 y0 → ((((S1 x0 0) ≤ 0 → ((rI ((S1 x0 4) + 1)) ∧ ∀ S6 : St, S6 = up S1 x0 4 ((S1 x0 4) + 1) → (∀ S11 : St, S11 = up S6 x0 33 0 → (Q (S11 x0 4) S11)))) ∧ (¬ (S1 x0 0) ≤ 0 → (Q 0 S1)))))
theorem aMo_stems_15 {ad : Int → Nat} {Q : Int → St → Prop} {post : Int32 → Hp → Prop} (hp : ∀ (r : Int) (S : St) (M : Hp), US ad S M → rI r → Q r S → post (Int32.ofInt r) M) {w_x0 : Nat} {x0 : Int} (e_x0 : w_x0 = ad x0) (t_x0 : kt (20 + 6) x0) {w_y0 : Int32} {y0 : Int} (e_y0 : w_y0 = Int32.ofInt y0) (r_y0 : rI y0) {w_y1 : Nat} {y1 : Int} (e_y1 : w_y1 = ad y1) (t_y1 : kt (20 + 6) y1) {S : St} {M : Hp} (h : US ad S M) (hv : vMo_stems_15 Q x0 y0 y1 S) : wMo_stems_15 post w_x0 w_y0 w_y1 M := by
  subst e_x0
  subst e_y0
  subst e_y1
  unfold vMo_stems_15 at hv
  unfold wMo_stems_15
  refine g_pI h t_y1 rfl rfl (show _ = Int32.ofInt y0 from rfl) r_y0 (fun S1 N2 e4 h3 => ?_)
  replace hv := hv S1 e4
  refine g_fI h3 t_x0 rfl rfl ?_
  refine ek_if (c_le (show _ = Int32.ofInt (S1 x0 0) from rfl) LI_0 (g_rf (j := 0) h3 t_x0 rfl rfl) LI_0r) (fun g5 => ?_) (fun g5 => ?_)
  · replace hv := hv.1 g5
    refine g_fI h3 t_x0 rfl rfl ?_
    obtain ⟨c10, hv⟩ := hv
    refine g_pI h3 t_x0 rfl rfl (h_add (show _ = Int32.ofInt (S1 x0 4) from rfl) LI_1) c10 (fun S6 N7 e9 h8 => ?_)
    replace hv := hv S6 e9
    refine g_pI h8 t_x0 rfl rfl LI_0 LI_0r (fun S11 N12 e14 h13 => ?_)
    replace hv := hv S11 e14
    refine g_fI h13 t_x0 rfl rfl ?_
    refine ek_v (P := fun y => post y _) (show _ = Int32.ofInt (S11 x0 4) from rfl) ?_
    exact hp _ _ _ h13 (g_rf (j := 4) h13 t_x0 rfl rfl) hv
  · replace hv := hv.2 g5
    refine ek_v (P := fun y => post y _) LI_0 ?_
    exact hp _ _ _ h3 LI_0r hv
def vpMo_stems (self : Int) (S : St) (Q : Int → St → Prop) : Prop := ((((S self 4) = 6 → (vMo_stems_15 Q self 1 self S)) ∧ (¬ (S self 4) = 6 → (vMo_stems_15 Q self 0 self S))))
theorem apMo_stems {ad : Int → Nat} {Q : Int → St → Prop} {post : Int32 → Hp → Prop} (hp : ∀ (r : Int) (S : St) (M : Hp), US ad S M → rI r → Q r S → post (Int32.ofInt r) M) {w_self : Nat} {self : Int} (e_self : w_self = ad self) (t_self : kt (20 + 6) self) {S : St} {M : Hp} (h : US ad S M) (hv : vpMo_stems self S Q) : wpMo_stems w_self M post := by
  subst e_self
  unfold vpMo_stems at hv
  unfold wpMo_stems
  refine g_fI h t_self rfl rfl ?_
  refine ek_if (c_eq (show _ = Int32.ofInt (S self 4) from rfl) LI_6 (g_rf (j := 4) h t_self rfl rfl) LI_6r) (fun g1 => ?_) (fun g1 => ?_)
  · replace hv := hv.1 g1
    exact aMo_stems_15 hp  rfl t_self LI_1 LI_1r rfl t_self h hv
  · replace hv := hv.2 g1
    exact aMo_stems_15 hp  rfl t_self LI_0 LI_0r rfl t_self h hv
def vMo_product_97 (Q : Int → St → Prop) (x0 : Int) (x1 : Int) (x2 : Int) (x3 : Int) (x4 : Int) (x5 : Int) (y0 : Int) (y1 : Int) (S : St) : Prop := (∀ S1 : St, S1 = up S y1 0 y0 → ((((S1 x0 0) ≤ 0 → (((0 : Int) ≤ (S1 x0 14) ∧ ((S1 x0 14) : Int) < 8) ∧ ∀ S7 : St, S7 = up S1 15 (S1 x0 14) x1 → (((0 : Int) ≤ (S7 x0 14) ∧ ((S7 x0 14) : Int) < 8) ∧ ∀ S12 : St, S12 = up S7 16 (S7 x0 14) x2 → (((0 : Int) ≤ (S12 x0 14) ∧ ((S12 x0 14) : Int) < 8) ∧ ∀ S17 : St, S17 = up S12 17 (S12 x0 14) x3 → (((0 : Int) ≤ (S17 x0 14) ∧ ((S17 x0 14) : Int) < 8) ∧ ∀ S22 : St, S22 = up S17 18 (S17 x0 14) x4 → (((0 : Int) ≤ (S22 x0 14) ∧ ((S22 x0 14) : Int) < 8) ∧ ∀ S27 : St, S27 = up S22 19 (S22 x0 14) x5 → ((rI ((S27 x0 14) + 1)) ∧ ∀ S31 : St, S31 = up S27 x0 14 ((S27 x0 14) + 1) → (∀ S36 : St, S36 = up S31 x0 33 0 → ((rI ((S36 x0 14) - 1)) ∧ Q ((S36 x0 14) - 1) S36))))))))) ∧ (¬ (S1 x0 0) ≤ 0 → (Q 0 S1)))))
theorem aMo_product_97 {ad : Int → Nat} {Q : Int → St → Prop} {post : Int32 → Hp → Prop} (hp : ∀ (r : Int) (S : St) (M : Hp), US ad S M → rI r → Q r S → post (Int32.ofInt r) M) {w_x0 : Nat} {x0 : Int} (e_x0 : w_x0 = ad x0) (t_x0 : kt (20 + 6) x0) {w_x1 : Int32} {x1 : Int} (e_x1 : w_x1 = Int32.ofInt x1) (r_x1 : rI x1) {w_x2 : Int32} {x2 : Int} (e_x2 : w_x2 = Int32.ofInt x2) (r_x2 : rI x2) {w_x3 : Int32} {x3 : Int} (e_x3 : w_x3 = Int32.ofInt x3) (r_x3 : rI x3) {w_x4 : Int32} {x4 : Int} (e_x4 : w_x4 = Int32.ofInt x4) (r_x4 : rI x4) {w_x5 : Int64} {x5 : Int} (e_x5 : w_x5 = Int64.ofInt x5) (r_x5 : rJ x5) {w_y0 : Int32} {y0 : Int} (e_y0 : w_y0 = Int32.ofInt y0) (r_y0 : rI y0) {w_y1 : Nat} {y1 : Int} (e_y1 : w_y1 = ad y1) (t_y1 : kt (20 + 6) y1) {S : St} {M : Hp} (h : US ad S M) (hv : vMo_product_97 Q x0 x1 x2 x3 x4 x5 y0 y1 S) : wMo_product_97 post w_x0 w_x1 w_x2 w_x3 w_x4 w_x5 w_y0 w_y1 M := by
  subst e_x0
  subst e_x1
  subst e_x2
  subst e_x3
  subst e_x4
  subst e_x5
  subst e_y0
  subst e_y1
  unfold vMo_product_97 at hv
  unfold wMo_product_97
  refine g_pI h t_y1 rfl rfl (show _ = Int32.ofInt y0 from rfl) r_y0 (fun S1 N2 e4 h3 => ?_)
  replace hv := hv S1 e4
  refine g_fI h3 t_x0 rfl rfl ?_
  refine ek_if (c_le (show _ = Int32.ofInt (S1 x0 0) from rfl) LI_0 (g_rf (j := 0) h3 t_x0 rfl rfl) LI_0r) (fun g5 => ?_) (fun g5 => ?_)
  · replace hv := hv.1 g5
    refine g_fA h3 t_x0 rfl (rv_6_15 t_x0) ?_
    refine g_fI h3 t_x0 rfl rfl ?_
    obtain ⟨c6, hv⟩ := hv
    refine g_sI h3 (show kt 1 15 by decide) (show alen 15 = 8 by decide) (show _ = Int32.ofInt (S1 x0 14) from rfl) c6 (show _ = Int32.ofInt x1 from rfl) r_x1 (fun S7 N8 e10 h9 => ?_)
    replace hv := hv S7 e10
    refine g_fA h9 t_x0 rfl (rv_6_16 t_x0) ?_
    refine g_fI h9 t_x0 rfl rfl ?_
    obtain ⟨c11, hv⟩ := hv
    refine g_sI h9 (show kt 1 16 by decide) (show alen 16 = 8 by decide) (show _ = Int32.ofInt (S7 x0 14) from rfl) c11 (show _ = Int32.ofInt x2 from rfl) r_x2 (fun S12 N13 e15 h14 => ?_)
    replace hv := hv S12 e15
    refine g_fA h14 t_x0 rfl (rv_6_17 t_x0) ?_
    refine g_fI h14 t_x0 rfl rfl ?_
    obtain ⟨c16, hv⟩ := hv
    refine g_sI h14 (show kt 1 17 by decide) (show alen 17 = 8 by decide) (show _ = Int32.ofInt (S12 x0 14) from rfl) c16 (show _ = Int32.ofInt x3 from rfl) r_x3 (fun S17 N18 e20 h19 => ?_)
    replace hv := hv S17 e20
    refine g_fA h19 t_x0 rfl (rv_6_18 t_x0) ?_
    refine g_fI h19 t_x0 rfl rfl ?_
    obtain ⟨c21, hv⟩ := hv
    refine g_sI h19 (show kt 1 18 by decide) (show alen 18 = 8 by decide) (show _ = Int32.ofInt (S17 x0 14) from rfl) c21 (show _ = Int32.ofInt x4 from rfl) r_x4 (fun S22 N23 e25 h24 => ?_)
    replace hv := hv S22 e25
    refine g_fA h24 t_x0 rfl (rv_6_19 t_x0) ?_
    refine g_fI h24 t_x0 rfl rfl ?_
    obtain ⟨c26, hv⟩ := hv
    refine g_sJ h24 (show kt 3 19 by decide) (show alen 19 = 8 by decide) (show _ = Int32.ofInt (S22 x0 14) from rfl) c26 (show _ = Int64.ofInt x5 from rfl) r_x5 (fun S27 N28 e30 h29 => ?_)
    replace hv := hv S27 e30
    refine g_fI h29 t_x0 rfl rfl ?_
    obtain ⟨c35, hv⟩ := hv
    refine g_pI h29 t_x0 rfl rfl (h_add (show _ = Int32.ofInt (S27 x0 14) from rfl) LI_1) c35 (fun S31 N32 e34 h33 => ?_)
    replace hv := hv S31 e34
    refine g_pI h33 t_x0 rfl rfl LI_0 LI_0r (fun S36 N37 e39 h38 => ?_)
    replace hv := hv S36 e39
    refine g_fI h38 t_x0 rfl rfl ?_
    obtain ⟨c40, hv⟩ := hv
    refine ek_v (P := fun y => post y _) (h_sub (show _ = Int32.ofInt (S36 x0 14) from rfl) LI_1) ?_
    exact hp _ _ _ h38 c40 hv
  · replace hv := hv.2 g5
    refine ek_v (P := fun y => post y _) LI_0 ?_
    exact hp _ _ _ h3 LI_0r hv
def vMo_product_71 (Q : Int → St → Prop) (x0 : Int) (x1 : Int) (x2 : Int) (x3 : Int) (x4 : Int) (x5 : Int) (y0 : Int) (S : St) : Prop := ((((S x0 14) = 8 → (vMo_product_97 Q x0 x1 x2 x3 x4 x5 1 x0 S)) ∧ (¬ (S x0 14) = 8 → (((y0 = 0 → (vMo_product_97 Q x0 x1 x2 x3 x4 x5 2 x0 S)) ∧ (¬ y0 = 0 → (vMo_product_97 Q x0 x1 x2 x3 x4 x5 0 x0 S)))))))
theorem aMo_product_71 {ad : Int → Nat} {Q : Int → St → Prop} {post : Int32 → Hp → Prop} (hp : ∀ (r : Int) (S : St) (M : Hp), US ad S M → rI r → Q r S → post (Int32.ofInt r) M) {w_x0 : Nat} {x0 : Int} (e_x0 : w_x0 = ad x0) (t_x0 : kt (20 + 6) x0) {w_x1 : Int32} {x1 : Int} (e_x1 : w_x1 = Int32.ofInt x1) (r_x1 : rI x1) {w_x2 : Int32} {x2 : Int} (e_x2 : w_x2 = Int32.ofInt x2) (r_x2 : rI x2) {w_x3 : Int32} {x3 : Int} (e_x3 : w_x3 = Int32.ofInt x3) (r_x3 : rI x3) {w_x4 : Int32} {x4 : Int} (e_x4 : w_x4 = Int32.ofInt x4) (r_x4 : rI x4) {w_x5 : Int64} {x5 : Int} (e_x5 : w_x5 = Int64.ofInt x5) (r_x5 : rJ x5) {w_y0 : Int32} {y0 : Int} (e_y0 : w_y0 = Int32.ofInt y0) (r_y0 : rI y0) {S : St} {M : Hp} (h : US ad S M) (hv : vMo_product_71 Q x0 x1 x2 x3 x4 x5 y0 S) : wMo_product_71 post w_x0 w_x1 w_x2 w_x3 w_x4 w_x5 w_y0 M := by
  subst e_x0
  subst e_x1
  subst e_x2
  subst e_x3
  subst e_x4
  subst e_x5
  subst e_y0
  unfold vMo_product_71 at hv
  unfold wMo_product_71
  refine g_fI h t_x0 rfl rfl ?_
  refine ek_if (c_eq (show _ = Int32.ofInt (S x0 14) from rfl) LI_8 (g_rf (j := 14) h t_x0 rfl rfl) LI_8r) (fun g1 => ?_) (fun g1 => ?_)
  · replace hv := hv.1 g1
    exact aMo_product_97 hp  rfl t_x0 (show _ = Int32.ofInt x1 from rfl) r_x1 (show _ = Int32.ofInt x2 from rfl) r_x2 (show _ = Int32.ofInt x3 from rfl) r_x3 (show _ = Int32.ofInt x4 from rfl) r_x4 (show _ = Int64.ofInt x5 from rfl) r_x5 LI_1 LI_1r rfl t_x0 h hv
  · replace hv := hv.2 g1
    refine ek_if (c_eq (show _ = Int32.ofInt y0 from rfl) LI_0 r_y0 LI_0r) (fun g2 => ?_) (fun g2 => ?_)
    · replace hv := hv.1 g2
      exact aMo_product_97 hp  rfl t_x0 (show _ = Int32.ofInt x1 from rfl) r_x1 (show _ = Int32.ofInt x2 from rfl) r_x2 (show _ = Int32.ofInt x3 from rfl) r_x3 (show _ = Int32.ofInt x4 from rfl) r_x4 (show _ = Int64.ofInt x5 from rfl) r_x5 LI_2 LI_2r rfl t_x0 h hv
    · replace hv := hv.2 g2
      exact aMo_product_97 hp  rfl t_x0 (show _ = Int32.ofInt x1 from rfl) r_x1 (show _ = Int32.ofInt x2 from rfl) r_x2 (show _ = Int32.ofInt x3 from rfl) r_x3 (show _ = Int32.ofInt x4 from rfl) r_x4 (show _ = Int64.ofInt x5 from rfl) r_x5 LI_0 LI_0r rfl t_x0 h hv
def vMo_product_70 (Q : Int → St → Prop) (x0 : Int) (x1 : Int) (x2 : Int) (x3 : Int) (x4 : Int) (x5 : Int) (S : St) : Prop := (vMo_product_71 Q x0 x1 x2 x3 x4 x5 0 S)
theorem aMo_product_70 {ad : Int → Nat} {Q : Int → St → Prop} {post : Int32 → Hp → Prop} (hp : ∀ (r : Int) (S : St) (M : Hp), US ad S M → rI r → Q r S → post (Int32.ofInt r) M) {w_x0 : Nat} {x0 : Int} (e_x0 : w_x0 = ad x0) (t_x0 : kt (20 + 6) x0) {w_x1 : Int32} {x1 : Int} (e_x1 : w_x1 = Int32.ofInt x1) (r_x1 : rI x1) {w_x2 : Int32} {x2 : Int} (e_x2 : w_x2 = Int32.ofInt x2) (r_x2 : rI x2) {w_x3 : Int32} {x3 : Int} (e_x3 : w_x3 = Int32.ofInt x3) (r_x3 : rI x3) {w_x4 : Int32} {x4 : Int} (e_x4 : w_x4 = Int32.ofInt x4) (r_x4 : rI x4) {w_x5 : Int64} {x5 : Int} (e_x5 : w_x5 = Int64.ofInt x5) (r_x5 : rJ x5) {S : St} {M : Hp} (h : US ad S M) (hv : vMo_product_70 Q x0 x1 x2 x3 x4 x5 S) : wMo_product_70 post w_x0 w_x1 w_x2 w_x3 w_x4 w_x5 M := by
  subst e_x0
  subst e_x1
  subst e_x2
  subst e_x3
  subst e_x4
  subst e_x5
  unfold vMo_product_70 at hv
  unfold wMo_product_70
  exact aMo_product_71 hp  rfl t_x0 (show _ = Int32.ofInt x1 from rfl) r_x1 (show _ = Int32.ofInt x2 from rfl) r_x2 (show _ = Int32.ofInt x3 from rfl) r_x3 (show _ = Int32.ofInt x4 from rfl) r_x4 (show _ = Int64.ofInt x5 from rfl) r_x5 LI_0 LI_0r h hv
def vpMo_product (self : Int) (p0 : Int) (p1 : Int) (p2 : Int) (p3 : Int) (p4 : Int) (S : St) (Q : Int → St → Prop) : Prop := (vpMo_isIn p0 1 10000000 S (fun (r1 : Int) (S2 : St) => (((r1 = 0 → (vMo_product_70 Q self p0 p1 p2 p3 p4 S2)) ∧ (¬ r1 = 0 → (vpMo_isIn p1 1 10000000 S2 (fun (r7 : Int) (S8 : St) => (((r7 = 0 → (vMo_product_70 Q self p0 p1 p2 p3 p4 S8)) ∧ (¬ r7 = 0 → (((p1 < p0 → (vMo_product_70 Q self p0 p1 p2 p3 p4 S8)) ∧ (¬ p1 < p0 → (vpMo_isIn p2 0 100000 S8 (fun (r14 : Int) (S15 : St) => (((r14 = 0 → (vMo_product_70 Q self p0 p1 p2 p3 p4 S15)) ∧ (¬ r14 = 0 → (vpMo_isIn p3 0 100000 S15 (fun (r20 : Int) (S21 : St) => (((r20 = 0 → (vMo_product_70 Q self p0 p1 p2 p3 p4 S21)) ∧ (¬ r20 = 0 → (vpMo_isIn p4 0 100000 S21 (fun (r26 : Int) (S27 : St) => (((r26 = 0 → (vMo_product_70 Q self p0 p1 p2 p3 p4 S27)) ∧ (¬ r26 = 0 → (vMo_product_71 Q self p0 p1 p2 p3 p4 1 S27)))))))))))))))))))))))))))))
theorem apMo_product {ad : Int → Nat} {Q : Int → St → Prop} {post : Int32 → Hp → Prop} (hp : ∀ (r : Int) (S : St) (M : Hp), US ad S M → rI r → Q r S → post (Int32.ofInt r) M) {w_self : Nat} {self : Int} (e_self : w_self = ad self) (t_self : kt (20 + 6) self) {w_p0 : Int32} {p0 : Int} (e_p0 : w_p0 = Int32.ofInt p0) (r_p0 : rI p0) {w_p1 : Int32} {p1 : Int} (e_p1 : w_p1 = Int32.ofInt p1) (r_p1 : rI p1) {w_p2 : Int32} {p2 : Int} (e_p2 : w_p2 = Int32.ofInt p2) (r_p2 : rI p2) {w_p3 : Int32} {p3 : Int} (e_p3 : w_p3 = Int32.ofInt p3) (r_p3 : rI p3) {w_p4 : Int64} {p4 : Int} (e_p4 : w_p4 = Int64.ofInt p4) (r_p4 : rJ p4) {S : St} {M : Hp} (h : US ad S M) (hv : vpMo_product self p0 p1 p2 p3 p4 S Q) : wpMo_product w_self w_p0 w_p1 w_p2 w_p3 w_p4 M post := by
  subst e_self
  subst e_p0
  subst e_p1
  subst e_p2
  subst e_p3
  subst e_p4
  unfold vpMo_product at hv
  unfold wpMo_product
  refine apMo_isIn (fun r1 S2 N3 h4 r5 hv => ?_) (h_toL (show _ = Int32.ofInt p0 from rfl) r_p0) (rI_J r_p0) LJ_1 LJ_1r LJ_10000000 LJ_10000000r h hv
  refine ek_if (c_eq (show _ = Int32.ofInt r1 from rfl) LI_0 r5 LI_0r) (fun g6 => ?_) (fun g6 => ?_)
  · replace hv := hv.1 g6
    exact aMo_product_70 hp  rfl t_self (show _ = Int32.ofInt p0 from rfl) r_p0 (show _ = Int32.ofInt p1 from rfl) r_p1 (show _ = Int32.ofInt p2 from rfl) r_p2 (show _ = Int32.ofInt p3 from rfl) r_p3 (show _ = Int64.ofInt p4 from rfl) r_p4 h4 hv
  · replace hv := hv.2 g6
    refine apMo_isIn (fun r7 S8 N9 h10 r11 hv => ?_) (h_toL (show _ = Int32.ofInt p1 from rfl) r_p1) (rI_J r_p1) LJ_1 LJ_1r LJ_10000000 LJ_10000000r h4 hv
    refine ek_if (c_eq (show _ = Int32.ofInt r7 from rfl) LI_0 r11 LI_0r) (fun g12 => ?_) (fun g12 => ?_)
    · replace hv := hv.1 g12
      exact aMo_product_70 hp  rfl t_self (show _ = Int32.ofInt p0 from rfl) r_p0 (show _ = Int32.ofInt p1 from rfl) r_p1 (show _ = Int32.ofInt p2 from rfl) r_p2 (show _ = Int32.ofInt p3 from rfl) r_p3 (show _ = Int64.ofInt p4 from rfl) r_p4 h10 hv
    · replace hv := hv.2 g12
      refine ek_if (c_lt (show _ = Int32.ofInt p1 from rfl) (show _ = Int32.ofInt p0 from rfl) r_p1 r_p0) (fun g13 => ?_) (fun g13 => ?_)
      · replace hv := hv.1 g13
        exact aMo_product_70 hp  rfl t_self (show _ = Int32.ofInt p0 from rfl) r_p0 (show _ = Int32.ofInt p1 from rfl) r_p1 (show _ = Int32.ofInt p2 from rfl) r_p2 (show _ = Int32.ofInt p3 from rfl) r_p3 (show _ = Int64.ofInt p4 from rfl) r_p4 h10 hv
      · replace hv := hv.2 g13
        refine apMo_isIn (fun r14 S15 N16 h17 r18 hv => ?_) (h_toL (show _ = Int32.ofInt p2 from rfl) r_p2) (rI_J r_p2) LJ_0 LJ_0r LJ_100000 LJ_100000r h10 hv
        refine ek_if (c_eq (show _ = Int32.ofInt r14 from rfl) LI_0 r18 LI_0r) (fun g19 => ?_) (fun g19 => ?_)
        · replace hv := hv.1 g19
          exact aMo_product_70 hp  rfl t_self (show _ = Int32.ofInt p0 from rfl) r_p0 (show _ = Int32.ofInt p1 from rfl) r_p1 (show _ = Int32.ofInt p2 from rfl) r_p2 (show _ = Int32.ofInt p3 from rfl) r_p3 (show _ = Int64.ofInt p4 from rfl) r_p4 h17 hv
        · replace hv := hv.2 g19
          refine apMo_isIn (fun r20 S21 N22 h23 r24 hv => ?_) (h_toL (show _ = Int32.ofInt p3 from rfl) r_p3) (rI_J r_p3) LJ_0 LJ_0r LJ_100000 LJ_100000r h17 hv
          refine ek_if (c_eq (show _ = Int32.ofInt r20 from rfl) LI_0 r24 LI_0r) (fun g25 => ?_) (fun g25 => ?_)
          · replace hv := hv.1 g25
            exact aMo_product_70 hp  rfl t_self (show _ = Int32.ofInt p0 from rfl) r_p0 (show _ = Int32.ofInt p1 from rfl) r_p1 (show _ = Int32.ofInt p2 from rfl) r_p2 (show _ = Int32.ofInt p3 from rfl) r_p3 (show _ = Int64.ofInt p4 from rfl) r_p4 h23 hv
          · replace hv := hv.2 g25
            refine apMo_isIn (fun r26 S27 N28 h29 r30 hv => ?_) (show _ = Int64.ofInt p4 from rfl) r_p4 LJ_0 LJ_0r LJ_100000 LJ_100000r h23 hv
            refine ek_if (c_eq (show _ = Int32.ofInt r26 from rfl) LI_0 r30 LI_0r) (fun g31 => ?_) (fun g31 => ?_)
            · replace hv := hv.1 g31
              exact aMo_product_70 hp  rfl t_self (show _ = Int32.ofInt p0 from rfl) r_p0 (show _ = Int32.ofInt p1 from rfl) r_p1 (show _ = Int32.ofInt p2 from rfl) r_p2 (show _ = Int32.ofInt p3 from rfl) r_p3 (show _ = Int64.ofInt p4 from rfl) r_p4 h29 hv
            · replace hv := hv.2 g31
              exact aMo_product_71 hp  rfl t_self (show _ = Int32.ofInt p0 from rfl) r_p0 (show _ = Int32.ofInt p1 from rfl) r_p1 (show _ = Int32.ofInt p2 from rfl) r_p2 (show _ = Int32.ofInt p3 from rfl) r_p3 (show _ = Int64.ofInt p4 from rfl) r_p4 LI_1 LI_1r h29 hv
def vMo_noProduct_33 (Q : Int → St → Prop) (y0 : Int) (S : St) : Prop := (((y0 : Int) = 0 ∨ (y0 : Int) = 1) ∧ (Q y0 S))
theorem aMo_noProduct_33 {ad : Int → Nat} {Q : Int → St → Prop} {post : Int32 → Hp → Prop} (hp : ∀ (r : Int) (S : St) (M : Hp), US ad S M → rI r → Q r S → post (Int32.ofInt r) M) {w_y0 : Int32} {y0 : Int} (e_y0 : w_y0 = Int32.ofInt y0) (r_y0 : rI y0) {S : St} {M : Hp} (h : US ad S M) (hv : vMo_noProduct_33 Q y0 S) : wMo_noProduct_33 post w_y0 M := by
  subst e_y0
  unfold vMo_noProduct_33 at hv
  unfold wMo_noProduct_33
  refine ⟨b01 (show _ = Int32.ofInt y0 from rfl) hv.1, ?_⟩
  replace hv := hv.2
  refine ek_v (P := fun y => post y _) (show _ = Int32.ofInt y0 from rfl) ?_
  exact hp _ _ _ h r_y0 hv
def vMo_noProduct_18 (Q : Int → St → Prop) (x0 : Int) (y0 : Int) (y1 : Int) (S : St) : Prop := (∀ S1 : St, S1 = up S y1 0 y0 → ((((S1 x0 0) ≤ 0 → (vMo_noProduct_33 Q 0 S1)) ∧ (¬ (S1 x0 0) ≤ 0 → (vMo_noProduct_33 Q 1 S1)))))
theorem aMo_noProduct_18 {ad : Int → Nat} {Q : Int → St → Prop} {post : Int32 → Hp → Prop} (hp : ∀ (r : Int) (S : St) (M : Hp), US ad S M → rI r → Q r S → post (Int32.ofInt r) M) {w_x0 : Nat} {x0 : Int} (e_x0 : w_x0 = ad x0) (t_x0 : kt (20 + 6) x0) {w_y0 : Int32} {y0 : Int} (e_y0 : w_y0 = Int32.ofInt y0) (r_y0 : rI y0) {w_y1 : Nat} {y1 : Int} (e_y1 : w_y1 = ad y1) (t_y1 : kt (20 + 6) y1) {S : St} {M : Hp} (h : US ad S M) (hv : vMo_noProduct_18 Q x0 y0 y1 S) : wMo_noProduct_18 post w_x0 w_y0 w_y1 M := by
  subst e_x0
  subst e_y0
  subst e_y1
  unfold vMo_noProduct_18 at hv
  unfold wMo_noProduct_18
  refine g_pI h t_y1 rfl rfl (show _ = Int32.ofInt y0 from rfl) r_y0 (fun S1 N2 e4 h3 => ?_)
  replace hv := hv S1 e4
  refine g_fI h3 t_x0 rfl rfl ?_
  refine ek_if (c_le (show _ = Int32.ofInt (S1 x0 0) from rfl) LI_0 (g_rf (j := 0) h3 t_x0 rfl rfl) LI_0r) (fun g5 => ?_) (fun g5 => ?_)
  · replace hv := hv.1 g5
    exact aMo_noProduct_33 hp  LI_0 LI_0r h3 hv
  · replace hv := hv.2 g5
    exact aMo_noProduct_33 hp  LI_1 LI_1r h3 hv
def vMo_noProduct_13 (Q : Int → St → Prop) (x0 : Int) (y0 : Int) (S : St) : Prop := (vMo_noProduct_18 Q x0 1 y0 S)
theorem aMo_noProduct_13 {ad : Int → Nat} {Q : Int → St → Prop} {post : Int32 → Hp → Prop} (hp : ∀ (r : Int) (S : St) (M : Hp), US ad S M → rI r → Q r S → post (Int32.ofInt r) M) {w_x0 : Nat} {x0 : Int} (e_x0 : w_x0 = ad x0) (t_x0 : kt (20 + 6) x0) {w_y0 : Nat} {y0 : Int} (e_y0 : w_y0 = ad y0) (t_y0 : kt (20 + 6) y0) {S : St} {M : Hp} (h : US ad S M) (hv : vMo_noProduct_13 Q x0 y0 S) : wMo_noProduct_13 post w_x0 w_y0 M := by
  subst e_x0
  subst e_y0
  unfold vMo_noProduct_13 at hv
  unfold wMo_noProduct_13
  exact aMo_noProduct_18 hp  rfl t_x0 LI_1 LI_1r rfl t_y0 h hv
def vpMo_noProduct (self : Int) (p0 : Int) (S : St) (Q : Int → St → Prop) : Prop := (((p0 < 0 → (vMo_noProduct_13 Q self self S)) ∧ (¬ p0 < 0 → (((p0 < (S self 14) → (vMo_noProduct_18 Q self 0 self S)) ∧ (¬ p0 < (S self 14) → (vMo_noProduct_13 Q self self S)))))))
theorem apMo_noProduct {ad : Int → Nat} {Q : Int → St → Prop} {post : Int32 → Hp → Prop} (hp : ∀ (r : Int) (S : St) (M : Hp), US ad S M → rI r → Q r S → post (Int32.ofInt r) M) {w_self : Nat} {self : Int} (e_self : w_self = ad self) (t_self : kt (20 + 6) self) {w_p0 : Int32} {p0 : Int} (e_p0 : w_p0 = Int32.ofInt p0) (r_p0 : rI p0) {S : St} {M : Hp} (h : US ad S M) (hv : vpMo_noProduct self p0 S Q) : wpMo_noProduct w_self w_p0 M post := by
  subst e_self
  subst e_p0
  unfold vpMo_noProduct at hv
  unfold wpMo_noProduct
  refine ek_if (c_lt (show _ = Int32.ofInt p0 from rfl) LI_0 r_p0 LI_0r) (fun g1 => ?_) (fun g1 => ?_)
  · replace hv := hv.1 g1
    exact aMo_noProduct_13 hp  rfl t_self rfl t_self h hv
  · replace hv := hv.2 g1
    refine g_fI h t_self rfl rfl ?_
    refine ek_if (c_lt (show _ = Int32.ofInt p0 from rfl) (show _ = Int32.ofInt (S self 14) from rfl) r_p0 (g_rf (j := 14) h t_self rfl rfl)) (fun g2 => ?_) (fun g2 => ?_)
    · replace hv := hv.1 g2
      exact aMo_noProduct_18 hp  rfl t_self LI_0 LI_0r rfl t_self h hv
    · replace hv := hv.2 g2
      exact aMo_noProduct_13 hp  rfl t_self rfl t_self h hv
def vMo_bars_52 (Q : Int → St → Prop) (S : St) : Prop := (Q 0 S)
theorem aMo_bars_52 {ad : Int → Nat} {Q : Int → St → Prop} {post : Int32 → Hp → Prop} (hp : ∀ (r : Int) (S : St) (M : Hp), US ad S M → rI r → Q r S → post (Int32.ofInt r) M)  {S : St} {M : Hp} (h : US ad S M) (hv : vMo_bars_52 Q  S) : wMo_bars_52 post  M := by
  unfold vMo_bars_52 at hv
  unfold wMo_bars_52
  refine ek_v (P := fun y => post y _) LI_0 ?_
  exact hp _ _ _ h LI_0r hv
def vMo_bars_28 (Q : Int → St → Prop) (x0 : Int) (x1 : Int) (x2 : Int) (y0 : Int) (y1 : Int) (S : St) : Prop := (∀ S1 : St, S1 = up S y1 0 y0 → (((0 < (S1 x0 0) → (vMo_bars_52 Q  S1)) ∧ (¬ 0 < (S1 x0 0) → (((0 : Int) ≤ ((8 * x1) + x2) ∧ (((8 * x1) + x2) : Int) < 64) ∧ ((((S1 20 ((8 * x1) + x2)) = 0 → (((0 : Int) ≤ ((8 * x1) + x2) ∧ (((8 * x1) + x2) : Int) < 64) ∧ ((1 : Int) = 0 ∨ (1 : Int) = 1) ∧ ∀ S10 : St, S10 = up S1 20 ((8 * x1) + x2) 1 → (vpMo_told x0 1 S10 (fun (r14 : Int) (S15 : St) => (((r14 : Int) = 0 ∨ (r14 : Int) = 1) ∧ (Q r14 S15)))))) ∧ (¬ (S1 20 ((8 * x1) + x2)) = 0 → (vMo_bars_52 Q  S1)))))))))
theorem aMo_bars_28 {ad : Int → Nat} {Q : Int → St → Prop} {post : Int32 → Hp → Prop} (hp : ∀ (r : Int) (S : St) (M : Hp), US ad S M → rI r → Q r S → post (Int32.ofInt r) M) {w_x0 : Nat} {x0 : Int} (e_x0 : w_x0 = ad x0) (t_x0 : kt (20 + 6) x0) {w_x1 : Int32} {x1 : Int} (e_x1 : w_x1 = Int32.ofInt x1) (r_x1 : rI x1) {w_x2 : Int32} {x2 : Int} (e_x2 : w_x2 = Int32.ofInt x2) (r_x2 : rI x2) {w_y0 : Int32} {y0 : Int} (e_y0 : w_y0 = Int32.ofInt y0) (r_y0 : rI y0) {w_y1 : Nat} {y1 : Int} (e_y1 : w_y1 = ad y1) (t_y1 : kt (20 + 6) y1) {S : St} {M : Hp} (h : US ad S M) (hv : vMo_bars_28 Q x0 x1 x2 y0 y1 S) : wMo_bars_28 post w_x0 w_x1 w_x2 w_y0 w_y1 M := by
  subst e_x0
  subst e_x1
  subst e_x2
  subst e_y0
  subst e_y1
  unfold vMo_bars_28 at hv
  unfold wMo_bars_28
  refine g_pI h t_y1 rfl rfl (show _ = Int32.ofInt y0 from rfl) r_y0 (fun S1 N2 e4 h3 => ?_)
  replace hv := hv S1 e4
  refine g_fI h3 t_x0 rfl rfl ?_
  refine ek_if (c_lt LI_0 (show _ = Int32.ofInt (S1 x0 0) from rfl) LI_0r (g_rf (j := 0) h3 t_x0 rfl rfl)) (fun g5 => ?_) (fun g5 => ?_)
  · replace hv := hv.1 g5
    exact aMo_bars_52 hp   h3 hv
  · replace hv := hv.2 g5
    refine g_fA h3 t_x0 rfl (rv_6_20 t_x0) ?_
    obtain ⟨c6, hv⟩ := hv
    refine g_aZ h3 (show kt 2 20 by decide) (show alen 20 = 64 by decide) (h_add (h_mul LI_8 (show _ = Int32.ofInt x1 from rfl)) (show _ = Int32.ofInt x2 from rfl)) c6 ?_
    refine ek_if (c_eq (show _ = Int32.ofInt (S1 20 ((8 * x1) + x2)) from rfl) LI_0 (g_rI h3 (show kt 2 20 by decide) (by decide)) LI_0r) (fun g7 => ?_) (fun g7 => ?_)
    · replace hv := hv.1 g7
      refine g_fA h3 t_x0 rfl (rv_6_20 t_x0) ?_
      obtain ⟨c8, c9, hv⟩ := hv
      refine g_sZ h3 (show kt 2 20 by decide) (show alen 20 = 64 by decide) (h_add (h_mul LI_8 (show _ = Int32.ofInt x1 from rfl)) (show _ = Int32.ofInt x2 from rfl)) c8 LI_1 c9 (fun S10 N11 e13 h12 => ?_)
      replace hv := hv S10 e13
      refine ⟨g_ob h12 t_x0, ?_⟩
      refine apMo_told (fun r14 S15 N16 h17 r18 hv => ?_) rfl t_x0 LI_1 LI_1r h12 hv
      refine ⟨b01 (show _ = Int32.ofInt r14 from rfl) hv.1, ?_⟩
      replace hv := hv.2
      refine ek_v (P := fun y => post y _) (show _ = Int32.ofInt r14 from rfl) ?_
      exact hp _ _ _ h17 r18 hv
    · replace hv := hv.2 g7
      exact aMo_bars_52 hp   h3 hv
def vpMo_bars (self : Int) (p0 : Int) (p1 : Int) (S : St) (Q : Int → St → Prop) : Prop := (vpMo_noProduct self p0 S (fun (r1 : Int) (S2 : St) => (((r1 = 0 → (vpMo_isIn p1 0 7 S2 (fun (r7 : Int) (S8 : St) => (((r7 = 0 → (vMo_bars_28 Q self p0 p1 2 self S8)) ∧ (¬ r7 = 0 → (vMo_bars_28 Q self p0 p1 0 self S8))))))) ∧ (¬ r1 = 0 → (Q 0 S2))))))
theorem apMo_bars {ad : Int → Nat} {Q : Int → St → Prop} {post : Int32 → Hp → Prop} (hp : ∀ (r : Int) (S : St) (M : Hp), US ad S M → rI r → Q r S → post (Int32.ofInt r) M) {w_self : Nat} {self : Int} (e_self : w_self = ad self) (t_self : kt (20 + 6) self) {w_p0 : Int32} {p0 : Int} (e_p0 : w_p0 = Int32.ofInt p0) (r_p0 : rI p0) {w_p1 : Int32} {p1 : Int} (e_p1 : w_p1 = Int32.ofInt p1) (r_p1 : rI p1) {S : St} {M : Hp} (h : US ad S M) (hv : vpMo_bars self p0 p1 S Q) : wpMo_bars w_self w_p0 w_p1 M post := by
  subst e_self
  subst e_p0
  subst e_p1
  unfold vpMo_bars at hv
  unfold wpMo_bars
  refine ⟨g_ob h t_self, ?_⟩
  refine apMo_noProduct (fun r1 S2 N3 h4 r5 hv => ?_) rfl t_self (show _ = Int32.ofInt p0 from rfl) r_p0 h hv
  refine ek_if (c_eq (show _ = Int32.ofInt r1 from rfl) LI_0 r5 LI_0r) (fun g6 => ?_) (fun g6 => ?_)
  · replace hv := hv.1 g6
    refine apMo_isIn (fun r7 S8 N9 h10 r11 hv => ?_) (h_toL (show _ = Int32.ofInt p1 from rfl) r_p1) (rI_J r_p1) LJ_0 LJ_0r LJ_7 LJ_7r h4 hv
    refine ek_if (c_eq (show _ = Int32.ofInt r7 from rfl) LI_0 r11 LI_0r) (fun g12 => ?_) (fun g12 => ?_)
    · replace hv := hv.1 g12
      exact aMo_bars_28 hp  rfl t_self (show _ = Int32.ofInt p0 from rfl) r_p0 (show _ = Int32.ofInt p1 from rfl) r_p1 LI_2 LI_2r rfl t_self h10 hv
    · replace hv := hv.2 g12
      exact aMo_bars_28 hp  rfl t_self (show _ = Int32.ofInt p0 from rfl) r_p0 (show _ = Int32.ofInt p1 from rfl) r_p1 LI_0 LI_0r rfl t_self h10 hv
  · replace hv := hv.2 g6
    refine ek_v (P := fun y => post y _) LI_0 ?_
    exact hp _ _ _ h4 LI_0r hv
def vMo_isEnd_37 (Q : Int → St → Prop) (y0 : Int) (S : St) : Prop := (((y0 : Int) = 0 ∨ (y0 : Int) = 1) ∧ (Q y0 S))
theorem aMo_isEnd_37 {ad : Int → Nat} {Q : Int → St → Prop} {post : Int32 → Hp → Prop} (hp : ∀ (r : Int) (S : St) (M : Hp), US ad S M → rI r → Q r S → post (Int32.ofInt r) M) {w_y0 : Int32} {y0 : Int} (e_y0 : w_y0 = Int32.ofInt y0) (r_y0 : rI y0) {S : St} {M : Hp} (h : US ad S M) (hv : vMo_isEnd_37 Q y0 S) : wMo_isEnd_37 post w_y0 M := by
  subst e_y0
  unfold vMo_isEnd_37 at hv
  unfold wMo_isEnd_37
  refine ⟨b01 (show _ = Int32.ofInt y0 from rfl) hv.1, ?_⟩
  replace hv := hv.2
  refine ek_v (P := fun y => post y _) (show _ = Int32.ofInt y0 from rfl) ?_
  exact hp _ _ _ h r_y0 hv
def vMo_isEnd_36 (Q : Int → St → Prop) (S : St) : Prop := (vMo_isEnd_37 Q 0 S)
theorem aMo_isEnd_36 {ad : Int → Nat} {Q : Int → St → Prop} {post : Int32 → Hp → Prop} (hp : ∀ (r : Int) (S : St) (M : Hp), US ad S M → rI r → Q r S → post (Int32.ofInt r) M)  {S : St} {M : Hp} (h : US ad S M) (hv : vMo_isEnd_36 Q  S) : wMo_isEnd_36 post  M := by
  unfold vMo_isEnd_36 at hv
  unfold wMo_isEnd_36
  exact aMo_isEnd_37 hp  LI_0 LI_0r h hv
def vpMo_isEnd (self : Int) (p0 : Int) (S : St) (Q : Int → St → Prop) : Prop := (((p0 ≤ 0 → (vMo_isEnd_36 Q  S)) ∧ (¬ p0 ≤ 0 → (¬ (S self 1) = 0 ∧ (((0 : Int) ≤ p0 ∧ (p0 : Int) < 2147483648) ∧ ((0 : Int) < (S self 1) ∧ ((S self 1) : Int) < 2147483648) ∧ (rI (p0 % (S self 1))) ∧ (((p0 % (S self 1)) = 0 → (¬ (S self 1) = 0 ∧ ((rI ((S self 4) - 1)) ∧ vpMo_stepsOf self ((S self 4) - 1) S (fun (r7 : Int) (S8 : St) => (((0 : Int) ≤ p0 ∧ (p0 : Int) < 2147483648) ∧ ((0 : Int) < (S self 1) ∧ ((S self 1) : Int) < 2147483648) ∧ (rI (p0 / (S self 1))) ∧ ((r7 < (p0 / (S self 1)) → (vMo_isEnd_36 Q  S8)) ∧ (¬ r7 < (p0 / (S self 1)) → (vMo_isEnd_37 Q 1 S8)))))))) ∧ (¬ (p0 % (S self 1)) = 0 → (vMo_isEnd_36 Q  S))))))))
theorem apMo_isEnd {ad : Int → Nat} {Q : Int → St → Prop} {post : Int32 → Hp → Prop} (hp : ∀ (r : Int) (S : St) (M : Hp), US ad S M → rI r → Q r S → post (Int32.ofInt r) M) {w_self : Nat} {self : Int} (e_self : w_self = ad self) (t_self : kt (20 + 6) self) {w_p0 : Int32} {p0 : Int} (e_p0 : w_p0 = Int32.ofInt p0) (r_p0 : rI p0) {S : St} {M : Hp} (h : US ad S M) (hv : vpMo_isEnd self p0 S Q) : wpMo_isEnd w_self w_p0 M post := by
  subst e_self
  subst e_p0
  unfold vpMo_isEnd at hv
  unfold wpMo_isEnd
  refine ek_if (c_le (show _ = Int32.ofInt p0 from rfl) LI_0 r_p0 LI_0r) (fun g1 => ?_) (fun g1 => ?_)
  · replace hv := hv.1 g1
    exact aMo_isEnd_36 hp   h hv
  · replace hv := hv.2 g1
    refine g_fI h t_self rfl rfl ?_
    refine ⟨fun z => hv.1 ((c_eq (show _ = Int32.ofInt (S self 1) from rfl) LI_0 (g_rf (j := 1) h t_self rfl rfl) LI_0r).mp z), ?_⟩
    replace hv := hv.2
    obtain ⟨c2, c3, c4, hv⟩ := hv
    refine ek_if (c_eq (h_rem (show _ = Int32.ofInt p0 from rfl) (show _ = Int32.ofInt (S self 1) from rfl) c2 c3) LI_0 c4 LI_0r) (fun g5 => ?_) (fun g5 => ?_)
    · replace hv := hv.1 g5
      refine g_fI h t_self rfl rfl ?_
      refine ⟨fun z => hv.1 ((c_eq (show _ = Int32.ofInt (S self 1) from rfl) LI_0 (g_rf (j := 1) h t_self rfl rfl) LI_0r).mp z), ?_⟩
      replace hv := hv.2
      refine g_fI h t_self rfl rfl ?_
      refine ⟨g_ob h t_self, ?_⟩
      obtain ⟨c6, hv⟩ := hv
      refine apMo_stepsOf (fun r7 S8 N9 h10 r11 hv => ?_) rfl t_self (h_sub (show _ = Int32.ofInt (S self 4) from rfl) LI_1) c6 h hv
      obtain ⟨c12, c13, c14, hv⟩ := hv
      refine ek_if (c_lt (show _ = Int32.ofInt r7 from rfl) (h_div (show _ = Int32.ofInt p0 from rfl) (show _ = Int32.ofInt (S self 1) from rfl) c12 c13) r11 c14) (fun g15 => ?_) (fun g15 => ?_)
      · replace hv := hv.1 g15
        exact aMo_isEnd_36 hp   h10 hv
      · replace hv := hv.2 g15
        exact aMo_isEnd_37 hp  LI_1 LI_1r h10 hv
    · replace hv := hv.2 g5
      exact aMo_isEnd_36 hp   h hv
def vMo_force_60 (Q : Int → St → Prop) (S : St) : Prop := (Q 0 S)
theorem aMo_force_60 {ad : Int → Nat} {Q : Int → St → Prop} {post : Int32 → Hp → Prop} (hp : ∀ (r : Int) (S : St) (M : Hp), US ad S M → rI r → Q r S → post (Int32.ofInt r) M)  {S : St} {M : Hp} (h : US ad S M) (hv : vMo_force_60 Q  S) : wMo_force_60 post  M := by
  unfold vMo_force_60 at hv
  unfold wMo_force_60
  refine ek_v (P := fun y => post y _) LI_0 ?_
  exact hp _ _ _ h LI_0r hv
def vMo_force_18 (Q : Int → St → Prop) (x0 : Int) (x1 : Int) (y0 : Int) (y1 : Int) (S : St) : Prop := (∀ S1 : St, S1 = up S y1 0 y0 → (((0 < (S1 x0 0) → (vMo_force_60 Q  S1)) ∧ (¬ 0 < (S1 x0 0) → (vpMo_isEnd x0 x1 S1 (fun (r6 : Int) (S7 : St) => (((r6 = 0 → (vMo_force_60 Q  S7)) ∧ (¬ r6 = 0 → (¬ (S7 x0 1) = 0 ∧ (((0 : Int) ≤ x1 ∧ (x1 : Int) < 2147483648) ∧ ((0 : Int) < (S7 x0 1) ∧ ((S7 x0 1) : Int) < 2147483648) ∧ ((0 : Int) ≤ ((81 * ((S7 x0 4) - 1)) + (x1 / (S7 x0 1))) ∧ (((81 * ((S7 x0 4) - 1)) + (x1 / (S7 x0 1))) : Int) < 486) ∧ ((((S7 13 ((81 * ((S7 x0 4) - 1)) + (x1 / (S7 x0 1)))) = 0 → (¬ (S7 x0 1) = 0 ∧ (((0 : Int) ≤ x1 ∧ (x1 : Int) < 2147483648) ∧ ((0 : Int) < (S7 x0 1) ∧ ((S7 x0 1) : Int) < 2147483648) ∧ ((0 : Int) ≤ ((81 * ((S7 x0 4) - 1)) + (x1 / (S7 x0 1))) ∧ (((81 * ((S7 x0 4) - 1)) + (x1 / (S7 x0 1))) : Int) < 486) ∧ ((1 : Int) = 0 ∨ (1 : Int) = 1) ∧ ∀ S20 : St, S20 = up S7 13 ((81 * ((S7 x0 4) - 1)) + (x1 / (S7 x0 1))) 1 → (vpMo_told x0 1 S20 (fun (r24 : Int) (S25 : St) => (((r24 : Int) = 0 ∨ (r24 : Int) = 1) ∧ (Q r24 S25))))))) ∧ (¬ (S7 13 ((81 * ((S7 x0 4) - 1)) + (x1 / (S7 x0 1)))) = 0 → (vMo_force_60 Q  S7)))))))))))))))
theorem aMo_force_18 {ad : Int → Nat} {Q : Int → St → Prop} {post : Int32 → Hp → Prop} (hp : ∀ (r : Int) (S : St) (M : Hp), US ad S M → rI r → Q r S → post (Int32.ofInt r) M) {w_x0 : Nat} {x0 : Int} (e_x0 : w_x0 = ad x0) (t_x0 : kt (20 + 6) x0) {w_x1 : Int32} {x1 : Int} (e_x1 : w_x1 = Int32.ofInt x1) (r_x1 : rI x1) {w_y0 : Int32} {y0 : Int} (e_y0 : w_y0 = Int32.ofInt y0) (r_y0 : rI y0) {w_y1 : Nat} {y1 : Int} (e_y1 : w_y1 = ad y1) (t_y1 : kt (20 + 6) y1) {S : St} {M : Hp} (h : US ad S M) (hv : vMo_force_18 Q x0 x1 y0 y1 S) : wMo_force_18 post w_x0 w_x1 w_y0 w_y1 M := by
  subst e_x0
  subst e_x1
  subst e_y0
  subst e_y1
  unfold vMo_force_18 at hv
  unfold wMo_force_18
  refine g_pI h t_y1 rfl rfl (show _ = Int32.ofInt y0 from rfl) r_y0 (fun S1 N2 e4 h3 => ?_)
  replace hv := hv S1 e4
  refine g_fI h3 t_x0 rfl rfl ?_
  refine ek_if (c_lt LI_0 (show _ = Int32.ofInt (S1 x0 0) from rfl) LI_0r (g_rf (j := 0) h3 t_x0 rfl rfl)) (fun g5 => ?_) (fun g5 => ?_)
  · replace hv := hv.1 g5
    exact aMo_force_60 hp   h3 hv
  · replace hv := hv.2 g5
    refine ⟨g_ob h3 t_x0, ?_⟩
    refine apMo_isEnd (fun r6 S7 N8 h9 r10 hv => ?_) rfl t_x0 (show _ = Int32.ofInt x1 from rfl) r_x1 h3 hv
    refine ek_if (c_eq (show _ = Int32.ofInt r6 from rfl) LI_0 r10 LI_0r) (fun g11 => ?_) (fun g11 => ?_)
    · replace hv := hv.1 g11
      exact aMo_force_60 hp   h9 hv
    · replace hv := hv.2 g11
      refine g_fA h9 t_x0 rfl (rv_6_13 t_x0) ?_
      refine g_fI h9 t_x0 rfl rfl ?_
      refine g_fI h9 t_x0 rfl rfl ?_
      refine ⟨fun z => hv.1 ((c_eq (show _ = Int32.ofInt (S7 x0 1) from rfl) LI_0 (g_rf (j := 1) h9 t_x0 rfl rfl) LI_0r).mp z), ?_⟩
      replace hv := hv.2
      obtain ⟨c12, c13, c14, hv⟩ := hv
      refine g_aZ h9 (show kt 2 13 by decide) (show alen 13 = 486 by decide) (h_add (h_mul LI_81 (h_sub (show _ = Int32.ofInt (S7 x0 4) from rfl) LI_1)) (h_div (show _ = Int32.ofInt x1 from rfl) (show _ = Int32.ofInt (S7 x0 1) from rfl) c12 c13)) c14 ?_
      refine ek_if (c_eq (show _ = Int32.ofInt (S7 13 ((81 * ((S7 x0 4) - 1)) + (x1 / (S7 x0 1)))) from rfl) LI_0 (g_rI h9 (show kt 2 13 by decide) (by decide)) LI_0r) (fun g15 => ?_) (fun g15 => ?_)
      · replace hv := hv.1 g15
        refine g_fA h9 t_x0 rfl (rv_6_13 t_x0) ?_
        refine g_fI h9 t_x0 rfl rfl ?_
        refine g_fI h9 t_x0 rfl rfl ?_
        refine ⟨fun z => hv.1 ((c_eq (show _ = Int32.ofInt (S7 x0 1) from rfl) LI_0 (g_rf (j := 1) h9 t_x0 rfl rfl) LI_0r).mp z), ?_⟩
        replace hv := hv.2
        obtain ⟨c16, c17, c18, c19, hv⟩ := hv
        refine g_sZ h9 (show kt 2 13 by decide) (show alen 13 = 486 by decide) (h_add (h_mul LI_81 (h_sub (show _ = Int32.ofInt (S7 x0 4) from rfl) LI_1)) (h_div (show _ = Int32.ofInt x1 from rfl) (show _ = Int32.ofInt (S7 x0 1) from rfl) c16 c17)) c18 LI_1 c19 (fun S20 N21 e23 h22 => ?_)
        replace hv := hv S20 e23
        refine ⟨g_ob h22 t_x0, ?_⟩
        refine apMo_told (fun r24 S25 N26 h27 r28 hv => ?_) rfl t_x0 LI_1 LI_1r h22 hv
        refine ⟨b01 (show _ = Int32.ofInt r24 from rfl) hv.1, ?_⟩
        replace hv := hv.2
        refine ek_v (P := fun y => post y _) (show _ = Int32.ofInt r24 from rfl) ?_
        exact hp _ _ _ h27 r28 hv
      · replace hv := hv.2 g15
        exact aMo_force_60 hp   h9 hv
def vpMo_force (self : Int) (p0 : Int) (S : St) (Q : Int → St → Prop) : Prop := (vpMo_isIn p0 0 10000000 S (fun (r1 : Int) (S2 : St) => (((r1 = 0 → (vMo_force_18 Q self p0 1 self S2)) ∧ (¬ r1 = 0 → (vMo_force_18 Q self p0 0 self S2))))))
theorem apMo_force {ad : Int → Nat} {Q : Int → St → Prop} {post : Int32 → Hp → Prop} (hp : ∀ (r : Int) (S : St) (M : Hp), US ad S M → rI r → Q r S → post (Int32.ofInt r) M) {w_self : Nat} {self : Int} (e_self : w_self = ad self) (t_self : kt (20 + 6) self) {w_p0 : Int32} {p0 : Int} (e_p0 : w_p0 = Int32.ofInt p0) (r_p0 : rI p0) {S : St} {M : Hp} (h : US ad S M) (hv : vpMo_force self p0 S Q) : wpMo_force w_self w_p0 M post := by
  subst e_self
  subst e_p0
  unfold vpMo_force at hv
  unfold wpMo_force
  refine apMo_isIn (fun r1 S2 N3 h4 r5 hv => ?_) (h_toL (show _ = Int32.ofInt p0 from rfl) r_p0) (rI_J r_p0) LJ_0 LJ_0r LJ_10000000 LJ_10000000r h hv
  refine ek_if (c_eq (show _ = Int32.ofInt r1 from rfl) LI_0 r5 LI_0r) (fun g6 => ?_) (fun g6 => ?_)
  · replace hv := hv.1 g6
    exact aMo_force_18 hp  rfl t_self (show _ = Int32.ofInt p0 from rfl) r_p0 LI_1 LI_1r rfl t_self h4 hv
  · replace hv := hv.2 g6
    exact aMo_force_18 hp  rfl t_self (show _ = Int32.ofInt p0 from rfl) r_p0 LI_0 LI_0r rfl t_self h4 hv
