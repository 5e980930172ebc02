def vSt_isTooBad_35 (Q : Int → St → Prop) (y0 : Int) (S : St) : Prop := (((y0 : Int) = 0 ∨ (y0 : Int) = 1) ∧ (Q y0 S))
theorem aSt_isTooBad_35 {ad : Int → Nat} {Q : Int → St → Prop} {post : Int32 → Hp → Prop} (hp : ∀ (r : Int) (S : St) (M : Hp), US ad S M → rI r → Q r S → post (Int32.ofInt r) M) {w_y0 : Int32} {y0 : Int} (e_y0 : w_y0 = Int32.ofInt y0) (r_y0 : rI y0) {S : St} {M : Hp} (h : US ad S M) (hv : vSt_isTooBad_35 Q y0 S) : wSt_isTooBad_35 post w_y0 M := by
  subst e_y0
  unfold vSt_isTooBad_35 at hv
  unfold wSt_isTooBad_35
  refine ⟨b01 (show _ = Int32.ofInt y0 from rfl) hv.1, ?_⟩
  replace hv := hv.2
  refine ek_v (P := fun y => post y _) (show _ = Int32.ofInt y0 from rfl) ?_
  exact hp _ _ _ h r_y0 hv
def vSt_isTooBad_30 (Q : Int → St → Prop) (S : St) : Prop := (vSt_isTooBad_35 Q 1 S)
theorem aSt_isTooBad_30 {ad : Int → Nat} {Q : Int → St → Prop} {post : Int32 → Hp → Prop} (hp : ∀ (r : Int) (S : St) (M : Hp), US ad S M → rI r → Q r S → post (Int32.ofInt r) M)  {S : St} {M : Hp} (h : US ad S M) (hv : vSt_isTooBad_30 Q  S) : wSt_isTooBad_30 post  M := by
  unfold vSt_isTooBad_30 at hv
  unfold wSt_isTooBad_30
  exact aSt_isTooBad_35 hp  LI_1 LI_1r h hv
def vpSt_isTooBad (self : Int) (p0 : Int) (p1 : Int) (p2 : Int) (S : St) (Q : Int → St → Prop) : Prop := (((0 : Int) ≤ p0 ∧ (p0 : Int) < 60) ∧ ((rI ((S (self + 3) p0) - p2)) ∧ ((((S (self + 3) p0) - p2) < (S p1 5) → (vSt_isTooBad_30 Q  S)) ∧ (¬ ((S (self + 3) p0) - p2) < (S p1 5) → (((0 : Int) ≤ p0 ∧ (p0 : Int) < 60) ∧ ((rI ((S (self + 4) p0) + p2)) ∧ ((((S (self + 4) p0) + p2) ≤ (S p1 6) → (vSt_isTooBad_35 Q 0 S)) ∧ (¬ ((S (self + 4) p0) + p2) ≤ (S p1 6) → (vSt_isTooBad_30 Q  S)))))))))
theorem apSt_isTooBad {ad : Int → Nat} {Q : Int → St → Prop} {post : Int32 → Hp → Prop} (hp : ∀ (r : Int) (S : St) (M : Hp), US ad S M → rI r → Q r S → post (Int32.ofInt r) M) {w_self : Nat} {self : Int} (e_self : w_self = ad self) (t_self : kt (20 + 1) self) {w_p0 : Int32} {p0 : Int} (e_p0 : w_p0 = Int32.ofInt p0) (r_p0 : rI p0) {w_p1 : Nat} {p1 : Int} (e_p1 : w_p1 = ad p1) (t_p1 : kt (20 + 2) p1) {w_p2 : Int32} {p2 : Int} (e_p2 : w_p2 = Int32.ofInt p2) (r_p2 : rI p2) {S : St} {M : Hp} (h : US ad S M) (hv : vpSt_isTooBad self p0 p1 p2 S Q) : wpSt_isTooBad w_self w_p0 w_p1 w_p2 M post := by
  subst e_self
  subst e_p0
  subst e_p1
  subst e_p2
  unfold vpSt_isTooBad at hv
  unfold wpSt_isTooBad
  refine g_fA h t_self rfl (rv_1_2 t_self) ?_
  obtain ⟨c1, hv⟩ := hv
  refine g_aI h (kt_1_2 t_self) (al_1_2 t_self) (show _ = Int32.ofInt p0 from rfl) c1 ?_
  refine g_fI h t_p1 rfl rfl ?_
  obtain ⟨c2, hv⟩ := hv
  refine ek_if (c_lt (h_sub (show _ = Int32.ofInt (S (self + 3) p0) from rfl) (show _ = Int32.ofInt p2 from rfl)) (show _ = Int32.ofInt (S p1 5) from rfl) c2 (g_rf (j := 5) h t_p1 rfl rfl)) (fun g3 => ?_) (fun g3 => ?_)
  · replace hv := hv.1 g3
    exact aSt_isTooBad_30 hp   h hv
  · replace hv := hv.2 g3
    refine g_fA h t_self rfl (rv_1_3 t_self) ?_
    obtain ⟨c4, hv⟩ := hv
    refine g_aI h (kt_1_3 t_self) (al_1_3 t_self) (show _ = Int32.ofInt p0 from rfl) c4 ?_
    refine g_fI h t_p1 rfl rfl ?_
    obtain ⟨c5, hv⟩ := hv
    refine ek_if (c_le (h_add (show _ = Int32.ofInt (S (self + 4) p0) from rfl) (show _ = Int32.ofInt p2 from rfl)) (show _ = Int32.ofInt (S p1 6) from rfl) c5 (g_rf (j := 6) h t_p1 rfl rfl)) (fun g6 => ?_) (fun g6 => ?_)
    · replace hv := hv.1 g6
      exact aSt_isTooBad_35 hp  LI_0 LI_0r h hv
    · replace hv := hv.2 g6
      exact aSt_isTooBad_30 hp   h hv
def vSt_narrowByPoints_134 (Q : St → Prop) (K20 : Int → Int → Int → Int → Int → Int → Int → St → Prop) (x0 : Int) (x1 : Int) (x2 : Int) (x3 : Int) (x4 : Int) (x5 : Int) (x6 : Int) (S : St) : Prop := ((rI (x6 + (-1))) ∧ ∀ z1 : Int, z1 = (x6 + (-1)) → (K20 x0 x1 x2 x3 x4 x5 z1 S))
theorem aSt_narrowByPoints_134 {ad : Int → Nat} {Q : St → Prop} {K20 : Int → Int → Int → Int → Int → Int → Int → St → Prop} {post : Hp → Prop} {k20 : Nat → Nat → Nat → Int32 → Int32 → Int32 → Int32 → Hp → Prop} (hp : ∀ (S : St) (M : Hp), US ad S M → Q S → post M) (hk20 : ∀ (b0 b1 b2 b3 b4 b5 b6 : Int) (S : St) (M : Hp), kt (20 + 1) b0 → kt 1 b1 → kt (20 + 2) b2 → rI b3 → rI b4 → rI b5 → rI b6 → US ad S M → K20 b0 b1 b2 b3 b4 b5 b6 S → k20 (ad b0) (ad b1) (ad b2) (Int32.ofInt b3) (Int32.ofInt b4) (Int32.ofInt b5) (Int32.ofInt b6) M) {w_x0 : Nat} {x0 : Int} (e_x0 : w_x0 = ad x0) (t_x0 : kt (20 + 1) x0) {w_x1 : Nat} {x1 : Int} (e_x1 : w_x1 = ad x1) (t_x1 : kt 1 x1) {w_x2 : Nat} {x2 : Int} (e_x2 : w_x2 = ad x2) (t_x2 : kt (20 + 2) x2) {w_x3 : Int32} {x3 : Int} (e_x3 : w_x3 = Int32.ofInt x3) (r_x3 : rI x3) {w_x4 : Int32} {x4 : Int} (e_x4 : w_x4 = Int32.ofInt x4) (r_x4 : rI x4) {w_x5 : Int32} {x5 : Int} (e_x5 : w_x5 = Int32.ofInt x5) (r_x5 : rI x5) {w_x6 : Int32} {x6 : Int} (e_x6 : w_x6 = Int32.ofInt x6) (r_x6 : rI x6) {S : St} {M : Hp} (h : US ad S M) (hv : vSt_narrowByPoints_134 Q K20 x0 x1 x2 x3 x4 x5 x6 S) : wSt_narrowByPoints_134 post k20 w_x0 w_x1 w_x2 w_x3 w_x4 w_x5 w_x6 M := by
  subst e_x0
  subst e_x1
  subst e_x2
  subst e_x3
  subst e_x4
  subst e_x5
  subst e_x6
  unfold vSt_narrowByPoints_134 at hv
  unfold wSt_narrowByPoints_134
  obtain ⟨c1, hv⟩ := hv
  refine nm_z (h_add (show _ = Int32.ofInt x6 from rfl) LI_m1) (fun z1 e2 => ?_)
  have r3 : rI z1 := by rw [e2]; exact c1
  replace hv := hv z1 e2
  exact hk20 _ _ _ _ _ _ _ _ _ t_x0 t_x1 t_x2 r_x3 r_x4 r_x5 r3 h hv
def vSt_narrowByPoints_77 (Q : St → Prop) (K20 : Int → Int → Int → Int → Int → Int → Int → St → Prop) (x0 : Int) (x1 : Int) (x2 : Int) (x3 : Int) (x4 : Int) (x5 : Int) (x6 : Int) (S : St) : Prop := (((x5 = x4 → (((0 : Int) ≤ x6 ∧ (x6 : Int) < (alen x1)) ∧ (((0 : Int) ≤ x6 ∧ (x6 : Int) < (alen x1)) ∧ (rI (min x6 (S x1 x6))) ∧ ∀ S5 : St, S5 = up S x1 x6 (min x6 (S x1 x6)) → (vSt_narrowByPoints_134 Q K20 x0 x1 x2 x3 x4 x5 x6 S5)))) ∧ (¬ x5 = x4 → ((((S x0 9) ≤ x5 → (vSt_narrowByPoints_134 Q K20 x0 x1 x2 x3 x4 x5 x6 S)) ∧ (¬ (S x0 9) ≤ x5 → (((0 : Int) ≤ x6 ∧ (x6 : Int) < (alen x1)) ∧ (((0 : Int) ≤ (x5 - 1) ∧ ((x5 - 1) : Int) < 60) ∧ (¬ (S x0 0) = 0 ∧ (((0 : Int) ≤ (S (x0 + 2) (x5 - 1)) ∧ ((S (x0 + 2) (x5 - 1)) : Int) < 2147483648) ∧ ((0 : Int) < (S x0 0) ∧ ((S x0 0) : Int) < 2147483648) ∧ (rI ((S (x0 + 2) (x5 - 1)) / (S x0 0))) ∧ ((0 : Int) ≤ x6 ∧ (x6 : Int) < (alen x1)) ∧ (rI (min ((S (x0 + 2) (x5 - 1)) / (S x0 0)) (S x1 x6))) ∧ ∀ S17 : St, S17 = up S x1 x6 (min ((S (x0 + 2) (x5 - 1)) / (S x0 0)) (S x1 x6)) → (vSt_narrowByPoints_134 Q K20 x0 x1 x2 x3 x4 x5 x6 S17)))))))))))
theorem aSt_narrowByPoints_77 {ad : Int → Nat} {Q : St → Prop} {K20 : Int → Int → Int → Int → Int → Int → Int → St → Prop} {post : Hp → Prop} {k20 : Nat → Nat → Nat → Int32 → Int32 → Int32 → Int32 → Hp → Prop} (hp : ∀ (S : St) (M : Hp), US ad S M → Q S → post M) (hk20 : ∀ (b0 b1 b2 b3 b4 b5 b6 : Int) (S : St) (M : Hp), kt (20 + 1) b0 → kt 1 b1 → kt (20 + 2) b2 → rI b3 → rI b4 → rI b5 → rI b6 → US ad S M → K20 b0 b1 b2 b3 b4 b5 b6 S → k20 (ad b0) (ad b1) (ad b2) (Int32.ofInt b3) (Int32.ofInt b4) (Int32.ofInt b5) (Int32.ofInt b6) M) {w_x0 : Nat} {x0 : Int} (e_x0 : w_x0 = ad x0) (t_x0 : kt (20 + 1) x0) {w_x1 : Nat} {x1 : Int} (e_x1 : w_x1 = ad x1) (t_x1 : kt 1 x1) {w_x2 : Nat} {x2 : Int} (e_x2 : w_x2 = ad x2) (t_x2 : kt (20 + 2) x2) {w_x3 : Int32} {x3 : Int} (e_x3 : w_x3 = Int32.ofInt x3) (r_x3 : rI x3) {w_x4 : Int32} {x4 : Int} (e_x4 : w_x4 = Int32.ofInt x4) (r_x4 : rI x4) {w_x5 : Int32} {x5 : Int} (e_x5 : w_x5 = Int32.ofInt x5) (r_x5 : rI x5) {w_x6 : Int32} {x6 : Int} (e_x6 : w_x6 = Int32.ofInt x6) (r_x6 : rI x6) {S : St} {M : Hp} (h : US ad S M) (hv : vSt_narrowByPoints_77 Q K20 x0 x1 x2 x3 x4 x5 x6 S) : wSt_narrowByPoints_77 post k20 w_x0 w_x1 w_x2 w_x3 w_x4 w_x5 w_x6 M := by
  subst e_x0
  subst e_x1
  subst e_x2
  subst e_x3
  subst e_x4
  subst e_x5
  subst e_x6
  unfold vSt_narrowByPoints_77 at hv
  unfold wSt_narrowByPoints_77
  refine ek_if (c_eq (show _ = Int32.ofInt x5 from rfl) (show _ = Int32.ofInt x4 from rfl) r_x5 r_x4) (fun g1 => ?_) (fun g1 => ?_)
  · replace hv := hv.1 g1
    obtain ⟨c2, hv⟩ := hv
    refine g_aI h t_x1 rfl (show _ = Int32.ofInt x6 from rfl) c2 ?_
    obtain ⟨c3, c4, hv⟩ := hv
    refine g_sI h t_x1 rfl (show _ = Int32.ofInt x6 from rfl) c3 (h_min (show _ = Int32.ofInt x6 from rfl) (show _ = Int32.ofInt (S x1 x6) from rfl) r_x6 (g_rI h t_x1 (by decide))) c4 (fun S5 N6 e8 h7 => ?_)
    replace hv := hv S5 e8
    exact aSt_narrowByPoints_134 hp hk20 rfl t_x0 rfl t_x1 rfl t_x2 (show _ = Int32.ofInt x3 from rfl) r_x3 (show _ = Int32.ofInt x4 from rfl) r_x4 (show _ = Int32.ofInt x5 from rfl) r_x5 (show _ = Int32.ofInt x6 from rfl) r_x6 h7 hv
  · replace hv := hv.2 g1
    refine g_fI h t_x0 rfl rfl ?_
    refine ek_if (c_le (show _ = Int32.ofInt (S x0 9) from rfl) (show _ = Int32.ofInt x5 from rfl) (g_rf (j := 9) h t_x0 rfl rfl) r_x5) (fun g9 => ?_) (fun g9 => ?_)
    · replace hv := hv.1 g9
      exact aSt_narrowByPoints_134 hp hk20 rfl t_x0 rfl t_x1 rfl t_x2 (show _ = Int32.ofInt x3 from rfl) r_x3 (show _ = Int32.ofInt x4 from rfl) r_x4 (show _ = Int32.ofInt x5 from rfl) r_x5 (show _ = Int32.ofInt x6 from rfl) r_x6 h hv
    · replace hv := hv.2 g9
      obtain ⟨c10, hv⟩ := hv
      refine g_aI h t_x1 rfl (show _ = Int32.ofInt x6 from rfl) c10 ?_
      refine g_fA h t_x0 rfl (rv_1_1 t_x0) ?_
      obtain ⟨c11, hv⟩ := hv
      refine g_aI h (kt_1_1 t_x0) (al_1_1 t_x0) (h_sub (show _ = Int32.ofInt x5 from rfl) LI_1) c11 ?_
      refine g_fI h t_x0 rfl rfl ?_
      refine ⟨fun z => hv.1 ((c_eq (show _ = Int32.ofInt (S x0 0) from rfl) LI_0 (g_rf (j := 0) h t_x0 rfl rfl) LI_0r).mp z), ?_⟩
      replace hv := hv.2
      obtain ⟨c12, c13, c14, c15, c16, hv⟩ := hv
      refine g_sI h t_x1 rfl (show _ = Int32.ofInt x6 from rfl) c15 (h_min (h_div (show _ = Int32.ofInt (S (x0 + 2) (x5 - 1)) from rfl) (show _ = Int32.ofInt (S x0 0) from rfl) c12 c13) (show _ = Int32.ofInt (S x1 x6) from rfl) c14 (g_rI h t_x1 (by decide))) c16 (fun S17 N18 e20 h19 => ?_)
      replace hv := hv S17 e20
      exact aSt_narrowByPoints_134 hp hk20 rfl t_x0 rfl t_x1 rfl t_x2 (show _ = Int32.ofInt x3 from rfl) r_x3 (show _ = Int32.ofInt x4 from rfl) r_x4 (show _ = Int32.ofInt x5 from rfl) r_x5 (show _ = Int32.ofInt x6 from rfl) r_x6 h19 hv
def vSt_narrowByPoints_56 (Q : St → Prop) (K20 : Int → Int → Int → Int → Int → Int → Int → St → Prop) (K25 : Int → Int → Int → Int → Int → Int → Int → St → Prop) (x0 : Int) (x1 : Int) (x2 : Int) (x3 : Int) (x4 : Int) (x5 : Int) (x6 : Int) (S : St) : Prop := ((rI (x4 + (-1))) ∧ ∀ z42 : Int, z42 = (x4 + (-1)) → (vpSt_isTooBad x0 z42 x2 x3 S (fun (r4 : Int) (S5 : St) => (((r4 = 0 → (K25 x0 x1 x2 x3 z42 x5 x6 S5)) ∧ (¬ r4 = 0 → (K25 x0 x1 x2 x3 z42 z42 x6 S5)))))))
theorem aSt_narrowByPoints_56 {ad : Int → Nat} {Q : St → Prop} {K20 : Int → Int → Int → Int → Int → Int → Int → St → Prop} {K25 : Int → Int → Int → Int → Int → Int → Int → St → Prop} {post : Hp → Prop} {k20 : Nat → Nat → Nat → Int32 → Int32 → Int32 → Int32 → Hp → Prop} {k25 : Nat → Nat → Nat → Int32 → Int32 → Int32 → Int32 → Hp → Prop} (hp : ∀ (S : St) (M : Hp), US ad S M → Q S → post M) (hk20 : ∀ (b0 b1 b2 b3 b4 b5 b6 : Int) (S : St) (M : Hp), kt (20 + 1) b0 → kt 1 b1 → kt (20 + 2) b2 → rI b3 → rI b4 → rI b5 → rI b6 → US ad S M → K20 b0 b1 b2 b3 b4 b5 b6 S → k20 (ad b0) (ad b1) (ad b2) (Int32.ofInt b3) (Int32.ofInt b4) (Int32.ofInt b5) (Int32.ofInt b6) M) (hk25 : ∀ (b0 b1 b2 b3 b4 b5 b6 : Int) (S : St) (M : Hp), kt (20 + 1) b0 → kt 1 b1 → kt (20 + 2) b2 → rI b3 → rI b4 → rI b5 → rI b6 → US ad S M → K25 b0 b1 b2 b3 b4 b5 b6 S → k25 (ad b0) (ad b1) (ad b2) (Int32.ofInt b3) (Int32.ofInt b4) (Int32.ofInt b5) (Int32.ofInt b6) M) {w_x0 : Nat} {x0 : Int} (e_x0 : w_x0 = ad x0) (t_x0 : kt (20 + 1) x0) {w_x1 : Nat} {x1 : Int} (e_x1 : w_x1 = ad x1) (t_x1 : kt 1 x1) {w_x2 : Nat} {x2 : Int} (e_x2 : w_x2 = ad x2) (t_x2 : kt (20 + 2) x2) {w_x3 : Int32} {x3 : Int} (e_x3 : w_x3 = Int32.ofInt x3) (r_x3 : rI x3) {w_x4 : Int32} {x4 : Int} (e_x4 : w_x4 = Int32.ofInt x4) (r_x4 : rI x4) {w_x5 : Int32} {x5 : Int} (e_x5 : w_x5 = Int32.ofInt x5) (r_x5 : rI x5) {w_x6 : Int32} {x6 : Int} (e_x6 : w_x6 = Int32.ofInt x6) (r_x6 : rI x6) {S : St} {M : Hp} (h : US ad S M) (hv : vSt_narrowByPoints_56 Q K20 K25 x0 x1 x2 x3 x4 x5 x6 S) : wSt_narrowByPoints_56 post k20 k25 w_x0 w_x1 w_x2 w_x3 w_x4 w_x5 w_x6 M := by
  subst e_x0
  subst e_x1
  subst e_x2
  subst e_x3
  subst e_x4
  subst e_x5
  subst e_x6
  unfold vSt_narrowByPoints_56 at hv
  unfold wSt_narrowByPoints_56
  obtain ⟨c1, hv⟩ := hv
  refine nm_z (h_add (show _ = Int32.ofInt x4 from rfl) LI_m1) (fun z42 e2 => ?_)
  have r3 : rI z42 := by rw [e2]; exact c1
  replace hv := hv z42 e2
  refine ⟨g_ob h t_x0, ?_⟩
  refine apSt_isTooBad (fun r4 S5 N6 h7 r8 hv => ?_) rfl t_x0 (show _ = Int32.ofInt z42 from rfl) r3 rfl t_x2 (show _ = Int32.ofInt x3 from rfl) r_x3 h hv
  refine ek_if (c_eq (show _ = Int32.ofInt r4 from rfl) LI_0 r8 LI_0r) (fun g9 => ?_) (fun g9 => ?_)
  · replace hv := hv.1 g9
    exact hk25 _ _ _ _ _ _ _ _ _ t_x0 t_x1 t_x2 r_x3 r3 r_x5 r_x6 h7 hv
  · replace hv := hv.2 g9
    exact hk25 _ _ _ _ _ _ _ _ _ t_x0 t_x1 t_x2 r_x3 r3 r3 r_x6 h7 hv
def vSt_narrowByPoints_25 (Q : St → Prop) (K20 : Int → Int → Int → Int → Int → Int → Int → St → Prop) : Nat → Int → Int → Int → Int → Int → Int → Int → St → Prop
  | 0 => fun _ _ _ _ _ _ _ _ => False
  | n + 1 => fun x0 x1 x2 x3 x4 x5 x6 S => (((x4 ≤ 0 → (vSt_narrowByPoints_77 Q K20 x0 x1 x2 x3 x4 x5 x6 S)) ∧ (¬ x4 ≤ 0 → (((x4 = (S x0 9) → (vSt_narrowByPoints_56 Q K20 (vSt_narrowByPoints_25 Q K20 n) x0 x1 x2 x3 x4 x5 x6 S)) ∧ (¬ x4 = (S x0 9) → (((0 : Int) ≤ x4 ∧ (x4 : Int) < 60) ∧ ((rI (x6 * (S x0 0))) ∧ (((S (x0 + 2) x4) ≤ (x6 * (S x0 0)) → (vSt_narrowByPoints_77 Q K20 x0 x1 x2 x3 x4 x5 x6 S)) ∧ (¬ (S (x0 + 2) x4) ≤ (x6 * (S x0 0)) → (vSt_narrowByPoints_56 Q K20 (vSt_narrowByPoints_25 Q K20 n) x0 x1 x2 x3 x4 x5 x6 S)))))))))))
theorem aSt_narrowByPoints_25 {ad : Int → Nat} {Q : St → Prop} {K20 : Int → Int → Int → Int → Int → Int → Int → St → Prop} {post : Hp → Prop} {k20 : Nat → Nat → Nat → Int32 → Int32 → Int32 → Int32 → Hp → Prop} (hp : ∀ (S : St) (M : Hp), US ad S M → Q S → post M) (hk20 : ∀ (b0 b1 b2 b3 b4 b5 b6 : Int) (S : St) (M : Hp), kt (20 + 1) b0 → kt 1 b1 → kt (20 + 2) b2 → rI b3 → rI b4 → rI b5 → rI b6 → US ad S M → K20 b0 b1 b2 b3 b4 b5 b6 S → k20 (ad b0) (ad b1) (ad b2) (Int32.ofInt b3) (Int32.ofInt b4) (Int32.ofInt b5) (Int32.ofInt b6) M) : ∀ (n : Nat) (w_x0 : Nat) (x0 : Int) (e_x0 : w_x0 = ad x0) (t_x0 : kt (20 + 1) x0) (w_x1 : Nat) (x1 : Int) (e_x1 : w_x1 = ad x1) (t_x1 : kt 1 x1) (w_x2 : Nat) (x2 : Int) (e_x2 : w_x2 = ad x2) (t_x2 : kt (20 + 2) x2) (w_x3 : Int32) (x3 : Int) (e_x3 : w_x3 = Int32.ofInt x3) (r_x3 : rI x3) (w_x4 : Int32) (x4 : Int) (e_x4 : w_x4 = Int32.ofInt x4) (r_x4 : rI x4) (w_x5 : Int32) (x5 : Int) (e_x5 : w_x5 = Int32.ofInt x5) (r_x5 : rI x5) (w_x6 : Int32) (x6 : Int) (e_x6 : w_x6 = Int32.ofInt x6) (r_x6 : rI x6) (S : St) (M : Hp), US ad S M → vSt_narrowByPoints_25 Q K20 n x0 x1 x2 x3 x4 x5 x6 S → wSt_narrowByPoints_25 post k20 n w_x0 w_x1 w_x2 w_x3 w_x4 w_x5 w_x6 M := by
  intro n
  induction n with
  | zero => intro w_x0 x0 e_x0 t_x0 w_x1 x1 e_x1 t_x1 w_x2 x2 e_x2 t_x2 w_x3 x3 e_x3 r_x3 w_x4 x4 e_x4 r_x4 w_x5 x5 e_x5 r_x5 w_x6 x6 e_x6 r_x6 S M h hv; exact hv.elim
  | succ n ih =>
    intro w_x0 x0 e_x0 t_x0 w_x1 x1 e_x1 t_x1 w_x2 x2 e_x2 t_x2 w_x3 x3 e_x3 r_x3 w_x4 x4 e_x4 r_x4 w_x5 x5 e_x5 r_x5 w_x6 x6 e_x6 r_x6 S M h hv
    subst e_x0
    subst e_x1
    subst e_x2
    subst e_x3
    subst e_x4
    subst e_x5
    subst e_x6
    unfold vSt_narrowByPoints_25 at hv
    unfold wSt_narrowByPoints_25
    refine ek_if (c_le (show _ = Int32.ofInt x4 from rfl) LI_0 r_x4 LI_0r) (fun g1 => ?_) (fun g1 => ?_)
    · replace hv := hv.1 g1
      exact aSt_narrowByPoints_77 hp hk20 rfl t_x0 rfl t_x1 rfl t_x2 (show _ = Int32.ofInt x3 from rfl) r_x3 (show _ = Int32.ofInt x4 from rfl) r_x4 (show _ = Int32.ofInt x5 from rfl) r_x5 (show _ = Int32.ofInt x6 from rfl) r_x6 h hv
    · replace hv := hv.2 g1
      refine g_fI h t_x0 rfl rfl ?_
      refine ek_if (c_eq (show _ = Int32.ofInt x4 from rfl) (show _ = Int32.ofInt (S x0 9) from rfl) r_x4 (g_rf (j := 9) h t_x0 rfl rfl)) (fun g2 => ?_) (fun g2 => ?_)
      · replace hv := hv.1 g2
        exact aSt_narrowByPoints_56 hp hk20 (fun b0 b1 b2 b3 b4 b5 b6 S9 M9 y0 y1 y2 y3 y4 y5 y6 h9 hv9 => ih _ b0 rfl y0 _ b1 rfl y1 _ b2 rfl y2 _ b3 rfl y3 _ b4 rfl y4 _ b5 rfl y5 _ b6 rfl y6 S9 M9 h9 hv9) rfl t_x0 rfl t_x1 rfl t_x2 (show _ = Int32.ofInt x3 from rfl) r_x3 (show _ = Int32.ofInt x4 from rfl) r_x4 (show _ = Int32.ofInt x5 from rfl) r_x5 (show _ = Int32.ofInt x6 from rfl) r_x6 h hv
      · replace hv := hv.2 g2
        refine g_fA h t_x0 rfl (rv_1_1 t_x0) ?_
        obtain ⟨c3, hv⟩ := hv
        refine g_aI h (kt_1_1 t_x0) (al_1_1 t_x0) (show _ = Int32.ofInt x4 from rfl) c3 ?_
        refine g_fI h t_x0 rfl rfl ?_
        obtain ⟨c4, hv⟩ := hv
        refine ek_if (c_le (show _ = Int32.ofInt (S (x0 + 2) x4) from rfl) (h_mul (show _ = Int32.ofInt x6 from rfl) (show _ = Int32.ofInt (S x0 0) from rfl)) (g_rI h (kt_1_1 t_x0) (by decide)) c4) (fun g5 => ?_) (fun g5 => ?_)
        · replace hv := hv.1 g5
          exact aSt_narrowByPoints_77 hp hk20 rfl t_x0 rfl t_x1 rfl t_x2 (show _ = Int32.ofInt x3 from rfl) r_x3 (show _ = Int32.ofInt x4 from rfl) r_x4 (show _ = Int32.ofInt x5 from rfl) r_x5 (show _ = Int32.ofInt x6 from rfl) r_x6 h hv
        · replace hv := hv.2 g5
          exact aSt_narrowByPoints_56 hp hk20 (fun b0 b1 b2 b3 b4 b5 b6 S9 M9 y0 y1 y2 y3 y4 y5 y6 h9 hv9 => ih _ b0 rfl y0 _ b1 rfl y1 _ b2 rfl y2 _ b3 rfl y3 _ b4 rfl y4 _ b5 rfl y5 _ b6 rfl y6 S9 M9 h9 hv9) rfl t_x0 rfl t_x1 rfl t_x2 (show _ = Int32.ofInt x3 from rfl) r_x3 (show _ = Int32.ofInt x4 from rfl) r_x4 (show _ = Int32.ofInt x5 from rfl) r_x5 (show _ = Int32.ofInt x6 from rfl) r_x6 h hv
def vSt_narrowByPoints_20 (Q : St → Prop) : Nat → Int → Int → Int → Int → Int → Int → Int → St → Prop
  | 0 => fun _ _ _ _ _ _ _ _ => False
  | n + 1 => fun x0 x1 x2 x3 x4 x5 x6 S => (((x6 < 0 → (Q S)) ∧ (¬ x6 < 0 → (∃ n68 : Nat, (vSt_narrowByPoints_25 Q (vSt_narrowByPoints_20 Q n) n68 x0 x1 x2 x3 x4 x5 x6 S)))))
theorem aSt_narrowByPoints_20 {ad : Int → Nat} {Q : St → Prop} {post : Hp → Prop} (hp : ∀ (S : St) (M : Hp), US ad S M → Q S → post M) : ∀ (n : Nat) (w_x0 : Nat) (x0 : Int) (e_x0 : w_x0 = ad x0) (t_x0 : kt (20 + 1) x0) (w_x1 : Nat) (x1 : Int) (e_x1 : w_x1 = ad x1) (t_x1 : kt 1 x1) (w_x2 : Nat) (x2 : Int) (e_x2 : w_x2 = ad x2) (t_x2 : kt (20 + 2) x2) (w_x3 : Int32) (x3 : Int) (e_x3 : w_x3 = Int32.ofInt x3) (r_x3 : rI x3) (w_x4 : Int32) (x4 : Int) (e_x4 : w_x4 = Int32.ofInt x4) (r_x4 : rI x4) (w_x5 : Int32) (x5 : Int) (e_x5 : w_x5 = Int32.ofInt x5) (r_x5 : rI x5) (w_x6 : Int32) (x6 : Int) (e_x6 : w_x6 = Int32.ofInt x6) (r_x6 : rI x6) (S : St) (M : Hp), US ad S M → vSt_narrowByPoints_20 Q n x0 x1 x2 x3 x4 x5 x6 S → wSt_narrowByPoints_20 post n w_x0 w_x1 w_x2 w_x3 w_x4 w_x5 w_x6 M := by
  intro n
  induction n with
  | zero => intro w_x0 x0 e_x0 t_x0 w_x1 x1 e_x1 t_x1 w_x2 x2 e_x2 t_x2 w_x3 x3 e_x3 r_x3 w_x4 x4 e_x4 r_x4 w_x5 x5 e_x5 r_x5 w_x6 x6 e_x6 r_x6 S M h hv; exact hv.elim
  | succ n ih =>
    intro w_x0 x0 e_x0 t_x0 w_x1 x1 e_x1 t_x1 w_x2 x2 e_x2 t_x2 w_x3 x3 e_x3 r_x3 w_x4 x4 e_x4 r_x4 w_x5 x5 e_x5 r_x5 w_x6 x6 e_x6 r_x6 S M h hv
    subst e_x0
    subst e_x1
    subst e_x2
    subst e_x3
    subst e_x4
    subst e_x5
    subst e_x6
    unfold vSt_narrowByPoints_20 at hv
    unfold wSt_narrowByPoints_20
    refine ek_if (c_lt (show _ = Int32.ofInt x6 from rfl) LI_0 r_x6 LI_0r) (fun g1 => ?_) (fun g1 => ?_)
    · replace hv := hv.1 g1
      exact hp _ _ h hv
    · replace hv := hv.2 g1
      obtain ⟨n68, hv⟩ := hv
      refine ⟨n68, ?_⟩
      exact aSt_narrowByPoints_25 hp (fun b0 b1 b2 b3 b4 b5 b6 S9 M9 y0 y1 y2 y3 y4 y5 y6 h9 hv9 => ih _ b0 rfl y0 _ b1 rfl y1 _ b2 rfl y2 _ b3 rfl y3 _ b4 rfl y4 _ b5 rfl y5 _ b6 rfl y6 S9 M9 h9 hv9) n68 _ _ rfl t_x0 _ _ rfl t_x1 _ _ rfl t_x2 _ _ (show _ = Int32.ofInt x3 from rfl) r_x3 _ _ (show _ = Int32.ofInt x4 from rfl) r_x4 _ _ (show _ = Int32.ofInt x5 from rfl) r_x5 _ _ (show _ = Int32.ofInt x6 from rfl) r_x6 _ _ h hv
def vpSt_narrowByPoints (self : Int) (p0 : Int) (p1 : Int) (p2 : Int) (S : St) (Q : St → Prop) : Prop := ((rI ((S self 11) - 1)) ∧ ∀ z81 : Int, z81 = ((S self 11) - 1) → (∃ n82 : Nat, (vSt_narrowByPoints_20 Q n82 self p0 p1 p2 (S self 9) (S self 9) z81 S)))
theorem apSt_narrowByPoints {ad : Int → Nat} {Q : St → Prop} {post : Hp → Prop} (hp : ∀ (S : St) (M : Hp), US ad S M → Q S → post M) {w_self : Nat} {self : Int} (e_self : w_self = ad self) (t_self : kt (20 + 1) self) {w_p0 : Nat} {p0 : Int} (e_p0 : w_p0 = ad p0) (t_p0 : kt 1 p0) {w_p1 : Nat} {p1 : Int} (e_p1 : w_p1 = ad p1) (t_p1 : kt (20 + 2) p1) {w_p2 : Int32} {p2 : Int} (e_p2 : w_p2 = Int32.ofInt p2) (r_p2 : rI p2) {S : St} {M : Hp} (h : US ad S M) (hv : vpSt_narrowByPoints self p0 p1 p2 S Q) : wpSt_narrowByPoints w_self w_p0 w_p1 w_p2 M post := by
  subst e_self
  subst e_p0
  subst e_p1
  subst e_p2
  unfold vpSt_narrowByPoints at hv
  unfold wpSt_narrowByPoints
  refine g_fI h t_self rfl rfl ?_
  refine g_fI h t_self rfl rfl ?_
  refine g_fI h t_self rfl rfl ?_
  obtain ⟨c1, hv⟩ := hv
  refine nm_z (h_sub (show _ = Int32.ofInt (S self 11) from rfl) LI_1) (fun z81 e2 => ?_)
  have r3 : rI z81 := by rw [e2]; exact c1
  replace hv := hv z81 e2
  obtain ⟨n82, hv⟩ := hv
  refine ⟨n82, ?_⟩
  exact aSt_narrowByPoints_20 hp  n82 _ _ rfl t_self _ _ rfl t_p0 _ _ rfl t_p1 _ _ (show _ = Int32.ofInt p2 from rfl) r_p2 _ _ (show _ = Int32.ofInt (S self 9) from rfl) (g_rf (j := 9) h t_self rfl rfl) _ _ (show _ = Int32.ofInt (S self 9) from rfl) (g_rf (j := 9) h t_self rfl rfl) _ _ (show _ = Int32.ofInt z81 from rfl) r3 _ _ h hv
def vSt_narrowByFaults_80 (Q : St → Prop) (K2 : Int → Int → Int → Int → St → Prop) (x0 : Int) (x1 : Int) (x2 : Int) (x3 : Int) (S : St) : Prop := ((rI (x3 + 1)) ∧ ∀ z1 : Int, z1 = (x3 + 1) → (K2 x0 x1 x2 z1 S))
theorem aSt_narrowByFaults_80 {ad : Int → Nat} {Q : St → Prop} {K2 : Int → Int → Int → Int → St → Prop} {post : Hp → Prop} {k2 : Nat → Nat → Nat → Int32 → Hp → Prop} (hp : ∀ (S : St) (M : Hp), US ad S M → Q S → post M) (hk2 : ∀ (b0 b1 b2 b3 : Int) (S : St) (M : Hp), kt (20 + 1) b0 → kt 1 b1 → kt (20 + 2) b2 → rI b3 → US ad S M → K2 b0 b1 b2 b3 S → k2 (ad b0) (ad b1) (ad b2) (Int32.ofInt b3) M) {w_x0 : Nat} {x0 : Int} (e_x0 : w_x0 = ad x0) (t_x0 : kt (20 + 1) x0) {w_x1 : Nat} {x1 : Int} (e_x1 : w_x1 = ad x1) (t_x1 : kt 1 x1) {w_x2 : Nat} {x2 : Int} (e_x2 : w_x2 = ad x2) (t_x2 : kt (20 + 2) x2) {w_x3 : Int32} {x3 : Int} (e_x3 : w_x3 = Int32.ofInt x3) (r_x3 : rI x3) {S : St} {M : Hp} (h : US ad S M) (hv : vSt_narrowByFaults_80 Q K2 x0 x1 x2 x3 S) : wSt_narrowByFaults_80 post k2 w_x0 w_x1 w_x2 w_x3 M := by
  subst e_x0
  subst e_x1
  subst e_x2
  subst e_x3
  unfold vSt_narrowByFaults_80 at hv
  unfold wSt_narrowByFaults_80
  obtain ⟨c1, hv⟩ := hv
  refine nm_z (h_add (show _ = Int32.ofInt x3 from rfl) LI_1) (fun z1 e2 => ?_)
  have r3 : rI z1 := by rw [e2]; exact c1
  replace hv := hv z1 e2
  exact hk2 _ _ _ _ _ _ t_x0 t_x1 t_x2 r3 h hv
def vSt_narrowByFaults_27 (Q : St → Prop) (K2 : Int → Int → Int → Int → St → Prop) : Nat → Int → Int → Int → Int → Int → St → Prop
  | 0 => fun _ _ _ _ _ _ => False
  | n + 1 => fun x0 x1 x2 x3 x4 S => ((((S x0 11) ≤ x4 → (vSt_narrowByFaults_80 Q K2 x0 x1 x2 x3 S)) ∧ (¬ (S x0 11) ≤ x4 → (((0 : Int) ≤ x3 ∧ (x3 : Int) < 20) ∧ ((rI (x4 * (S x0 0))) ∧ (((S (x0 + 6) x3) ≤ (x4 * (S x0 0)) → (vSt_narrowByFaults_80 Q K2 x0 x1 x2 x3 S)) ∧ (¬ (S (x0 + 6) x3) ≤ (x4 * (S x0 0)) → (((0 : Int) ≤ x4 ∧ (x4 : Int) < (alen x1)) ∧ (((0 : Int) ≤ x3 ∧ (x3 : Int) < 20) ∧ (¬ (S x0 0) = 0 ∧ (((0 : Int) ≤ (S (x0 + 5) x3) ∧ ((S (x0 + 5) x3) : Int) < 2147483648) ∧ ((0 : Int) < (S x0 0) ∧ ((S x0 0) : Int) < 2147483648) ∧ (rI ((S (x0 + 5) x3) / (S x0 0))) ∧ ((0 : Int) ≤ x4 ∧ (x4 : Int) < (alen x1)) ∧ (rI (min ((S (x0 + 5) x3) / (S x0 0)) (S x1 x4))) ∧ ∀ S12 : St, S12 = up S x1 x4 (min ((S (x0 + 5) x3) / (S x0 0)) (S x1 x4)) → ((rI (x4 + 1)) ∧ ∀ z45 : Int, z45 = (x4 + 1) → (vSt_narrowByFaults_27 Q K2 n x0 x1 x2 x3 z45 S12)))))))))))))
theorem aSt_narrowByFaults_27 {ad : Int → Nat} {Q : St → Prop} {K2 : Int → Int → Int → Int → St → Prop} {post : Hp → Prop} {k2 : Nat → Nat → Nat → Int32 → Hp → Prop} (hp : ∀ (S : St) (M : Hp), US ad S M → Q S → post M) (hk2 : ∀ (b0 b1 b2 b3 : Int) (S : St) (M : Hp), kt (20 + 1) b0 → kt 1 b1 → kt (20 + 2) b2 → rI b3 → US ad S M → K2 b0 b1 b2 b3 S → k2 (ad b0) (ad b1) (ad b2) (Int32.ofInt b3) M) : ∀ (n : Nat) (w_x0 : Nat) (x0 : Int) (e_x0 : w_x0 = ad x0) (t_x0 : kt (20 + 1) x0) (w_x1 : Nat) (x1 : Int) (e_x1 : w_x1 = ad x1) (t_x1 : kt 1 x1) (w_x2 : Nat) (x2 : Int) (e_x2 : w_x2 = ad x2) (t_x2 : kt (20 + 2) x2) (w_x3 : Int32) (x3 : Int) (e_x3 : w_x3 = Int32.ofInt x3) (r_x3 : rI x3) (w_x4 : Int32) (x4 : Int) (e_x4 : w_x4 = Int32.ofInt x4) (r_x4 : rI x4) (S : St) (M : Hp), US ad S M → vSt_narrowByFaults_27 Q K2 n x0 x1 x2 x3 x4 S → wSt_narrowByFaults_27 post k2 n w_x0 w_x1 w_x2 w_x3 w_x4 M := by
  intro n
  induction n with
  | zero => intro w_x0 x0 e_x0 t_x0 w_x1 x1 e_x1 t_x1 w_x2 x2 e_x2 t_x2 w_x3 x3 e_x3 r_x3 w_x4 x4 e_x4 r_x4 S M h hv; exact hv.elim
  | succ n ih =>
    intro w_x0 x0 e_x0 t_x0 w_x1 x1 e_x1 t_x1 w_x2 x2 e_x2 t_x2 w_x3 x3 e_x3 r_x3 w_x4 x4 e_x4 r_x4 S M h hv
    subst e_x0
    subst e_x1
    subst e_x2
    subst e_x3
    subst e_x4
    unfold vSt_narrowByFaults_27 at hv
    unfold wSt_narrowByFaults_27
    refine g_fI h t_x0 rfl rfl ?_
    refine ek_if (c_le (show _ = Int32.ofInt (S x0 11) from rfl) (show _ = Int32.ofInt x4 from rfl) (g_rf (j := 11) h t_x0 rfl rfl) r_x4) (fun g1 => ?_) (fun g1 => ?_)
    · replace hv := hv.1 g1
      exact aSt_narrowByFaults_80 hp hk2 rfl t_x0 rfl t_x1 rfl t_x2 (show _ = Int32.ofInt x3 from rfl) r_x3 h hv
    · replace hv := hv.2 g1
      refine g_fI h t_x0 rfl rfl ?_
      refine g_fA h t_x0 rfl (rv_1_5 t_x0) ?_
      obtain ⟨c2, hv⟩ := hv
      refine g_aI h (kt_1_5 t_x0) (al_1_5 t_x0) (show _ = Int32.ofInt x3 from rfl) c2 ?_
      obtain ⟨c3, hv⟩ := hv
      refine ek_if (c_le (show _ = Int32.ofInt (S (x0 + 6) x3) from rfl) (h_mul (show _ = Int32.ofInt x4 from rfl) (show _ = Int32.ofInt (S x0 0) from rfl)) (g_rI h (kt_1_5 t_x0) (by decide)) c3) (fun g4 => ?_) (fun g4 => ?_)
      · replace hv := hv.1 g4
        exact aSt_narrowByFaults_80 hp hk2 rfl t_x0 rfl t_x1 rfl t_x2 (show _ = Int32.ofInt x3 from rfl) r_x3 h hv
      · replace hv := hv.2 g4
        obtain ⟨c5, hv⟩ := hv
        refine g_aI h t_x1 rfl (show _ = Int32.ofInt x4 from rfl) c5 ?_
        refine g_fA h t_x0 rfl (rv_1_4 t_x0) ?_
        obtain ⟨c6, hv⟩ := hv
        refine g_aI h (kt_1_4 t_x0) (al_1_4 t_x0) (show _ = Int32.ofInt x3 from rfl) c6 ?_
        refine g_fI h t_x0 rfl rfl ?_
        refine ⟨fun z => hv.1 ((c_eq (show _ = Int32.ofInt (S x0 0) from rfl) LI_0 (g_rf (j := 0) h t_x0 rfl rfl) LI_0r).mp z), ?_⟩
        replace hv := hv.2
        obtain ⟨c7, c8, c9, c10, c11, hv⟩ := hv
        refine g_sI h t_x1 rfl (show _ = Int32.ofInt x4 from rfl) c10 (h_min (h_div (show _ = Int32.ofInt (S (x0 + 5) x3) from rfl) (show _ = Int32.ofInt (S x0 0) from rfl) c7 c8) (show _ = Int32.ofInt (S x1 x4) from rfl) c9 (g_rI h t_x1 (by decide))) c11 (fun S12 N13 e15 h14 => ?_)
        replace hv := hv S12 e15
        obtain ⟨c16, hv⟩ := hv
        refine nm_z (h_add (show _ = Int32.ofInt x4 from rfl) LI_1) (fun z45 e17 => ?_)
        have r18 : rI z45 := by rw [e17]; exact c16
        replace hv := hv z45 e17
        exact ih _ _ rfl t_x0 _ _ rfl t_x1 _ _ rfl t_x2 _ _ (show _ = Int32.ofInt x3 from rfl) r_x3 _ _ (show _ = Int32.ofInt z45 from rfl) r18 _ _ h14 hv
def vSt_narrowByFaults_2 (Q : St → Prop) : Nat → Int → Int → Int → Int → St → Prop
  | 0 => fun _ _ _ _ _ => False
  | n + 1 => fun x0 x1 x2 x3 S => ((((S x0 10) ≤ x3 → (Q S)) ∧ (¬ (S x0 10) ≤ x3 → (((0 : Int) ≤ x3 ∧ (x3 : Int) < 20) ∧ (((0 : Int) ≤ (S (x0 + 7) x3) ∧ ((S (x0 + 7) x3) : Int) < 8) ∧ ((((S (x2 + 2) (S (x0 + 7) x3)) = 0 → (vSt_narrowByFaults_80 Q (vSt_narrowByFaults_2 Q n) x0 x1 x2 x3 S)) ∧ (¬ (S (x2 + 2) (S (x0 + 7) x3)) = 0 → (∃ n70 : Nat, (vSt_narrowByFaults_27 Q (vSt_narrowByFaults_2 Q n) n70 x0 x1 x2 x3 0 S))))))))))
theorem aSt_narrowByFaults_2 {ad : Int → Nat} {Q : St → Prop} {post : Hp → Prop} (hp : ∀ (S : St) (M : Hp), US ad S M → Q S → post M) : ∀ (n : Nat) (w_x0 : Nat) (x0 : Int) (e_x0 : w_x0 = ad x0) (t_x0 : kt (20 + 1) x0) (w_x1 : Nat) (x1 : Int) (e_x1 : w_x1 = ad x1) (t_x1 : kt 1 x1) (w_x2 : Nat) (x2 : Int) (e_x2 : w_x2 = ad x2) (t_x2 : kt (20 + 2) x2) (w_x3 : Int32) (x3 : Int) (e_x3 : w_x3 = Int32.ofInt x3) (r_x3 : rI x3) (S : St) (M : Hp), US ad S M → vSt_narrowByFaults_2 Q n x0 x1 x2 x3 S → wSt_narrowByFaults_2 post n w_x0 w_x1 w_x2 w_x3 M := by
  intro n
  induction n with
  | zero => intro w_x0 x0 e_x0 t_x0 w_x1 x1 e_x1 t_x1 w_x2 x2 e_x2 t_x2 w_x3 x3 e_x3 r_x3 S M h hv; exact hv.elim
  | succ n ih =>
    intro w_x0 x0 e_x0 t_x0 w_x1 x1 e_x1 t_x1 w_x2 x2 e_x2 t_x2 w_x3 x3 e_x3 r_x3 S M h hv
    subst e_x0
    subst e_x1
    subst e_x2
    subst e_x3
    unfold vSt_narrowByFaults_2 at hv
    unfold wSt_narrowByFaults_2
    refine g_fI h t_x0 rfl rfl ?_
    refine ek_if (c_le (show _ = Int32.ofInt (S x0 10) from rfl) (show _ = Int32.ofInt x3 from rfl) (g_rf (j := 10) h t_x0 rfl rfl) r_x3) (fun g1 => ?_) (fun g1 => ?_)
    · replace hv := hv.1 g1
      exact hp _ _ h hv
    · replace hv := hv.2 g1
      refine g_fA h t_x2 rfl (rv_2_1 t_x2) ?_
      refine g_fA h t_x0 rfl (rv_1_6 t_x0) ?_
      obtain ⟨c2, hv⟩ := hv
      refine g_aI h (kt_1_6 t_x0) (al_1_6 t_x0) (show _ = Int32.ofInt x3 from rfl) c2 ?_
      obtain ⟨c3, hv⟩ := hv
      refine g_aZ h (kt_2_1 t_x2) (al_2_1 t_x2) (show _ = Int32.ofInt (S (x0 + 7) x3) from rfl) c3 ?_
      refine ek_if (c_eq (show _ = Int32.ofInt (S (x2 + 2) (S (x0 + 7) x3)) from rfl) LI_0 (g_rI h (kt_2_1 t_x2) (by decide)) LI_0r) (fun g4 => ?_) (fun g4 => ?_)
      · replace hv := hv.1 g4
        exact aSt_narrowByFaults_80 hp (fun b0 b1 b2 b3 S9 M9 y0 y1 y2 y3 h9 hv9 => ih _ b0 rfl y0 _ b1 rfl y1 _ b2 rfl y2 _ b3 rfl y3 S9 M9 h9 hv9) rfl t_x0 rfl t_x1 rfl t_x2 (show _ = Int32.ofInt x3 from rfl) r_x3 h hv
      · replace hv := hv.2 g4
        obtain ⟨n70, hv⟩ := hv
        refine ⟨n70, ?_⟩
        exact aSt_narrowByFaults_27 hp (fun b0 b1 b2 b3 S9 M9 y0 y1 y2 y3 h9 hv9 => ih _ b0 rfl y0 _ b1 rfl y1 _ b2 rfl y2 _ b3 rfl y3 S9 M9 h9 hv9) n70 _ _ rfl t_x0 _ _ rfl t_x1 _ _ rfl t_x2 _ _ (show _ = Int32.ofInt x3 from rfl) r_x3 _ _ LI_0 LI_0r _ _ h hv
def vpSt_narrowByFaults (self : Int) (p0 : Int) (p1 : Int) (S : St) (Q : St → Prop) : Prop := (∃ n71 : Nat, (vSt_narrowByFaults_2 Q n71 self p0 p1 0 S))
theorem apSt_narrowByFaults {ad : Int → Nat} {Q : St → Prop} {post : Hp → Prop} (hp : ∀ (S : St) (M : Hp), US ad S M → Q S → post M) {w_self : Nat} {self : Int} (e_self : w_self = ad self) (t_self : kt (20 + 1) self) {w_p0 : Nat} {p0 : Int} (e_p0 : w_p0 = ad p0) (t_p0 : kt 1 p0) {w_p1 : Nat} {p1 : Int} (e_p1 : w_p1 = ad p1) (t_p1 : kt (20 + 2) p1) {S : St} {M : Hp} (h : US ad S M) (hv : vpSt_narrowByFaults self p0 p1 S Q) : wpSt_narrowByFaults w_self w_p0 w_p1 M post := by
  subst e_self
  subst e_p0
  subst e_p1
  unfold vpSt_narrowByFaults at hv
  unfold wpSt_narrowByFaults
  obtain ⟨n71, hv⟩ := hv
  refine ⟨n71, ?_⟩
  exact aSt_narrowByFaults_2 hp  n71 _ _ rfl t_self _ _ rfl t_p0 _ _ rfl t_p1 _ _ LI_0 LI_0r _ _ h hv
def vpSt_findReach (self : Int) (p0 : Int) (p1 : Int) (p2 : Int) (S : St) (Q : St → Prop) : Prop := (((0 : Int) ≤ p0 ∧ (p0 : Int) < 8) ∧ (vpSt_reachByLengthAndCuts self ((self + 9) + (1 + p0)) p1 S (fun (S3 : St) => (vpSt_narrowByPoints self ((self + 9) + (1 + p0)) p1 p2 S3 (fun (S8 : St) => (vpSt_narrowByFaults self ((self + 9) + (1 + p0)) p1 S8 (fun (S13 : St) => (Q S13))))))))
theorem apSt_findReach {ad : Int → Nat} {Q : St → Prop} {post : Hp → Prop} (hp : ∀ (S : St) (M : Hp), US ad S M → Q S → post M) {w_self : Nat} {self : Int} (e_self : w_self = ad self) (t_self : kt (20 + 1) self) {w_p0 : Int32} {p0 : Int} (e_p0 : w_p0 = Int32.ofInt p0) (r_p0 : rI p0) {w_p1 : Nat} {p1 : Int} (e_p1 : w_p1 = ad p1) (t_p1 : kt (20 + 2) p1) {w_p2 : Int32} {p2 : Int} (e_p2 : w_p2 = Int32.ofInt p2) (r_p2 : rI p2) {S : St} {M : Hp} (h : US ad S M) (hv : vpSt_findReach self p0 p1 p2 S Q) : wpSt_findReach w_self w_p0 w_p1 w_p2 M post := by
  subst e_self
  subst e_p0
  subst e_p1
  subst e_p2
  unfold vpSt_findReach at hv
  unfold wpSt_findReach
  refine g_fA h t_self rfl (rv_1_8 t_self) ?_
  obtain ⟨c1, hv⟩ := hv
  refine g_aA h (kt_1_8 t_self) (by decide) (al_1_8 t_self) (show _ = Int32.ofInt p0 from rfl) c1 (rk_6 (kt_1_8 t_self)) ?_
  refine ⟨g_ob h t_self, ?_⟩
  refine apSt_reachByLengthAndCuts (fun S3 N4 h5 hv => ?_) rfl t_self rfl (kA_6 (kt_1_8 t_self) c1) rfl t_p1 h hv
  refine ⟨g_ob h5 t_self, ?_⟩
  refine apSt_narrowByPoints (fun S8 N9 h10 hv => ?_) rfl t_self rfl (kA_6 (kt_1_8 t_self) c1) rfl t_p1 (show _ = Int32.ofInt p2 from rfl) r_p2 h5 hv
  refine ⟨g_ob h10 t_self, ?_⟩
  refine apSt_narrowByFaults (fun S13 N14 h15 hv => ?_) rfl t_self rfl (kA_6 (kt_1_8 t_self) c1) rfl t_p1 h10 hv
  exact hp _ _ h15 hv
def vBT_startPlans_38 (Q : St → Prop) (K28 : Int → Int → St → Prop) : Nat → Int → Int → Int → St → Prop
  | 0 => fun _ _ _ _ => False
  | n + 1 => fun x0 x1 x2 S => ((((S x0 4) ≤ x2 → ((rI (x1 + 1)) ∧ ∀ z6 : Int, z6 = (x1 + 1) → (K28 x0 z6 S))) ∧ (¬ (S x0 4) ≤ x2 → (((0 : Int) ≤ x1 ∧ (x1 : Int) < 6) ∧ (((0 : Int) ≤ x2 ∧ (x2 : Int) < 8) ∧ (vpSt_findReach (200 + 20 * x1) x2 (140 + 4 * x2) (S x0 5) S (fun (S8 : St) => ((rI (x2 + 1)) ∧ ∀ z33 : Int, z33 = (x2 + 1) → (vBT_startPlans_38 Q K28 n x0 x1 z33 S8)))))))))
theorem aBT_startPlans_38 {ad : Int → Nat} {Q : St → Prop} {K28 : Int → Int → St → Prop} {post : Hp → Prop} {k28 : Nat → Int32 → Hp → Prop} (hp : ∀ (S : St) (M : Hp), US ad S M → Q S → post M) (hk28 : ∀ (b0 b1 : Int) (S : St) (M : Hp), kt (20 + 0) b0 → rI b1 → US ad S M → K28 b0 b1 S → k28 (ad b0) (Int32.ofInt b1) M) : ∀ (n : Nat) (w_x0 : Nat) (x0 : Int) (e_x0 : w_x0 = ad x0) (t_x0 : kt (20 + 0) x0) (w_x1 : Int32) (x1 : Int) (e_x1 : w_x1 = Int32.ofInt x1) (r_x1 : rI x1) (w_x2 : Int32) (x2 : Int) (e_x2 : w_x2 = Int32.ofInt x2) (r_x2 : rI x2) (S : St) (M : Hp), US ad S M → vBT_startPlans_38 Q K28 n x0 x1 x2 S → wBT_startPlans_38 post k28 n w_x0 w_x1 w_x2 M := by
  intro n
  induction n with
  | zero => intro w_x0 x0 e_x0 t_x0 w_x1 x1 e_x1 r_x1 w_x2 x2 e_x2 r_x2 S M h hv; exact hv.elim
  | succ n ih =>
    intro w_x0 x0 e_x0 t_x0 w_x1 x1 e_x1 r_x1 w_x2 x2 e_x2 r_x2 S M h hv
    subst e_x0
    subst e_x1
    subst e_x2
    unfold vBT_startPlans_38 at hv
    unfold wBT_startPlans_38
    refine g_fI h t_x0 rfl rfl ?_
    refine ek_if (c_le (show _ = Int32.ofInt (S x0 4) from rfl) (show _ = Int32.ofInt x2 from rfl) (g_rf (j := 4) h t_x0 rfl rfl) r_x2) (fun g1 => ?_) (fun g1 => ?_)
    · replace hv := hv.1 g1
      obtain ⟨c2, hv⟩ := hv
      refine nm_z (h_add (show _ = Int32.ofInt x1 from rfl) LI_1) (fun z6 e3 => ?_)
      have r4 : rI z6 := by rw [e3]; exact c2
      replace hv := hv z6 e3
      exact hk28 _ _ _ _ t_x0 r4 h hv
    · replace hv := hv.2 g1
      refine g_fA h t_x0 rfl (rv_0_0 t_x0) ?_
      obtain ⟨c5, hv⟩ := hv
      refine g_aA h (show kt (10 + 3) 101 by decide) (by decide) (show alen 101 = 6 by decide) (show _ = Int32.ofInt x1 from rfl) c5 (rk_3 (show kt (10 + 3) 101 by decide)) ?_
      refine g_fA h t_x0 rfl (rv_0_1 t_x0) ?_
      obtain ⟨c6, hv⟩ := hv
      refine g_aA h (show kt (10 + 4) 102 by decide) (by decide) (show alen 102 = 8 by decide) (show _ = Int32.ofInt x2 from rfl) c6 (rk_4 (show kt (10 + 4) 102 by decide)) ?_
      refine g_fI h t_x0 rfl rfl ?_
      refine ⟨g_ob h (kA_3 c5), ?_⟩
      refine apSt_findReach (fun S8 N9 h10 hv => ?_) rfl (kA_3 c5) (show _ = Int32.ofInt x2 from rfl) r_x2 rfl (kA_4 c6) (show _ = Int32.ofInt (S x0 5) from rfl) (g_rf (j := 5) h t_x0 rfl rfl) h hv
      obtain ⟨c12, hv⟩ := hv
      refine nm_z (h_add (show _ = Int32.ofInt x2 from rfl) LI_1) (fun z33 e13 => ?_)
      have r14 : rI z33 := by rw [e13]; exact c12
      replace hv := hv z33 e13
      exact ih _ _ rfl t_x0 _ _ (show _ = Int32.ofInt x1 from rfl) r_x1 _ _ (show _ = Int32.ofInt z33 from rfl) r14 _ _ h10 hv
def vBT_startPlans_28 (Q : St → Prop) : Nat → Int → Int → St → Prop
  | 0 => fun _ _ _ => False
  | n + 1 => fun x0 x1 S => ((((S x0 3) ≤ x1 → (Q S)) ∧ (¬ (S x0 3) ≤ x1 → (∃ n39 : Nat, (vBT_startPlans_38 Q (vBT_startPlans_28 Q n) n39 x0 x1 0 S)))))
theorem aBT_startPlans_28 {ad : Int → Nat} {Q : St → Prop} {post : Hp → Prop} (hp : ∀ (S : St) (M : Hp), US ad S M → Q S → post M) : ∀ (n : Nat) (w_x0 : Nat) (x0 : Int) (e_x0 : w_x0 = ad x0) (t_x0 : kt (20 + 0) x0) (w_x1 : Int32) (x1 : Int) (e_x1 : w_x1 = Int32.ofInt x1) (r_x1 : rI x1) (S : St) (M : Hp), US ad S M → vBT_startPlans_28 Q n x0 x1 S → wBT_startPlans_28 post n w_x0 w_x1 M := by
  intro n
  induction n with
  | zero => intro w_x0 x0 e_x0 t_x0 w_x1 x1 e_x1 r_x1 S M h hv; exact hv.elim
  | succ n ih =>
    intro w_x0 x0 e_x0 t_x0 w_x1 x1 e_x1 r_x1 S M h hv
    subst e_x0
    subst e_x1
    unfold vBT_startPlans_28 at hv
    unfold wBT_startPlans_28
    refine g_fI h t_x0 rfl rfl ?_
    refine ek_if (c_le (show _ = Int32.ofInt (S x0 3) from rfl) (show _ = Int32.ofInt x1 from rfl) (g_rf (j := 3) h t_x0 rfl rfl) r_x1) (fun g1 => ?_) (fun g1 => ?_)
    · replace hv := hv.1 g1
      exact hp _ _ h hv
    · replace hv := hv.2 g1
      obtain ⟨n39, hv⟩ := hv
      refine ⟨n39, ?_⟩
      exact aBT_startPlans_38 hp (fun b0 b1 S9 M9 y0 y1 h9 hv9 => ih _ b0 rfl y0 _ b1 rfl y1 S9 M9 h9 hv9) n39 _ _ rfl t_x0 _ _ (show _ = Int32.ofInt x1 from rfl) r_x1 _ _ LI_0 LI_0r _ _ h hv
def vBT_startPlans_2 (Q : St → Prop) : Nat → Int → Int → St → Prop
  | 0 => fun _ _ _ => False
  | n + 1 => fun x0 x1 S => ((((S x0 4) ≤ x1 → (∃ n45 : Nat, (vBT_startPlans_28 Q n45 x0 0 S))) ∧ (¬ (S x0 4) ≤ x1 → (((0 : Int) ≤ x1 ∧ (x1 : Int) < 8) ∧ (∀ S3 : St, S3 = up S (140 + 4 * x1) 9 0 → ((rI (x1 + 1)) ∧ ∀ z60 : Int, z60 = (x1 + 1) → (vBT_startPlans_2 Q n x0 z60 S3)))))))
theorem aBT_startPlans_2 {ad : Int → Nat} {Q : St → Prop} {post : Hp → Prop} (hp : ∀ (S : St) (M : Hp), US ad S M → Q S → post M) : ∀ (n : Nat) (w_x0 : Nat) (x0 : Int) (e_x0 : w_x0 = ad x0) (t_x0 : kt (20 + 0) x0) (w_x1 : Int32) (x1 : Int) (e_x1 : w_x1 = Int32.ofInt x1) (r_x1 : rI x1) (S : St) (M : Hp), US ad S M → vBT_startPlans_2 Q n x0 x1 S → wBT_startPlans_2 post n w_x0 w_x1 M := by
  intro n
  induction n with
  | zero => intro w_x0 x0 e_x0 t_x0 w_x1 x1 e_x1 r_x1 S M h hv; exact hv.elim
  | succ n ih =>
    intro w_x0 x0 e_x0 t_x0 w_x1 x1 e_x1 r_x1 S M h hv
    subst e_x0
    subst e_x1
    unfold vBT_startPlans_2 at hv
    unfold wBT_startPlans_2
    refine g_fI h t_x0 rfl rfl ?_
    refine ek_if (c_le (show _ = Int32.ofInt (S x0 4) from rfl) (show _ = Int32.ofInt x1 from rfl) (g_rf (j := 4) h t_x0 rfl rfl) r_x1) (fun g1 => ?_) (fun g1 => ?_)
    · replace hv := hv.1 g1
      obtain ⟨n45, hv⟩ := hv
      refine ⟨n45, ?_⟩
      exact aBT_startPlans_28 hp  n45 _ _ rfl t_x0 _ _ LI_0 LI_0r _ _ h hv
    · replace hv := hv.2 g1
      refine g_fA h t_x0 rfl (rv_0_1 t_x0) ?_
      obtain ⟨c2, hv⟩ := hv
      refine g_aA h (show kt (10 + 4) 102 by decide) (by decide) (show alen 102 = 8 by decide) (show _ = Int32.ofInt x1 from rfl) c2 (rk_4 (show kt (10 + 4) 102 by decide)) ?_
      refine g_pJ h (kA_4 c2) rfl rfl LJ_0 LJ_0r (fun S3 N4 e6 h5 => ?_)
      replace hv := hv S3 e6
      obtain ⟨c7, hv⟩ := hv
      refine nm_z (h_add (show _ = Int32.ofInt x1 from rfl) LI_1) (fun z60 e8 => ?_)
      have r9 : rI z60 := by rw [e8]; exact c7
      replace hv := hv z60 e8
      exact ih _ _ rfl t_x0 _ _ (show _ = Int32.ofInt z60 from rfl) r9 _ _ h5 hv
def vpBT_startPlans (self : Int) (S : St) (Q : St → Prop) : Prop := (∃ n61 : Nat, (vBT_startPlans_2 Q n61 self 0 S))
theorem apBT_startPlans {ad : Int → Nat} {Q : St → Prop} {post : Hp → Prop} (hp : ∀ (S : St) (M : Hp), US ad S M → Q S → post M) {w_self : Nat} {self : Int} (e_self : w_self = ad self) (t_self : kt (20 + 0) self) {S : St} {M : Hp} (h : US ad S M) (hv : vpBT_startPlans self S Q) : wpBT_startPlans w_self M post := by
  subst e_self
  unfold vpBT_startPlans at hv
  unfold wpBT_startPlans
  obtain ⟨n61, hv⟩ := hv
  refine ⟨n61, ?_⟩
  exact aBT_startPlans_2 hp  n61 _ _ rfl t_self _ _ LI_0 LI_0r _ _ h hv
def vPl_clear_26 (Q : St → Prop) : Nat → Int → Int → St → Prop
  | 0 => fun _ _ _ => False
  | n + 1 => fun x0 x1 S => (((8 ≤ x1 → (∀ S2 : St, S2 = up S x0 3 0 → (∀ S6 : St, S6 = up S2 x0 4 0 → (Q S6)))) ∧ (¬ 8 ≤ x1 → (((0 : Int) ≤ x1 ∧ (x1 : Int) < 8) ∧ ∀ S11 : St, S11 = up S (x0 + 3) x1 0 → ((rI (x1 + 1)) ∧ ∀ z19 : Int, z19 = (x1 + 1) → (vPl_clear_26 Q n x0 z19 S11))))))
theorem aPl_clear_26 {ad : Int → Nat} {Q : St → Prop} {post : Hp → Prop} (hp : ∀ (S : St) (M : Hp), US ad S M → Q S → post M) : ∀ (n : Nat) (w_x0 : Nat) (x0 : Int) (e_x0 : w_x0 = ad x0) (t_x0 : kt (20 + 5) x0) (w_x1 : Int32) (x1 : Int) (e_x1 : w_x1 = Int32.ofInt x1) (r_x1 : rI x1) (S : St) (M : Hp), US ad S M → vPl_clear_26 Q n x0 x1 S → wPl_clear_26 post n w_x0 w_x1 M := by
  intro n
  induction n with
  | zero => intro w_x0 x0 e_x0 t_x0 w_x1 x1 e_x1 r_x1 S M h hv; exact hv.elim
  | succ n ih =>
    intro w_x0 x0 e_x0 t_x0 w_x1 x1 e_x1 r_x1 S M h hv
    subst e_x0
    subst e_x1
    unfold vPl_clear_26 at hv
    unfold wPl_clear_26
    refine ek_if (c_le LI_8 (show _ = Int32.ofInt x1 from rfl) LI_8r r_x1) (fun g1 => ?_) (fun g1 => ?_)
    · replace hv := hv.1 g1
      refine g_pI h t_x0 rfl rfl LI_0 LI_0r (fun S2 N3 e5 h4 => ?_)
      replace hv := hv S2 e5
      refine g_pJ h4 t_x0 rfl rfl LJ_0 LJ_0r (fun S6 N7 e9 h8 => ?_)
      replace hv := hv S6 e9
      exact hp _ _ h8 hv
    · replace hv := hv.2 g1
      refine g_fA h t_x0 rfl (rv_5_2 t_x0) ?_
      obtain ⟨c10, hv⟩ := hv
      refine g_sI h (kt_5_2 t_x0) (al_5_2 t_x0) (show _ = Int32.ofInt x1 from rfl) c10 LI_0 LI_0r (fun S11 N12 e14 h13 => ?_)
      replace hv := hv S11 e14
      obtain ⟨c15, hv⟩ := hv
      refine nm_z (h_add (show _ = Int32.ofInt x1 from rfl) LI_1) (fun z19 e16 => ?_)
      have r17 : rI z19 := by rw [e16]; exact c15
      replace hv := hv z19 e16
      exact ih _ _ rfl t_x0 _ _ (show _ = Int32.ofInt z19 from rfl) r17 _ _ h13 hv
def vPl_clear_2 (Q : St → Prop) : Nat → Int → Int → St → Prop
  | 0 => fun _ _ _ => False
  | n + 1 => fun x0 x1 S => ((rI 480) ∧ ((480 ≤ x1 → (∃ n28 : Nat, (vPl_clear_26 Q n28 x0 0 S))) ∧ (¬ 480 ≤ x1 → (((0 : Int) ≤ x1 ∧ (x1 : Int) < 480) ∧ ((0 : Int) = 0 ∨ (0 : Int) = 1) ∧ ∀ S5 : St, S5 = up S (x0 + 2) x1 0 → ((rI (x1 + 1)) ∧ ∀ z38 : Int, z38 = (x1 + 1) → (vPl_clear_2 Q n x0 z38 S5))))))
theorem aPl_clear_2 {ad : Int → Nat} {Q : St → Prop} {post : Hp → Prop} (hp : ∀ (S : St) (M : Hp), US ad S M → Q S → post M) : ∀ (n : Nat) (w_x0 : Nat) (x0 : Int) (e_x0 : w_x0 = ad x0) (t_x0 : kt (20 + 5) x0) (w_x1 : Int32) (x1 : Int) (e_x1 : w_x1 = Int32.ofInt x1) (r_x1 : rI x1) (S : St) (M : Hp), US ad S M → vPl_clear_2 Q n x0 x1 S → wPl_clear_2 post n w_x0 w_x1 M := by
  intro n
  induction n with
  | zero => intro w_x0 x0 e_x0 t_x0 w_x1 x1 e_x1 r_x1 S M h hv; exact hv.elim
  | succ n ih =>
    intro w_x0 x0 e_x0 t_x0 w_x1 x1 e_x1 r_x1 S M h hv
    subst e_x0
    subst e_x1
    unfold vPl_clear_2 at hv
    unfold wPl_clear_2
    refine g_fA h t_x0 rfl (rv_5_1 t_x0) ?_
    refine g_aL h (kt_5_1 t_x0) (by decide) (al_5_1 t_x0) ?_
    obtain ⟨c1, hv⟩ := hv
    refine ek_if (c_le (nL (by decide)) (show _ = Int32.ofInt x1 from rfl) c1 r_x1) (fun g2 => ?_) (fun g2 => ?_)
    · replace hv := hv.1 g2
      obtain ⟨n28, hv⟩ := hv
      refine ⟨n28, ?_⟩
      exact aPl_clear_26 hp  n28 _ _ rfl t_x0 _ _ LI_0 LI_0r _ _ h hv
    · replace hv := hv.2 g2
      refine g_fA h t_x0 rfl (rv_5_1 t_x0) ?_
      obtain ⟨c3, c4, hv⟩ := hv
      refine g_sZ h (kt_5_1 t_x0) (al_5_1 t_x0) (show _ = Int32.ofInt x1 from rfl) c3 LI_0 c4 (fun S5 N6 e8 h7 => ?_)
      replace hv := hv S5 e8
      obtain ⟨c9, hv⟩ := hv
      refine nm_z (h_add (show _ = Int32.ofInt x1 from rfl) LI_1) (fun z38 e10 => ?_)
      have r11 : rI z38 := by rw [e10]; exact c9
      replace hv := hv z38 e10
      exact ih _ _ rfl t_x0 _ _ (show _ = Int32.ofInt z38 from rfl) r11 _ _ h7 hv
def vpPl_clear (self : Int) (S : St) (Q : St → Prop) : Prop := (∃ n39 : Nat, (vPl_clear_2 Q n39 self 0 S))
theorem apPl_clear {ad : Int → Nat} {Q : St → Prop} {post : Hp → Prop} (hp : ∀ (S : St) (M : Hp), US ad S M → Q S → post M) {w_self : Nat} {self : Int} (e_self : w_self = ad self) (t_self : kt (20 + 5) self) {S : St} {M : Hp} (h : US ad S M) (hv : vpPl_clear self S Q) : wpPl_clear w_self M post := by
  subst e_self
  unfold vpPl_clear at hv
  unfold wpPl_clear
  obtain ⟨n39, hv⟩ := hv
  refine ⟨n39, ?_⟩
  exact aPl_clear_2 hp  n39 _ _ rfl t_self _ _ LI_0 LI_0r _ _ h hv
def vpWi_clear (self : Int) (S : St) (Q : St → Prop) : Prop := (∀ S1 : St, S1 = up S self 1 0 → (∀ S5 : St, S5 = up S1 self 2 0 → (Q S5)))
theorem apWi_clear {ad : Int → Nat} {Q : St → Prop} {post : Hp → Prop} (hp : ∀ (S : St) (M : Hp), US ad S M → Q S → post M) {w_self : Nat} {self : Int} (e_self : w_self = ad self) (t_self : kt (20 + 3) self) {S : St} {M : Hp} (h : US ad S M) (hv : vpWi_clear self S Q) : wpWi_clear w_self M post := by
  subst e_self
  unfold vpWi_clear at hv
  unfold wpWi_clear
  refine g_pI h t_self rfl rfl LI_0 LI_0r (fun S1 N2 e4 h3 => ?_)
  replace hv := hv S1 e4
  refine g_pI h3 t_self rfl rfl LI_0 LI_0r (fun S5 N6 e8 h7 => ?_)
  replace hv := hv S5 e8
  exact hp _ _ h7 hv
def vWi_enter_72 (Q : St → Prop) (S : St) : Prop := (Q S)
theorem aWi_enter_72 {ad : Int → Nat} {Q : St → Prop} {post : Hp → Prop} (hp : ∀ (S : St) (M : Hp), US ad S M → Q S → post M)  {S : St} {M : Hp} (h : US ad S M) (hv : vWi_enter_72 Q  S) : wWi_enter_72 post  M := by
  unfold vWi_enter_72 at hv
  unfold wWi_enter_72
  exact hp _ _ h hv
def vWi_enter_40 (Q : St → Prop) (x0 : Int) (x1 : Int) (S : St) : Prop := ((rI 80) ∧ ((80 ≤ (S x0 2) → (vWi_enter_72 Q  S)) ∧ (¬ 80 ≤ (S x0 2) → (((0 : Int) ≤ (S x0 2) ∧ ((S x0 2) : Int) < 80) ∧ ∀ S4 : St, S4 = up S (x0 + 1) (S x0 2) x1 → ((rI ((S4 x0 2) + 1)) ∧ ∀ S8 : St, S8 = up S4 x0 2 ((S4 x0 2) + 1) → (vWi_enter_72 Q  S8))))))
theorem aWi_enter_40 {ad : Int → Nat} {Q : St → Prop} {post : Hp → Prop} (hp : ∀ (S : St) (M : Hp), US ad S M → Q S → post M) {w_x0 : Nat} {x0 : Int} (e_x0 : w_x0 = ad x0) (t_x0 : kt (20 + 3) x0) {w_x1 : Int64} {x1 : Int} (e_x1 : w_x1 = Int64.ofInt x1) (r_x1 : rJ x1) {S : St} {M : Hp} (h : US ad S M) (hv : vWi_enter_40 Q x0 x1 S) : wWi_enter_40 post w_x0 w_x1 M := by
  subst e_x0
  subst e_x1
  unfold vWi_enter_40 at hv
  unfold wWi_enter_40
  refine g_fI h t_x0 rfl rfl ?_
  refine g_fA h t_x0 rfl (rv_3_0 t_x0) ?_
  refine g_aL h (kt_3_0 t_x0) (by decide) (al_3_0 t_x0) ?_
  obtain ⟨c1, hv⟩ := hv
  refine ek_if (c_le (nL (by decide)) (show _ = Int32.ofInt (S x0 2) from rfl) c1 (g_rf (j := 2) h t_x0 rfl rfl)) (fun g2 => ?_) (fun g2 => ?_)
  · replace hv := hv.1 g2
    exact aWi_enter_72 hp   h hv
  · replace hv := hv.2 g2
    refine g_fA h t_x0 rfl (rv_3_0 t_x0) ?_
    refine g_fI h t_x0 rfl rfl ?_
    obtain ⟨c3, hv⟩ := hv
    refine g_sJ h (kt_3_0 t_x0) (al_3_0 t_x0) (show _ = Int32.ofInt (S x0 2) from rfl) c3 (show _ = Int64.ofInt x1 from rfl) r_x1 (fun S4 N5 e7 h6 => ?_)
    replace hv := hv S4 e7
    refine g_fI h6 t_x0 rfl rfl ?_
    obtain ⟨c12, hv⟩ := hv
    refine g_pI h6 t_x0 rfl rfl (h_add (show _ = Int32.ofInt (S4 x0 2) from rfl) LI_1) c12 (fun S8 N9 e11 h10 => ?_)
    replace hv := hv S8 e11
    exact aWi_enter_72 hp   h10 hv
def vWi_enter_0 (Q : St → Prop) : Nat → Int → Int → St → Prop
  | 0 => fun _ _ _ => False
  | n + 1 => fun x0 x1 S => ((((S x0 2) ≤ (S x0 1) → (vWi_enter_40 Q x0 x1 S)) ∧ (¬ (S x0 2) ≤ (S x0 1) → (((0 : Int) ≤ ((S x0 2) - 1) ∧ (((S x0 2) - 1) : Int) < 80) ∧ (((x1 ≤ (S (x0 + 1) ((S x0 2) - 1)) → (vWi_enter_40 Q x0 x1 S)) ∧ (¬ x1 ≤ (S (x0 + 1) ((S x0 2) - 1)) → ((rI ((S x0 2) - 1)) ∧ ∀ S4 : St, S4 = up S x0 2 ((S x0 2) - 1) → (vWi_enter_0 Q n x0 x1 S4)))))))))
theorem aWi_enter_0 {ad : Int → Nat} {Q : St → Prop} {post : Hp → Prop} (hp : ∀ (S : St) (M : Hp), US ad S M → Q S → post M) : ∀ (n : Nat) (w_x0 : Nat) (x0 : Int) (e_x0 : w_x0 = ad x0) (t_x0 : kt (20 + 3) x0) (w_x1 : Int64) (x1 : Int) (e_x1 : w_x1 = Int64.ofInt x1) (r_x1 : rJ x1) (S : St) (M : Hp), US ad S M → vWi_enter_0 Q n x0 x1 S → wWi_enter_0 post n w_x0 w_x1 M := by
  intro n
  induction n with
  | zero => intro w_x0 x0 e_x0 t_x0 w_x1 x1 e_x1 r_x1 S M h hv; exact hv.elim
  | succ n ih =>
    intro w_x0 x0 e_x0 t_x0 w_x1 x1 e_x1 r_x1 S M h hv
    subst e_x0
    subst e_x1
    unfold vWi_enter_0 at hv
    unfold wWi_enter_0
    refine g_fI h t_x0 rfl rfl ?_
    refine g_fI h t_x0 rfl rfl ?_
    refine ek_if (c_le (show _ = Int32.ofInt (S x0 2) from rfl) (show _ = Int32.ofInt (S x0 1) from rfl) (g_rf (j := 2) h t_x0 rfl rfl) (g_rf (j := 1) h t_x0 rfl rfl)) (fun g1 => ?_) (fun g1 => ?_)
    · replace hv := hv.1 g1
      exact aWi_enter_40 hp  rfl t_x0 (show _ = Int64.ofInt x1 from rfl) r_x1 h hv
    · replace hv := hv.2 g1
      refine g_fA h t_x0 rfl (rv_3_0 t_x0) ?_
      refine g_fI h t_x0 rfl rfl ?_
      obtain ⟨c2, hv⟩ := hv
      refine g_aJ h (kt_3_0 t_x0) (al_3_0 t_x0) (h_sub (show _ = Int32.ofInt (S x0 2) from rfl) LI_1) c2 ?_
      refine ek_if (C_le (show _ = Int64.ofInt x1 from rfl) (show _ = Int64.ofInt (S (x0 + 1) ((S x0 2) - 1)) from rfl) r_x1 (g_rJ h (kt_3_0 t_x0))) (fun g3 => ?_) (fun g3 => ?_)
      · replace hv := hv.1 g3
        exact aWi_enter_40 hp  rfl t_x0 (show _ = Int64.ofInt x1 from rfl) r_x1 h hv
      · replace hv := hv.2 g3
        refine g_fI h t_x0 rfl rfl ?_
        obtain ⟨c8, hv⟩ := hv
        refine g_pI h t_x0 rfl rfl (h_sub (show _ = Int32.ofInt (S x0 2) from rfl) LI_1) c8 (fun S4 N5 e7 h6 => ?_)
        replace hv := hv S4 e7
        exact ih _ _ rfl t_x0 _ _ (show _ = Int64.ofInt x1 from rfl) r_x1 _ _ h6 hv
def vpWi_enter (self : Int) (p0 : Int) (S : St) (Q : St → Prop) : Prop := (∃ n65 : Nat, (vWi_enter_0 Q n65 self p0 S))
theorem apWi_enter {ad : Int → Nat} {Q : St → Prop} {post : Hp → Prop} (hp : ∀ (S : St) (M : Hp), US ad S M → Q S → post M) {w_self : Nat} {self : Int} (e_self : w_self = ad self) (t_self : kt (20 + 3) self) {w_p0 : Int64} {p0 : Int} (e_p0 : w_p0 = Int64.ofInt p0) (r_p0 : rJ p0) {S : St} {M : Hp} (h : US ad S M) (hv : vpWi_enter self p0 S Q) : wpWi_enter w_self w_p0 M post := by
  subst e_self
  subst e_p0
  unfold vpWi_enter at hv
  unfold wpWi_enter
  obtain ⟨n65, hv⟩ := hv
  refine ⟨n65, ?_⟩
  exact aWi_enter_0 hp  n65 _ _ rfl t_self _ _ (show _ = Int64.ofInt p0 from rfl) r_p0 _ _ h hv
def vCu_letEndIn_64 (Q : St → Prop) (S : St) : Prop := (Q S)
theorem aCu_letEndIn_64 {ad : Int → Nat} {Q : St → Prop} {post : Hp → Prop} (hp : ∀ (S : St) (M : Hp), US ad S M → Q S → post M)  {S : St} {M : Hp} (h : US ad S M) (hv : vCu_letEndIn_64 Q  S) : wCu_letEndIn_64 post  M := by
  unfold vCu_letEndIn_64 at hv
  unfold wCu_letEndIn_64
  exact hp _ _ h hv
def vpCu_letEndIn (self : Int) (p0 : Int) (p1 : Int) (p2 : Int) (p3 : Int) (p4 : Int) (S : St) (Q : St → Prop) : Prop := ((rI (p3 + (S p2 3))) ∧ ∀ z5 : Int, z5 = (p3 + (S p2 3)) → ((((S p0 11) < z5 → (vCu_letEndIn_64 Q  S)) ∧ (¬ (S p0 11) < z5 → ((rI (z5 + p4)) ∧ ((0 : Int) ≤ (min (S p0 11) (z5 + p4)) ∧ ((min (S p0 11) (z5 + p4)) : Int) < 81) ∧ ((rJ ((((((S p2 7) * z5) * 128) + (S 104 (min (S p0 11) (z5 + p4)))) * 128) + z5)) ∧ vpWi_enter p1 ((((((S p2 7) * z5) * 128) + (S 104 (min (S p0 11) (z5 + p4)))) * 128) + z5) S (fun (S9 : St) => (vCu_letEndIn_64 Q  S9))))))))
theorem apCu_letEndIn {ad : Int → Nat} {Q : St → Prop} {post : Hp → Prop} (hp : ∀ (S : St) (M : Hp), US ad S M → Q S → post M) {w_self : Nat} {self : Int} (e_self : w_self = ad self) (t_self : kt (20 + 4) self) {w_p0 : Nat} {p0 : Int} (e_p0 : w_p0 = ad p0) (t_p0 : kt (20 + 1) p0) {w_p1 : Nat} {p1 : Int} (e_p1 : w_p1 = ad p1) (t_p1 : kt (20 + 3) p1) {w_p2 : Nat} {p2 : Int} (e_p2 : w_p2 = ad p2) (t_p2 : kt (20 + 2) p2) {w_p3 : Int32} {p3 : Int} (e_p3 : w_p3 = Int32.ofInt p3) (r_p3 : rI p3) {w_p4 : Int32} {p4 : Int} (e_p4 : w_p4 = Int32.ofInt p4) (r_p4 : rI p4) {S : St} {M : Hp} (h : US ad S M) (hv : vpCu_letEndIn self p0 p1 p2 p3 p4 S Q) : wpCu_letEndIn w_self w_p0 w_p1 w_p2 w_p3 w_p4 M post := by
  subst e_self
  subst e_p0
  subst e_p1
  subst e_p2
  subst e_p3
  subst e_p4
  unfold vpCu_letEndIn at hv
  unfold wpCu_letEndIn
  refine g_fI h t_p2 rfl rfl ?_
  obtain ⟨c1, hv⟩ := hv
  refine nm_z (h_add (show _ = Int32.ofInt p3 from rfl) (show _ = Int32.ofInt (S p2 3) from rfl)) (fun z5 e2 => ?_)
  have r3 : rI z5 := by rw [e2]; exact c1
  replace hv := hv z5 e2
  refine g_fI h t_p0 rfl rfl ?_
  refine ek_if (c_lt (show _ = Int32.ofInt (S p0 11) from rfl) (show _ = Int32.ofInt z5 from rfl) (g_rf (j := 11) h t_p0 rfl rfl) r3) (fun g4 => ?_) (fun g4 => ?_)
  · replace hv := hv.1 g4
    exact aCu_letEndIn_64 hp   h hv
  · replace hv := hv.2 g4
    refine g_fA h t_self rfl (rv_4_0 t_self) ?_
    refine g_fI h t_p0 rfl rfl ?_
    obtain ⟨c5, c6, hv⟩ := hv
    refine g_aJ h (show kt 3 104 by decide) (show alen 104 = 81 by decide) (h_min (show _ = Int32.ofInt (S p0 11) from rfl) (h_add (show _ = Int32.ofInt z5 from rfl) (show _ = Int32.ofInt p4 from rfl)) (g_rf (j := 11) h t_p0 rfl rfl) c5) c6 ?_
    refine g_fJ h t_p2 rfl rfl ?_
    refine ⟨g_ob h t_p1, ?_⟩
    obtain ⟨c7, hv⟩ := hv
    refine apWi_enter (fun S9 N10 h11 hv => ?_) rfl t_p1 (H_add (H_mul (H_add (H_mul (H_mul (show _ = Int64.ofInt (S p2 7) from rfl) (h_toL (show _ = Int32.ofInt z5 from rfl) r3)) LJ_128) (show _ = Int64.ofInt (S 104 (min (S p0 11) (z5 + p4))) from rfl)) LJ_128) (h_toL (show _ = Int32.ofInt z5 from rfl) r3)) c7 h hv
    exact aCu_letEndIn_64 hp   h11 hv
def vpCu_endOf (p0 : Int) (S : St) (Q : Int → St → Prop) : Prop := (vpMa_floorMod p0 128 S (fun (r1 : Int) (S2 : St) => ((rI r1) ∧ Q r1 S2)))
theorem apCu_endOf {ad : Int → Nat} {Q : Int → St → Prop} {post : Int32 → Hp → Prop} (hp : ∀ (r : Int) (S : St) (M : Hp), US ad S M → rI r → Q r S → post (Int32.ofInt r) M) {w_p0 : Int64} {p0 : Int} (e_p0 : w_p0 = Int64.ofInt p0) (r_p0 : rJ p0) {S : St} {M : Hp} (h : US ad S M) (hv : vpCu_endOf p0 S Q) : wpCu_endOf w_p0 M post := by
  subst e_p0
  unfold vpCu_endOf at hv
  unfold wpCu_endOf
  refine apMa_floorMod (fun r1 S2 N3 h4 r5 hv => ?_) (show _ = Int64.ofInt p0 from rfl) r_p0 LJ_128 LJ_128r h hv
  obtain ⟨c6, hv⟩ := hv
  refine ek_v (P := fun y => post y _) (H_toI (show _ = Int64.ofInt r1 from rfl) r5) ?_
  exact hp _ _ _ h4 c6 hv
def vWi_leaveBeyond_40 (Q : St → Prop) (S : St) : Prop := (Q S)
theorem aWi_leaveBeyond_40 {ad : Int → Nat} {Q : St → Prop} {post : Hp → Prop} (hp : ∀ (S : St) (M : Hp), US ad S M → Q S → post M)  {S : St} {M : Hp} (h : US ad S M) (hv : vWi_leaveBeyond_40 Q  S) : wWi_leaveBeyond_40 post  M := by
  unfold vWi_leaveBeyond_40 at hv
  unfold wWi_leaveBeyond_40
  exact hp _ _ h hv
def vWi_leaveBeyond_0 (Q : St → Prop) : Nat → Int → Int → St → Prop
  | 0 => fun _ _ _ => False
  | n + 1 => fun x0 x1 S => ((((S x0 2) ≤ (S x0 1) → (vWi_leaveBeyond_40 Q  S)) ∧ (¬ (S x0 2) ≤ (S x0 1) → (((0 : Int) ≤ (S x0 1) ∧ ((S x0 1) : Int) < 80) ∧ (vpCu_endOf (S (x0 + 1) (S x0 1)) S (fun (r3 : Int) (S4 : St) => (((r3 ≤ x1 → (vWi_leaveBeyond_40 Q  S4)) ∧ (¬ r3 ≤ x1 → ((rI ((S4 x0 1) + 1)) ∧ ∀ S9 : St, S9 = up S4 x0 1 ((S4 x0 1) + 1) → (vWi_leaveBeyond_0 Q n x0 x1 S9)))))))))))
theorem aWi_leaveBeyond_0 {ad : Int → Nat} {Q : St → Prop} {post : Hp → Prop} (hp : ∀ (S : St) (M : Hp), US ad S M → Q S → post M) : ∀ (n : Nat) (w_x0 : Nat) (x0 : Int) (e_x0 : w_x0 = ad x0) (t_x0 : kt (20 + 3) x0) (w_x1 : Int32) (x1 : Int) (e_x1 : w_x1 = Int32.ofInt x1) (r_x1 : rI x1) (S : St) (M : Hp), US ad S M → vWi_leaveBeyond_0 Q n x0 x1 S → wWi_leaveBeyond_0 post n w_x0 w_x1 M := by
  intro n
  induction n with
  | zero => intro w_x0 x0 e_x0 t_x0 w_x1 x1 e_x1 r_x1 S M h hv; exact hv.elim
  | succ n ih =>
    intro w_x0 x0 e_x0 t_x0 w_x1 x1 e_x1 r_x1 S M h hv
    subst e_x0
    subst e_x1
    unfold vWi_leaveBeyond_0 at hv
    unfold wWi_leaveBeyond_0
    refine g_fI h t_x0 rfl rfl ?_
    refine g_fI h t_x0 rfl rfl ?_
    refine ek_if (c_le (show _ = Int32.ofInt (S x0 2) from rfl) (show _ = Int32.ofInt (S x0 1) from rfl) (g_rf (j := 2) h t_x0 rfl rfl) (g_rf (j := 1) h t_x0 rfl rfl)) (fun g1 => ?_) (fun g1 => ?_)
    · replace hv := hv.1 g1
      exact aWi_leaveBeyond_40 hp   h hv
    · replace hv := hv.2 g1
      refine g_fA h t_x0 rfl (rv_3_0 t_x0) ?_
      refine g_fI h t_x0 rfl rfl ?_
      obtain ⟨c2, hv⟩ := hv
      refine g_aJ h (kt_3_0 t_x0) (al_3_0 t_x0) (show _ = Int32.ofInt (S x0 1) from rfl) c2 ?_
      refine apCu_endOf (fun r3 S4 N5 h6 r7 hv => ?_) (show _ = Int64.ofInt (S (x0 + 1) (S x0 1)) from rfl) (g_rJ h (kt_3_0 t_x0)) h hv
      refine ek_if (c_le (show _ = Int32.ofInt r3 from rfl) (show _ = Int32.ofInt x1 from rfl) r7 r_x1) (fun g8 => ?_) (fun g8 => ?_)
      · replace hv := hv.1 g8
        exact aWi_leaveBeyond_40 hp   h6 hv
      · replace hv := hv.2 g8
        refine g_fI h6 t_x0 rfl rfl ?_
        obtain ⟨c13, hv⟩ := hv
        refine g_pI h6 t_x0 rfl rfl (h_add (show _ = Int32.ofInt (S4 x0 1) from rfl) LI_1) c13 (fun S9 N10 e12 h11 => ?_)
        replace hv := hv S9 e12
        exact ih _ _ rfl t_x0 _ _ (show _ = Int32.ofInt x1 from rfl) r_x1 _ _ h11 hv
def vpWi_leaveBeyond (self : Int) (p0 : Int) (S : St) (Q : St → Prop) : Prop := (∃ n34 : Nat, (vWi_leaveBeyond_0 Q n34 self p0 S))
theorem apWi_leaveBeyond {ad : Int → Nat} {Q : St → Prop} {post : Hp → Prop} (hp : ∀ (S : St) (M : Hp), US ad S M → Q S → post M) {w_self : Nat} {self : Int} (e_self : w_self = ad self) (t_self : kt (20 + 3) self) {w_p0 : Int32} {p0 : Int} (e_p0 : w_p0 = Int32.ofInt p0) (r_p0 : rI p0) {S : St} {M : Hp} (h : US ad S M) (hv : vpWi_leaveBeyond self p0 S Q) : wpWi_leaveBeyond w_self w_p0 M post := by
  subst e_self
  subst e_p0
  unfold vpWi_leaveBeyond at hv
  unfold wpWi_leaveBeyond
  obtain ⟨n34, hv⟩ := hv
  refine ⟨n34, ?_⟩
  exact aWi_leaveBeyond_0 hp  n34 _ _ rfl t_self _ _ (show _ = Int32.ofInt p0 from rfl) r_p0 _ _ h hv
def vpCu_rankOfBest (p0 : Int) (p1 : Int) (p2 : Int) (p3 : Int) (S : St) (Q : Int → St → Prop) : Prop := ((((S p0 1) < (S p0 2) → (((0 : Int) ≤ p3 ∧ (p3 : Int) < 7) ∧ ((rJ (((S (p1 + 3) p3) - (S p1 9)) - ((S p1 7) * p2))) ∧ ∀ z27 : Int, z27 = (((S (p1 + 3) p3) - (S p1 9)) - ((S p1 7) * p2)) → (((0 : Int) ≤ (S p0 1) ∧ ((S p0 1) : Int) < 80) ∧ ((rJ ((S (p0 + 1) (S p0 1)) + (((z27 * 128) - 1) * 128))) ∧ Q ((S (p0 + 1) (S p0 1)) + (((z27 * 128) - 1) * 128)) S))))) ∧ (¬ (S p0 1) < (S p0 2) → (Q (-1) S))))
theorem apCu_rankOfBest {ad : Int → Nat} {Q : Int → St → Prop} {post : Int64 → Hp → Prop} (hp : ∀ (r : Int) (S : St) (M : Hp), US ad S M → rJ r → Q r S → post (Int64.ofInt r) M) {w_p0 : Nat} {p0 : Int} (e_p0 : w_p0 = ad p0) (t_p0 : kt (20 + 3) p0) {w_p1 : Nat} {p1 : Int} (e_p1 : w_p1 = ad p1) (t_p1 : kt (20 + 2) p1) {w_p2 : Int32} {p2 : Int} (e_p2 : w_p2 = Int32.ofInt p2) (r_p2 : rI p2) {w_p3 : Int32} {p3 : Int} (e_p3 : w_p3 = Int32.ofInt p3) (r_p3 : rI p3) {S : St} {M : Hp} (h : US ad S M) (hv : vpCu_rankOfBest p0 p1 p2 p3 S Q) : wpCu_rankOfBest w_p0 w_p1 w_p2 w_p3 M post := by
  subst e_p0
  subst e_p1
  subst e_p2
  subst e_p3
  unfold vpCu_rankOfBest at hv
  unfold wpCu_rankOfBest
  refine g_fI h t_p0 rfl rfl ?_
  refine g_fI h t_p0 rfl rfl ?_
  refine ek_if (c_lt (show _ = Int32.ofInt (S p0 1) from rfl) (show _ = Int32.ofInt (S p0 2) from rfl) (g_rf (j := 1) h t_p0 rfl rfl) (g_rf (j := 2) h t_p0 rfl rfl)) (fun g1 => ?_) (fun g1 => ?_)
  · replace hv := hv.1 g1
    refine g_fA h t_p1 rfl (rv_2_2 t_p1) ?_
    obtain ⟨c2, hv⟩ := hv
    refine g_aJ h (kt_2_2 t_p1) (al_2_2 t_p1) (show _ = Int32.ofInt p3 from rfl) c2 ?_
    refine g_fJ h t_p1 rfl rfl ?_
    refine g_fJ h t_p1 rfl rfl ?_
    obtain ⟨c3, hv⟩ := hv
    refine nm_Z (H_sub (H_sub (show _ = Int64.ofInt (S (p1 + 3) p3) from rfl) (show _ = Int64.ofInt (S p1 9) from rfl)) (H_mul (show _ = Int64.ofInt (S p1 7) from rfl) (h_toL (show _ = Int32.ofInt p2 from rfl) r_p2))) (fun z27 e4 => ?_)
    have r5 : rJ z27 := by rw [e4]; exact c3
    replace hv := hv z27 e4
    refine g_fA h t_p0 rfl (rv_3_0 t_p0) ?_
    refine g_fI h t_p0 rfl rfl ?_
    obtain ⟨c6, hv⟩ := hv
    refine g_aJ h (kt_3_0 t_p0) (al_3_0 t_p0) (show _ = Int32.ofInt (S p0 1) from rfl) c6 ?_
    obtain ⟨c7, hv⟩ := hv
    refine ek_v (P := fun y => post y _) (H_add (show _ = Int64.ofInt (S (p0 + 1) (S p0 1)) from rfl) (H_mul (H_sub (H_mul (show _ = Int64.ofInt z27 from rfl) LJ_128) LJ_1) LJ_128)) ?_
    exact hp _ _ _ h c7 hv
  · replace hv := hv.2 g1
    refine ek_v (P := fun y => post y _) LJ_m1 ?_
    exact hp _ _ _ h LJ_m1r hv
def vCu_workOut_166 (Q : St → Prop) (K44 : Int → Int → Int → Int → Int → Int → Int → St → Prop) (K79 : Int → Int → Int → Int → Int → Int → Int → Int → Int → St → Prop) (x0 : Int) (x1 : Int) (x2 : Int) (x3 : Int) (x4 : Int) (x5 : Int) (x6 : Int) (x7 : Int) (x9 : Int) (S : St) : Prop := ((rI (x9 + 1)) ∧ ∀ z1 : Int, z1 = (x9 + 1) → (K79 x0 x1 x2 x3 x4 x5 x6 x7 z1 S))
theorem aCu_workOut_166 {ad : Int → Nat} {Q : St → Prop} {K44 : Int → Int → Int → Int → Int → Int → Int → St → Prop} {K79 : Int → Int → Int → Int → Int → Int → Int → Int → Int → St → Prop} {post : Hp → Prop} {k44 : Nat → Nat → Int32 → Nat → Int32 → Int32 → Int32 → Hp → Prop} {k79 : Nat → Nat → Int32 → Nat → Int32 → Int32 → Int32 → Int64 → Int32 → Hp → Prop} (hp : ∀ (S : St) (M : Hp), US ad S M → Q S → post M) (hk44 : ∀ (b0 b1 b2 b3 b4 b5 b6 : Int) (S : St) (M : Hp), kt (20 + 4) b0 → kt (20 + 1) b1 → rI b2 → kt (10 + 4) b3 → rI b4 → rI b5 → rI b6 → US ad S M → K44 b0 b1 b2 b3 b4 b5 b6 S → k44 (ad b0) (ad b1) (Int32.ofInt b2) (ad b3) (Int32.ofInt b4) (Int32.ofInt b5) (Int32.ofInt b6) M) (hk79 : ∀ (b0 b1 b2 b3 b4 b5 b6 b7 b8 : Int) (S : St) (M : Hp), kt (20 + 4) b0 → kt (20 + 1) b1 → rI b2 → kt (10 + 4) b3 → rI b4 → rI b5 → rI b6 → rJ b7 → rI b8 → US ad S M → K79 b0 b1 b2 b3 b4 b5 b6 b7 b8 S → k79 (ad b0) (ad b1) (Int32.ofInt b2) (ad b3) (Int32.ofInt b4) (Int32.ofInt b5) (Int32.ofInt b6) (Int64.ofInt b7) (Int32.ofInt b8) M) {w_x0 : Nat} {x0 : Int} (e_x0 : w_x0 = ad x0) (t_x0 : kt (20 + 4) x0) {w_x1 : Nat} {x1 : Int} (e_x1 : w_x1 = ad x1) (t_x1 : kt (20 + 1) x1) {w_x2 : Int32} {x2 : Int} (e_x2 : w_x2 = Int32.ofInt x2) (r_x2 : rI x2) {w_x3 : Nat} {x3 : Int} (e_x3 : w_x3 = ad x3) (t_x3 : kt (10 + 4) x3) {w_x4 : Int32} {x4 : Int} (e_x4 : w_x4 = Int32.ofInt x4) (r_x4 : rI x4) {w_x5 : Int32} {x5 : Int} (e_x5 : w_x5 = Int32.ofInt x5) (r_x5 : rI x5) {w_x6 : Int32} {x6 : Int} (e_x6 : w_x6 = Int32.ofInt x6) (r_x6 : rI x6) {w_x7 : Int64} {x7 : Int} (e_x7 : w_x7 = Int64.ofInt x7) (r_x7 : rJ x7) {w_x9 : Int32} {x9 : Int} (e_x9 : w_x9 = Int32.ofInt x9) (r_x9 : rI x9) {S : St} {M : Hp} (h : US ad S M) (hv : vCu_workOut_166 Q K44 K79 x0 x1 x2 x3 x4 x5 x6 x7 x9 S) : wCu_workOut_166 post k44 k79 w_x0 w_x1 w_x2 w_x3 w_x4 w_x5 w_x6 w_x7 w_x9 M := by
  subst e_x0
  subst e_x1
  subst e_x2
  subst e_x3
  subst e_x4
  subst e_x5
  subst e_x6
  subst e_x7
  subst e_x9
  unfold vCu_workOut_166 at hv
  unfold wCu_workOut_166
  obtain ⟨c1, hv⟩ := hv
  refine nm_z (h_add (show _ = Int32.ofInt x9 from rfl) LI_1) (fun z1 e2 => ?_)
  have r3 : rI z1 := by rw [e2]; exact c1
  replace hv := hv z1 e2
  exact hk79 _ _ _ _ _ _ _ _ _ _ _ t_x0 t_x1 r_x2 t_x3 r_x4 r_x5 r_x6 r_x7 r3 h hv
def vCu_workOut_79 (Q : St → Prop) (K44 : Int → Int → Int → Int → Int → Int → Int → St → Prop) : Nat → Int → Int → Int → Int → Int → Int → Int → Int → Int → St → Prop
  | 0 => fun _ _ _ _ _ _ _ _ _ _ => False
  | n + 1 => fun x0 x1 x2 x3 x4 x5 x6 x7 x9 S => (((x4 ≤ x9 → (vpMa_floorDiv x7 128 S (fun (r2 : Int) (S3 : St) => (((0 : Int) ≤ x6 ∧ (x6 : Int) < 81) ∧ ∀ S8 : St, S8 = up S3 104 x6 r2 → (vpCu_endOf x7 S8 (fun (r12 : Int) (S13 : St) => (((0 : Int) ≤ x6 ∧ (x6 : Int) < 80) ∧ ∀ S18 : St, S18 = up S13 105 x6 r12 → ((rI (x6 + (-1))) ∧ ∀ z25 : Int, z25 = (x6 + (-1)) → (K44 x0 x1 x2 x3 x4 x5 z25 S18))))))))) ∧ (¬ x4 ≤ x9 → (((0 : Int) ≤ x9 ∧ (x9 : Int) < 8) ∧ (((0 : Int) ≤ x9 ∧ (x9 : Int) < (alen x3)) ∧ (vpCu_letEndIn x0 x1 (110 + 2 * x9) (140 + 4 * x9) x6 x5 S (fun (S28 : St) => (((0 : Int) ≤ x9 ∧ (x9 : Int) < 8) ∧ (((0 : Int) ≤ x9 ∧ (x9 : Int) < 8) ∧ (((0 : Int) ≤ x6 ∧ (x6 : Int) < 80) ∧ (vpWi_leaveBeyond (110 + 2 * x9) (S28 ((x1 + 9) + (1 + x9)) x6) S28 (fun (S36 : St) => (((0 : Int) ≤ x9 ∧ (x9 : Int) < 8) ∧ (((0 : Int) ≤ x9 ∧ (x9 : Int) < (alen x3)) ∧ (vpCu_rankOfBest (110 + 2 * x9) (140 + 4 * x9) x6 x2 S36 (fun (r42 : Int) (S43 : St) => (((r42 ≤ x7 → (vCu_workOut_166 Q K44 (vCu_workOut_79 Q K44 n) x0 x1 x2 x3 x4 x5 x6 x7 x9 S43)) ∧ (¬ r42 ≤ x7 → (((0 : Int) ≤ x6 ∧ (x6 : Int) < 80) ∧ ∀ S49 : St, S49 = up S43 106 x6 x9 → (vCu_workOut_166 Q K44 (vCu_workOut_79 Q K44 n) x0 x1 x2 x3 x4 x5 x6 r42 x9 S49)))))))))))))))))))))
theorem aCu_workOut_79 {ad : Int → Nat} {Q : St → Prop} {K44 : Int → Int → Int → Int → Int → Int → Int → St → Prop} {post : Hp → Prop} {k44 : Nat → Nat → Int32 → Nat → Int32 → Int32 → Int32 → Hp → Prop} (hp : ∀ (S : St) (M : Hp), US ad S M → Q S → post M) (hk44 : ∀ (b0 b1 b2 b3 b4 b5 b6 : Int) (S : St) (M : Hp), kt (20 + 4) b0 → kt (20 + 1) b1 → rI b2 → kt (10 + 4) b3 → rI b4 → rI b5 → rI b6 → US ad S M → K44 b0 b1 b2 b3 b4 b5 b6 S → k44 (ad b0) (ad b1) (Int32.ofInt b2) (ad b3) (Int32.ofInt b4) (Int32.ofInt b5) (Int32.ofInt b6) M) : ∀ (n : Nat) (w_x0 : Nat) (x0 : Int) (e_x0 : w_x0 = ad x0) (t_x0 : kt (20 + 4) x0) (w_x1 : Nat) (x1 : Int) (e_x1 : w_x1 = ad x1) (t_x1 : kt (20 + 1) x1) (w_x2 : Int32) (x2 : Int) (e_x2 : w_x2 = Int32.ofInt x2) (r_x2 : rI x2) (w_x3 : Nat) (x3 : Int) (e_x3 : w_x3 = ad x3) (t_x3 : kt (10 + 4) x3) (w_x4 : Int32) (x4 : Int) (e_x4 : w_x4 = Int32.ofInt x4) (r_x4 : rI x4) (w_x5 : Int32) (x5 : Int) (e_x5 : w_x5 = Int32.ofInt x5) (r_x5 : rI x5) (w_x6 : Int32) (x6 : Int) (e_x6 : w_x6 = Int32.ofInt x6) (r_x6 : rI x6) (w_x7 : Int64) (x7 : Int) (e_x7 : w_x7 = Int64.ofInt x7) (r_x7 : rJ x7) (w_x9 : Int32) (x9 : Int) (e_x9 : w_x9 = Int32.ofInt x9) (r_x9 : rI x9) (S : St) (M : Hp), US ad S M → vCu_workOut_79 Q K44 n x0 x1 x2 x3 x4 x5 x6 x7 x9 S → wCu_workOut_79 post k44 n w_x0 w_x1 w_x2 w_x3 w_x4 w_x5 w_x6 w_x7 w_x9 M := by
  intro n
  induction n with
  | zero => intro w_x0 x0 e_x0 t_x0 w_x1 x1 e_x1 t_x1 w_x2 x2 e_x2 r_x2 w_x3 x3 e_x3 t_x3 w_x4 x4 e_x4 r_x4 w_x5 x5 e_x5 r_x5 w_x6 x6 e_x6 r_x6 w_x7 x7 e_x7 r_x7 w_x9 x9 e_x9 r_x9 S M h hv; exact hv.elim
  | succ n ih =>
    intro w_x0 x0 e_x0 t_x0 w_x1 x1 e_x1 t_x1 w_x2 x2 e_x2 r_x2 w_x3 x3 e_x3 t_x3 w_x4 x4 e_x4 r_x4 w_x5 x5 e_x5 r_x5 w_x6 x6 e_x6 r_x6 w_x7 x7 e_x7 r_x7 w_x9 x9 e_x9 r_x9 S M h hv
    subst e_x0
    subst e_x1
    subst e_x2
    subst e_x3
    subst e_x4
    subst e_x5
    subst e_x6
    subst e_x7
    subst e_x9
    unfold vCu_workOut_79 at hv
    unfold wCu_workOut_79
    refine ek_if (c_le (show _ = Int32.ofInt x4 from rfl) (show _ = Int32.ofInt x9 from rfl) r_x4 r_x9) (fun g1 => ?_) (fun g1 => ?_)
    · replace hv := hv.1 g1
      refine g_fA h t_x0 rfl (rv_4_0 t_x0) ?_
      refine apMa_floorDiv (fun r2 S3 N4 h5 r6 hv => ?_) (show _ = Int64.ofInt x7 from rfl) r_x7 LJ_128 LJ_128r h hv
      obtain ⟨c7, hv⟩ := hv
      refine g_sJ h5 (show kt 3 104 by decide) (show alen 104 = 81 by decide) (show _ = Int32.ofInt x6 from rfl) c7 (show _ = Int64.ofInt r2 from rfl) r6 (fun S8 N9 e11 h10 => ?_)
      replace hv := hv S8 e11
      refine g_fA h10 t_x0 rfl (rv_4_1 t_x0) ?_
      refine apCu_endOf (fun r12 S13 N14 h15 r16 hv => ?_) (show _ = Int64.ofInt x7 from rfl) r_x7 h10 hv
      obtain ⟨c17, hv⟩ := hv
      refine g_sI h15 (show kt 1 105 by decide) (show alen 105 = 80 by decide) (show _ = Int32.ofInt x6 from rfl) c17 (show _ = Int32.ofInt r12 from rfl) r16 (fun S18 N19 e21 h20 => ?_)
      replace hv := hv S18 e21
      obtain ⟨c22, hv⟩ := hv
      refine nm_z (h_add (show _ = Int32.ofInt x6 from rfl) LI_m1) (fun z25 e23 => ?_)
      have r24 : rI z25 := by rw [e23]; exact c22
      replace hv := hv z25 e23
      exact hk44 _ _ _ _ _ _ _ _ _ t_x0 t_x1 r_x2 t_x3 r_x4 r_x5 r24 h20 hv
    · replace hv := hv.2 g1
      refine g_fA h t_x0 rfl (rv_4_3 t_x0) ?_
      obtain ⟨c25, hv⟩ := hv
      refine g_aA h (show kt (10 + 5) 107 by decide) (by decide) (show alen 107 = 8 by decide) (show _ = Int32.ofInt x9 from rfl) c25 (rk_5 (show kt (10 + 5) 107 by decide)) ?_
      obtain ⟨c26, hv⟩ := hv
      refine g_aA h t_x3 (by decide) rfl (show _ = Int32.ofInt x9 from rfl) c26 (rk_4 t_x3) ?_
      refine ⟨g_ob h t_x0, ?_⟩
      refine apCu_letEndIn (fun S28 N29 h30 hv => ?_) rfl t_x0 rfl t_x1 rfl (kA_5 c25) rfl (kA_4 (al_c c26 (al_40 t_x3))) (show _ = Int32.ofInt x6 from rfl) r_x6 (show _ = Int32.ofInt x5 from rfl) r_x5 h hv
      refine g_fA h30 t_x0 rfl (rv_4_3 t_x0) ?_
      obtain ⟨c32, hv⟩ := hv
      refine g_aA h30 (show kt (10 + 5) 107 by decide) (by decide) (show alen 107 = 8 by decide) (show _ = Int32.ofInt x9 from rfl) c32 (rk_5 (show kt (10 + 5) 107 by decide)) ?_
      refine g_fA h30 t_x1 rfl (rv_1_8 t_x1) ?_
      obtain ⟨c33, hv⟩ := hv
      refine g_aA h30 (kt_1_8 t_x1) (by decide) (al_1_8 t_x1) (show _ = Int32.ofInt x9 from rfl) c33 (rk_6 (kt_1_8 t_x1)) ?_
      obtain ⟨c34, hv⟩ := hv
      refine g_aI h30 (kA_6 (kt_1_8 t_x1) c33) (aA_6 (kt_1_8 t_x1) c33) (show _ = Int32.ofInt x6 from rfl) c34 ?_
      refine ⟨g_ob h30 (kA_5 c32), ?_⟩
      refine apWi_leaveBeyond (fun S36 N37 h38 hv => ?_) rfl (kA_5 c32) (show _ = Int32.ofInt (S28 ((x1 + 9) + (1 + x9)) x6) from rfl) (g_rI h30 (kA_6 (kt_1_8 t_x1) c33) (by decide)) h30 hv
      refine g_fA h38 t_x0 rfl (rv_4_3 t_x0) ?_
      obtain ⟨c40, hv⟩ := hv
      refine g_aA h38 (show kt (10 + 5) 107 by decide) (by decide) (show alen 107 = 8 by decide) (show _ = Int32.ofInt x9 from rfl) c40 (rk_5 (show kt (10 + 5) 107 by decide)) ?_
      obtain ⟨c41, hv⟩ := hv
      refine g_aA h38 t_x3 (by decide) rfl (show _ = Int32.ofInt x9 from rfl) c41 (rk_4 t_x3) ?_
      refine apCu_rankOfBest (fun r42 S43 N44 h45 r46 hv => ?_) rfl (kA_5 c40) rfl (kA_4 (al_c c41 (al_40 t_x3))) (show _ = Int32.ofInt x6 from rfl) r_x6 (show _ = Int32.ofInt x2 from rfl) r_x2 h38 hv
      refine ek_if (C_le (show _ = Int64.ofInt r42 from rfl) (show _ = Int64.ofInt x7 from rfl) r46 r_x7) (fun g47 => ?_) (fun g47 => ?_)
      · replace hv := hv.1 g47
        exact aCu_workOut_166 hp hk44 (fun b0 b1 b2 b3 b4 b5 b6 b7 b8 S9 M9 y0 y1 y2 y3 y4 y5 y6 y7 y8 h9 hv9 => ih _ b0 rfl y0 _ b1 rfl y1 _ b2 rfl y2 _ b3 rfl y3 _ b4 rfl y4 _ b5 rfl y5 _ b6 rfl y6 _ b7 rfl y7 _ b8 rfl y8 S9 M9 h9 hv9) rfl t_x0 rfl t_x1 (show _ = Int32.ofInt x2 from rfl) r_x2 rfl t_x3 (show _ = Int32.ofInt x4 from rfl) r_x4 (show _ = Int32.ofInt x5 from rfl) r_x5 (show _ = Int32.ofInt x6 from rfl) r_x6 (show _ = Int64.ofInt x7 from rfl) r_x7 (show _ = Int32.ofInt x9 from rfl) r_x9 h45 hv
      · replace hv := hv.2 g47
        refine g_fA h45 t_x0 rfl (rv_4_2 t_x0) ?_
        obtain ⟨c48, hv⟩ := hv
        refine g_sI h45 (show kt 1 106 by decide) (show alen 106 = 80 by decide) (show _ = Int32.ofInt x6 from rfl) c48 (show _ = Int32.ofInt x9 from rfl) r_x9 (fun S49 N50 e52 h51 => ?_)
        replace hv := hv S49 e52
        exact aCu_workOut_166 hp hk44 (fun b0 b1 b2 b3 b4 b5 b6 b7 b8 S9 M9 y0 y1 y2 y3 y4 y5 y6 y7 y8 h9 hv9 => ih _ b0 rfl y0 _ b1 rfl y1 _ b2 rfl y2 _ b3 rfl y3 _ b4 rfl y4 _ b5 rfl y5 _ b6 rfl y6 _ b7 rfl y7 _ b8 rfl y8 S9 M9 h9 hv9) rfl t_x0 rfl t_x1 (show _ = Int32.ofInt x2 from rfl) r_x2 rfl t_x3 (show _ = Int32.ofInt x4 from rfl) r_x4 (show _ = Int32.ofInt x5 from rfl) r_x5 (show _ = Int32.ofInt x6 from rfl) r_x6 (show _ = Int64.ofInt r42 from rfl) r46 (show _ = Int32.ofInt x9 from rfl) r_x9 h51 hv
def vCu_workOut_44 (Q : St → Prop) : Nat → Int → Int → Int → Int → Int → Int → Int → St → Prop
  | 0 => fun _ _ _ _ _ _ _ _ => False
  | n + 1 => fun x0 x1 x2 x3 x4 x5 x6 S => (((x6 < 0 → (Q S)) ∧ (¬ x6 < 0 → (((0 : Int) ≤ (x6 + 1) ∧ ((x6 + 1) : Int) < 81) ∧ ((rJ (((S 104 (x6 + 1)) * 128) + x6)) ∧ ∀ z109 : Int, z109 = (((S 104 (x6 + 1)) * 128) + x6) → (((0 : Int) ≤ x6 ∧ (x6 : Int) < 80) ∧ ∀ S7 : St, S7 = up S 106 x6 (-1) → (∃ n119 : Nat, (vCu_workOut_79 Q (vCu_workOut_44 Q n) n119 x0 x1 x2 x3 x4 x5 x6 z109 0 S7))))))))
theorem aCu_workOut_44 {ad : Int → Nat} {Q : St → Prop} {post : Hp → Prop} (hp : ∀ (S : St) (M : Hp), US ad S M → Q S → post M) : ∀ (n : Nat) (w_x0 : Nat) (x0 : Int) (e_x0 : w_x0 = ad x0) (t_x0 : kt (20 + 4) x0) (w_x1 : Nat) (x1 : Int) (e_x1 : w_x1 = ad x1) (t_x1 : kt (20 + 1) x1) (w_x2 : Int32) (x2 : Int) (e_x2 : w_x2 = Int32.ofInt x2) (r_x2 : rI x2) (w_x3 : Nat) (x3 : Int) (e_x3 : w_x3 = ad x3) (t_x3 : kt (10 + 4) x3) (w_x4 : Int32) (x4 : Int) (e_x4 : w_x4 = Int32.ofInt x4) (r_x4 : rI x4) (w_x5 : Int32) (x5 : Int) (e_x5 : w_x5 = Int32.ofInt x5) (r_x5 : rI x5) (w_x6 : Int32) (x6 : Int) (e_x6 : w_x6 = Int32.ofInt x6) (r_x6 : rI x6) (S : St) (M : Hp), US ad S M → vCu_workOut_44 Q n x0 x1 x2 x3 x4 x5 x6 S → wCu_workOut_44 post n w_x0 w_x1 w_x2 w_x3 w_x4 w_x5 w_x6 M := by
  intro n
  induction n with
  | zero => intro w_x0 x0 e_x0 t_x0 w_x1 x1 e_x1 t_x1 w_x2 x2 e_x2 r_x2 w_x3 x3 e_x3 t_x3 w_x4 x4 e_x4 r_x4 w_x5 x5 e_x5 r_x5 w_x6 x6 e_x6 r_x6 S M h hv; exact hv.elim
  | succ n ih =>
    intro w_x0 x0 e_x0 t_x0 w_x1 x1 e_x1 t_x1 w_x2 x2 e_x2 r_x2 w_x3 x3 e_x3 t_x3 w_x4 x4 e_x4 r_x4 w_x5 x5 e_x5 r_x5 w_x6 x6 e_x6 r_x6 S M h hv
    subst e_x0
    subst e_x1
    subst e_x2
    subst e_x3
    subst e_x4
    subst e_x5
    subst e_x6
    unfold vCu_workOut_44 at hv
    unfold wCu_workOut_44
    refine ek_if (c_lt (show _ = Int32.ofInt x6 from rfl) LI_0 r_x6 LI_0r) (fun g1 => ?_) (fun g1 => ?_)
    · replace hv := hv.1 g1
      exact hp _ _ h hv
    · replace hv := hv.2 g1
      refine g_fA h t_x0 rfl (rv_4_0 t_x0) ?_
      obtain ⟨c2, hv⟩ := hv
      refine g_aJ h (show kt 3 104 by decide) (show alen 104 = 81 by decide) (h_add (show _ = Int32.ofInt x6 from rfl) LI_1) c2 ?_
      obtain ⟨c3, hv⟩ := hv
      refine nm_Z (H_add (H_mul (show _ = Int64.ofInt (S 104 (x6 + 1)) from rfl) LJ_128) (h_toL (show _ = Int32.ofInt x6 from rfl) r_x6)) (fun z109 e4 => ?_)
      have r5 : rJ z109 := by rw [e4]; exact c3
      replace hv := hv z109 e4
      refine g_fA h t_x0 rfl (rv_4_2 t_x0) ?_
      obtain ⟨c6, hv⟩ := hv
      refine g_sI h (show kt 1 106 by decide) (show alen 106 = 80 by decide) (show _ = Int32.ofInt x6 from rfl) c6 LI_m1 LI_m1r (fun S7 N8 e10 h9 => ?_)
      replace hv := hv S7 e10
      obtain ⟨n119, hv⟩ := hv
      refine ⟨n119, ?_⟩
      exact aCu_workOut_79 hp (fun b0 b1 b2 b3 b4 b5 b6 S9 M9 y0 y1 y2 y3 y4 y5 y6 h9 hv9 => ih _ b0 rfl y0 _ b1 rfl y1 _ b2 rfl y2 _ b3 rfl y3 _ b4 rfl y4 _ b5 rfl y5 _ b6 rfl y6 S9 M9 h9 hv9) n119 _ _ rfl t_x0 _ _ rfl t_x1 _ _ (show _ = Int32.ofInt x2 from rfl) r_x2 _ _ rfl t_x3 _ _ (show _ = Int32.ofInt x4 from rfl) r_x4 _ _ (show _ = Int32.ofInt x5 from rfl) r_x5 _ _ (show _ = Int32.ofInt x6 from rfl) r_x6 _ _ (show _ = Int64.ofInt z109 from rfl) r5 _ _ LI_0 LI_0r _ _ h9 hv
def vCu_workOut_3 (Q : St → Prop) : Nat → Int → Int → Int → Int → Int → Int → Int → St → Prop
  | 0 => fun _ _ _ _ _ _ _ _ => False
  | n + 1 => fun x0 x1 x2 x3 x4 x5 x6 S => (((x4 ≤ x6 → (((0 : Int) ≤ (S x1 11) ∧ ((S x1 11) : Int) < 81) ∧ ∀ S3 : St, S3 = up S 104 (S x1 11) 0 → ((rI ((S3 x1 11) - 1)) ∧ ∀ z138 : Int, z138 = ((S3 x1 11) - 1) → (∃ n139 : Nat, (vCu_workOut_44 Q n139 x0 x1 x2 x3 x4 x5 z138 S3))))) ∧ (¬ x4 ≤ x6 → (((0 : Int) ≤ x6 ∧ (x6 : Int) < 8) ∧ (vpWi_clear (110 + 2 * x6) S (fun (S12 : St) => ((rI (x6 + 1)) ∧ ∀ z152 : Int, z152 = (x6 + 1) → (vCu_workOut_3 Q n x0 x1 x2 x3 x4 x5 z152 S12))))))))
theorem aCu_workOut_3 {ad : Int → Nat} {Q : St → Prop} {post : Hp → Prop} (hp : ∀ (S : St) (M : Hp), US ad S M → Q S → post M) : ∀ (n : Nat) (w_x0 : Nat) (x0 : Int) (e_x0 : w_x0 = ad x0) (t_x0 : kt (20 + 4) x0) (w_x1 : Nat) (x1 : Int) (e_x1 : w_x1 = ad x1) (t_x1 : kt (20 + 1) x1) (w_x2 : Int32) (x2 : Int) (e_x2 : w_x2 = Int32.ofInt x2) (r_x2 : rI x2) (w_x3 : Nat) (x3 : Int) (e_x3 : w_x3 = ad x3) (t_x3 : kt (10 + 4) x3) (w_x4 : Int32) (x4 : Int) (e_x4 : w_x4 = Int32.ofInt x4) (r_x4 : rI x4) (w_x5 : Int32) (x5 : Int) (e_x5 : w_x5 = Int32.ofInt x5) (r_x5 : rI x5) (w_x6 : Int32) (x6 : Int) (e_x6 : w_x6 = Int32.ofInt x6) (r_x6 : rI x6) (S : St) (M : Hp), US ad S M → vCu_workOut_3 Q n x0 x1 x2 x3 x4 x5 x6 S → wCu_workOut_3 post n w_x0 w_x1 w_x2 w_x3 w_x4 w_x5 w_x6 M := by
  intro n
  induction n with
  | zero => intro w_x0 x0 e_x0 t_x0 w_x1 x1 e_x1 t_x1 w_x2 x2 e_x2 r_x2 w_x3 x3 e_x3 t_x3 w_x4 x4 e_x4 r_x4 w_x5 x5 e_x5 r_x5 w_x6 x6 e_x6 r_x6 S M h hv; exact hv.elim
  | succ n ih =>
    intro w_x0 x0 e_x0 t_x0 w_x1 x1 e_x1 t_x1 w_x2 x2 e_x2 r_x2 w_x3 x3 e_x3 t_x3 w_x4 x4 e_x4 r_x4 w_x5 x5 e_x5 r_x5 w_x6 x6 e_x6 r_x6 S M h hv
    subst e_x0
    subst e_x1
    subst e_x2
    subst e_x3
    subst e_x4
    subst e_x5
    subst e_x6
    unfold vCu_workOut_3 at hv
    unfold wCu_workOut_3
    refine ek_if (c_le (show _ = Int32.ofInt x4 from rfl) (show _ = Int32.ofInt x6 from rfl) r_x4 r_x6) (fun g1 => ?_) (fun g1 => ?_)
    · replace hv := hv.1 g1
      refine g_fA h t_x0 rfl (rv_4_0 t_x0) ?_
      refine g_fI h t_x1 rfl rfl ?_
      obtain ⟨c2, hv⟩ := hv
      refine g_sJ h (show kt 3 104 by decide) (show alen 104 = 81 by decide) (show _ = Int32.ofInt (S x1 11) from rfl) c2 LJ_0 LJ_0r (fun S3 N4 e6 h5 => ?_)
      replace hv := hv S3 e6
      refine g_fI h5 t_x1 rfl rfl ?_
      obtain ⟨c7, hv⟩ := hv
      refine nm_z (h_sub (show _ = Int32.ofInt (S3 x1 11) from rfl) LI_1) (fun z138 e8 => ?_)
      have r9 : rI z138 := by rw [e8]; exact c7
      replace hv := hv z138 e8
      obtain ⟨n139, hv⟩ := hv
      refine ⟨n139, ?_⟩
      exact aCu_workOut_44 hp  n139 _ _ rfl t_x0 _ _ rfl t_x1 _ _ (show _ = Int32.ofInt x2 from rfl) r_x2 _ _ rfl t_x3 _ _ (show _ = Int32.ofInt x4 from rfl) r_x4 _ _ (show _ = Int32.ofInt x5 from rfl) r_x5 _ _ (show _ = Int32.ofInt z138 from rfl) r9 _ _ h5 hv
    · replace hv := hv.2 g1
      refine g_fA h t_x0 rfl (rv_4_3 t_x0) ?_
      obtain ⟨c10, hv⟩ := hv
      refine g_aA h (show kt (10 + 5) 107 by decide) (by decide) (show alen 107 = 8 by decide) (show _ = Int32.ofInt x6 from rfl) c10 (rk_5 (show kt (10 + 5) 107 by decide)) ?_
      refine ⟨g_ob h (kA_5 c10), ?_⟩
      refine apWi_clear (fun S12 N13 h14 hv => ?_) rfl (kA_5 c10) h hv
      obtain ⟨c16, hv⟩ := hv
      refine nm_z (h_add (show _ = Int32.ofInt x6 from rfl) LI_1) (fun z152 e17 => ?_)
      have r18 : rI z152 := by rw [e17]; exact c16
      replace hv := hv z152 e17
      exact ih _ _ rfl t_x0 _ _ rfl t_x1 _ _ (show _ = Int32.ofInt x2 from rfl) r_x2 _ _ rfl t_x3 _ _ (show _ = Int32.ofInt x4 from rfl) r_x4 _ _ (show _ = Int32.ofInt x5 from rfl) r_x5 _ _ (show _ = Int32.ofInt z152 from rfl) r18 _ _ h14 hv
def vpCu_workOut (self : Int) (p0 : Int) (p1 : Int) (p2 : Int) (p3 : Int) (p4 : Int) (S : St) (Q : St → Prop) : Prop := (∃ n153 : Nat, (vCu_workOut_3 Q n153 self p0 p1 p2 p3 p4 0 S))
theorem apCu_workOut {ad : Int → Nat} {Q : St → Prop} {post : Hp → Prop} (hp : ∀ (S : St) (M : Hp), US ad S M → Q S → post M) {w_self : Nat} {self : Int} (e_self : w_self = ad self) (t_self : kt (20 + 4) self) {w_p0 : Nat} {p0 : Int} (e_p0 : w_p0 = ad p0) (t_p0 : kt (20 + 1) p0) {w_p1 : Int32} {p1 : Int} (e_p1 : w_p1 = Int32.ofInt p1) (r_p1 : rI p1) {w_p2 : Nat} {p2 : Int} (e_p2 : w_p2 = ad p2) (t_p2 : kt (10 + 4) p2) {w_p3 : Int32} {p3 : Int} (e_p3 : w_p3 = Int32.ofInt p3) (r_p3 : rI p3) {w_p4 : Int32} {p4 : Int} (e_p4 : w_p4 = Int32.ofInt p4) (r_p4 : rI p4) {S : St} {M : Hp} (h : US ad S M) (hv : vpCu_workOut self p0 p1 p2 p3 p4 S Q) : wpCu_workOut w_self w_p0 w_p1 w_p2 w_p3 w_p4 M post := by
  subst e_self
  subst e_p0
  subst e_p1
  subst e_p2
  subst e_p3
  subst e_p4
  unfold vpCu_workOut at hv
  unfold wpCu_workOut
  obtain ⟨n153, hv⟩ := hv
  refine ⟨n153, ?_⟩
  exact aCu_workOut_3 hp  n153 _ _ rfl t_self _ _ rfl t_p0 _ _ (show _ = Int32.ofInt p1 from rfl) r_p1 _ _ rfl t_p2 _ _ (show _ = Int32.ofInt p3 from rfl) r_p3 _ _ (show _ = Int32.ofInt p4 from rfl) r_p4 _ _ LI_0 LI_0r _ _ h hv
