def vpBT_latestStem (self : Int) (S : St) (Q : Int → St → Prop) : Prop := (((0 : Int) ≤ ((S self 3) - 1) ∧ (((S self 3) - 1) : Int) < 6) ∧ (Q (200 + 20 * ((S self 3) - 1)) S))
theorem apBT_latestStem {ad : Int → Nat} {Q : Int → St → Prop} {post : Nat → Hp → Prop} (hp : ∀ (r : Int) (S : St) (M : Hp), US ad S M → kt (20 + 1) r → Q r S → post (ad r) M) {w_self : Nat} {self : Int} (e_self : w_self = ad self) (t_self : kt (20 + 0) self) {S : St} {M : Hp} (h : US ad S M) (hv : vpBT_latestStem self S Q) : wpBT_latestStem w_self M post := by
  subst e_self
  unfold vpBT_latestStem at hv
  unfold wpBT_latestStem
  refine g_fA h t_self rfl (rv_0_0 t_self) ?_
  refine g_fI h t_self rfl rfl ?_
  obtain ⟨c1, hv⟩ := hv
  refine g_aA h (show kt (10 + 3) 101 by decide) (by decide) (show alen 101 = 6 by decide) (h_sub (show _ = Int32.ofInt (S self 3) from rfl) LI_1) c1 (rk_3 (show kt (10 + 3) 101 by decide)) ?_
  exact hp _ _ _ h (kA_3 c1) hv
def vBT_isOutside_17 (Q : Int → St → Prop) (y0 : Int) (S : St) : Prop := (((y0 : Int) = 0 ∨ (y0 : Int) = 1) ∧ (Q y0 S))
theorem aBT_isOutside_17 {ad : Int → Nat} {Q : Int → St → Prop} {post : Int32 → Hp → Prop} (hp : ∀ (r : Int) (S : St) (M : Hp), US ad S M → rI r → Q r S → post (Int32.ofInt r) M) {w_y0 : Int32} {y0 : Int} (e_y0 : w_y0 = Int32.ofInt y0) (r_y0 : rI y0) {S : St} {M : Hp} (h : US ad S M) (hv : vBT_isOutside_17 Q y0 S) : wBT_isOutside_17 post w_y0 M := by
  subst e_y0
  unfold vBT_isOutside_17 at hv
  unfold wBT_isOutside_17
  refine ⟨b01 (show _ = Int32.ofInt y0 from rfl) hv.1, ?_⟩
  replace hv := hv.2
  refine ek_v (P := fun y => post y _) (show _ = Int32.ofInt y0 from rfl) ?_
  exact hp _ _ _ h r_y0 hv
def vBT_isOutside_12 (Q : Int → St → Prop) (S : St) : Prop := (vBT_isOutside_17 Q 1 S)
theorem aBT_isOutside_12 {ad : Int → Nat} {Q : Int → St → Prop} {post : Int32 → Hp → Prop} (hp : ∀ (r : Int) (S : St) (M : Hp), US ad S M → rI r → Q r S → post (Int32.ofInt r) M)  {S : St} {M : Hp} (h : US ad S M) (hv : vBT_isOutside_12 Q  S) : wBT_isOutside_12 post  M := by
  unfold vBT_isOutside_12 at hv
  unfold wBT_isOutside_12
  exact aBT_isOutside_17 hp  LI_1 LI_1r h hv
def vpBT_isOutside (p0 : Int) (p1 : Int) (S : St) (Q : Int → St → Prop) : Prop := (((p0 < 0 → (vBT_isOutside_12 Q  S)) ∧ (¬ p0 < 0 → (((p0 ≤ p1 → (vBT_isOutside_17 Q 0 S)) ∧ (¬ p0 ≤ p1 → (vBT_isOutside_12 Q  S)))))))
theorem apBT_isOutside {ad : Int → Nat} {Q : Int → St → Prop} {post : Int32 → Hp → Prop} (hp : ∀ (r : Int) (S : St) (M : Hp), US ad S M → rI r → Q r S → post (Int32.ofInt r) M) {w_p0 : Int64} {p0 : Int} (e_p0 : w_p0 = Int64.ofInt p0) (r_p0 : rJ p0) {w_p1 : Int64} {p1 : Int} (e_p1 : w_p1 = Int64.ofInt p1) (r_p1 : rJ p1) {S : St} {M : Hp} (h : US ad S M) (hv : vpBT_isOutside p0 p1 S Q) : wpBT_isOutside w_p0 w_p1 M post := by
  subst e_p0
  subst e_p1
  unfold vpBT_isOutside at hv
  unfold wpBT_isOutside
  refine ek_if (C_lt (show _ = Int64.ofInt p0 from rfl) LJ_0 r_p0 LJ_0r) (fun g1 => ?_) (fun g1 => ?_)
  · replace hv := hv.1 g1
    exact aBT_isOutside_12 hp   h hv
  · replace hv := hv.2 g1
    refine ek_if (C_le (show _ = Int64.ofInt p0 from rfl) (show _ = Int64.ofInt p1 from rfl) r_p0 r_p1) (fun g2 => ?_) (fun g2 => ?_)
    · replace hv := hv.1 g2
      exact aBT_isOutside_17 hp  LI_0 LI_0r h hv
    · replace hv := hv.2 g2
      exact aBT_isOutside_12 hp   h hv
def vSt_takesPoint_65 (Q : Int → St → Prop) (y0 : Int) (S : St) : Prop := (((y0 : Int) = 0 ∨ (y0 : Int) = 1) ∧ (Q y0 S))
theorem aSt_takesPoint_65 {ad : Int → Nat} {Q : Int → St → Prop} {post : Int32 → Hp → Prop} (hp : ∀ (r : Int) (S : St) (M : Hp), US ad S M → rI r → Q r S → post (Int32.ofInt r) M) {w_y0 : Int32} {y0 : Int} (e_y0 : w_y0 = Int32.ofInt y0) (r_y0 : rI y0) {S : St} {M : Hp} (h : US ad S M) (hv : vSt_takesPoint_65 Q y0 S) : wSt_takesPoint_65 post w_y0 M := by
  subst e_y0
  unfold vSt_takesPoint_65 at hv
  unfold wSt_takesPoint_65
  refine ⟨b01 (show _ = Int32.ofInt y0 from rfl) hv.1, ?_⟩
  replace hv := hv.2
  refine ek_v (P := fun y => post y _) (show _ = Int32.ofInt y0 from rfl) ?_
  exact hp _ _ _ h r_y0 hv
def vSt_takesPoint_64 (Q : Int → St → Prop) (S : St) : Prop := (vSt_takesPoint_65 Q 0 S)
theorem aSt_takesPoint_64 {ad : Int → Nat} {Q : Int → St → Prop} {post : Int32 → Hp → Prop} (hp : ∀ (r : Int) (S : St) (M : Hp), US ad S M → rI r → Q r S → post (Int32.ofInt r) M)  {S : St} {M : Hp} (h : US ad S M) (hv : vSt_takesPoint_64 Q  S) : wSt_takesPoint_64 post  M := by
  unfold vSt_takesPoint_64 at hv
  unfold wSt_takesPoint_64
  exact aSt_takesPoint_65 hp  LI_0 LI_0r h hv
def vSt_takesPoint_29 (Q : Int → St → Prop) (y0 : Int) (S : St) : Prop := (((y0 : Int) = 0 ∨ (y0 : Int) = 1) ∧ (Q y0 S))
theorem aSt_takesPoint_29 {ad : Int → Nat} {Q : Int → St → Prop} {post : Int32 → Hp → Prop} (hp : ∀ (r : Int) (S : St) (M : Hp), US ad S M → rI r → Q r S → post (Int32.ofInt r) M) {w_y0 : Int32} {y0 : Int} (e_y0 : w_y0 = Int32.ofInt y0) (r_y0 : rI y0) {S : St} {M : Hp} (h : US ad S M) (hv : vSt_takesPoint_29 Q y0 S) : wSt_takesPoint_29 post w_y0 M := by
  subst e_y0
  unfold vSt_takesPoint_29 at hv
  unfold wSt_takesPoint_29
  refine ⟨b01 (show _ = Int32.ofInt y0 from rfl) hv.1, ?_⟩
  replace hv := hv.2
  refine ek_v (P := fun y => post y _) (show _ = Int32.ofInt y0 from rfl) ?_
  exact hp _ _ _ h r_y0 hv
def vpSt_takesPoint (self : Int) (p0 : Int) (p1 : Int) (S : St) (Q : Int → St → Prop) : Prop := (¬ (S self 0) = 0 ∧ (((0 : Int) ≤ p0 ∧ (p0 : Int) < 2147483648) ∧ ((0 : Int) < (S self 0) ∧ ((S self 0) : Int) < 2147483648) ∧ (rI (p0 / (S self 0))) ∧ (((p0 / (S self 0)) ≤ 80 → ((((S self 9) = 0 → (((p0 = 0 → (vSt_takesPoint_29 Q 1 S)) ∧ (¬ p0 = 0 → (vSt_takesPoint_29 Q 0 S))))) ∧ (¬ (S self 9) = 0 → (((0 : Int) ≤ ((S self 9) - 1) ∧ (((S self 9) - 1) : Int) < 60) ∧ (((p0 ≤ (S (self + 2) ((S self 9) - 1)) → (vSt_takesPoint_64 Q  S)) ∧ (¬ p0 ≤ (S (self + 2) ((S self 9) - 1)) → (((0 : Int) ≤ ((S self 9) - 1) ∧ (((S self 9) - 1) : Int) < 60) ∧ ((((S (self + 3) ((S self 9) - 1)) < p1 → (vSt_takesPoint_64 Q  S)) ∧ (¬ (S (self + 3) ((S self 9) - 1)) < p1 → (vSt_takesPoint_65 Q 1 S))))))))))))) ∧ (¬ (p0 / (S self 0)) ≤ 80 → (Q 0 S)))))
theorem apSt_takesPoint {ad : Int → Nat} {Q : Int → St → Prop} {post : Int32 → Hp → Prop} (hp : ∀ (r : Int) (S : St) (M : Hp), US ad S M → rI r → Q r S → post (Int32.ofInt r) M) {w_self : Nat} {self : Int} (e_self : w_self = ad self) (t_self : kt (20 + 1) self) {w_p0 : Int32} {p0 : Int} (e_p0 : w_p0 = Int32.ofInt p0) (r_p0 : rI p0) {w_p1 : Int32} {p1 : Int} (e_p1 : w_p1 = Int32.ofInt p1) (r_p1 : rI p1) {S : St} {M : Hp} (h : US ad S M) (hv : vpSt_takesPoint self p0 p1 S Q) : wpSt_takesPoint w_self w_p0 w_p1 M post := by
  subst e_self
  subst e_p0
  subst e_p1
  unfold vpSt_takesPoint at hv
  unfold wpSt_takesPoint
  refine g_fI h t_self rfl rfl ?_
  refine ⟨fun z => hv.1 ((c_eq (show _ = Int32.ofInt (S self 0) from rfl) LI_0 (g_rf (j := 0) h t_self rfl rfl) LI_0r).mp z), ?_⟩
  replace hv := hv.2
  obtain ⟨c1, c2, c3, hv⟩ := hv
  refine ek_if (c_le (h_div (show _ = Int32.ofInt p0 from rfl) (show _ = Int32.ofInt (S self 0) from rfl) c1 c2) LI_80 c3 LI_80r) (fun g4 => ?_) (fun g4 => ?_)
  · replace hv := hv.1 g4
    refine g_fI h t_self rfl rfl ?_
    refine ek_if (c_eq (show _ = Int32.ofInt (S self 9) from rfl) LI_0 (g_rf (j := 9) h t_self rfl rfl) LI_0r) (fun g5 => ?_) (fun g5 => ?_)
    · replace hv := hv.1 g5
      refine ek_if (c_eq (show _ = Int32.ofInt p0 from rfl) LI_0 r_p0 LI_0r) (fun g6 => ?_) (fun g6 => ?_)
      · replace hv := hv.1 g6
        exact aSt_takesPoint_29 hp  LI_1 LI_1r h hv
      · replace hv := hv.2 g6
        exact aSt_takesPoint_29 hp  LI_0 LI_0r h hv
    · replace hv := hv.2 g5
      refine g_fA h t_self rfl (rv_1_1 t_self) ?_
      refine g_fI h t_self rfl rfl ?_
      obtain ⟨c7, hv⟩ := hv
      refine g_aI h (kt_1_1 t_self) (al_1_1 t_self) (h_sub (show _ = Int32.ofInt (S self 9) from rfl) LI_1) c7 ?_
      refine ek_if (c_le (show _ = Int32.ofInt p0 from rfl) (show _ = Int32.ofInt (S (self + 2) ((S self 9) - 1)) from rfl) r_p0 (g_rI h (kt_1_1 t_self) (by decide))) (fun g8 => ?_) (fun g8 => ?_)
      · replace hv := hv.1 g8
        exact aSt_takesPoint_64 hp   h hv
      · replace hv := hv.2 g8
        refine g_fA h t_self rfl (rv_1_2 t_self) ?_
        refine g_fI h t_self rfl rfl ?_
        obtain ⟨c9, hv⟩ := hv
        refine g_aI h (kt_1_2 t_self) (al_1_2 t_self) (h_sub (show _ = Int32.ofInt (S self 9) from rfl) LI_1) c9 ?_
        refine ek_if (c_lt (show _ = Int32.ofInt (S (self + 3) ((S self 9) - 1)) from rfl) (show _ = Int32.ofInt p1 from rfl) (g_rI h (kt_1_2 t_self) (by decide)) r_p1) (fun g10 => ?_) (fun g10 => ?_)
        · replace hv := hv.1 g10
          exact aSt_takesPoint_64 hp   h hv
        · replace hv := hv.2 g10
          exact aSt_takesPoint_65 hp  LI_1 LI_1r h hv
  · replace hv := hv.2 g4
    refine ek_v (P := fun y => post y _) LI_0 ?_
    exact hp _ _ _ h LI_0r hv
def vpSt_addPoint (self : Int) (p0 : Int) (p1 : Int) (p2 : Int) (S : St) (Q : St → Prop) : Prop := (((0 : Int) ≤ (S self 9) ∧ ((S self 9) : Int) < 60) ∧ ∀ S2 : St, S2 = up S (self + 2) (S self 9) p0 → (((0 : Int) ≤ (S2 self 9) ∧ ((S2 self 9) : Int) < 60) ∧ ∀ S7 : St, S7 = up S2 (self + 3) (S2 self 9) p1 → (((0 : Int) ≤ (S7 self 9) ∧ ((S7 self 9) : Int) < 60) ∧ ∀ S12 : St, S12 = up S7 (self + 4) (S7 self 9) p2 → ((rI ((S12 self 9) + 1)) ∧ ∀ S16 : St, S16 = up S12 self 9 ((S12 self 9) + 1) → (¬ (S16 self 0) = 0 ∧ (((0 : Int) ≤ p0 ∧ (p0 : Int) < 2147483648) ∧ ((0 : Int) < (S16 self 0) ∧ ((S16 self 0) : Int) < 2147483648) ∧ (rI (p0 / (S16 self 0))) ∧ ∀ S21 : St, S21 = up S16 self 11 (p0 / (S16 self 0)) → (Q S21)))))))
theorem apSt_addPoint {ad : Int → Nat} {Q : St → Prop} {post : Hp → Prop} (hp : ∀ (S : St) (M : Hp), US ad S M → Q S → post M) {w_self : Nat} {self : Int} (e_self : w_self = ad self) (t_self : kt (20 + 1) self) {w_p0 : Int32} {p0 : Int} (e_p0 : w_p0 = Int32.ofInt p0) (r_p0 : rI p0) {w_p1 : Int32} {p1 : Int} (e_p1 : w_p1 = Int32.ofInt p1) (r_p1 : rI p1) {w_p2 : Int32} {p2 : Int} (e_p2 : w_p2 = Int32.ofInt p2) (r_p2 : rI p2) {S : St} {M : Hp} (h : US ad S M) (hv : vpSt_addPoint self p0 p1 p2 S Q) : wpSt_addPoint w_self w_p0 w_p1 w_p2 M post := by
  subst e_self
  subst e_p0
  subst e_p1
  subst e_p2
  unfold vpSt_addPoint at hv
  unfold wpSt_addPoint
  refine g_fA h t_self rfl (rv_1_1 t_self) ?_
  refine g_fI h t_self rfl rfl ?_
  obtain ⟨c1, hv⟩ := hv
  refine g_sI h (kt_1_1 t_self) (al_1_1 t_self) (show _ = Int32.ofInt (S self 9) from rfl) c1 (show _ = Int32.ofInt p0 from rfl) r_p0 (fun S2 N3 e5 h4 => ?_)
  replace hv := hv S2 e5
  refine g_fA h4 t_self rfl (rv_1_2 t_self) ?_
  refine g_fI h4 t_self rfl rfl ?_
  obtain ⟨c6, hv⟩ := hv
  refine g_sI h4 (kt_1_2 t_self) (al_1_2 t_self) (show _ = Int32.ofInt (S2 self 9) from rfl) c6 (show _ = Int32.ofInt p1 from rfl) r_p1 (fun S7 N8 e10 h9 => ?_)
  replace hv := hv S7 e10
  refine g_fA h9 t_self rfl (rv_1_3 t_self) ?_
  refine g_fI h9 t_self rfl rfl ?_
  obtain ⟨c11, hv⟩ := hv
  refine g_sI h9 (kt_1_3 t_self) (al_1_3 t_self) (show _ = Int32.ofInt (S7 self 9) from rfl) c11 (show _ = Int32.ofInt p2 from rfl) r_p2 (fun S12 N13 e15 h14 => ?_)
  replace hv := hv S12 e15
  refine g_fI h14 t_self rfl rfl ?_
  obtain ⟨c20, hv⟩ := hv
  refine g_pI h14 t_self rfl rfl (h_add (show _ = Int32.ofInt (S12 self 9) from rfl) LI_1) c20 (fun S16 N17 e19 h18 => ?_)
  replace hv := hv S16 e19
  refine g_fI h18 t_self rfl rfl ?_
  refine ⟨fun z => hv.1 ((c_eq (show _ = Int32.ofInt (S16 self 0) from rfl) LI_0 (g_rf (j := 0) h18 t_self rfl rfl) LI_0r).mp z), ?_⟩
  replace hv := hv.2
  obtain ⟨c25, c26, c27, hv⟩ := hv
  refine g_pI h18 t_self rfl rfl (h_div (show _ = Int32.ofInt p0 from rfl) (show _ = Int32.ofInt (S16 self 0) from rfl) c25 c26) c27 (fun S21 N22 e24 h23 => ?_)
  replace hv := hv S21 e24
  exact hp _ _ h23 hv
def vBT_stem_59 (Q : Int → St → Prop) (QX : String → St → Prop) (S : St) : Prop := (QX "java/lang/IllegalArgumentException" S)
theorem aBT_stem_59 {ad : Int → Nat} {Q : Int → St → Prop} {QX : String → St → Prop} {post : Int32 → Hp → Prop} {px : String → Hp → Prop} (hp : ∀ (r : Int) (S : St) (M : Hp), US ad S M → rI r → Q r S → post (Int32.ofInt r) M) (hx : ∀ (E : String) (S : St) (M : Hp), US ad S M → QX E S → px E M)  {S : St} {M : Hp} (h : US ad S M) (hv : vBT_stem_59 Q QX  S) : wBT_stem_59 post px  M := by
  unfold vBT_stem_59 at hv
  unfold wBT_stem_59
  exact hx _ _ _ h hv
def vpBT_stem (self : Int) (p0 : Int) (p1 : Int) (p2 : Int) (S : St) (Q : Int → St → Prop) (QX : String → St → Prop) : Prop := (vpBT_latestStem self S (fun (r1 : Int) (S2 : St) => ((((S2 r1 9) < 60 → (vpBT_isOutside p0 10000000 S2 (fun (r7 : Int) (S8 : St) => (((r7 = 0 → (vpBT_isOutside p1 100000 S8 (fun (r13 : Int) (S14 : St) => (((r13 = 0 → (vpBT_isOutside p2 100000 S14 (fun (r19 : Int) (S20 : St) => (((r19 = 0 → (vpSt_takesPoint r1 p0 p1 S20 (fun (r25 : Int) (S26 : St) => (((r25 = 0 → (Q 0 S26)) ∧ (¬ r25 = 0 → (vpSt_addPoint r1 p0 p1 p2 S26 (fun (S32 : St) => (∀ S36 : St, S36 = up S32 self 9 0 → (Q 1 S36)))))))))) ∧ (¬ r19 = 0 → (vBT_stem_59 Q QX  S20))))))) ∧ (¬ r13 = 0 → (vBT_stem_59 Q QX  S14))))))) ∧ (¬ r7 = 0 → (vBT_stem_59 Q QX  S8))))))) ∧ (¬ (S2 r1 9) < 60 → (QX "java/lang/IllegalStateException" S2))))))
theorem apBT_stem {ad : Int → Nat} {Q : Int → St → Prop} {QX : String → St → Prop} {post : Int32 → Hp → Prop} {px : String → Hp → Prop} (hp : ∀ (r : Int) (S : St) (M : Hp), US ad S M → rI r → Q r S → post (Int32.ofInt r) M) (hx : ∀ (E : String) (S : St) (M : Hp), US ad S M → QX E S → px E M) {w_self : Nat} {self : Int} (e_self : w_self = ad self) (t_self : kt (20 + 0) self) {w_p0 : Int32} {p0 : Int} (e_p0 : w_p0 = Int32.ofInt p0) (r_p0 : rI p0) {w_p1 : Int32} {p1 : Int} (e_p1 : w_p1 = Int32.ofInt p1) (r_p1 : rI p1) {w_p2 : Int32} {p2 : Int} (e_p2 : w_p2 = Int32.ofInt p2) (r_p2 : rI p2) {S : St} {M : Hp} (h : US ad S M) (hv : vpBT_stem self p0 p1 p2 S Q QX) : wpBT_stem w_self w_p0 w_p1 w_p2 M post px := by
  subst e_self
  subst e_p0
  subst e_p1
  subst e_p2
  unfold vpBT_stem at hv
  unfold wpBT_stem
  refine ⟨g_ob h t_self, ?_⟩
  refine apBT_latestStem (fun r1 S2 N3 h4 r5 hv => ?_) rfl t_self h hv
  refine g_fI h4 r5 rfl rfl ?_
  refine ek_if (c_lt (show _ = Int32.ofInt (S2 r1 9) from rfl) LI_60 (g_rf (j := 9) h4 r5 rfl rfl) LI_60r) (fun g6 => ?_) (fun g6 => ?_)
  · replace hv := hv.1 g6
    refine apBT_isOutside (fun r7 S8 N9 h10 r11 hv => ?_) (h_toL (show _ = Int32.ofInt p0 from rfl) r_p0) (rI_J r_p0) LJ_10000000 LJ_10000000r h4 hv
    refine ek_if (c_eq (show _ = Int32.ofInt r7 from rfl) LI_0 r11 LI_0r) (fun g12 => ?_) (fun g12 => ?_)
    · replace hv := hv.1 g12
      refine apBT_isOutside (fun r13 S14 N15 h16 r17 hv => ?_) (h_toL (show _ = Int32.ofInt p1 from rfl) r_p1) (rI_J r_p1) LJ_100000 LJ_100000r h10 hv
      refine ek_if (c_eq (show _ = Int32.ofInt r13 from rfl) LI_0 r17 LI_0r) (fun g18 => ?_) (fun g18 => ?_)
      · replace hv := hv.1 g18
        refine apBT_isOutside (fun r19 S20 N21 h22 r23 hv => ?_) (h_toL (show _ = Int32.ofInt p2 from rfl) r_p2) (rI_J r_p2) LJ_100000 LJ_100000r h16 hv
        refine ek_if (c_eq (show _ = Int32.ofInt r19 from rfl) LI_0 r23 LI_0r) (fun g24 => ?_) (fun g24 => ?_)
        · replace hv := hv.1 g24
          refine ⟨g_ob h22 r5, ?_⟩
          refine apSt_takesPoint (fun r25 S26 N27 h28 r29 hv => ?_) rfl r5 (show _ = Int32.ofInt p0 from rfl) r_p0 (show _ = Int32.ofInt p1 from rfl) r_p1 h22 hv
          refine ek_if (c_eq (show _ = Int32.ofInt r25 from rfl) LI_0 r29 LI_0r) (fun g30 => ?_) (fun g30 => ?_)
          · replace hv := hv.1 g30
            refine ek_v (P := fun y => post y _) LI_0 ?_
            exact hp _ _ _ h28 LI_0r hv
          · replace hv := hv.2 g30
            refine ⟨g_ob h28 r5, ?_⟩
            refine apSt_addPoint (fun S32 N33 h34 hv => ?_) rfl r5 (show _ = Int32.ofInt p0 from rfl) r_p0 (show _ = Int32.ofInt p1 from rfl) r_p1 (show _ = Int32.ofInt p2 from rfl) r_p2 h28 hv
            refine g_pI h34 t_self rfl rfl LI_0 LI_0r (fun S36 N37 e39 h38 => ?_)
            replace hv := hv S36 e39
            refine ek_v (P := fun y => post y _) LI_1 ?_
            exact hp _ _ _ h38 LI_1r hv
        · replace hv := hv.2 g24
          exact aBT_stem_59 hp hx   h22 hv
      · replace hv := hv.2 g18
        exact aBT_stem_59 hp hx   h16 hv
    · replace hv := hv.2 g12
      exact aBT_stem_59 hp hx   h10 hv
  · replace hv := hv.2 g6
    exact hx _ _ _ h4 hv
def vpSt_addFault (self : Int) (p0 : Int) (p1 : Int) (p2 : Int) (S : St) (Q : St → Prop) : Prop := (((0 : Int) ≤ (S self 10) ∧ ((S self 10) : Int) < 20) ∧ ∀ S2 : St, S2 = up S (self + 5) (S self 10) p0 → (((0 : Int) ≤ (S2 self 10) ∧ ((S2 self 10) : Int) < 20) ∧ ∀ S7 : St, S7 = up S2 (self + 6) (S2 self 10) p1 → (((0 : Int) ≤ (S7 self 10) ∧ ((S7 self 10) : Int) < 20) ∧ ∀ S12 : St, S12 = up S7 (self + 7) (S7 self 10) p2 → ((rI ((S12 self 10) + 1)) ∧ ∀ S16 : St, S16 = up S12 self 10 ((S12 self 10) + 1) → (Q S16)))))
theorem apSt_addFault {ad : Int → Nat} {Q : St → Prop} {post : Hp → Prop} (hp : ∀ (S : St) (M : Hp), US ad S M → Q S → post M) {w_self : Nat} {self : Int} (e_self : w_self = ad self) (t_self : kt (20 + 1) self) {w_p0 : Int32} {p0 : Int} (e_p0 : w_p0 = Int32.ofInt p0) (r_p0 : rI p0) {w_p1 : Int32} {p1 : Int} (e_p1 : w_p1 = Int32.ofInt p1) (r_p1 : rI p1) {w_p2 : Int32} {p2 : Int} (e_p2 : w_p2 = Int32.ofInt p2) (r_p2 : rI p2) {S : St} {M : Hp} (h : US ad S M) (hv : vpSt_addFault self p0 p1 p2 S Q) : wpSt_addFault w_self w_p0 w_p1 w_p2 M post := by
  subst e_self
  subst e_p0
  subst e_p1
  subst e_p2
  unfold vpSt_addFault at hv
  unfold wpSt_addFault
  refine g_fA h t_self rfl (rv_1_4 t_self) ?_
  refine g_fI h t_self rfl rfl ?_
  obtain ⟨c1, hv⟩ := hv
  refine g_sI h (kt_1_4 t_self) (al_1_4 t_self) (show _ = Int32.ofInt (S self 10) from rfl) c1 (show _ = Int32.ofInt p0 from rfl) r_p0 (fun S2 N3 e5 h4 => ?_)
  replace hv := hv S2 e5
  refine g_fA h4 t_self rfl (rv_1_5 t_self) ?_
  refine g_fI h4 t_self rfl rfl ?_
  obtain ⟨c6, hv⟩ := hv
  refine g_sI h4 (kt_1_5 t_self) (al_1_5 t_self) (show _ = Int32.ofInt (S2 self 10) from rfl) c6 (show _ = Int32.ofInt p1 from rfl) r_p1 (fun S7 N8 e10 h9 => ?_)
  replace hv := hv S7 e10
  refine g_fA h9 t_self rfl (rv_1_6 t_self) ?_
  refine g_fI h9 t_self rfl rfl ?_
  obtain ⟨c11, hv⟩ := hv
  refine g_sI h9 (kt_1_6 t_self) (al_1_6 t_self) (show _ = Int32.ofInt (S7 self 10) from rfl) c11 (show _ = Int32.ofInt p2 from rfl) r_p2 (fun S12 N13 e15 h14 => ?_)
  replace hv := hv S12 e15
  refine g_fI h14 t_self rfl rfl ?_
  obtain ⟨c20, hv⟩ := hv
  refine g_pI h14 t_self rfl rfl (h_add (show _ = Int32.ofInt (S12 self 10) from rfl) LI_1) c20 (fun S16 N17 e19 h18 => ?_)
  replace hv := hv S16 e19
  exact hp _ _ h18 hv
def vBT_fault_59 (Q : Int → St → Prop) (QX : String → St → Prop) (S : St) : Prop := (QX "java/lang/IllegalArgumentException" S)
theorem aBT_fault_59 {ad : Int → Nat} {Q : Int → St → Prop} {QX : String → St → Prop} {post : Int32 → Hp → Prop} {px : String → Hp → Prop} (hp : ∀ (r : Int) (S : St) (M : Hp), US ad S M → rI r → Q r S → post (Int32.ofInt r) M) (hx : ∀ (E : String) (S : St) (M : Hp), US ad S M → QX E S → px E M)  {S : St} {M : Hp} (h : US ad S M) (hv : vBT_fault_59 Q QX  S) : wBT_fault_59 post px  M := by
  unfold vBT_fault_59 at hv
  unfold wBT_fault_59
  exact hx _ _ _ h hv
def vpBT_fault (self : Int) (p0 : Int) (p1 : Int) (p2 : Int) (S : St) (Q : Int → St → Prop) (QX : String → St → Prop) : Prop := (vpBT_latestStem self S (fun (r1 : Int) (S2 : St) => ((((S2 r1 10) < 20 → (vpBT_isOutside p0 10000000 S2 (fun (r7 : Int) (S8 : St) => (((r7 = 0 → (vpBT_isOutside p1 10000000 S8 (fun (r13 : Int) (S14 : St) => (((r13 = 0 → (vpBT_isOutside p2 7 S14 (fun (r19 : Int) (S20 : St) => (((r19 = 0 → (((p0 < p1 → (vpSt_addFault r1 p0 p1 p2 S20 (fun (S27 : St) => (∀ S31 : St, S31 = up S27 self 9 0 → (Q 1 S31))))) ∧ (¬ p0 < p1 → (Q 0 S20))))) ∧ (¬ r19 = 0 → (vBT_fault_59 Q QX  S20))))))) ∧ (¬ r13 = 0 → (vBT_fault_59 Q QX  S14))))))) ∧ (¬ r7 = 0 → (vBT_fault_59 Q QX  S8))))))) ∧ (¬ (S2 r1 10) < 20 → (QX "java/lang/IllegalStateException" S2))))))
theorem apBT_fault {ad : Int → Nat} {Q : Int → St → Prop} {QX : String → St → Prop} {post : Int32 → Hp → Prop} {px : String → Hp → Prop} (hp : ∀ (r : Int) (S : St) (M : Hp), US ad S M → rI r → Q r S → post (Int32.ofInt r) M) (hx : ∀ (E : String) (S : St) (M : Hp), US ad S M → QX E S → px E M) {w_self : Nat} {self : Int} (e_self : w_self = ad self) (t_self : kt (20 + 0) self) {w_p0 : Int32} {p0 : Int} (e_p0 : w_p0 = Int32.ofInt p0) (r_p0 : rI p0) {w_p1 : Int32} {p1 : Int} (e_p1 : w_p1 = Int32.ofInt p1) (r_p1 : rI p1) {w_p2 : Int32} {p2 : Int} (e_p2 : w_p2 = Int32.ofInt p2) (r_p2 : rI p2) {S : St} {M : Hp} (h : US ad S M) (hv : vpBT_fault self p0 p1 p2 S Q QX) : wpBT_fault w_self w_p0 w_p1 w_p2 M post px := by
  subst e_self
  subst e_p0
  subst e_p1
  subst e_p2
  unfold vpBT_fault at hv
  unfold wpBT_fault
  refine ⟨g_ob h t_self, ?_⟩
  refine apBT_latestStem (fun r1 S2 N3 h4 r5 hv => ?_) rfl t_self h hv
  refine g_fI h4 r5 rfl rfl ?_
  refine ek_if (c_lt (show _ = Int32.ofInt (S2 r1 10) from rfl) LI_20 (g_rf (j := 10) h4 r5 rfl rfl) LI_20r) (fun g6 => ?_) (fun g6 => ?_)
  · replace hv := hv.1 g6
    refine apBT_isOutside (fun r7 S8 N9 h10 r11 hv => ?_) (h_toL (show _ = Int32.ofInt p0 from rfl) r_p0) (rI_J r_p0) LJ_10000000 LJ_10000000r h4 hv
    refine ek_if (c_eq (show _ = Int32.ofInt r7 from rfl) LI_0 r11 LI_0r) (fun g12 => ?_) (fun g12 => ?_)
    · replace hv := hv.1 g12
      refine apBT_isOutside (fun r13 S14 N15 h16 r17 hv => ?_) (h_toL (show _ = Int32.ofInt p1 from rfl) r_p1) (rI_J r_p1) LJ_10000000 LJ_10000000r h10 hv
      refine ek_if (c_eq (show _ = Int32.ofInt r13 from rfl) LI_0 r17 LI_0r) (fun g18 => ?_) (fun g18 => ?_)
      · replace hv := hv.1 g18
        refine apBT_isOutside (fun r19 S20 N21 h22 r23 hv => ?_) (h_toL (show _ = Int32.ofInt p2 from rfl) r_p2) (rI_J r_p2) LJ_7 LJ_7r h16 hv
        refine ek_if (c_eq (show _ = Int32.ofInt r19 from rfl) LI_0 r23 LI_0r) (fun g24 => ?_) (fun g24 => ?_)
        · replace hv := hv.1 g24
          refine ek_if (c_lt (show _ = Int32.ofInt p0 from rfl) (show _ = Int32.ofInt p1 from rfl) r_p0 r_p1) (fun g25 => ?_) (fun g25 => ?_)
          · replace hv := hv.1 g25
            refine ⟨g_ob h22 r5, ?_⟩
            refine apSt_addFault (fun S27 N28 h29 hv => ?_) rfl r5 (show _ = Int32.ofInt p0 from rfl) r_p0 (show _ = Int32.ofInt p1 from rfl) r_p1 (show _ = Int32.ofInt p2 from rfl) r_p2 h22 hv
            refine g_pI h29 t_self rfl rfl LI_0 LI_0r (fun S31 N32 e34 h33 => ?_)
            replace hv := hv S31 e34
            refine ek_v (P := fun y => post y _) LI_1 ?_
            exact hp _ _ _ h33 LI_1r hv
          · replace hv := hv.2 g25
            refine ek_v (P := fun y => post y _) LI_0 ?_
            exact hp _ _ _ h22 LI_0r hv
        · replace hv := hv.2 g24
          exact aBT_fault_59 hp hx   h22 hv
      · replace hv := hv.2 g18
        exact aBT_fault_59 hp hx   h16 hv
    · replace hv := hv.2 g12
      exact aBT_fault_59 hp hx   h10 hv
  · replace hv := hv.2 g6
    exact hx _ _ _ h4 hv
def vpBT_stems (self : Int) (S : St) (Q : Int → St → Prop) (QX : String → St → Prop) : Prop := ((((S self 3) < 6 → ((rI ((S self 3) + 1)) ∧ ∀ S2 : St, S2 = up S self 3 ((S self 3) + 1) → (∀ S7 : St, S7 = up S2 self 9 0 → (Q (S7 self 3) S7)))) ∧ (¬ (S self 3) < 6 → (QX "java/lang/IllegalStateException" S))))
theorem apBT_stems {ad : Int → Nat} {Q : Int → St → Prop} {QX : String → St → Prop} {post : Int32 → Hp → Prop} {px : String → Hp → Prop} (hp : ∀ (r : Int) (S : St) (M : Hp), US ad S M → rI r → Q r S → post (Int32.ofInt r) M) (hx : ∀ (E : String) (S : St) (M : Hp), US ad S M → QX E S → px E M) {w_self : Nat} {self : Int} (e_self : w_self = ad self) (t_self : kt (20 + 0) self) {S : St} {M : Hp} (h : US ad S M) (hv : vpBT_stems self S Q QX) : wpBT_stems w_self M post px := by
  subst e_self
  unfold vpBT_stems at hv
  unfold wpBT_stems
  refine g_fI h t_self rfl rfl ?_
  refine ek_if (c_lt (show _ = Int32.ofInt (S self 3) from rfl) LI_6 (g_rf (j := 3) h t_self rfl rfl) LI_6r) (fun g1 => ?_) (fun g1 => ?_)
  · replace hv := hv.1 g1
    refine g_fI h t_self rfl rfl ?_
    obtain ⟨c6, hv⟩ := hv
    refine g_pI h t_self rfl rfl (h_add (show _ = Int32.ofInt (S self 3) from rfl) LI_1) c6 (fun S2 N3 e5 h4 => ?_)
    replace hv := hv S2 e5
    refine g_pI h4 t_self rfl rfl LI_0 LI_0r (fun S7 N8 e10 h9 => ?_)
    replace hv := hv S7 e10
    refine g_fI h9 t_self rfl rfl ?_
    refine ek_v (P := fun y => post y _) (show _ = Int32.ofInt (S7 self 3) from rfl) ?_
    exact hp _ _ _ h9 (g_rf (j := 3) h9 t_self rfl rfl) hv
  · replace hv := hv.2 g1
    exact hx _ _ _ h hv
def vpPr_tell (self : Int) (p0 : Int) (p1 : Int) (p2 : Int) (p3 : Int) (p4 : Int) (S : St) (Q : St → Prop) : Prop := (¬ (S self 0) = 0 ∧ (((0 : Int) ≤ ((p0 + (S self 0)) - 1) ∧ (((p0 + (S self 0)) - 1) : Int) < 2147483648) ∧ ((0 : Int) < (S self 0) ∧ ((S self 0) : Int) < 2147483648) ∧ (rI (((p0 + (S self 0)) - 1) / (S self 0))) ∧ ∀ S1 : St, S1 = up S self 3 (((p0 + (S self 0)) - 1) / (S self 0)) → (¬ (S1 self 0) = 0 ∧ (((0 : Int) ≤ p1 ∧ (p1 : Int) < 2147483648) ∧ ((0 : Int) < (S1 self 0) ∧ ((S1 self 0) : Int) < 2147483648) ∧ (rI (p1 / (S1 self 0))) ∧ ∀ S8 : St, S8 = up S1 self 4 (p1 / (S1 self 0)) → (∀ S15 : St, S15 = up S8 self 5 p2 → (∀ S19 : St, S19 = up S15 self 6 p3 → (∀ S23 : St, S23 = up S19 self 7 p4 → (Q S23))))))))
theorem apPr_tell {ad : Int → Nat} {Q : St → Prop} {post : Hp → Prop} (hp : ∀ (S : St) (M : Hp), US ad S M → Q S → post M) {w_self : Nat} {self : Int} (e_self : w_self = ad self) (t_self : kt (20 + 2) self) {w_p0 : Int32} {p0 : Int} (e_p0 : w_p0 = Int32.ofInt p0) (r_p0 : rI p0) {w_p1 : Int32} {p1 : Int} (e_p1 : w_p1 = Int32.ofInt p1) (r_p1 : rI p1) {w_p2 : Int32} {p2 : Int} (e_p2 : w_p2 = Int32.ofInt p2) (r_p2 : rI p2) {w_p3 : Int32} {p3 : Int} (e_p3 : w_p3 = Int32.ofInt p3) (r_p3 : rI p3) {w_p4 : Int64} {p4 : Int} (e_p4 : w_p4 = Int64.ofInt p4) (r_p4 : rJ p4) {S : St} {M : Hp} (h : US ad S M) (hv : vpPr_tell self p0 p1 p2 p3 p4 S Q) : wpPr_tell w_self w_p0 w_p1 w_p2 w_p3 w_p4 M post := by
  subst e_self
  subst e_p0
  subst e_p1
  subst e_p2
  subst e_p3
  subst e_p4
  unfold vpPr_tell at hv
  unfold wpPr_tell
  refine g_fI h t_self rfl rfl ?_
  refine g_fI h t_self rfl rfl ?_
  refine ⟨fun z => hv.1 ((c_eq (show _ = Int32.ofInt (S self 0) from rfl) LI_0 (g_rf (j := 0) h t_self rfl rfl) LI_0r).mp z), ?_⟩
  replace hv := hv.2
  obtain ⟨c5, c6, c7, hv⟩ := hv
  refine g_pI h t_self rfl rfl (h_div (h_sub (h_add (show _ = Int32.ofInt p0 from rfl) (show _ = Int32.ofInt (S self 0) from rfl)) LI_1) (show _ = Int32.ofInt (S self 0) from rfl) c5 c6) c7 (fun S1 N2 e4 h3 => ?_)
  replace hv := hv S1 e4
  refine g_fI h3 t_self rfl rfl ?_
  refine ⟨fun z => hv.1 ((c_eq (show _ = Int32.ofInt (S1 self 0) from rfl) LI_0 (g_rf (j := 0) h3 t_self rfl rfl) LI_0r).mp z), ?_⟩
  replace hv := hv.2
  obtain ⟨c12, c13, c14, hv⟩ := hv
  refine g_pI h3 t_self rfl rfl (h_div (show _ = Int32.ofInt p1 from rfl) (show _ = Int32.ofInt (S1 self 0) from rfl) c12 c13) c14 (fun S8 N9 e11 h10 => ?_)
  replace hv := hv S8 e11
  refine g_pI h10 t_self rfl rfl (show _ = Int32.ofInt p2 from rfl) r_p2 (fun S15 N16 e18 h17 => ?_)
  replace hv := hv S15 e18
  refine g_pI h17 t_self rfl rfl (show _ = Int32.ofInt p3 from rfl) r_p3 (fun S19 N20 e22 h21 => ?_)
  replace hv := hv S19 e22
  refine g_pJ h21 t_self rfl rfl (show _ = Int64.ofInt p4 from rfl) r_p4 (fun S23 N24 e26 h25 => ?_)
  replace hv := hv S23 e26
  exact hp _ _ h25 hv
def vBT_product_79 (Q : Int → St → Prop) (QX : String → St → Prop) (S : St) : Prop := (QX "java/lang/IllegalArgumentException" S)
theorem aBT_product_79 {ad : Int → Nat} {Q : Int → St → Prop} {QX : String → St → Prop} {post : Int32 → Hp → Prop} {px : String → Hp → Prop} (hp : ∀ (r : Int) (S : St) (M : Hp), US ad S M → rI r → Q r S → post (Int32.ofInt r) M) (hx : ∀ (E : String) (S : St) (M : Hp), US ad S M → QX E S → px E M)  {S : St} {M : Hp} (h : US ad S M) (hv : vBT_product_79 Q QX  S) : wBT_product_79 post px  M := by
  unfold vBT_product_79 at hv
  unfold wBT_product_79
  exact hx _ _ _ h hv
def vBT_product_35 (Q : Int → St → Prop) (QX : String → St → Prop) (S : St) : Prop := (QX "java/lang/IllegalArgumentException" S)
theorem aBT_product_35 {ad : Int → Nat} {Q : Int → St → Prop} {QX : String → St → Prop} {post : Int32 → Hp → Prop} {px : String → Hp → Prop} (hp : ∀ (r : Int) (S : St) (M : Hp), US ad S M → rI r → Q r S → post (Int32.ofInt r) M) (hx : ∀ (E : String) (S : St) (M : Hp), US ad S M → QX E S → px E M)  {S : St} {M : Hp} (h : US ad S M) (hv : vBT_product_35 Q QX  S) : wBT_product_35 post px  M := by
  unfold vBT_product_35 at hv
  unfold wBT_product_35
  exact hx _ _ _ h hv
def vpBT_product (self : Int) (p0 : Int) (p1 : Int) (p2 : Int) (p3 : Int) (p4 : Int) (S : St) (Q : Int → St → Prop) (QX : String → St → Prop) : Prop := ((((S self 4) < 8 → (((p0 < 1 → (vBT_product_35 Q QX  S)) ∧ (¬ p0 < 1 → (((10000000 < p1 → (vBT_product_35 Q QX  S)) ∧ (¬ 10000000 < p1 → (((p0 ≤ p1 → (vpBT_isOutside p2 100000 S (fun (r5 : Int) (S6 : St) => (((r5 = 0 → (vpBT_isOutside p3 100000 S6 (fun (r11 : Int) (S12 : St) => (((r11 = 0 → (vpBT_isOutside p4 100000 S12 (fun (r17 : Int) (S18 : St) => (((r17 = 0 → (((0 : Int) ≤ (S18 self 4) ∧ ((S18 self 4) : Int) < 8) ∧ (vpPr_tell (140 + 4 * (S18 self 4)) p0 p1 p2 p3 p4 S18 (fun (S25 : St) => ((rI ((S25 self 4) + 1)) ∧ ∀ S29 : St, S29 = up S25 self 4 ((S25 self 4) + 1) → (∀ S34 : St, S34 = up S29 self 9 0 → ((rI ((S34 self 4) - 1)) ∧ Q ((S34 self 4) - 1) S34))))))) ∧ (¬ r17 = 0 → (vBT_product_79 Q QX  S18))))))) ∧ (¬ r11 = 0 → (vBT_product_79 Q QX  S12))))))) ∧ (¬ r5 = 0 → (vBT_product_79 Q QX  S6))))))) ∧ (¬ p0 ≤ p1 → (vBT_product_35 Q QX  S))))))))))) ∧ (¬ (S self 4) < 8 → (QX "java/lang/IllegalStateException" S))))
theorem apBT_product {ad : Int → Nat} {Q : Int → St → Prop} {QX : String → St → Prop} {post : Int32 → Hp → Prop} {px : String → Hp → Prop} (hp : ∀ (r : Int) (S : St) (M : Hp), US ad S M → rI r → Q r S → post (Int32.ofInt r) M) (hx : ∀ (E : String) (S : St) (M : Hp), US ad S M → QX E S → px E M) {w_self : Nat} {self : Int} (e_self : w_self = ad self) (t_self : kt (20 + 0) self) {w_p0 : Int32} {p0 : Int} (e_p0 : w_p0 = Int32.ofInt p0) (r_p0 : rI p0) {w_p1 : Int32} {p1 : Int} (e_p1 : w_p1 = Int32.ofInt p1) (r_p1 : rI p1) {w_p2 : Int32} {p2 : Int} (e_p2 : w_p2 = Int32.ofInt p2) (r_p2 : rI p2) {w_p3 : Int32} {p3 : Int} (e_p3 : w_p3 = Int32.ofInt p3) (r_p3 : rI p3) {w_p4 : Int64} {p4 : Int} (e_p4 : w_p4 = Int64.ofInt p4) (r_p4 : rJ p4) {S : St} {M : Hp} (h : US ad S M) (hv : vpBT_product self p0 p1 p2 p3 p4 S Q QX) : wpBT_product w_self w_p0 w_p1 w_p2 w_p3 w_p4 M post px := by
  subst e_self
  subst e_p0
  subst e_p1
  subst e_p2
  subst e_p3
  subst e_p4
  unfold vpBT_product at hv
  unfold wpBT_product
  refine g_fI h t_self rfl rfl ?_
  refine ek_if (c_lt (show _ = Int32.ofInt (S self 4) from rfl) LI_8 (g_rf (j := 4) h t_self rfl rfl) LI_8r) (fun g1 => ?_) (fun g1 => ?_)
  · replace hv := hv.1 g1
    refine ek_if (c_lt (show _ = Int32.ofInt p0 from rfl) LI_1 r_p0 LI_1r) (fun g2 => ?_) (fun g2 => ?_)
    · replace hv := hv.1 g2
      exact aBT_product_35 hp hx   h hv
    · replace hv := hv.2 g2
      refine ek_if (c_lt LI_10000000 (show _ = Int32.ofInt p1 from rfl) LI_10000000r r_p1) (fun g3 => ?_) (fun g3 => ?_)
      · replace hv := hv.1 g3
        exact aBT_product_35 hp hx   h hv
      · replace hv := hv.2 g3
        refine ek_if (c_le (show _ = Int32.ofInt p0 from rfl) (show _ = Int32.ofInt p1 from rfl) r_p0 r_p1) (fun g4 => ?_) (fun g4 => ?_)
        · replace hv := hv.1 g4
          refine apBT_isOutside (fun r5 S6 N7 h8 r9 hv => ?_) (h_toL (show _ = Int32.ofInt p2 from rfl) r_p2) (rI_J r_p2) LJ_100000 LJ_100000r h hv
          refine ek_if (c_eq (show _ = Int32.ofInt r5 from rfl) LI_0 r9 LI_0r) (fun g10 => ?_) (fun g10 => ?_)
          · replace hv := hv.1 g10
            refine apBT_isOutside (fun r11 S12 N13 h14 r15 hv => ?_) (h_toL (show _ = Int32.ofInt p3 from rfl) r_p3) (rI_J r_p3) LJ_100000 LJ_100000r h8 hv
            refine ek_if (c_eq (show _ = Int32.ofInt r11 from rfl) LI_0 r15 LI_0r) (fun g16 => ?_) (fun g16 => ?_)
            · replace hv := hv.1 g16
              refine apBT_isOutside (fun r17 S18 N19 h20 r21 hv => ?_) (show _ = Int64.ofInt p4 from rfl) r_p4 LJ_100000 LJ_100000r h14 hv
              refine ek_if (c_eq (show _ = Int32.ofInt r17 from rfl) LI_0 r21 LI_0r) (fun g22 => ?_) (fun g22 => ?_)
              · replace hv := hv.1 g22
                refine g_fA h20 t_self rfl (rv_0_1 t_self) ?_
                refine g_fI h20 t_self rfl rfl ?_
                obtain ⟨c23, hv⟩ := hv
                refine g_aA h20 (show kt (10 + 4) 102 by decide) (by decide) (show alen 102 = 8 by decide) (show _ = Int32.ofInt (S18 self 4) from rfl) c23 (rk_4 (show kt (10 + 4) 102 by decide)) ?_
                refine ⟨g_ob h20 (kA_4 c23), ?_⟩
                refine apPr_tell (fun S25 N26 h27 hv => ?_) rfl (kA_4 c23) (show _ = Int32.ofInt p0 from rfl) r_p0 (show _ = Int32.ofInt p1 from rfl) r_p1 (show _ = Int32.ofInt p2 from rfl) r_p2 (show _ = Int32.ofInt p3 from rfl) r_p3 (show _ = Int64.ofInt p4 from rfl) r_p4 h20 hv
                refine g_fI h27 t_self rfl rfl ?_
                obtain ⟨c33, hv⟩ := hv
                refine g_pI h27 t_self rfl rfl (h_add (show _ = Int32.ofInt (S25 self 4) from rfl) LI_1) c33 (fun S29 N30 e32 h31 => ?_)
                replace hv := hv S29 e32
                refine g_pI h31 t_self rfl rfl LI_0 LI_0r (fun S34 N35 e37 h36 => ?_)
                replace hv := hv S34 e37
                refine g_fI h36 t_self rfl rfl ?_
                obtain ⟨c38, hv⟩ := hv
                refine ek_v (P := fun y => post y _) (h_sub (show _ = Int32.ofInt (S34 self 4) from rfl) LI_1) ?_
                exact hp _ _ _ h36 c38 hv
              · replace hv := hv.2 g22
                exact aBT_product_79 hp hx   h20 hv
            · replace hv := hv.2 g16
              exact aBT_product_79 hp hx   h14 hv
          · replace hv := hv.2 g10
            exact aBT_product_79 hp hx   h8 hv
        · replace hv := hv.2 g4
          exact aBT_product_35 hp hx   h hv
  · replace hv := hv.2 g1
    exact hx _ _ _ h hv
def vpBT_productAt (self : Int) (p0 : Int) (S : St) (Q : Int → St → Prop) (QX : String → St → Prop) : Prop := ((rI ((S self 4) - 1)) ∧ vpBT_isOutside p0 ((S self 4) - 1) S (fun (r2 : Int) (S3 : St) => (((r2 = 0 → (((0 : Int) ≤ p0 ∧ (p0 : Int) < 8) ∧ (Q (140 + 4 * p0) S3))) ∧ (¬ r2 = 0 → (QX "java/lang/IndexOutOfBoundsException" S3))))))
theorem apBT_productAt {ad : Int → Nat} {Q : Int → St → Prop} {QX : String → St → Prop} {post : Nat → Hp → Prop} {px : String → Hp → Prop} (hp : ∀ (r : Int) (S : St) (M : Hp), US ad S M → kt (20 + 2) r → Q r S → post (ad r) M) (hx : ∀ (E : String) (S : St) (M : Hp), US ad S M → QX E S → px E M) {w_self : Nat} {self : Int} (e_self : w_self = ad self) (t_self : kt (20 + 0) self) {w_p0 : Int32} {p0 : Int} (e_p0 : w_p0 = Int32.ofInt p0) (r_p0 : rI p0) {S : St} {M : Hp} (h : US ad S M) (hv : vpBT_productAt self p0 S Q QX) : wpBT_productAt w_self w_p0 M post px := by
  subst e_self
  subst e_p0
  unfold vpBT_productAt at hv
  unfold wpBT_productAt
  refine g_fI h t_self rfl rfl ?_
  obtain ⟨c1, hv⟩ := hv
  refine apBT_isOutside (fun r2 S3 N4 h5 r6 hv => ?_) (h_toL (show _ = Int32.ofInt p0 from rfl) r_p0) (rI_J r_p0) (h_toL (h_sub (show _ = Int32.ofInt (S self 4) from rfl) LI_1) c1) (rI_J c1) h hv
  refine ek_if (c_eq (show _ = Int32.ofInt r2 from rfl) LI_0 r6 LI_0r) (fun g7 => ?_) (fun g7 => ?_)
  · replace hv := hv.1 g7
    refine g_fA h5 t_self rfl (rv_0_1 t_self) ?_
    obtain ⟨c8, hv⟩ := hv
    refine g_aA h5 (show kt (10 + 4) 102 by decide) (by decide) (show alen 102 = 8 by decide) (show _ = Int32.ofInt p0 from rfl) c8 (rk_4 (show kt (10 + 4) 102 by decide)) ?_
    exact hp _ _ _ h5 (kA_4 c8) hv
  · replace hv := hv.2 g7
    exact hx _ _ _ h5 hv
def vpBT_bars (self : Int) (p0 : Int) (p1 : Int) (S : St) (Q : Int → St → Prop) (QX : String → St → Prop) : Prop := (vpBT_productAt self p0 S (fun (r1 : Int) (S2 : St) => (vpBT_isOutside p1 7 S2 (fun (r6 : Int) (S7 : St) => (((r6 = 0 → (((0 : Int) ≤ p1 ∧ (p1 : Int) < 8) ∧ ((((S7 (r1 + 2) p1) = 0 → (((0 : Int) ≤ p1 ∧ (p1 : Int) < 8) ∧ ((1 : Int) = 0 ∨ (1 : Int) = 1) ∧ ∀ S16 : St, S16 = up S7 (r1 + 2) p1 1 → (∀ S20 : St, S20 = up S16 self 9 0 → (Q 1 S20)))) ∧ (¬ (S7 (r1 + 2) p1) = 0 → (Q 0 S7)))))) ∧ (¬ r6 = 0 → (QX "java/lang/IllegalArgumentException" S7))))))) QX)
theorem apBT_bars {ad : Int → Nat} {Q : Int → St → Prop} {QX : String → St → Prop} {post : Int32 → Hp → Prop} {px : String → Hp → Prop} (hp : ∀ (r : Int) (S : St) (M : Hp), US ad S M → rI r → Q r S → post (Int32.ofInt r) M) (hx : ∀ (E : String) (S : St) (M : Hp), US ad S M → QX E S → px E M) {w_self : Nat} {self : Int} (e_self : w_self = ad self) (t_self : kt (20 + 0) self) {w_p0 : Int32} {p0 : Int} (e_p0 : w_p0 = Int32.ofInt p0) (r_p0 : rI p0) {w_p1 : Int32} {p1 : Int} (e_p1 : w_p1 = Int32.ofInt p1) (r_p1 : rI p1) {S : St} {M : Hp} (h : US ad S M) (hv : vpBT_bars self p0 p1 S Q QX) : wpBT_bars w_self w_p0 w_p1 M post px := by
  subst e_self
  subst e_p0
  subst e_p1
  unfold vpBT_bars at hv
  unfold wpBT_bars
  refine ⟨g_ob h t_self, ?_⟩
  refine apBT_productAt (fun r1 S2 N3 h4 r5 hv => ?_) hx rfl t_self (show _ = Int32.ofInt p0 from rfl) r_p0 h hv
  refine apBT_isOutside (fun r6 S7 N8 h9 r10 hv => ?_) (h_toL (show _ = Int32.ofInt p1 from rfl) r_p1) (rI_J r_p1) LJ_7 LJ_7r h4 hv
  refine ek_if (c_eq (show _ = Int32.ofInt r6 from rfl) LI_0 r10 LI_0r) (fun g11 => ?_) (fun g11 => ?_)
  · replace hv := hv.1 g11
    refine g_fA h9 r5 rfl (rv_2_1 r5) ?_
    obtain ⟨c12, hv⟩ := hv
    refine g_aZ h9 (kt_2_1 r5) (al_2_1 r5) (show _ = Int32.ofInt p1 from rfl) c12 ?_
    refine ek_if (c_eq (show _ = Int32.ofInt (S7 (r1 + 2) p1) from rfl) LI_0 (g_rI h9 (kt_2_1 r5) (by decide)) LI_0r) (fun g13 => ?_) (fun g13 => ?_)
    · replace hv := hv.1 g13
      refine g_fA h9 r5 rfl (rv_2_1 r5) ?_
      obtain ⟨c14, c15, hv⟩ := hv
      refine g_sZ h9 (kt_2_1 r5) (al_2_1 r5) (show _ = Int32.ofInt p1 from rfl) c14 LI_1 c15 (fun S16 N17 e19 h18 => ?_)
      replace hv := hv S16 e19
      refine g_pI h18 t_self rfl rfl LI_0 LI_0r (fun S20 N21 e23 h22 => ?_)
      replace hv := hv S20 e23
      refine ek_v (P := fun y => post y _) LI_1 ?_
      exact hp _ _ _ h22 LI_1r hv
    · replace hv := hv.2 g13
      refine ek_v (P := fun y => post y _) LI_0 ?_
      exact hp _ _ _ h9 LI_0r hv
  · replace hv := hv.2 g11
    exact hx _ _ _ h9 hv
def vSt_endAt_46 (Q : Int → St → Prop) (y0 : Int) (S : St) : Prop := (Q y0 S)
theorem aSt_endAt_46 {ad : Int → Nat} {Q : Int → St → Prop} {post : Int32 → Hp → Prop} (hp : ∀ (r : Int) (S : St) (M : Hp), US ad S M → rI r → Q r S → post (Int32.ofInt r) M) {w_y0 : Int32} {y0 : Int} (e_y0 : w_y0 = Int32.ofInt y0) (r_y0 : rI y0) {S : St} {M : Hp} (h : US ad S M) (hv : vSt_endAt_46 Q y0 S) : wSt_endAt_46 post w_y0 M := by
  subst e_y0
  unfold vSt_endAt_46 at hv
  unfold wSt_endAt_46
  refine ek_v (P := fun y => post y _) (show _ = Int32.ofInt y0 from rfl) ?_
  exact hp _ _ _ h r_y0 hv
def vSt_endAt_31 (Q : Int → St → Prop) (x0 : Int) (x1 : Int) (y0 : Int) (S : St) : Prop := (((y0 = 0 → (vSt_endAt_46 Q (-1) S)) ∧ (¬ y0 = 0 → (¬ (S x0 0) = 0 ∧ (((0 : Int) ≤ x1 ∧ (x1 : Int) < 2147483648) ∧ ((0 : Int) < (S x0 0) ∧ ((S x0 0) : Int) < 2147483648) ∧ (rI (x1 / (S x0 0))) ∧ vSt_endAt_46 Q (x1 / (S x0 0)) S)))))
theorem aSt_endAt_31 {ad : Int → Nat} {Q : Int → St → Prop} {post : Int32 → Hp → Prop} (hp : ∀ (r : Int) (S : St) (M : Hp), US ad S M → rI r → Q r S → post (Int32.ofInt r) M) {w_x0 : Nat} {x0 : Int} (e_x0 : w_x0 = ad x0) (t_x0 : kt (20 + 1) x0) {w_x1 : Int32} {x1 : Int} (e_x1 : w_x1 = Int32.ofInt x1) (r_x1 : rI x1) {w_y0 : Int32} {y0 : Int} (e_y0 : w_y0 = Int32.ofInt y0) (r_y0 : rI y0) {S : St} {M : Hp} (h : US ad S M) (hv : vSt_endAt_31 Q x0 x1 y0 S) : wSt_endAt_31 post w_x0 w_x1 w_y0 M := by
  subst e_x0
  subst e_x1
  subst e_y0
  unfold vSt_endAt_31 at hv
  unfold wSt_endAt_31
  refine ek_if (c_eq (show _ = Int32.ofInt y0 from rfl) LI_0 r_y0 LI_0r) (fun g1 => ?_) (fun g1 => ?_)
  · replace hv := hv.1 g1
    exact aSt_endAt_46 hp  LI_m1 LI_m1r h hv
  · replace hv := hv.2 g1
    refine g_fI h t_x0 rfl rfl ?_
    refine ⟨fun z => hv.1 ((c_eq (show _ = Int32.ofInt (S x0 0) from rfl) LI_0 (g_rf (j := 0) h t_x0 rfl rfl) LI_0r).mp z), ?_⟩
    replace hv := hv.2
    obtain ⟨c2, c3, c4, hv⟩ := hv
    exact aSt_endAt_46 hp  (h_div (show _ = Int32.ofInt x1 from rfl) (show _ = Int32.ofInt (S x0 0) from rfl) c2 c3) c4 h hv
def vSt_endAt_30 (Q : Int → St → Prop) (x0 : Int) (x1 : Int) (S : St) : Prop := (vSt_endAt_31 Q x0 x1 0 S)
theorem aSt_endAt_30 {ad : Int → Nat} {Q : Int → St → Prop} {post : Int32 → Hp → Prop} (hp : ∀ (r : Int) (S : St) (M : Hp), US ad S M → rI r → Q r S → post (Int32.ofInt r) M) {w_x0 : Nat} {x0 : Int} (e_x0 : w_x0 = ad x0) (t_x0 : kt (20 + 1) x0) {w_x1 : Int32} {x1 : Int} (e_x1 : w_x1 = Int32.ofInt x1) (r_x1 : rI x1) {S : St} {M : Hp} (h : US ad S M) (hv : vSt_endAt_30 Q x0 x1 S) : wSt_endAt_30 post w_x0 w_x1 M := by
  subst e_x0
  subst e_x1
  unfold vSt_endAt_30 at hv
  unfold wSt_endAt_30
  exact aSt_endAt_31 hp  rfl t_x0 (show _ = Int32.ofInt x1 from rfl) r_x1 LI_0 LI_0r h hv
def vpSt_endAt (self : Int) (p0 : Int) (S : St) (Q : Int → St → Prop) : Prop := (((p0 ≤ 0 → (vSt_endAt_30 Q self p0 S)) ∧ (¬ p0 ≤ 0 → (¬ (S self 0) = 0 ∧ (((0 : Int) ≤ p0 ∧ (p0 : Int) < 2147483648) ∧ ((0 : Int) < (S self 0) ∧ ((S self 0) : Int) < 2147483648) ∧ (rI (p0 % (S self 0))) ∧ (((p0 % (S self 0)) = 0 → (¬ (S self 0) = 0 ∧ (((0 : Int) ≤ p0 ∧ (p0 : Int) < 2147483648) ∧ ((0 : Int) < (S self 0) ∧ ((S self 0) : Int) < 2147483648) ∧ (rI (p0 / (S self 0))) ∧ (((S self 11) < (p0 / (S self 0)) → (vSt_endAt_30 Q self p0 S)) ∧ (¬ (S self 11) < (p0 / (S self 0)) → (vSt_endAt_31 Q self p0 1 S)))))) ∧ (¬ (p0 % (S self 0)) = 0 → (vSt_endAt_30 Q self p0 S))))))))
theorem apSt_endAt {ad : Int → Nat} {Q : Int → St → Prop} {post : Int32 → Hp → Prop} (hp : ∀ (r : Int) (S : St) (M : Hp), US ad S M → rI r → Q r S → post (Int32.ofInt r) M) {w_self : Nat} {self : Int} (e_self : w_self = ad self) (t_self : kt (20 + 1) self) {w_p0 : Int32} {p0 : Int} (e_p0 : w_p0 = Int32.ofInt p0) (r_p0 : rI p0) {S : St} {M : Hp} (h : US ad S M) (hv : vpSt_endAt self p0 S Q) : wpSt_endAt w_self w_p0 M post := by
  subst e_self
  subst e_p0
  unfold vpSt_endAt at hv
  unfold wpSt_endAt
  refine ek_if (c_le (show _ = Int32.ofInt p0 from rfl) LI_0 r_p0 LI_0r) (fun g1 => ?_) (fun g1 => ?_)
  · replace hv := hv.1 g1
    exact aSt_endAt_30 hp  rfl t_self (show _ = Int32.ofInt p0 from rfl) r_p0 h hv
  · replace hv := hv.2 g1
    refine g_fI h t_self rfl rfl ?_
    refine ⟨fun z => hv.1 ((c_eq (show _ = Int32.ofInt (S self 0) from rfl) LI_0 (g_rf (j := 0) h t_self rfl rfl) LI_0r).mp z), ?_⟩
    replace hv := hv.2
    obtain ⟨c2, c3, c4, hv⟩ := hv
    refine ek_if (c_eq (h_rem (show _ = Int32.ofInt p0 from rfl) (show _ = Int32.ofInt (S self 0) from rfl) c2 c3) LI_0 c4 LI_0r) (fun g5 => ?_) (fun g5 => ?_)
    · replace hv := hv.1 g5
      refine g_fI h t_self rfl rfl ?_
      refine ⟨fun z => hv.1 ((c_eq (show _ = Int32.ofInt (S self 0) from rfl) LI_0 (g_rf (j := 0) h t_self rfl rfl) LI_0r).mp z), ?_⟩
      replace hv := hv.2
      refine g_fI h t_self rfl rfl ?_
      obtain ⟨c6, c7, c8, hv⟩ := hv
      refine ek_if (c_lt (show _ = Int32.ofInt (S self 11) from rfl) (h_div (show _ = Int32.ofInt p0 from rfl) (show _ = Int32.ofInt (S self 0) from rfl) c6 c7) (g_rf (j := 11) h t_self rfl rfl) c8) (fun g9 => ?_) (fun g9 => ?_)
      · replace hv := hv.1 g9
        exact aSt_endAt_30 hp  rfl t_self (show _ = Int32.ofInt p0 from rfl) r_p0 h hv
      · replace hv := hv.2 g9
        exact aSt_endAt_31 hp  rfl t_self (show _ = Int32.ofInt p0 from rfl) r_p0 LI_1 LI_1r h hv
    · replace hv := hv.2 g5
      exact aSt_endAt_30 hp  rfl t_self (show _ = Int32.ofInt p0 from rfl) r_p0 h hv
def vBT_forceLatest_25 (Q : Int → St → Prop) (S : St) : Prop := (Q 0 S)
theorem aBT_forceLatest_25 {ad : Int → Nat} {Q : Int → St → Prop} {post : Int32 → Hp → Prop} (hp : ∀ (r : Int) (S : St) (M : Hp), US ad S M → rI r → Q r S → post (Int32.ofInt r) M)  {S : St} {M : Hp} (h : US ad S M) (hv : vBT_forceLatest_25 Q  S) : wBT_forceLatest_25 post  M := by
  unfold vBT_forceLatest_25 at hv
  unfold wBT_forceLatest_25
  refine ek_v (P := fun y => post y _) LI_0 ?_
  exact hp _ _ _ h LI_0r hv
def vpBT_forceLatest (self : Int) (p0 : Int) (S : St) (Q : Int → St → Prop) : Prop := (vpBT_latestStem self S (fun (r1 : Int) (S2 : St) => (vpSt_endAt r1 p0 S2 (fun (r6 : Int) (S7 : St) => (((r6 = (-1) → (vBT_forceLatest_25 Q  S7)) ∧ (¬ r6 = (-1) → (((0 : Int) ≤ r6 ∧ (r6 : Int) < 81) ∧ ((((S7 (r1 + 8) r6) = 0 → (((0 : Int) ≤ r6 ∧ (r6 : Int) < 81) ∧ ((1 : Int) = 0 ∨ (1 : Int) = 1) ∧ ∀ S16 : St, S16 = up S7 (r1 + 8) r6 1 → (Q 1 S16))) ∧ (¬ (S7 (r1 + 8) r6) = 0 → (vBT_forceLatest_25 Q  S7))))))))))))
theorem apBT_forceLatest {ad : Int → Nat} {Q : Int → St → Prop} {post : Int32 → Hp → Prop} (hp : ∀ (r : Int) (S : St) (M : Hp), US ad S M → rI r → Q r S → post (Int32.ofInt r) M) {w_self : Nat} {self : Int} (e_self : w_self = ad self) (t_self : kt (20 + 0) self) {w_p0 : Int32} {p0 : Int} (e_p0 : w_p0 = Int32.ofInt p0) (r_p0 : rI p0) {S : St} {M : Hp} (h : US ad S M) (hv : vpBT_forceLatest self p0 S Q) : wpBT_forceLatest w_self w_p0 M post := by
  subst e_self
  subst e_p0
  unfold vpBT_forceLatest at hv
  unfold wpBT_forceLatest
  refine ⟨g_ob h t_self, ?_⟩
  refine apBT_latestStem (fun r1 S2 N3 h4 r5 hv => ?_) rfl t_self h hv
  refine ⟨g_ob h4 r5, ?_⟩
  refine apSt_endAt (fun r6 S7 N8 h9 r10 hv => ?_) rfl r5 (show _ = Int32.ofInt p0 from rfl) r_p0 h4 hv
  refine ek_if (c_eq (show _ = Int32.ofInt r6 from rfl) LI_m1 r10 LI_m1r) (fun g11 => ?_) (fun g11 => ?_)
  · replace hv := hv.1 g11
    exact aBT_forceLatest_25 hp   h9 hv
  · replace hv := hv.2 g11
    refine g_fA h9 r5 rfl (rv_1_7 r5) ?_
    obtain ⟨c12, hv⟩ := hv
    refine g_aZ h9 (kt_1_7 r5) (al_1_7 r5) (show _ = Int32.ofInt r6 from rfl) c12 ?_
    refine ek_if (c_eq (show _ = Int32.ofInt (S7 (r1 + 8) r6) from rfl) LI_0 (g_rI h9 (kt_1_7 r5) (by decide)) LI_0r) (fun g13 => ?_) (fun g13 => ?_)
    · replace hv := hv.1 g13
      refine g_fA h9 r5 rfl (rv_1_7 r5) ?_
      obtain ⟨c14, c15, hv⟩ := hv
      refine g_sZ h9 (kt_1_7 r5) (al_1_7 r5) (show _ = Int32.ofInt r6 from rfl) c14 LI_1 c15 (fun S16 N17 e19 h18 => ?_)
      replace hv := hv S16 e19
      refine ek_v (P := fun y => post y _) LI_1 ?_
      exact hp _ _ _ h18 LI_1r hv
    · replace hv := hv.2 g13
      exact aBT_forceLatest_25 hp   h9 hv
def vpBT_force (self : Int) (p0 : Int) (S : St) (Q : Int → St → Prop) (QX : String → St → Prop) : Prop := (vpBT_isOutside p0 10000000 S (fun (r1 : Int) (S2 : St) => (((r1 = 0 → (vpBT_forceLatest self p0 S2 (fun (r7 : Int) (S8 : St) => (((r7 = 0 → (Q 0 S8)) ∧ (¬ r7 = 0 → (∀ S13 : St, S13 = up S8 self 9 0 → (Q 1 S13)))))))) ∧ (¬ r1 = 0 → (QX "java/lang/IllegalArgumentException" S2))))))
theorem apBT_force {ad : Int → Nat} {Q : Int → St → Prop} {QX : String → St → Prop} {post : Int32 → Hp → Prop} {px : String → Hp → Prop} (hp : ∀ (r : Int) (S : St) (M : Hp), US ad S M → rI r → Q r S → post (Int32.ofInt r) M) (hx : ∀ (E : String) (S : St) (M : Hp), US ad S M → QX E S → px E M) {w_self : Nat} {self : Int} (e_self : w_self = ad self) (t_self : kt (20 + 0) self) {w_p0 : Int32} {p0 : Int} (e_p0 : w_p0 = Int32.ofInt p0) (r_p0 : rI p0) {S : St} {M : Hp} (h : US ad S M) (hv : vpBT_force self p0 S Q QX) : wpBT_force w_self w_p0 M post px := by
  subst e_self
  subst e_p0
  unfold vpBT_force at hv
  unfold wpBT_force
  refine apBT_isOutside (fun r1 S2 N3 h4 r5 hv => ?_) (h_toL (show _ = Int32.ofInt p0 from rfl) r_p0) (rI_J r_p0) LJ_10000000 LJ_10000000r h hv
  refine ek_if (c_eq (show _ = Int32.ofInt r1 from rfl) LI_0 r5 LI_0r) (fun g6 => ?_) (fun g6 => ?_)
  · replace hv := hv.1 g6
    refine ⟨g_ob h4 t_self, ?_⟩
    refine apBT_forceLatest (fun r7 S8 N9 h10 r11 hv => ?_) rfl t_self (show _ = Int32.ofInt p0 from rfl) r_p0 h4 hv
    refine ek_if (c_eq (show _ = Int32.ofInt r7 from rfl) LI_0 r11 LI_0r) (fun g12 => ?_) (fun g12 => ?_)
    · replace hv := hv.1 g12
      refine ek_v (P := fun y => post y _) LI_0 ?_
      exact hp _ _ _ h10 LI_0r hv
    · replace hv := hv.2 g12
      refine g_pI h10 t_self rfl rfl LI_0 LI_0r (fun S13 N14 e16 h15 => ?_)
      replace hv := hv S13 e16
      refine ek_v (P := fun y => post y _) LI_1 ?_
      exact hp _ _ _ h15 LI_1r hv
  · replace hv := hv.2 g6
    exact hx _ _ _ h4 hv
def vpBT_margin (self : Int) (p0 : Int) (S : St) (Q : Int → St → Prop) (QX : String → St → Prop) : Prop := (vpBT_isOutside p0 100000 S (fun (r1 : Int) (S2 : St) => (((r1 = 0 → ((((S2 self 5) = p0 → (Q 0 S2)) ∧ (¬ (S2 self 5) = p0 → (∀ S8 : St, S8 = up S2 self 5 p0 → (∀ S12 : St, S12 = up S8 self 9 0 → (Q 1 S12))))))) ∧ (¬ r1 = 0 → (QX "java/lang/IllegalArgumentException" S2))))))
theorem apBT_margin {ad : Int → Nat} {Q : Int → St → Prop} {QX : String → St → Prop} {post : Int32 → Hp → Prop} {px : String → Hp → Prop} (hp : ∀ (r : Int) (S : St) (M : Hp), US ad S M → rI r → Q r S → post (Int32.ofInt r) M) (hx : ∀ (E : String) (S : St) (M : Hp), US ad S M → QX E S → px E M) {w_self : Nat} {self : Int} (e_self : w_self = ad self) (t_self : kt (20 + 0) self) {w_p0 : Int32} {p0 : Int} (e_p0 : w_p0 = Int32.ofInt p0) (r_p0 : rI p0) {S : St} {M : Hp} (h : US ad S M) (hv : vpBT_margin self p0 S Q QX) : wpBT_margin w_self w_p0 M post px := by
  subst e_self
  subst e_p0
  unfold vpBT_margin at hv
  unfold wpBT_margin
  refine apBT_isOutside (fun r1 S2 N3 h4 r5 hv => ?_) (h_toL (show _ = Int32.ofInt p0 from rfl) r_p0) (rI_J r_p0) LJ_100000 LJ_100000r h hv
  refine ek_if (c_eq (show _ = Int32.ofInt r1 from rfl) LI_0 r5 LI_0r) (fun g6 => ?_) (fun g6 => ?_)
  · replace hv := hv.1 g6
    refine g_fI h4 t_self rfl rfl ?_
    refine ek_if (c_eq (show _ = Int32.ofInt (S2 self 5) from rfl) (show _ = Int32.ofInt p0 from rfl) (g_rf (j := 5) h4 t_self rfl rfl) r_p0) (fun g7 => ?_) (fun g7 => ?_)
    · replace hv := hv.1 g7
      refine ek_v (P := fun y => post y _) LI_0 ?_
      exact hp _ _ _ h4 LI_0r hv
    · replace hv := hv.2 g7
      refine g_pI h4 t_self rfl rfl (show _ = Int32.ofInt p0 from rfl) r_p0 (fun S8 N9 e11 h10 => ?_)
      replace hv := hv S8 e11
      refine g_pI h10 t_self rfl rfl LI_0 LI_0r (fun S12 N13 e15 h14 => ?_)
      replace hv := hv S12 e15
      refine ek_v (P := fun y => post y _) LI_1 ?_
      exact hp _ _ _ h14 LI_1r hv
  · replace hv := hv.2 g6
    exact hx _ _ _ h4 hv
def vpBT_saw (self : Int) (p0 : Int) (S : St) (Q : Int → St → Prop) (QX : String → St → Prop) : Prop := (vpBT_isOutside p0 3 S (fun (r1 : Int) (S2 : St) => (((r1 = 0 → ((((S2 self 6) = p0 → (Q 0 S2)) ∧ (¬ (S2 self 6) = p0 → (∀ S8 : St, S8 = up S2 self 6 p0 → (∀ S12 : St, S12 = up S8 self 9 0 → (Q 1 S12))))))) ∧ (¬ r1 = 0 → (QX "java/lang/IllegalArgumentException" S2))))))
theorem apBT_saw {ad : Int → Nat} {Q : Int → St → Prop} {QX : String → St → Prop} {post : Int32 → Hp → Prop} {px : String → Hp → Prop} (hp : ∀ (r : Int) (S : St) (M : Hp), US ad S M → rI r → Q r S → post (Int32.ofInt r) M) (hx : ∀ (E : String) (S : St) (M : Hp), US ad S M → QX E S → px E M) {w_self : Nat} {self : Int} (e_self : w_self = ad self) (t_self : kt (20 + 0) self) {w_p0 : Int32} {p0 : Int} (e_p0 : w_p0 = Int32.ofInt p0) (r_p0 : rI p0) {S : St} {M : Hp} (h : US ad S M) (hv : vpBT_saw self p0 S Q QX) : wpBT_saw w_self w_p0 M post px := by
  subst e_self
  subst e_p0
  unfold vpBT_saw at hv
  unfold wpBT_saw
  refine apBT_isOutside (fun r1 S2 N3 h4 r5 hv => ?_) (h_toL (show _ = Int32.ofInt p0 from rfl) r_p0) (rI_J r_p0) LJ_3 LJ_3r h hv
  refine ek_if (c_eq (show _ = Int32.ofInt r1 from rfl) LI_0 r5 LI_0r) (fun g6 => ?_) (fun g6 => ?_)
  · replace hv := hv.1 g6
    refine g_fI h4 t_self rfl rfl ?_
    refine ek_if (c_eq (show _ = Int32.ofInt (S2 self 6) from rfl) (show _ = Int32.ofInt p0 from rfl) (g_rf (j := 6) h4 t_self rfl rfl) r_p0) (fun g7 => ?_) (fun g7 => ?_)
    · replace hv := hv.1 g7
      refine ek_v (P := fun y => post y _) LI_0 ?_
      exact hp _ _ _ h4 LI_0r hv
    · replace hv := hv.2 g7
      refine g_pI h4 t_self rfl rfl (show _ = Int32.ofInt p0 from rfl) r_p0 (fun S8 N9 e11 h10 => ?_)
      replace hv := hv S8 e11
      refine g_pI h10 t_self rfl rfl LI_0 LI_0r (fun S12 N13 e15 h14 => ?_)
      replace hv := hv S12 e15
      refine ek_v (P := fun y => post y _) LI_1 ?_
      exact hp _ _ _ h14 LI_1r hv
  · replace hv := hv.2 g6
    exact hx _ _ _ h4 hv
def vpBT_limit (self : Int) (p0 : Int) (p1 : Int) (S : St) (Q : Int → St → Prop) (QX : String → St → Prop) : Prop := (vpBT_productAt self p0 S (fun (r1 : Int) (S2 : St) => (vpBT_isOutside p1 1000 S2 (fun (r6 : Int) (S7 : St) => (((r6 = 0 → ((((S7 r1 8) = p1 → (Q 0 S7)) ∧ (¬ (S7 r1 8) = p1 → (∀ S13 : St, S13 = up S7 r1 8 p1 → (∀ S17 : St, S17 = up S13 self 9 0 → (Q 1 S17))))))) ∧ (¬ r6 = 0 → (QX "java/lang/IllegalArgumentException" S7))))))) QX)
theorem apBT_limit {ad : Int → Nat} {Q : Int → St → Prop} {QX : String → St → Prop} {post : Int32 → Hp → Prop} {px : String → Hp → Prop} (hp : ∀ (r : Int) (S : St) (M : Hp), US ad S M → rI r → Q r S → post (Int32.ofInt r) M) (hx : ∀ (E : String) (S : St) (M : Hp), US ad S M → QX E S → px E M) {w_self : Nat} {self : Int} (e_self : w_self = ad self) (t_self : kt (20 + 0) self) {w_p0 : Int32} {p0 : Int} (e_p0 : w_p0 = Int32.ofInt p0) (r_p0 : rI p0) {w_p1 : Int64} {p1 : Int} (e_p1 : w_p1 = Int64.ofInt p1) (r_p1 : rJ p1) {S : St} {M : Hp} (h : US ad S M) (hv : vpBT_limit self p0 p1 S Q QX) : wpBT_limit w_self w_p0 w_p1 M post px := by
  subst e_self
  subst e_p0
  subst e_p1
  unfold vpBT_limit at hv
  unfold wpBT_limit
  refine ⟨g_ob h t_self, ?_⟩
  refine apBT_productAt (fun r1 S2 N3 h4 r5 hv => ?_) hx rfl t_self (show _ = Int32.ofInt p0 from rfl) r_p0 h hv
  refine apBT_isOutside (fun r6 S7 N8 h9 r10 hv => ?_) (show _ = Int64.ofInt p1 from rfl) r_p1 LJ_1000 LJ_1000r h4 hv
  refine ek_if (c_eq (show _ = Int32.ofInt r6 from rfl) LI_0 r10 LI_0r) (fun g11 => ?_) (fun g11 => ?_)
  · replace hv := hv.1 g11
    refine g_fJ h9 r5 rfl rfl ?_
    refine ek_if (C_eq (show _ = Int64.ofInt (S7 r1 8) from rfl) (show _ = Int64.ofInt p1 from rfl) (g_rF (j := 8) h9 r5 rfl rfl) r_p1) (fun g12 => ?_) (fun g12 => ?_)
    · replace hv := hv.1 g12
      refine ek_v (P := fun y => post y _) LI_0 ?_
      exact hp _ _ _ h9 LI_0r hv
    · replace hv := hv.2 g12
      refine g_pJ h9 r5 rfl rfl (show _ = Int64.ofInt p1 from rfl) r_p1 (fun S13 N14 e16 h15 => ?_)
      replace hv := hv S13 e16
      refine g_pI h15 t_self rfl rfl LI_0 LI_0r (fun S17 N18 e20 h19 => ?_)
      replace hv := hv S17 e20
      refine ek_v (P := fun y => post y _) LI_1 ?_
      exact hp _ _ _ h19 LI_1r hv
  · replace hv := hv.2 g11
    exact hx _ _ _ h9 hv
def vBT_wish_28 (Q : Int → St → Prop) (QX : String → St → Prop) (S : St) : Prop := (QX "java/lang/IllegalArgumentException" S)
theorem aBT_wish_28 {ad : Int → Nat} {Q : Int → St → Prop} {QX : String → St → Prop} {post : Int32 → Hp → Prop} {px : String → Hp → Prop} (hp : ∀ (r : Int) (S : St) (M : Hp), US ad S M → rI r → Q r S → post (Int32.ofInt r) M) (hx : ∀ (E : String) (S : St) (M : Hp), US ad S M → QX E S → px E M)  {S : St} {M : Hp} (h : US ad S M) (hv : vBT_wish_28 Q QX  S) : wBT_wish_28 post px  M := by
  unfold vBT_wish_28 at hv
  unfold wBT_wish_28
  exact hx _ _ _ h hv
def vpBT_wish (self : Int) (p0 : Int) (p1 : Int) (p2 : Int) (S : St) (Q : Int → St → Prop) (QX : String → St → Prop) : Prop := (vpBT_productAt self p0 S (fun (r1 : Int) (S2 : St) => (vpBT_isOutside p1 6 S2 (fun (r6 : Int) (S7 : St) => (((r6 = 0 → (vpBT_isOutside p2 100000 S7 (fun (r12 : Int) (S13 : St) => (((r12 = 0 → (((0 : Int) ≤ p1 ∧ (p1 : Int) < 7) ∧ ((((S13 (r1 + 3) p1) = p2 → (Q 0 S13)) ∧ (¬ (S13 (r1 + 3) p1) = p2 → (((0 : Int) ≤ p1 ∧ (p1 : Int) < 7) ∧ ∀ S21 : St, S21 = up S13 (r1 + 3) p1 p2 → (∀ S25 : St, S25 = up S21 self 9 0 → (Q 1 S25)))))))) ∧ (¬ r12 = 0 → (vBT_wish_28 Q QX  S13))))))) ∧ (¬ r6 = 0 → (vBT_wish_28 Q QX  S7))))))) QX)
theorem apBT_wish {ad : Int → Nat} {Q : Int → St → Prop} {QX : String → St → Prop} {post : Int32 → Hp → Prop} {px : String → Hp → Prop} (hp : ∀ (r : Int) (S : St) (M : Hp), US ad S M → rI r → Q r S → post (Int32.ofInt r) M) (hx : ∀ (E : String) (S : St) (M : Hp), US ad S M → QX E S → px E M) {w_self : Nat} {self : Int} (e_self : w_self = ad self) (t_self : kt (20 + 0) self) {w_p0 : Int32} {p0 : Int} (e_p0 : w_p0 = Int32.ofInt p0) (r_p0 : rI p0) {w_p1 : Int32} {p1 : Int} (e_p1 : w_p1 = Int32.ofInt p1) (r_p1 : rI p1) {w_p2 : Int64} {p2 : Int} (e_p2 : w_p2 = Int64.ofInt p2) (r_p2 : rJ p2) {S : St} {M : Hp} (h : US ad S M) (hv : vpBT_wish self p0 p1 p2 S Q QX) : wpBT_wish w_self w_p0 w_p1 w_p2 M post px := by
  subst e_self
  subst e_p0
  subst e_p1
  subst e_p2
  unfold vpBT_wish at hv
  unfold wpBT_wish
  refine ⟨g_ob h t_self, ?_⟩
  refine apBT_productAt (fun r1 S2 N3 h4 r5 hv => ?_) hx rfl t_self (show _ = Int32.ofInt p0 from rfl) r_p0 h hv
  refine apBT_isOutside (fun r6 S7 N8 h9 r10 hv => ?_) (h_toL (show _ = Int32.ofInt p1 from rfl) r_p1) (rI_J r_p1) LJ_6 LJ_6r h4 hv
  refine ek_if (c_eq (show _ = Int32.ofInt r6 from rfl) LI_0 r10 LI_0r) (fun g11 => ?_) (fun g11 => ?_)
  · replace hv := hv.1 g11
    refine apBT_isOutside (fun r12 S13 N14 h15 r16 hv => ?_) (show _ = Int64.ofInt p2 from rfl) r_p2 LJ_100000 LJ_100000r h9 hv
    refine ek_if (c_eq (show _ = Int32.ofInt r12 from rfl) LI_0 r16 LI_0r) (fun g17 => ?_) (fun g17 => ?_)
    · replace hv := hv.1 g17
      refine g_fA h15 r5 rfl (rv_2_2 r5) ?_
      obtain ⟨c18, hv⟩ := hv
      refine g_aJ h15 (kt_2_2 r5) (al_2_2 r5) (show _ = Int32.ofInt p1 from rfl) c18 ?_
      refine ek_if (C_eq (show _ = Int64.ofInt (S13 (r1 + 3) p1) from rfl) (show _ = Int64.ofInt p2 from rfl) (g_rJ h15 (kt_2_2 r5)) r_p2) (fun g19 => ?_) (fun g19 => ?_)
      · replace hv := hv.1 g19
        refine ek_v (P := fun y => post y _) LI_0 ?_
        exact hp _ _ _ h15 LI_0r hv
      · replace hv := hv.2 g19
        refine g_fA h15 r5 rfl (rv_2_2 r5) ?_
        obtain ⟨c20, hv⟩ := hv
        refine g_sJ h15 (kt_2_2 r5) (al_2_2 r5) (show _ = Int32.ofInt p1 from rfl) c20 (show _ = Int64.ofInt p2 from rfl) r_p2 (fun S21 N22 e24 h23 => ?_)
        replace hv := hv S21 e24
        refine g_pI h23 t_self rfl rfl LI_0 LI_0r (fun S25 N26 e28 h27 => ?_)
        replace hv := hv S25 e28
        refine ek_v (P := fun y => post y _) LI_1 ?_
        exact hp _ _ _ h27 LI_1r hv
    · replace hv := hv.2 g17
      exact aBT_wish_28 hp hx   h15 hv
  · replace hv := hv.2 g11
    exact aBT_wish_28 hp hx   h9 hv
def vSt_reachByLengthAndCuts_35 (Q : St → Prop) (K13 : Int → Int → Int → Int → Int → St → Prop) (x0 : Int) (x1 : Int) (x2 : Int) (x3 : Int) (x4 : Int) (S : St) : Prop := ((rI (x4 + (S x2 4))) ∧ ((0 : Int) ≤ x4 ∧ (x4 : Int) < (alen x1)) ∧ (rI (min (x4 + (S x2 4)) x3)) ∧ ∀ S4 : St, S4 = up S x1 x4 (min (x4 + (S x2 4)) x3) → ((rI (x4 + (-1))) ∧ ∀ z10 : Int, z10 = (x4 + (-1)) → (K13 x0 x1 x2 x3 z10 S4)))
theorem aSt_reachByLengthAndCuts_35 {ad : Int → Nat} {Q : St → Prop} {K13 : Int → Int → Int → Int → Int → St → Prop} {post : Hp → Prop} {k13 : Nat → Nat → Nat → Int32 → Int32 → Hp → Prop} (hp : ∀ (S : St) (M : Hp), US ad S M → Q S → post M) (hk13 : ∀ (b0 b1 b2 b3 b4 : Int) (S : St) (M : Hp), kt (20 + 1) b0 → kt 1 b1 → kt (20 + 2) b2 → rI b3 → rI b4 → US ad S M → K13 b0 b1 b2 b3 b4 S → k13 (ad b0) (ad b1) (ad b2) (Int32.ofInt b3) (Int32.ofInt b4) M) {w_x0 : Nat} {x0 : Int} (e_x0 : w_x0 = ad x0) (t_x0 : kt (20 + 1) x0) {w_x1 : Nat} {x1 : Int} (e_x1 : w_x1 = ad x1) (t_x1 : kt 1 x1) {w_x2 : Nat} {x2 : Int} (e_x2 : w_x2 = ad x2) (t_x2 : kt (20 + 2) x2) {w_x3 : Int32} {x3 : Int} (e_x3 : w_x3 = Int32.ofInt x3) (r_x3 : rI x3) {w_x4 : Int32} {x4 : Int} (e_x4 : w_x4 = Int32.ofInt x4) (r_x4 : rI x4) {S : St} {M : Hp} (h : US ad S M) (hv : vSt_reachByLengthAndCuts_35 Q K13 x0 x1 x2 x3 x4 S) : wSt_reachByLengthAndCuts_35 post k13 w_x0 w_x1 w_x2 w_x3 w_x4 M := by
  subst e_x0
  subst e_x1
  subst e_x2
  subst e_x3
  subst e_x4
  unfold vSt_reachByLengthAndCuts_35 at hv
  unfold wSt_reachByLengthAndCuts_35
  refine g_fI h t_x2 rfl rfl ?_
  obtain ⟨c1, c2, c3, hv⟩ := hv
  refine g_sI h t_x1 rfl (show _ = Int32.ofInt x4 from rfl) c2 (h_min (h_add (show _ = Int32.ofInt x4 from rfl) (show _ = Int32.ofInt (S x2 4) from rfl)) (show _ = Int32.ofInt x3 from rfl) c1 r_x3) c3 (fun S4 N5 e7 h6 => ?_)
  replace hv := hv S4 e7
  obtain ⟨c8, hv⟩ := hv
  refine nm_z (h_add (show _ = Int32.ofInt x4 from rfl) LI_m1) (fun z10 e9 => ?_)
  have r10 : rI z10 := by rw [e9]; exact c8
  replace hv := hv z10 e9
  exact hk13 _ _ _ _ _ _ _ t_x0 t_x1 t_x2 r_x3 r10 h6 hv
def vSt_reachByLengthAndCuts_13 (Q : St → Prop) : Nat → Int → Int → Int → Int → Int → St → Prop
  | 0 => fun _ _ _ _ _ _ => False
  | n + 1 => fun x0 x1 x2 x3 x4 S => (((x4 < 0 → (Q S)) ∧ (¬ x4 < 0 → (((0 : Int) ≤ (x4 + 1) ∧ ((x4 + 1) : Int) < 81) ∧ ((((S (x0 + 8) (x4 + 1)) = 0 → (vSt_reachByLengthAndCuts_35 Q (vSt_reachByLengthAndCuts_13 Q n) x0 x1 x2 x3 x4 S)) ∧ (¬ (S (x0 + 8) (x4 + 1)) = 0 → ((rI (x4 + 1)) ∧ ∀ z22 : Int, z22 = (x4 + 1) → (vSt_reachByLengthAndCuts_35 Q (vSt_reachByLengthAndCuts_13 Q n) x0 x1 x2 z22 x4 S)))))))))
theorem aSt_reachByLengthAndCuts_13 {ad : Int → Nat} {Q : St → Prop} {post : Hp → Prop} (hp : ∀ (S : St) (M : Hp), US ad S M → Q S → post M) : ∀ (n : Nat) (w_x0 : Nat) (x0 : Int) (e_x0 : w_x0 = ad x0) (t_x0 : kt (20 + 1) x0) (w_x1 : Nat) (x1 : Int) (e_x1 : w_x1 = ad x1) (t_x1 : kt 1 x1) (w_x2 : Nat) (x2 : Int) (e_x2 : w_x2 = ad x2) (t_x2 : kt (20 + 2) x2) (w_x3 : Int32) (x3 : Int) (e_x3 : w_x3 = Int32.ofInt x3) (r_x3 : rI x3) (w_x4 : Int32) (x4 : Int) (e_x4 : w_x4 = Int32.ofInt x4) (r_x4 : rI x4) (S : St) (M : Hp), US ad S M → vSt_reachByLengthAndCuts_13 Q n x0 x1 x2 x3 x4 S → wSt_reachByLengthAndCuts_13 post n w_x0 w_x1 w_x2 w_x3 w_x4 M := by
  intro n
  induction n with
  | zero => intro w_x0 x0 e_x0 t_x0 w_x1 x1 e_x1 t_x1 w_x2 x2 e_x2 t_x2 w_x3 x3 e_x3 r_x3 w_x4 x4 e_x4 r_x4 S M h hv; exact hv.elim
  | succ n ih =>
    intro w_x0 x0 e_x0 t_x0 w_x1 x1 e_x1 t_x1 w_x2 x2 e_x2 t_x2 w_x3 x3 e_x3 r_x3 w_x4 x4 e_x4 r_x4 S M h hv
    subst e_x0
    subst e_x1
    subst e_x2
    subst e_x3
    subst e_x4
    unfold vSt_reachByLengthAndCuts_13 at hv
    unfold wSt_reachByLengthAndCuts_13
    refine ek_if (c_lt (show _ = Int32.ofInt x4 from rfl) LI_0 r_x4 LI_0r) (fun g1 => ?_) (fun g1 => ?_)
    · replace hv := hv.1 g1
      exact hp _ _ h hv
    · replace hv := hv.2 g1
      refine g_fA h t_x0 rfl (rv_1_7 t_x0) ?_
      obtain ⟨c2, hv⟩ := hv
      refine g_aZ h (kt_1_7 t_x0) (al_1_7 t_x0) (h_add (show _ = Int32.ofInt x4 from rfl) LI_1) c2 ?_
      refine ek_if (c_eq (show _ = Int32.ofInt (S (x0 + 8) (x4 + 1)) from rfl) LI_0 (g_rI h (kt_1_7 t_x0) (by decide)) LI_0r) (fun g3 => ?_) (fun g3 => ?_)
      · replace hv := hv.1 g3
        exact aSt_reachByLengthAndCuts_35 hp (fun b0 b1 b2 b3 b4 S9 M9 y0 y1 y2 y3 y4 h9 hv9 => ih _ b0 rfl y0 _ b1 rfl y1 _ b2 rfl y2 _ b3 rfl y3 _ b4 rfl y4 S9 M9 h9 hv9) rfl t_x0 rfl t_x1 rfl t_x2 (show _ = Int32.ofInt x3 from rfl) r_x3 (show _ = Int32.ofInt x4 from rfl) r_x4 h hv
      · replace hv := hv.2 g3
        obtain ⟨c4, hv⟩ := hv
        refine nm_z (h_add (show _ = Int32.ofInt x4 from rfl) LI_1) (fun z22 e5 => ?_)
        have r6 : rI z22 := by rw [e5]; exact c4
        replace hv := hv z22 e5
        exact aSt_reachByLengthAndCuts_35 hp (fun b0 b1 b2 b3 b4 S9 M9 y0 y1 y2 y3 y4 h9 hv9 => ih _ b0 rfl y0 _ b1 rfl y1 _ b2 rfl y2 _ b3 rfl y3 _ b4 rfl y4 S9 M9 h9 hv9) rfl t_x0 rfl t_x1 rfl t_x2 (show _ = Int32.ofInt z22 from rfl) r6 (show _ = Int32.ofInt x4 from rfl) r_x4 h hv
def vpSt_reachByLengthAndCuts (self : Int) (p0 : Int) (p1 : Int) (S : St) (Q : St → Prop) : Prop := ((rI ((S self 11) - 1)) ∧ ∀ z31 : Int, z31 = ((S self 11) - 1) → (∃ n32 : Nat, (vSt_reachByLengthAndCuts_13 Q n32 self p0 p1 (S self 11) z31 S)))
theorem apSt_reachByLengthAndCuts {ad : Int → Nat} {Q : St → Prop} {post : Hp → Prop} (hp : ∀ (S : St) (M : Hp), US ad S M → Q S → post M) {w_self : Nat} {self : Int} (e_self : w_self = ad self) (t_self : kt (20 + 1) self) {w_p0 : Nat} {p0 : Int} (e_p0 : w_p0 = ad p0) (t_p0 : kt 1 p0) {w_p1 : Nat} {p1 : Int} (e_p1 : w_p1 = ad p1) (t_p1 : kt (20 + 2) p1) {S : St} {M : Hp} (h : US ad S M) (hv : vpSt_reachByLengthAndCuts self p0 p1 S Q) : wpSt_reachByLengthAndCuts w_self w_p0 w_p1 M post := by
  subst e_self
  subst e_p0
  subst e_p1
  unfold vpSt_reachByLengthAndCuts at hv
  unfold wpSt_reachByLengthAndCuts
  refine g_fI h t_self rfl rfl ?_
  refine g_fI h t_self rfl rfl ?_
  obtain ⟨c1, hv⟩ := hv
  refine nm_z (h_sub (show _ = Int32.ofInt (S self 11) from rfl) LI_1) (fun z31 e2 => ?_)
  have r3 : rI z31 := by rw [e2]; exact c1
  replace hv := hv z31 e2
  obtain ⟨n32, hv⟩ := hv
  refine ⟨n32, ?_⟩
  exact aSt_reachByLengthAndCuts_13 hp  n32 _ _ rfl t_self _ _ rfl t_p0 _ _ rfl t_p1 _ _ (show _ = Int32.ofInt (S self 11) from rfl) (g_rf (j := 11) h t_self rfl rfl) _ _ (show _ = Int32.ofInt z31 from rfl) r3 _ _ h hv
