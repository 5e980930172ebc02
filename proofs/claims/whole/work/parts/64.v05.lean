def vMo_margin_36 (Q : Int → St → Prop) (S : St) : Prop := (Q 0 S)
theorem aMo_margin_36 {ad : Int → Nat} {Q : Int → St → Prop} {post : Int32 → Hp → Prop} (hp : ∀ (r : Int) (S : St) (M : Hp), US ad S M → rI r → Q r S → post (Int32.ofInt r) M)  {S : St} {M : Hp} (h : US ad S M) (hv : vMo_margin_36 Q  S) : wMo_margin_36 post  M := by
  unfold vMo_margin_36 at hv
  unfold wMo_margin_36
  refine ek_v (P := fun y => post y _) LI_0 ?_
  exact hp _ _ _ h LI_0r hv
def vMo_margin_18 (Q : Int → St → Prop) (x0 : Int) (x1 : Int) (y0 : Int) (y1 : Int) (S : St) : Prop := (∀ S1 : St, S1 = up S y1 0 y0 → (((0 < (S1 x0 0) → (vMo_margin_36 Q  S1)) ∧ (¬ 0 < (S1 x0 0) → (((x1 = (S1 x0 2) → (vMo_margin_36 Q  S1)) ∧ (¬ x1 = (S1 x0 2) → (∀ S7 : St, S7 = up S1 x0 2 x1 → (vpMo_told x0 1 S7 (fun (r11 : Int) (S12 : St) => (((r11 : Int) = 0 ∨ (r11 : Int) = 1) ∧ (Q r11 S12))))))))))))
theorem aMo_margin_18 {ad : Int → Nat} {Q : Int → St → Prop} {post : Int32 → Hp → Prop} (hp : ∀ (r : Int) (S : St) (M : Hp), US ad S M → rI r → Q r S → post (Int32.ofInt r) M) {w_x0 : Nat} {x0 : Int} (e_x0 : w_x0 = ad x0) (t_x0 : kt (20 + 6) x0) {w_x1 : Int32} {x1 : Int} (e_x1 : w_x1 = Int32.ofInt x1) (r_x1 : rI x1) {w_y0 : Int32} {y0 : Int} (e_y0 : w_y0 = Int32.ofInt y0) (r_y0 : rI y0) {w_y1 : Nat} {y1 : Int} (e_y1 : w_y1 = ad y1) (t_y1 : kt (20 + 6) y1) {S : St} {M : Hp} (h : US ad S M) (hv : vMo_margin_18 Q x0 x1 y0 y1 S) : wMo_margin_18 post w_x0 w_x1 w_y0 w_y1 M := by
  subst e_x0
  subst e_x1
  subst e_y0
  subst e_y1
  unfold vMo_margin_18 at hv
  unfold wMo_margin_18
  refine g_pI h t_y1 rfl rfl (show _ = Int32.ofInt y0 from rfl) r_y0 (fun S1 N2 e4 h3 => ?_)
  replace hv := hv S1 e4
  refine g_fI h3 t_x0 rfl rfl ?_
  refine ek_if (c_lt LI_0 (show _ = Int32.ofInt (S1 x0 0) from rfl) LI_0r (g_rf (j := 0) h3 t_x0 rfl rfl)) (fun g5 => ?_) (fun g5 => ?_)
  · replace hv := hv.1 g5
    exact aMo_margin_36 hp   h3 hv
  · replace hv := hv.2 g5
    refine g_fI h3 t_x0 rfl rfl ?_
    refine ek_if (c_eq (show _ = Int32.ofInt x1 from rfl) (show _ = Int32.ofInt (S1 x0 2) from rfl) r_x1 (g_rf (j := 2) h3 t_x0 rfl rfl)) (fun g6 => ?_) (fun g6 => ?_)
    · replace hv := hv.1 g6
      exact aMo_margin_36 hp   h3 hv
    · replace hv := hv.2 g6
      refine g_pI h3 t_x0 rfl rfl (show _ = Int32.ofInt x1 from rfl) r_x1 (fun S7 N8 e10 h9 => ?_)
      replace hv := hv S7 e10
      refine ⟨g_ob h9 t_x0, ?_⟩
      refine apMo_told (fun r11 S12 N13 h14 r15 hv => ?_) rfl t_x0 LI_1 LI_1r h9 hv
      refine ⟨b01 (show _ = Int32.ofInt r11 from rfl) hv.1, ?_⟩
      replace hv := hv.2
      refine ek_v (P := fun y => post y _) (show _ = Int32.ofInt r11 from rfl) ?_
      exact hp _ _ _ h14 r15 hv
def vpMo_margin (self : Int) (p0 : Int) (S : St) (Q : Int → St → Prop) : Prop := (vpMo_isIn p0 0 100000 S (fun (r1 : Int) (S2 : St) => (((r1 = 0 → (vMo_margin_18 Q self p0 1 self S2)) ∧ (¬ r1 = 0 → (vMo_margin_18 Q self p0 0 self S2))))))
theorem apMo_margin {ad : Int → Nat} {Q : Int → St → Prop} {post : Int32 → Hp → Prop} (hp : ∀ (r : Int) (S : St) (M : Hp), US ad S M → rI r → Q r S → post (Int32.ofInt r) M) {w_self : Nat} {self : Int} (e_self : w_self = ad self) (t_self : kt (20 + 6) self) {w_p0 : Int32} {p0 : Int} (e_p0 : w_p0 = Int32.ofInt p0) (r_p0 : rI p0) {S : St} {M : Hp} (h : US ad S M) (hv : vpMo_margin self p0 S Q) : wpMo_margin w_self w_p0 M post := by
  subst e_self
  subst e_p0
  unfold vpMo_margin at hv
  unfold wpMo_margin
  refine apMo_isIn (fun r1 S2 N3 h4 r5 hv => ?_) (h_toL (show _ = Int32.ofInt p0 from rfl) r_p0) (rI_J r_p0) LJ_0 LJ_0r LJ_100000 LJ_100000r h hv
  refine ek_if (c_eq (show _ = Int32.ofInt r1 from rfl) LI_0 r5 LI_0r) (fun g6 => ?_) (fun g6 => ?_)
  · replace hv := hv.1 g6
    exact aMo_margin_18 hp  rfl t_self (show _ = Int32.ofInt p0 from rfl) r_p0 LI_1 LI_1r rfl t_self h4 hv
  · replace hv := hv.2 g6
    exact aMo_margin_18 hp  rfl t_self (show _ = Int32.ofInt p0 from rfl) r_p0 LI_0 LI_0r rfl t_self h4 hv
def vMo_saw_36 (Q : Int → St → Prop) (S : St) : Prop := (Q 0 S)
theorem aMo_saw_36 {ad : Int → Nat} {Q : Int → St → Prop} {post : Int32 → Hp → Prop} (hp : ∀ (r : Int) (S : St) (M : Hp), US ad S M → rI r → Q r S → post (Int32.ofInt r) M)  {S : St} {M : Hp} (h : US ad S M) (hv : vMo_saw_36 Q  S) : wMo_saw_36 post  M := by
  unfold vMo_saw_36 at hv
  unfold wMo_saw_36
  refine ek_v (P := fun y => post y _) LI_0 ?_
  exact hp _ _ _ h LI_0r hv
def vMo_saw_18 (Q : Int → St → Prop) (x0 : Int) (x1 : Int) (y0 : Int) (y1 : Int) (S : St) : Prop := (∀ S1 : St, S1 = up S y1 0 y0 → (((0 < (S1 x0 0) → (vMo_saw_36 Q  S1)) ∧ (¬ 0 < (S1 x0 0) → (((x1 = (S1 x0 3) → (vMo_saw_36 Q  S1)) ∧ (¬ x1 = (S1 x0 3) → (∀ S7 : St, S7 = up S1 x0 3 x1 → (vpMo_told x0 1 S7 (fun (r11 : Int) (S12 : St) => (((r11 : Int) = 0 ∨ (r11 : Int) = 1) ∧ (Q r11 S12))))))))))))
theorem aMo_saw_18 {ad : Int → Nat} {Q : Int → St → Prop} {post : Int32 → Hp → Prop} (hp : ∀ (r : Int) (S : St) (M : Hp), US ad S M → rI r → Q r S → post (Int32.ofInt r) M) {w_x0 : Nat} {x0 : Int} (e_x0 : w_x0 = ad x0) (t_x0 : kt (20 + 6) x0) {w_x1 : Int32} {x1 : Int} (e_x1 : w_x1 = Int32.ofInt x1) (r_x1 : rI x1) {w_y0 : Int32} {y0 : Int} (e_y0 : w_y0 = Int32.ofInt y0) (r_y0 : rI y0) {w_y1 : Nat} {y1 : Int} (e_y1 : w_y1 = ad y1) (t_y1 : kt (20 + 6) y1) {S : St} {M : Hp} (h : US ad S M) (hv : vMo_saw_18 Q x0 x1 y0 y1 S) : wMo_saw_18 post w_x0 w_x1 w_y0 w_y1 M := by
  subst e_x0
  subst e_x1
  subst e_y0
  subst e_y1
  unfold vMo_saw_18 at hv
  unfold wMo_saw_18
  refine g_pI h t_y1 rfl rfl (show _ = Int32.ofInt y0 from rfl) r_y0 (fun S1 N2 e4 h3 => ?_)
  replace hv := hv S1 e4
  refine g_fI h3 t_x0 rfl rfl ?_
  refine ek_if (c_lt LI_0 (show _ = Int32.ofInt (S1 x0 0) from rfl) LI_0r (g_rf (j := 0) h3 t_x0 rfl rfl)) (fun g5 => ?_) (fun g5 => ?_)
  · replace hv := hv.1 g5
    exact aMo_saw_36 hp   h3 hv
  · replace hv := hv.2 g5
    refine g_fI h3 t_x0 rfl rfl ?_
    refine ek_if (c_eq (show _ = Int32.ofInt x1 from rfl) (show _ = Int32.ofInt (S1 x0 3) from rfl) r_x1 (g_rf (j := 3) h3 t_x0 rfl rfl)) (fun g6 => ?_) (fun g6 => ?_)
    · replace hv := hv.1 g6
      exact aMo_saw_36 hp   h3 hv
    · replace hv := hv.2 g6
      refine g_pI h3 t_x0 rfl rfl (show _ = Int32.ofInt x1 from rfl) r_x1 (fun S7 N8 e10 h9 => ?_)
      replace hv := hv S7 e10
      refine ⟨g_ob h9 t_x0, ?_⟩
      refine apMo_told (fun r11 S12 N13 h14 r15 hv => ?_) rfl t_x0 LI_1 LI_1r h9 hv
      refine ⟨b01 (show _ = Int32.ofInt r11 from rfl) hv.1, ?_⟩
      replace hv := hv.2
      refine ek_v (P := fun y => post y _) (show _ = Int32.ofInt r11 from rfl) ?_
      exact hp _ _ _ h14 r15 hv
def vpMo_saw (self : Int) (p0 : Int) (S : St) (Q : Int → St → Prop) : Prop := (vpMo_isIn p0 0 3 S (fun (r1 : Int) (S2 : St) => (((r1 = 0 → (vMo_saw_18 Q self p0 1 self S2)) ∧ (¬ r1 = 0 → (vMo_saw_18 Q self p0 0 self S2))))))
theorem apMo_saw {ad : Int → Nat} {Q : Int → St → Prop} {post : Int32 → Hp → Prop} (hp : ∀ (r : Int) (S : St) (M : Hp), US ad S M → rI r → Q r S → post (Int32.ofInt r) M) {w_self : Nat} {self : Int} (e_self : w_self = ad self) (t_self : kt (20 + 6) self) {w_p0 : Int32} {p0 : Int} (e_p0 : w_p0 = Int32.ofInt p0) (r_p0 : rI p0) {S : St} {M : Hp} (h : US ad S M) (hv : vpMo_saw self p0 S Q) : wpMo_saw w_self w_p0 M post := by
  subst e_self
  subst e_p0
  unfold vpMo_saw at hv
  unfold wpMo_saw
  refine apMo_isIn (fun r1 S2 N3 h4 r5 hv => ?_) (h_toL (show _ = Int32.ofInt p0 from rfl) r_p0) (rI_J r_p0) LJ_0 LJ_0r LJ_3 LJ_3r h hv
  refine ek_if (c_eq (show _ = Int32.ofInt r1 from rfl) LI_0 r5 LI_0r) (fun g6 => ?_) (fun g6 => ?_)
  · replace hv := hv.1 g6
    exact aMo_saw_18 hp  rfl t_self (show _ = Int32.ofInt p0 from rfl) r_p0 LI_1 LI_1r rfl t_self h4 hv
  · replace hv := hv.2 g6
    exact aMo_saw_18 hp  rfl t_self (show _ = Int32.ofInt p0 from rfl) r_p0 LI_0 LI_0r rfl t_self h4 hv
def vMo_limit_48 (Q : Int → St → Prop) (S : St) : Prop := (Q 0 S)
theorem aMo_limit_48 {ad : Int → Nat} {Q : Int → St → Prop} {post : Int32 → Hp → Prop} (hp : ∀ (r : Int) (S : St) (M : Hp), US ad S M → rI r → Q r S → post (Int32.ofInt r) M)  {S : St} {M : Hp} (h : US ad S M) (hv : vMo_limit_48 Q  S) : wMo_limit_48 post  M := by
  unfold vMo_limit_48 at hv
  unfold wMo_limit_48
  refine ek_v (P := fun y => post y _) LI_0 ?_
  exact hp _ _ _ h LI_0r hv
def vMo_limit_27 (Q : Int → St → Prop) (x0 : Int) (x1 : Int) (x2 : Int) (y0 : Int) (y1 : Int) (S : St) : Prop := (∀ S1 : St, S1 = up S y1 0 y0 → (((0 < (S1 x0 0) → (vMo_limit_48 Q  S1)) ∧ (¬ 0 < (S1 x0 0) → (((0 : Int) ≤ x1 ∧ (x1 : Int) < 8) ∧ ((((S1 21 x1) = x2 → (vMo_limit_48 Q  S1)) ∧ (¬ (S1 21 x1) = x2 → (((0 : Int) ≤ x1 ∧ (x1 : Int) < 8) ∧ ∀ S9 : St, S9 = up S1 21 x1 x2 → (vpMo_told x0 1 S9 (fun (r13 : Int) (S14 : St) => (((r13 : Int) = 0 ∨ (r13 : Int) = 1) ∧ (Q r13 S14)))))))))))))
theorem aMo_limit_27 {ad : Int → Nat} {Q : Int → St → Prop} {post : Int32 → Hp → Prop} (hp : ∀ (r : Int) (S : St) (M : Hp), US ad S M → rI r → Q r S → post (Int32.ofInt r) M) {w_x0 : Nat} {x0 : Int} (e_x0 : w_x0 = ad x0) (t_x0 : kt (20 + 6) x0) {w_x1 : Int32} {x1 : Int} (e_x1 : w_x1 = Int32.ofInt x1) (r_x1 : rI x1) {w_x2 : Int64} {x2 : Int} (e_x2 : w_x2 = Int64.ofInt x2) (r_x2 : rJ x2) {w_y0 : Int32} {y0 : Int} (e_y0 : w_y0 = Int32.ofInt y0) (r_y0 : rI y0) {w_y1 : Nat} {y1 : Int} (e_y1 : w_y1 = ad y1) (t_y1 : kt (20 + 6) y1) {S : St} {M : Hp} (h : US ad S M) (hv : vMo_limit_27 Q x0 x1 x2 y0 y1 S) : wMo_limit_27 post w_x0 w_x1 w_x2 w_y0 w_y1 M := by
  subst e_x0
  subst e_x1
  subst e_x2
  subst e_y0
  subst e_y1
  unfold vMo_limit_27 at hv
  unfold wMo_limit_27
  refine g_pI h t_y1 rfl rfl (show _ = Int32.ofInt y0 from rfl) r_y0 (fun S1 N2 e4 h3 => ?_)
  replace hv := hv S1 e4
  refine g_fI h3 t_x0 rfl rfl ?_
  refine ek_if (c_lt LI_0 (show _ = Int32.ofInt (S1 x0 0) from rfl) LI_0r (g_rf (j := 0) h3 t_x0 rfl rfl)) (fun g5 => ?_) (fun g5 => ?_)
  · replace hv := hv.1 g5
    exact aMo_limit_48 hp   h3 hv
  · replace hv := hv.2 g5
    refine g_fA h3 t_x0 rfl (rv_6_21 t_x0) ?_
    obtain ⟨c6, hv⟩ := hv
    refine g_aJ h3 (show kt 3 21 by decide) (show alen 21 = 8 by decide) (show _ = Int32.ofInt x1 from rfl) c6 ?_
    refine ek_if (C_eq (show _ = Int64.ofInt (S1 21 x1) from rfl) (show _ = Int64.ofInt x2 from rfl) (g_rJ h3 (show kt 3 21 by decide)) r_x2) (fun g7 => ?_) (fun g7 => ?_)
    · replace hv := hv.1 g7
      exact aMo_limit_48 hp   h3 hv
    · replace hv := hv.2 g7
      refine g_fA h3 t_x0 rfl (rv_6_21 t_x0) ?_
      obtain ⟨c8, hv⟩ := hv
      refine g_sJ h3 (show kt 3 21 by decide) (show alen 21 = 8 by decide) (show _ = Int32.ofInt x1 from rfl) c8 (show _ = Int64.ofInt x2 from rfl) r_x2 (fun S9 N10 e12 h11 => ?_)
      replace hv := hv S9 e12
      refine ⟨g_ob h11 t_x0, ?_⟩
      refine apMo_told (fun r13 S14 N15 h16 r17 hv => ?_) rfl t_x0 LI_1 LI_1r h11 hv
      refine ⟨b01 (show _ = Int32.ofInt r13 from rfl) hv.1, ?_⟩
      replace hv := hv.2
      refine ek_v (P := fun y => post y _) (show _ = Int32.ofInt r13 from rfl) ?_
      exact hp _ _ _ h16 r17 hv
def vpMo_limit (self : Int) (p0 : Int) (p1 : Int) (S : St) (Q : Int → St → Prop) : Prop := (vpMo_noProduct self p0 S (fun (r1 : Int) (S2 : St) => (((r1 = 0 → (vpMo_isIn p1 0 1000 S2 (fun (r7 : Int) (S8 : St) => (((r7 = 0 → (vMo_limit_27 Q self p0 p1 2 self S8)) ∧ (¬ r7 = 0 → (vMo_limit_27 Q self p0 p1 0 self S8))))))) ∧ (¬ r1 = 0 → (Q 0 S2))))))
theorem apMo_limit {ad : Int → Nat} {Q : Int → St → Prop} {post : Int32 → Hp → Prop} (hp : ∀ (r : Int) (S : St) (M : Hp), US ad S M → rI r → Q r S → post (Int32.ofInt r) M) {w_self : Nat} {self : Int} (e_self : w_self = ad self) (t_self : kt (20 + 6) self) {w_p0 : Int32} {p0 : Int} (e_p0 : w_p0 = Int32.ofInt p0) (r_p0 : rI p0) {w_p1 : Int64} {p1 : Int} (e_p1 : w_p1 = Int64.ofInt p1) (r_p1 : rJ p1) {S : St} {M : Hp} (h : US ad S M) (hv : vpMo_limit self p0 p1 S Q) : wpMo_limit w_self w_p0 w_p1 M post := by
  subst e_self
  subst e_p0
  subst e_p1
  unfold vpMo_limit at hv
  unfold wpMo_limit
  refine ⟨g_ob h t_self, ?_⟩
  refine apMo_noProduct (fun r1 S2 N3 h4 r5 hv => ?_) rfl t_self (show _ = Int32.ofInt p0 from rfl) r_p0 h hv
  refine ek_if (c_eq (show _ = Int32.ofInt r1 from rfl) LI_0 r5 LI_0r) (fun g6 => ?_) (fun g6 => ?_)
  · replace hv := hv.1 g6
    refine apMo_isIn (fun r7 S8 N9 h10 r11 hv => ?_) (show _ = Int64.ofInt p1 from rfl) r_p1 LJ_0 LJ_0r LJ_1000 LJ_1000r h4 hv
    refine ek_if (c_eq (show _ = Int32.ofInt r7 from rfl) LI_0 r11 LI_0r) (fun g12 => ?_) (fun g12 => ?_)
    · replace hv := hv.1 g12
      exact aMo_limit_27 hp  rfl t_self (show _ = Int32.ofInt p0 from rfl) r_p0 (show _ = Int64.ofInt p1 from rfl) r_p1 LI_2 LI_2r rfl t_self h10 hv
    · replace hv := hv.2 g12
      exact aMo_limit_27 hp  rfl t_self (show _ = Int32.ofInt p0 from rfl) r_p0 (show _ = Int64.ofInt p1 from rfl) r_p1 LI_0 LI_0r rfl t_self h10 hv
  · replace hv := hv.2 g6
    refine ek_v (P := fun y => post y _) LI_0 ?_
    exact hp _ _ _ h4 LI_0r hv
def vMo_wish_65 (Q : Int → St → Prop) (S : St) : Prop := (Q 0 S)
theorem aMo_wish_65 {ad : Int → Nat} {Q : Int → St → Prop} {post : Int32 → Hp → Prop} (hp : ∀ (r : Int) (S : St) (M : Hp), US ad S M → rI r → Q r S → post (Int32.ofInt r) M)  {S : St} {M : Hp} (h : US ad S M) (hv : vMo_wish_65 Q  S) : wMo_wish_65 post  M := by
  unfold vMo_wish_65 at hv
  unfold wMo_wish_65
  refine ek_v (P := fun y => post y _) LI_0 ?_
  exact hp _ _ _ h LI_0r hv
def vMo_wish_39 (Q : Int → St → Prop) (x0 : Int) (x1 : Int) (x2 : Int) (x3 : Int) (y0 : Int) (y1 : Int) (S : St) : Prop := (∀ S1 : St, S1 = up S y1 0 y0 → (((0 < (S1 x0 0) → (vMo_wish_65 Q  S1)) ∧ (¬ 0 < (S1 x0 0) → (((0 : Int) ≤ ((7 * x1) + x2) ∧ (((7 * x1) + x2) : Int) < 56) ∧ ((((S1 22 ((7 * x1) + x2)) = x3 → (vMo_wish_65 Q  S1)) ∧ (¬ (S1 22 ((7 * x1) + x2)) = x3 → (((0 : Int) ≤ ((7 * x1) + x2) ∧ (((7 * x1) + x2) : Int) < 56) ∧ ∀ S9 : St, S9 = up S1 22 ((7 * x1) + x2) x3 → (vpMo_told x0 1 S9 (fun (r13 : Int) (S14 : St) => (((r13 : Int) = 0 ∨ (r13 : Int) = 1) ∧ (Q r13 S14)))))))))))))
theorem aMo_wish_39 {ad : Int → Nat} {Q : Int → St → Prop} {post : Int32 → Hp → Prop} (hp : ∀ (r : Int) (S : St) (M : Hp), US ad S M → rI r → Q r S → post (Int32.ofInt r) M) {w_x0 : Nat} {x0 : Int} (e_x0 : w_x0 = ad x0) (t_x0 : kt (20 + 6) x0) {w_x1 : Int32} {x1 : Int} (e_x1 : w_x1 = Int32.ofInt x1) (r_x1 : rI x1) {w_x2 : Int32} {x2 : Int} (e_x2 : w_x2 = Int32.ofInt x2) (r_x2 : rI x2) {w_x3 : Int64} {x3 : Int} (e_x3 : w_x3 = Int64.ofInt x3) (r_x3 : rJ x3) {w_y0 : Int32} {y0 : Int} (e_y0 : w_y0 = Int32.ofInt y0) (r_y0 : rI y0) {w_y1 : Nat} {y1 : Int} (e_y1 : w_y1 = ad y1) (t_y1 : kt (20 + 6) y1) {S : St} {M : Hp} (h : US ad S M) (hv : vMo_wish_39 Q x0 x1 x2 x3 y0 y1 S) : wMo_wish_39 post w_x0 w_x1 w_x2 w_x3 w_y0 w_y1 M := by
  subst e_x0
  subst e_x1
  subst e_x2
  subst e_x3
  subst e_y0
  subst e_y1
  unfold vMo_wish_39 at hv
  unfold wMo_wish_39
  refine g_pI h t_y1 rfl rfl (show _ = Int32.ofInt y0 from rfl) r_y0 (fun S1 N2 e4 h3 => ?_)
  replace hv := hv S1 e4
  refine g_fI h3 t_x0 rfl rfl ?_
  refine ek_if (c_lt LI_0 (show _ = Int32.ofInt (S1 x0 0) from rfl) LI_0r (g_rf (j := 0) h3 t_x0 rfl rfl)) (fun g5 => ?_) (fun g5 => ?_)
  · replace hv := hv.1 g5
    exact aMo_wish_65 hp   h3 hv
  · replace hv := hv.2 g5
    refine g_fA h3 t_x0 rfl (rv_6_22 t_x0) ?_
    obtain ⟨c6, hv⟩ := hv
    refine g_aJ h3 (show kt 3 22 by decide) (show alen 22 = 56 by decide) (h_add (h_mul LI_7 (show _ = Int32.ofInt x1 from rfl)) (show _ = Int32.ofInt x2 from rfl)) c6 ?_
    refine ek_if (C_eq (show _ = Int64.ofInt (S1 22 ((7 * x1) + x2)) from rfl) (show _ = Int64.ofInt x3 from rfl) (g_rJ h3 (show kt 3 22 by decide)) r_x3) (fun g7 => ?_) (fun g7 => ?_)
    · replace hv := hv.1 g7
      exact aMo_wish_65 hp   h3 hv
    · replace hv := hv.2 g7
      refine g_fA h3 t_x0 rfl (rv_6_22 t_x0) ?_
      obtain ⟨c8, hv⟩ := hv
      refine g_sJ h3 (show kt 3 22 by decide) (show alen 22 = 56 by decide) (h_add (h_mul LI_7 (show _ = Int32.ofInt x1 from rfl)) (show _ = Int32.ofInt x2 from rfl)) c8 (show _ = Int64.ofInt x3 from rfl) r_x3 (fun S9 N10 e12 h11 => ?_)
      replace hv := hv S9 e12
      refine ⟨g_ob h11 t_x0, ?_⟩
      refine apMo_told (fun r13 S14 N15 h16 r17 hv => ?_) rfl t_x0 LI_1 LI_1r h11 hv
      refine ⟨b01 (show _ = Int32.ofInt r13 from rfl) hv.1, ?_⟩
      replace hv := hv.2
      refine ek_v (P := fun y => post y _) (show _ = Int32.ofInt r13 from rfl) ?_
      exact hp _ _ _ h16 r17 hv
def vMo_wish_38 (Q : Int → St → Prop) (x0 : Int) (x1 : Int) (x2 : Int) (x3 : Int) (y0 : Int) (S : St) : Prop := (vMo_wish_39 Q x0 x1 x2 x3 2 y0 S)
theorem aMo_wish_38 {ad : Int → Nat} {Q : Int → St → Prop} {post : Int32 → Hp → Prop} (hp : ∀ (r : Int) (S : St) (M : Hp), US ad S M → rI r → Q r S → post (Int32.ofInt r) M) {w_x0 : Nat} {x0 : Int} (e_x0 : w_x0 = ad x0) (t_x0 : kt (20 + 6) x0) {w_x1 : Int32} {x1 : Int} (e_x1 : w_x1 = Int32.ofInt x1) (r_x1 : rI x1) {w_x2 : Int32} {x2 : Int} (e_x2 : w_x2 = Int32.ofInt x2) (r_x2 : rI x2) {w_x3 : Int64} {x3 : Int} (e_x3 : w_x3 = Int64.ofInt x3) (r_x3 : rJ x3) {w_y0 : Nat} {y0 : Int} (e_y0 : w_y0 = ad y0) (t_y0 : kt (20 + 6) y0) {S : St} {M : Hp} (h : US ad S M) (hv : vMo_wish_38 Q x0 x1 x2 x3 y0 S) : wMo_wish_38 post w_x0 w_x1 w_x2 w_x3 w_y0 M := by
  subst e_x0
  subst e_x1
  subst e_x2
  subst e_x3
  subst e_y0
  unfold vMo_wish_38 at hv
  unfold wMo_wish_38
  exact aMo_wish_39 hp  rfl t_x0 (show _ = Int32.ofInt x1 from rfl) r_x1 (show _ = Int32.ofInt x2 from rfl) r_x2 (show _ = Int64.ofInt x3 from rfl) r_x3 LI_2 LI_2r rfl t_y0 h hv
def vpMo_wish (self : Int) (p0 : Int) (p1 : Int) (p2 : Int) (S : St) (Q : Int → St → Prop) : Prop := (vpMo_noProduct self p0 S (fun (r1 : Int) (S2 : St) => (((r1 = 0 → (vpMo_isIn p1 0 6 S2 (fun (r7 : Int) (S8 : St) => (((r7 = 0 → (vMo_wish_38 Q self p0 p1 p2 self S8)) ∧ (¬ r7 = 0 → (vpMo_isIn p2 0 100000 S8 (fun (r13 : Int) (S14 : St) => (((r13 = 0 → (vMo_wish_38 Q self p0 p1 p2 self S14)) ∧ (¬ r13 = 0 → (vMo_wish_39 Q self p0 p1 p2 0 self S14)))))))))))) ∧ (¬ r1 = 0 → (Q 0 S2))))))
theorem apMo_wish {ad : Int → Nat} {Q : Int → St → Prop} {post : Int32 → Hp → Prop} (hp : ∀ (r : Int) (S : St) (M : Hp), US ad S M → rI r → Q r S → post (Int32.ofInt r) M) {w_self : Nat} {self : Int} (e_self : w_self = ad self) (t_self : kt (20 + 6) self) {w_p0 : Int32} {p0 : Int} (e_p0 : w_p0 = Int32.ofInt p0) (r_p0 : rI p0) {w_p1 : Int32} {p1 : Int} (e_p1 : w_p1 = Int32.ofInt p1) (r_p1 : rI p1) {w_p2 : Int64} {p2 : Int} (e_p2 : w_p2 = Int64.ofInt p2) (r_p2 : rJ p2) {S : St} {M : Hp} (h : US ad S M) (hv : vpMo_wish self p0 p1 p2 S Q) : wpMo_wish w_self w_p0 w_p1 w_p2 M post := by
  subst e_self
  subst e_p0
  subst e_p1
  subst e_p2
  unfold vpMo_wish at hv
  unfold wpMo_wish
  refine ⟨g_ob h t_self, ?_⟩
  refine apMo_noProduct (fun r1 S2 N3 h4 r5 hv => ?_) rfl t_self (show _ = Int32.ofInt p0 from rfl) r_p0 h hv
  refine ek_if (c_eq (show _ = Int32.ofInt r1 from rfl) LI_0 r5 LI_0r) (fun g6 => ?_) (fun g6 => ?_)
  · replace hv := hv.1 g6
    refine apMo_isIn (fun r7 S8 N9 h10 r11 hv => ?_) (h_toL (show _ = Int32.ofInt p1 from rfl) r_p1) (rI_J r_p1) LJ_0 LJ_0r LJ_6 LJ_6r h4 hv
    refine ek_if (c_eq (show _ = Int32.ofInt r7 from rfl) LI_0 r11 LI_0r) (fun g12 => ?_) (fun g12 => ?_)
    · replace hv := hv.1 g12
      exact aMo_wish_38 hp  rfl t_self (show _ = Int32.ofInt p0 from rfl) r_p0 (show _ = Int32.ofInt p1 from rfl) r_p1 (show _ = Int64.ofInt p2 from rfl) r_p2 rfl t_self h10 hv
    · replace hv := hv.2 g12
      refine apMo_isIn (fun r13 S14 N15 h16 r17 hv => ?_) (show _ = Int64.ofInt p2 from rfl) r_p2 LJ_0 LJ_0r LJ_100000 LJ_100000r h10 hv
      refine ek_if (c_eq (show _ = Int32.ofInt r13 from rfl) LI_0 r17 LI_0r) (fun g18 => ?_) (fun g18 => ?_)
      · replace hv := hv.1 g18
        exact aMo_wish_38 hp  rfl t_self (show _ = Int32.ofInt p0 from rfl) r_p0 (show _ = Int32.ofInt p1 from rfl) r_p1 (show _ = Int64.ofInt p2 from rfl) r_p2 rfl t_self h16 hv
      · replace hv := hv.2 g18
        exact aMo_wish_39 hp  rfl t_self (show _ = Int32.ofInt p0 from rfl) r_p0 (show _ = Int32.ofInt p1 from rfl) r_p1 (show _ = Int64.ofInt p2 from rfl) r_p2 LI_0 LI_0r rfl t_self h16 hv
  · replace hv := hv.2 g6
    refine ek_v (P := fun y => post y _) LI_0 ?_
    exact hp _ _ _ h4 LI_0r hv
def vMo_may_293 (Q : Int → St → Prop) (y0 : Int) (S : St) : Prop := (((y0 : Int) = 0 ∨ (y0 : Int) = 1) ∧ (Q y0 S))
theorem aMo_may_293 {ad : Int → Nat} {Q : Int → St → Prop} {post : Int32 → Hp → Prop} (hp : ∀ (r : Int) (S : St) (M : Hp), US ad S M → rI r → Q r S → post (Int32.ofInt r) M) {w_y0 : Int32} {y0 : Int} (e_y0 : w_y0 = Int32.ofInt y0) (r_y0 : rI y0) {S : St} {M : Hp} (h : US ad S M) (hv : vMo_may_293 Q y0 S) : wMo_may_293 post w_y0 M := by
  subst e_y0
  unfold vMo_may_293 at hv
  unfold wMo_may_293
  refine ⟨b01 (show _ = Int32.ofInt y0 from rfl) hv.1, ?_⟩
  replace hv := hv.2
  refine ek_v (P := fun y => post y _) (show _ = Int32.ofInt y0 from rfl) ?_
  exact hp _ _ _ h r_y0 hv
def vMo_may_292 (Q : Int → St → Prop) (S : St) : Prop := (vMo_may_293 Q 0 S)
theorem aMo_may_292 {ad : Int → Nat} {Q : Int → St → Prop} {post : Int32 → Hp → Prop} (hp : ∀ (r : Int) (S : St) (M : Hp), US ad S M → rI r → Q r S → post (Int32.ofInt r) M)  {S : St} {M : Hp} (h : US ad S M) (hv : vMo_may_292 Q  S) : wMo_may_292 post  M := by
  unfold vMo_may_292 at hv
  unfold wMo_may_292
  exact aMo_may_293 hp  LI_0 LI_0r h hv
def vMo_may_241 (Q : Int → St → Prop) (K210 : Int → Int → Int → Int → Int → St → Prop) (x0 : Int) (x4 : Int) (x7 : Int) (x10 : Int) (y0 : Int) (S : St) : Prop := ((rI (x10 + 1)) ∧ ∀ z2 : Int, z2 = (x10 + 1) → (K210 x0 x4 x7 y0 z2 S))
theorem aMo_may_241 {ad : Int → Nat} {Q : Int → St → Prop} {K210 : Int → Int → Int → Int → Int → St → Prop} {post : Int32 → Hp → Prop} {k210 : Nat → Int32 → Int32 → Int32 → Int32 → Hp → Prop} (hp : ∀ (r : Int) (S : St) (M : Hp), US ad S M → rI r → Q r S → post (Int32.ofInt r) M) (hk210 : ∀ (b0 b1 b2 b3 b4 : Int) (S : St) (M : Hp), kt (20 + 6) b0 → rI b1 → rI b2 → rI b3 → rI b4 → US ad S M → K210 b0 b1 b2 b3 b4 S → k210 (ad b0) (Int32.ofInt b1) (Int32.ofInt b2) (Int32.ofInt b3) (Int32.ofInt b4) M) {w_x0 : Nat} {x0 : Int} (e_x0 : w_x0 = ad x0) (t_x0 : kt (20 + 6) x0) {w_x4 : Int32} {x4 : Int} (e_x4 : w_x4 = Int32.ofInt x4) (r_x4 : rI x4) {w_x7 : Int32} {x7 : Int} (e_x7 : w_x7 = Int32.ofInt x7) (r_x7 : rI x7) {w_x10 : Int32} {x10 : Int} (e_x10 : w_x10 = Int32.ofInt x10) (r_x10 : rI x10) {w_y0 : Int32} {y0 : Int} (e_y0 : w_y0 = Int32.ofInt y0) (r_y0 : rI y0) {S : St} {M : Hp} (h : US ad S M) (hv : vMo_may_241 Q K210 x0 x4 x7 x10 y0 S) : wMo_may_241 post k210 w_x0 w_x4 w_x7 w_x10 w_y0 M := by
  subst e_x0
  subst e_x4
  subst e_x7
  subst e_x10
  subst e_y0
  unfold vMo_may_241 at hv
  unfold wMo_may_241
  obtain ⟨c1, hv⟩ := hv
  refine nm_z (h_add (show _ = Int32.ofInt x10 from rfl) LI_1) (fun z2 e2 => ?_)
  have r3 : rI z2 := by rw [e2]; exact c1
  replace hv := hv z2 e2
  exact hk210 _ _ _ _ _ _ _ t_x0 r_x4 r_x7 r_y0 r3 h hv
def vMo_may_210 (Q : Int → St → Prop) : Nat → Int → Int → Int → Int → Int → St → Prop
  | 0 => fun _ _ _ _ _ _ => False
  | n + 1 => fun x0 x4 x7 x9 x10 S => (((x7 < x10 → (((0 : Int) ≤ x7 ∧ (x7 : Int) < 360) ∧ (((0 : Int) ≤ x4 ∧ (x4 : Int) < 8) ∧ ((rI ((S 7 x7) - (S x0 2))) ∧ ((((S 7 x7) - (S x0 2)) < (S 17 x4) → (vMo_may_292 Q  S)) ∧ (¬ ((S 7 x7) - (S x0 2)) < (S 17 x4) → (((0 : Int) ≤ x4 ∧ (x4 : Int) < 8) ∧ ((rI (x9 + (S x0 2))) ∧ (((S 18 x4) < (x9 + (S x0 2)) → (vMo_may_292 Q  S)) ∧ (¬ (S 18 x4) < (x9 + (S x0 2)) → (vMo_may_293 Q 1 S))))))))))) ∧ (¬ x7 < x10 → (((0 : Int) ≤ x10 ∧ (x10 : Int) < 360) ∧ ((((S 8 x10) ≤ x9 → (vMo_may_241 Q (vMo_may_210 Q n) x0 x4 x7 x10 x9 S)) ∧ (¬ (S 8 x10) ≤ x9 → (((0 : Int) ≤ x10 ∧ (x10 : Int) < 360) ∧ (vMo_may_241 Q (vMo_may_210 Q n) x0 x4 x7 x10 (S 8 x10) S)))))))))
theorem aMo_may_210 {ad : Int → Nat} {Q : Int → St → Prop} {post : Int32 → Hp → Prop} (hp : ∀ (r : Int) (S : St) (M : Hp), US ad S M → rI r → Q r S → post (Int32.ofInt r) M) : ∀ (n : Nat) (w_x0 : Nat) (x0 : Int) (e_x0 : w_x0 = ad x0) (t_x0 : kt (20 + 6) x0) (w_x4 : Int32) (x4 : Int) (e_x4 : w_x4 = Int32.ofInt x4) (r_x4 : rI x4) (w_x7 : Int32) (x7 : Int) (e_x7 : w_x7 = Int32.ofInt x7) (r_x7 : rI x7) (w_x9 : Int32) (x9 : Int) (e_x9 : w_x9 = Int32.ofInt x9) (r_x9 : rI x9) (w_x10 : Int32) (x10 : Int) (e_x10 : w_x10 = Int32.ofInt x10) (r_x10 : rI x10) (S : St) (M : Hp), US ad S M → vMo_may_210 Q n x0 x4 x7 x9 x10 S → wMo_may_210 post n w_x0 w_x4 w_x7 w_x9 w_x10 M := by
  intro n
  induction n with
  | zero => intro w_x0 x0 e_x0 t_x0 w_x4 x4 e_x4 r_x4 w_x7 x7 e_x7 r_x7 w_x9 x9 e_x9 r_x9 w_x10 x10 e_x10 r_x10 S M h hv; exact hv.elim
  | succ n ih =>
    intro w_x0 x0 e_x0 t_x0 w_x4 x4 e_x4 r_x4 w_x7 x7 e_x7 r_x7 w_x9 x9 e_x9 r_x9 w_x10 x10 e_x10 r_x10 S M h hv
    subst e_x0
    subst e_x4
    subst e_x7
    subst e_x9
    subst e_x10
    unfold vMo_may_210 at hv
    unfold wMo_may_210
    refine ek_if (c_lt (show _ = Int32.ofInt x7 from rfl) (show _ = Int32.ofInt x10 from rfl) r_x7 r_x10) (fun g1 => ?_) (fun g1 => ?_)
    · replace hv := hv.1 g1
      refine g_fA h t_x0 rfl (rv_6_7 t_x0) ?_
      obtain ⟨c2, hv⟩ := hv
      refine g_aI h (show kt 1 7 by decide) (show alen 7 = 360 by decide) (show _ = Int32.ofInt x7 from rfl) c2 ?_
      refine g_fI h t_x0 rfl rfl ?_
      refine g_fA h t_x0 rfl (rv_6_17 t_x0) ?_
      obtain ⟨c3, hv⟩ := hv
      refine g_aI h (show kt 1 17 by decide) (show alen 17 = 8 by decide) (show _ = Int32.ofInt x4 from rfl) c3 ?_
      obtain ⟨c4, hv⟩ := hv
      refine ek_if (c_lt (h_sub (show _ = Int32.ofInt (S 7 x7) from rfl) (show _ = Int32.ofInt (S x0 2) from rfl)) (show _ = Int32.ofInt (S 17 x4) from rfl) c4 (g_rI h (show kt 1 17 by decide) (by decide))) (fun g5 => ?_) (fun g5 => ?_)
      · replace hv := hv.1 g5
        exact aMo_may_292 hp   h hv
      · replace hv := hv.2 g5
        refine g_fI h t_x0 rfl rfl ?_
        refine g_fA h t_x0 rfl (rv_6_18 t_x0) ?_
        obtain ⟨c6, hv⟩ := hv
        refine g_aI h (show kt 1 18 by decide) (show alen 18 = 8 by decide) (show _ = Int32.ofInt x4 from rfl) c6 ?_
        obtain ⟨c7, hv⟩ := hv
        refine ek_if (c_lt (show _ = Int32.ofInt (S 18 x4) from rfl) (h_add (show _ = Int32.ofInt x9 from rfl) (show _ = Int32.ofInt (S x0 2) from rfl)) (g_rI h (show kt 1 18 by decide) (by decide)) c7) (fun g8 => ?_) (fun g8 => ?_)
        · replace hv := hv.1 g8
          exact aMo_may_292 hp   h hv
        · replace hv := hv.2 g8
          exact aMo_may_293 hp  LI_1 LI_1r h hv
    · replace hv := hv.2 g1
      refine g_fA h t_x0 rfl (rv_6_8 t_x0) ?_
      obtain ⟨c9, hv⟩ := hv
      refine g_aI h (show kt 1 8 by decide) (show alen 8 = 360 by decide) (show _ = Int32.ofInt x10 from rfl) c9 ?_
      refine ek_if (c_le (show _ = Int32.ofInt (S 8 x10) from rfl) (show _ = Int32.ofInt x9 from rfl) (g_rI h (show kt 1 8 by decide) (by decide)) r_x9) (fun g10 => ?_) (fun g10 => ?_)
      · replace hv := hv.1 g10
        exact aMo_may_241 hp (fun b0 b1 b2 b3 b4 S9 M9 y0 y1 y2 y3 y4 h9 hv9 => ih _ b0 rfl y0 _ b1 rfl y1 _ b2 rfl y2 _ b3 rfl y3 _ b4 rfl y4 S9 M9 h9 hv9) rfl t_x0 (show _ = Int32.ofInt x4 from rfl) r_x4 (show _ = Int32.ofInt x7 from rfl) r_x7 (show _ = Int32.ofInt x10 from rfl) r_x10 (show _ = Int32.ofInt x9 from rfl) r_x9 h hv
      · replace hv := hv.2 g10
        refine g_fA h t_x0 rfl (rv_6_8 t_x0) ?_
        obtain ⟨c11, hv⟩ := hv
        refine g_aI h (show kt 1 8 by decide) (show alen 8 = 360 by decide) (show _ = Int32.ofInt x10 from rfl) c11 ?_
        exact aMo_may_241 hp (fun b0 b1 b2 b3 b4 S9 M9 y0 y1 y2 y3 y4 h9 hv9 => ih _ b0 rfl y0 _ b1 rfl y1 _ b2 rfl y2 _ b3 rfl y3 _ b4 rfl y4 S9 M9 h9 hv9) rfl t_x0 (show _ = Int32.ofInt x4 from rfl) r_x4 (show _ = Int32.ofInt x7 from rfl) r_x7 (show _ = Int32.ofInt x10 from rfl) r_x10 (show _ = Int32.ofInt (S 8 x10) from rfl) (g_rI h (show kt 1 8 by decide) (by decide)) h hv
def vMo_may_185 (Q : Int → St → Prop) : Nat → Int → Int → Int → Int → Int → St → Prop
  | 0 => fun _ _ _ _ _ _ => False
  | n + 1 => fun x0 x4 x5 x7 x8 S => (((0 : Int) ≤ x8 ∧ (x8 : Int) < 360) ∧ ((((S 6 x8) ≤ x5 → (∃ n70 : Nat, (vMo_may_210 Q n70 x0 x4 x7 0 x8 S))) ∧ (¬ (S 6 x8) ≤ x5 → ((rI (x8 + (-1))) ∧ ∀ z71 : Int, z71 = (x8 + (-1)) → (vMo_may_185 Q n x0 x4 x5 x7 z71 S))))))
theorem aMo_may_185 {ad : Int → Nat} {Q : Int → St → Prop} {post : Int32 → Hp → Prop} (hp : ∀ (r : Int) (S : St) (M : Hp), US ad S M → rI r → Q r S → post (Int32.ofInt r) M) : ∀ (n : Nat) (w_x0 : Nat) (x0 : Int) (e_x0 : w_x0 = ad x0) (t_x0 : kt (20 + 6) x0) (w_x4 : Int32) (x4 : Int) (e_x4 : w_x4 = Int32.ofInt x4) (r_x4 : rI x4) (w_x5 : Int32) (x5 : Int) (e_x5 : w_x5 = Int32.ofInt x5) (r_x5 : rI x5) (w_x7 : Int32) (x7 : Int) (e_x7 : w_x7 = Int32.ofInt x7) (r_x7 : rI x7) (w_x8 : Int32) (x8 : Int) (e_x8 : w_x8 = Int32.ofInt x8) (r_x8 : rI x8) (S : St) (M : Hp), US ad S M → vMo_may_185 Q n x0 x4 x5 x7 x8 S → wMo_may_185 post n w_x0 w_x4 w_x5 w_x7 w_x8 M := by
  intro n
  induction n with
  | zero => intro w_x0 x0 e_x0 t_x0 w_x4 x4 e_x4 r_x4 w_x5 x5 e_x5 r_x5 w_x7 x7 e_x7 r_x7 w_x8 x8 e_x8 r_x8 S M h hv; exact hv.elim
  | succ n ih =>
    intro w_x0 x0 e_x0 t_x0 w_x4 x4 e_x4 r_x4 w_x5 x5 e_x5 r_x5 w_x7 x7 e_x7 r_x7 w_x8 x8 e_x8 r_x8 S M h hv
    subst e_x0
    subst e_x4
    subst e_x5
    subst e_x7
    subst e_x8
    unfold vMo_may_185 at hv
    unfold wMo_may_185
    refine g_fA h t_x0 rfl (rv_6_6 t_x0) ?_
    obtain ⟨c1, hv⟩ := hv
    refine g_aI h (show kt 1 6 by decide) (show alen 6 = 360 by decide) (show _ = Int32.ofInt x8 from rfl) c1 ?_
    refine ek_if (c_le (show _ = Int32.ofInt (S 6 x8) from rfl) (show _ = Int32.ofInt x5 from rfl) (g_rI h (show kt 1 6 by decide) (by decide)) r_x5) (fun g2 => ?_) (fun g2 => ?_)
    · replace hv := hv.1 g2
      obtain ⟨n70, hv⟩ := hv
      refine ⟨n70, ?_⟩
      exact aMo_may_210 hp  n70 _ _ rfl t_x0 _ _ (show _ = Int32.ofInt x4 from rfl) r_x4 _ _ (show _ = Int32.ofInt x7 from rfl) r_x7 _ _ LI_0 LI_0r _ _ (show _ = Int32.ofInt x8 from rfl) r_x8 _ _ h hv
    · replace hv := hv.2 g2
      obtain ⟨c3, hv⟩ := hv
      refine nm_z (h_add (show _ = Int32.ofInt x8 from rfl) LI_m1) (fun z71 e4 => ?_)
      have r5 : rI z71 := by rw [e4]; exact c3
      replace hv := hv z71 e4
      exact ih _ _ rfl t_x0 _ _ (show _ = Int32.ofInt x4 from rfl) r_x4 _ _ (show _ = Int32.ofInt x5 from rfl) r_x5 _ _ (show _ = Int32.ofInt x7 from rfl) r_x7 _ _ (show _ = Int32.ofInt z71 from rfl) r5 _ _ h hv
def vMo_may_163 (Q : Int → St → Prop) : Nat → Int → Int → Int → Int → Int → St → Prop
  | 0 => fun _ _ _ _ _ _ => False
  | n + 1 => fun x0 x4 x5 x6 x7 S => (((0 : Int) ≤ x7 ∧ (x7 : Int) < 360) ∧ (((x6 ≤ (S 6 x7) → (∃ n82 : Nat, (vMo_may_185 Q n82 x0 x4 x5 x7 x7 S))) ∧ (¬ x6 ≤ (S 6 x7) → ((rI (x7 + 1)) ∧ ∀ z83 : Int, z83 = (x7 + 1) → (vMo_may_163 Q n x0 x4 x5 x6 z83 S))))))
theorem aMo_may_163 {ad : Int → Nat} {Q : Int → St → Prop} {post : Int32 → Hp → Prop} (hp : ∀ (r : Int) (S : St) (M : Hp), US ad S M → rI r → Q r S → post (Int32.ofInt r) M) : ∀ (n : Nat) (w_x0 : Nat) (x0 : Int) (e_x0 : w_x0 = ad x0) (t_x0 : kt (20 + 6) x0) (w_x4 : Int32) (x4 : Int) (e_x4 : w_x4 = Int32.ofInt x4) (r_x4 : rI x4) (w_x5 : Int32) (x5 : Int) (e_x5 : w_x5 = Int32.ofInt x5) (r_x5 : rI x5) (w_x6 : Int32) (x6 : Int) (e_x6 : w_x6 = Int32.ofInt x6) (r_x6 : rI x6) (w_x7 : Int32) (x7 : Int) (e_x7 : w_x7 = Int32.ofInt x7) (r_x7 : rI x7) (S : St) (M : Hp), US ad S M → vMo_may_163 Q n x0 x4 x5 x6 x7 S → wMo_may_163 post n w_x0 w_x4 w_x5 w_x6 w_x7 M := by
  intro n
  induction n with
  | zero => intro w_x0 x0 e_x0 t_x0 w_x4 x4 e_x4 r_x4 w_x5 x5 e_x5 r_x5 w_x6 x6 e_x6 r_x6 w_x7 x7 e_x7 r_x7 S M h hv; exact hv.elim
  | succ n ih =>
    intro w_x0 x0 e_x0 t_x0 w_x4 x4 e_x4 r_x4 w_x5 x5 e_x5 r_x5 w_x6 x6 e_x6 r_x6 w_x7 x7 e_x7 r_x7 S M h hv
    subst e_x0
    subst e_x4
    subst e_x5
    subst e_x6
    subst e_x7
    unfold vMo_may_163 at hv
    unfold wMo_may_163
    refine g_fA h t_x0 rfl (rv_6_6 t_x0) ?_
    obtain ⟨c1, hv⟩ := hv
    refine g_aI h (show kt 1 6 by decide) (show alen 6 = 360 by decide) (show _ = Int32.ofInt x7 from rfl) c1 ?_
    refine ek_if (c_le (show _ = Int32.ofInt x6 from rfl) (show _ = Int32.ofInt (S 6 x7) from rfl) r_x6 (g_rI h (show kt 1 6 by decide) (by decide))) (fun g2 => ?_) (fun g2 => ?_)
    · replace hv := hv.1 g2
      obtain ⟨n82, hv⟩ := hv
      refine ⟨n82, ?_⟩
      exact aMo_may_185 hp  n82 _ _ rfl t_x0 _ _ (show _ = Int32.ofInt x4 from rfl) r_x4 _ _ (show _ = Int32.ofInt x5 from rfl) r_x5 _ _ (show _ = Int32.ofInt x7 from rfl) r_x7 _ _ (show _ = Int32.ofInt x7 from rfl) r_x7 _ _ h hv
    · replace hv := hv.2 g2
      obtain ⟨c3, hv⟩ := hv
      refine nm_z (h_add (show _ = Int32.ofInt x7 from rfl) LI_1) (fun z83 e4 => ?_)
      have r5 : rI z83 := by rw [e4]; exact c3
      replace hv := hv z83 e4
      exact ih _ _ rfl t_x0 _ _ (show _ = Int32.ofInt x4 from rfl) r_x4 _ _ (show _ = Int32.ofInt x5 from rfl) r_x5 _ _ (show _ = Int32.ofInt x6 from rfl) r_x6 _ _ (show _ = Int32.ofInt z83 from rfl) r5 _ _ h hv
def vMo_may_151 (Q : Int → St → Prop) (K88 : Int → Int → Int → Int → Int → Int → St → Prop) (x0 : Int) (x1 : Int) (x4 : Int) (x5 : Int) (x6 : Int) (x7 : Int) (S : St) : Prop := ((rI (x7 + 1)) ∧ ∀ z84 : Int, z84 = (x7 + 1) → (K88 x0 x1 x4 x5 x6 z84 S))
theorem aMo_may_151 {ad : Int → Nat} {Q : Int → St → Prop} {K88 : Int → Int → Int → Int → Int → Int → St → Prop} {post : Int32 → Hp → Prop} {k88 : Nat → Int32 → Int32 → Int32 → Int32 → Int32 → Hp → Prop} (hp : ∀ (r : Int) (S : St) (M : Hp), US ad S M → rI r → Q r S → post (Int32.ofInt r) M) (hk88 : ∀ (b0 b1 b2 b3 b4 b5 : Int) (S : St) (M : Hp), kt (20 + 6) b0 → rI b1 → rI b2 → rI b3 → rI b4 → rI b5 → US ad S M → K88 b0 b1 b2 b3 b4 b5 S → k88 (ad b0) (Int32.ofInt b1) (Int32.ofInt b2) (Int32.ofInt b3) (Int32.ofInt b4) (Int32.ofInt b5) M) {w_x0 : Nat} {x0 : Int} (e_x0 : w_x0 = ad x0) (t_x0 : kt (20 + 6) x0) {w_x1 : Int32} {x1 : Int} (e_x1 : w_x1 = Int32.ofInt x1) (r_x1 : rI x1) {w_x4 : Int32} {x4 : Int} (e_x4 : w_x4 = Int32.ofInt x4) (r_x4 : rI x4) {w_x5 : Int32} {x5 : Int} (e_x5 : w_x5 = Int32.ofInt x5) (r_x5 : rI x5) {w_x6 : Int32} {x6 : Int} (e_x6 : w_x6 = Int32.ofInt x6) (r_x6 : rI x6) {w_x7 : Int32} {x7 : Int} (e_x7 : w_x7 = Int32.ofInt x7) (r_x7 : rI x7) {S : St} {M : Hp} (h : US ad S M) (hv : vMo_may_151 Q K88 x0 x1 x4 x5 x6 x7 S) : wMo_may_151 post k88 w_x0 w_x1 w_x4 w_x5 w_x6 w_x7 M := by
  subst e_x0
  subst e_x1
  subst e_x4
  subst e_x5
  subst e_x6
  subst e_x7
  unfold vMo_may_151 at hv
  unfold wMo_may_151
  obtain ⟨c1, hv⟩ := hv
  refine nm_z (h_add (show _ = Int32.ofInt x7 from rfl) LI_1) (fun z84 e2 => ?_)
  have r3 : rI z84 := by rw [e2]; exact c1
  replace hv := hv z84 e2
  exact hk88 _ _ _ _ _ _ _ _ t_x0 r_x1 r_x4 r_x5 r_x6 r3 h hv
def vMo_may_88 (Q : Int → St → Prop) : Nat → Int → Int → Int → Int → Int → Int → St → Prop
  | 0 => fun _ _ _ _ _ _ _ => False
  | n + 1 => fun x0 x1 x4 x5 x6 x7 S => (((0 : Int) ≤ x1 ∧ (x1 : Int) < 6) ∧ ((rI ((20 * x1) + (S 9 x1))) ∧ ((((20 * x1) + (S 9 x1)) ≤ x7 → ((rI (60 * x1)) ∧ ∀ z95 : Int, z95 = (60 * x1) → (∃ n96 : Nat, (vMo_may_163 Q n96 x0 x4 x5 x6 z95 S)))) ∧ (¬ ((20 * x1) + (S 9 x1)) ≤ x7 → (((0 : Int) ≤ x7 ∧ (x7 : Int) < 120) ∧ (((0 : Int) ≤ ((8 * x4) + (S 12 x7)) ∧ (((8 * x4) + (S 12 x7)) : Int) < 64) ∧ ((((S 20 ((8 * x4) + (S 12 x7))) = 0 → (vMo_may_151 Q (vMo_may_88 Q n) x0 x1 x4 x5 x6 x7 S)) ∧ (¬ (S 20 ((8 * x4) + (S 12 x7))) = 0 → (((0 : Int) ≤ x7 ∧ (x7 : Int) < 120) ∧ (((x6 ≤ (S 10 x7) → (vMo_may_151 Q (vMo_may_88 Q n) x0 x1 x4 x5 x6 x7 S)) ∧ (¬ x6 ≤ (S 10 x7) → (((0 : Int) ≤ x7 ∧ (x7 : Int) < 120) ∧ ((((S 11 x7) ≤ x5 → (vMo_may_151 Q (vMo_may_88 Q n) x0 x1 x4 x5 x6 x7 S)) ∧ (¬ (S 11 x7) ≤ x5 → (Q 0 S))))))))))))))))))
theorem aMo_may_88 {ad : Int → Nat} {Q : Int → St → Prop} {post : Int32 → Hp → Prop} (hp : ∀ (r : Int) (S : St) (M : Hp), US ad S M → rI r → Q r S → post (Int32.ofInt r) M) : ∀ (n : Nat) (w_x0 : Nat) (x0 : Int) (e_x0 : w_x0 = ad x0) (t_x0 : kt (20 + 6) x0) (w_x1 : Int32) (x1 : Int) (e_x1 : w_x1 = Int32.ofInt x1) (r_x1 : rI x1) (w_x4 : Int32) (x4 : Int) (e_x4 : w_x4 = Int32.ofInt x4) (r_x4 : rI x4) (w_x5 : Int32) (x5 : Int) (e_x5 : w_x5 = Int32.ofInt x5) (r_x5 : rI x5) (w_x6 : Int32) (x6 : Int) (e_x6 : w_x6 = Int32.ofInt x6) (r_x6 : rI x6) (w_x7 : Int32) (x7 : Int) (e_x7 : w_x7 = Int32.ofInt x7) (r_x7 : rI x7) (S : St) (M : Hp), US ad S M → vMo_may_88 Q n x0 x1 x4 x5 x6 x7 S → wMo_may_88 post n w_x0 w_x1 w_x4 w_x5 w_x6 w_x7 M := by
  intro n
  induction n with
  | zero => intro w_x0 x0 e_x0 t_x0 w_x1 x1 e_x1 r_x1 w_x4 x4 e_x4 r_x4 w_x5 x5 e_x5 r_x5 w_x6 x6 e_x6 r_x6 w_x7 x7 e_x7 r_x7 S M h hv; exact hv.elim
  | succ n ih =>
    intro w_x0 x0 e_x0 t_x0 w_x1 x1 e_x1 r_x1 w_x4 x4 e_x4 r_x4 w_x5 x5 e_x5 r_x5 w_x6 x6 e_x6 r_x6 w_x7 x7 e_x7 r_x7 S M h hv
    subst e_x0
    subst e_x1
    subst e_x4
    subst e_x5
    subst e_x6
    subst e_x7
    unfold vMo_may_88 at hv
    unfold wMo_may_88
    refine g_fA h t_x0 rfl (rv_6_9 t_x0) ?_
    obtain ⟨c1, hv⟩ := hv
    refine g_aI h (show kt 1 9 by decide) (show alen 9 = 6 by decide) (show _ = Int32.ofInt x1 from rfl) c1 ?_
    obtain ⟨c2, hv⟩ := hv
    refine ek_if (c_le (h_add (h_mul LI_20 (show _ = Int32.ofInt x1 from rfl)) (show _ = Int32.ofInt (S 9 x1) from rfl)) (show _ = Int32.ofInt x7 from rfl) c2 r_x7) (fun g3 => ?_) (fun g3 => ?_)
    · replace hv := hv.1 g3
      obtain ⟨c4, hv⟩ := hv
      refine nm_z (h_mul LI_60 (show _ = Int32.ofInt x1 from rfl)) (fun z95 e5 => ?_)
      have r6 : rI z95 := by rw [e5]; exact c4
      replace hv := hv z95 e5
      obtain ⟨n96, hv⟩ := hv
      refine ⟨n96, ?_⟩
      exact aMo_may_163 hp  n96 _ _ rfl t_x0 _ _ (show _ = Int32.ofInt x4 from rfl) r_x4 _ _ (show _ = Int32.ofInt x5 from rfl) r_x5 _ _ (show _ = Int32.ofInt x6 from rfl) r_x6 _ _ (show _ = Int32.ofInt z95 from rfl) r6 _ _ h hv
    · replace hv := hv.2 g3
      refine g_fA h t_x0 rfl (rv_6_20 t_x0) ?_
      refine g_fA h t_x0 rfl (rv_6_12 t_x0) ?_
      obtain ⟨c7, hv⟩ := hv
      refine g_aI h (show kt 1 12 by decide) (show alen 12 = 120 by decide) (show _ = Int32.ofInt x7 from rfl) c7 ?_
      obtain ⟨c8, hv⟩ := hv
      refine g_aZ h (show kt 2 20 by decide) (show alen 20 = 64 by decide) (h_add (h_mul LI_8 (show _ = Int32.ofInt x4 from rfl)) (show _ = Int32.ofInt (S 12 x7) from rfl)) c8 ?_
      refine ek_if (c_eq (show _ = Int32.ofInt (S 20 ((8 * x4) + (S 12 x7))) from rfl) LI_0 (g_rI h (show kt 2 20 by decide) (by decide)) LI_0r) (fun g9 => ?_) (fun g9 => ?_)
      · replace hv := hv.1 g9
        exact aMo_may_151 hp (fun b0 b1 b2 b3 b4 b5 S9 M9 y0 y1 y2 y3 y4 y5 h9 hv9 => ih _ b0 rfl y0 _ b1 rfl y1 _ b2 rfl y2 _ b3 rfl y3 _ b4 rfl y4 _ b5 rfl y5 S9 M9 h9 hv9) rfl t_x0 (show _ = Int32.ofInt x1 from rfl) r_x1 (show _ = Int32.ofInt x4 from rfl) r_x4 (show _ = Int32.ofInt x5 from rfl) r_x5 (show _ = Int32.ofInt x6 from rfl) r_x6 (show _ = Int32.ofInt x7 from rfl) r_x7 h hv
      · replace hv := hv.2 g9
        refine g_fA h t_x0 rfl (rv_6_10 t_x0) ?_
        obtain ⟨c10, hv⟩ := hv
        refine g_aI h (show kt 1 10 by decide) (show alen 10 = 120 by decide) (show _ = Int32.ofInt x7 from rfl) c10 ?_
        refine ek_if (c_le (show _ = Int32.ofInt x6 from rfl) (show _ = Int32.ofInt (S 10 x7) from rfl) r_x6 (g_rI h (show kt 1 10 by decide) (by decide))) (fun g11 => ?_) (fun g11 => ?_)
        · replace hv := hv.1 g11
          exact aMo_may_151 hp (fun b0 b1 b2 b3 b4 b5 S9 M9 y0 y1 y2 y3 y4 y5 h9 hv9 => ih _ b0 rfl y0 _ b1 rfl y1 _ b2 rfl y2 _ b3 rfl y3 _ b4 rfl y4 _ b5 rfl y5 S9 M9 h9 hv9) rfl t_x0 (show _ = Int32.ofInt x1 from rfl) r_x1 (show _ = Int32.ofInt x4 from rfl) r_x4 (show _ = Int32.ofInt x5 from rfl) r_x5 (show _ = Int32.ofInt x6 from rfl) r_x6 (show _ = Int32.ofInt x7 from rfl) r_x7 h hv
        · replace hv := hv.2 g11
          refine g_fA h t_x0 rfl (rv_6_11 t_x0) ?_
          obtain ⟨c12, hv⟩ := hv
          refine g_aI h (show kt 1 11 by decide) (show alen 11 = 120 by decide) (show _ = Int32.ofInt x7 from rfl) c12 ?_
          refine ek_if (c_le (show _ = Int32.ofInt (S 11 x7) from rfl) (show _ = Int32.ofInt x5 from rfl) (g_rI h (show kt 1 11 by decide) (by decide)) r_x5) (fun g13 => ?_) (fun g13 => ?_)
          · replace hv := hv.1 g13
            exact aMo_may_151 hp (fun b0 b1 b2 b3 b4 b5 S9 M9 y0 y1 y2 y3 y4 y5 h9 hv9 => ih _ b0 rfl y0 _ b1 rfl y1 _ b2 rfl y2 _ b3 rfl y3 _ b4 rfl y4 _ b5 rfl y5 S9 M9 h9 hv9) rfl t_x0 (show _ = Int32.ofInt x1 from rfl) r_x1 (show _ = Int32.ofInt x4 from rfl) r_x4 (show _ = Int32.ofInt x5 from rfl) r_x5 (show _ = Int32.ofInt x6 from rfl) r_x6 (show _ = Int32.ofInt x7 from rfl) r_x7 h hv
          · replace hv := hv.2 g13
            refine ek_v (P := fun y => post y _) LI_0 ?_
            exact hp _ _ _ h LI_0r hv
def vMo_may_53 (Q : Int → St → Prop) : Nat → Int → Int → Int → Int → Int → Int → Int → St → Prop
  | 0 => fun _ _ _ _ _ _ _ _ => False
  | n + 1 => fun x0 x1 x3 x4 x5 x6 x7 S => (((x3 ≤ x7 → ((rI (20 * x1)) ∧ ∀ z137 : Int, z137 = (20 * x1) → (∃ n138 : Nat, (vMo_may_88 Q n138 x0 x1 x4 x5 x6 z137 S)))) ∧ (¬ x3 ≤ x7 → (((0 : Int) ≤ ((81 * x1) + x7) ∧ (((81 * x1) + x7) : Int) < 486) ∧ ((((S 13 ((81 * x1) + x7)) = 0 → ((rI (x7 + 1)) ∧ ∀ z149 : Int, z149 = (x7 + 1) → (vMo_may_53 Q n x0 x1 x3 x4 x5 x6 z149 S))) ∧ (¬ (S 13 ((81 * x1) + x7)) = 0 → (Q 0 S))))))))
theorem aMo_may_53 {ad : Int → Nat} {Q : Int → St → Prop} {post : Int32 → Hp → Prop} (hp : ∀ (r : Int) (S : St) (M : Hp), US ad S M → rI r → Q r S → post (Int32.ofInt r) M) : ∀ (n : Nat) (w_x0 : Nat) (x0 : Int) (e_x0 : w_x0 = ad x0) (t_x0 : kt (20 + 6) x0) (w_x1 : Int32) (x1 : Int) (e_x1 : w_x1 = Int32.ofInt x1) (r_x1 : rI x1) (w_x3 : Int32) (x3 : Int) (e_x3 : w_x3 = Int32.ofInt x3) (r_x3 : rI x3) (w_x4 : Int32) (x4 : Int) (e_x4 : w_x4 = Int32.ofInt x4) (r_x4 : rI x4) (w_x5 : Int32) (x5 : Int) (e_x5 : w_x5 = Int32.ofInt x5) (r_x5 : rI x5) (w_x6 : Int32) (x6 : Int) (e_x6 : w_x6 = Int32.ofInt x6) (r_x6 : rI x6) (w_x7 : Int32) (x7 : Int) (e_x7 : w_x7 = Int32.ofInt x7) (r_x7 : rI x7) (S : St) (M : Hp), US ad S M → vMo_may_53 Q n x0 x1 x3 x4 x5 x6 x7 S → wMo_may_53 post n w_x0 w_x1 w_x3 w_x4 w_x5 w_x6 w_x7 M := by
  intro n
  induction n with
  | zero => intro w_x0 x0 e_x0 t_x0 w_x1 x1 e_x1 r_x1 w_x3 x3 e_x3 r_x3 w_x4 x4 e_x4 r_x4 w_x5 x5 e_x5 r_x5 w_x6 x6 e_x6 r_x6 w_x7 x7 e_x7 r_x7 S M h hv; exact hv.elim
  | succ n ih =>
    intro w_x0 x0 e_x0 t_x0 w_x1 x1 e_x1 r_x1 w_x3 x3 e_x3 r_x3 w_x4 x4 e_x4 r_x4 w_x5 x5 e_x5 r_x5 w_x6 x6 e_x6 r_x6 w_x7 x7 e_x7 r_x7 S M h hv
    subst e_x0
    subst e_x1
    subst e_x3
    subst e_x4
    subst e_x5
    subst e_x6
    subst e_x7
    unfold vMo_may_53 at hv
    unfold wMo_may_53
    refine ek_if (c_le (show _ = Int32.ofInt x3 from rfl) (show _ = Int32.ofInt x7 from rfl) r_x3 r_x7) (fun g1 => ?_) (fun g1 => ?_)
    · replace hv := hv.1 g1
      obtain ⟨c2, hv⟩ := hv
      refine nm_z (h_mul LI_20 (show _ = Int32.ofInt x1 from rfl)) (fun z137 e3 => ?_)
      have r4 : rI z137 := by rw [e3]; exact c2
      replace hv := hv z137 e3
      obtain ⟨n138, hv⟩ := hv
      refine ⟨n138, ?_⟩
      exact aMo_may_88 hp  n138 _ _ rfl t_x0 _ _ (show _ = Int32.ofInt x1 from rfl) r_x1 _ _ (show _ = Int32.ofInt x4 from rfl) r_x4 _ _ (show _ = Int32.ofInt x5 from rfl) r_x5 _ _ (show _ = Int32.ofInt x6 from rfl) r_x6 _ _ (show _ = Int32.ofInt z137 from rfl) r4 _ _ h hv
    · replace hv := hv.2 g1
      refine g_fA h t_x0 rfl (rv_6_13 t_x0) ?_
      obtain ⟨c5, hv⟩ := hv
      refine g_aZ h (show kt 2 13 by decide) (show alen 13 = 486 by decide) (h_add (h_mul LI_81 (show _ = Int32.ofInt x1 from rfl)) (show _ = Int32.ofInt x7 from rfl)) c5 ?_
      refine ek_if (c_eq (show _ = Int32.ofInt (S 13 ((81 * x1) + x7)) from rfl) LI_0 (g_rI h (show kt 2 13 by decide) (by decide)) LI_0r) (fun g6 => ?_) (fun g6 => ?_)
      · replace hv := hv.1 g6
        obtain ⟨c7, hv⟩ := hv
        refine nm_z (h_add (show _ = Int32.ofInt x7 from rfl) LI_1) (fun z149 e8 => ?_)
        have r9 : rI z149 := by rw [e8]; exact c7
        replace hv := hv z149 e8
        exact ih _ _ rfl t_x0 _ _ (show _ = Int32.ofInt x1 from rfl) r_x1 _ _ (show _ = Int32.ofInt x3 from rfl) r_x3 _ _ (show _ = Int32.ofInt x4 from rfl) r_x4 _ _ (show _ = Int32.ofInt x5 from rfl) r_x5 _ _ (show _ = Int32.ofInt x6 from rfl) r_x6 _ _ (show _ = Int32.ofInt z149 from rfl) r9 _ _ h hv
      · replace hv := hv.2 g6
        refine ek_v (P := fun y => post y _) LI_0 ?_
        exact hp _ _ _ h LI_0r hv
def vMo_may_46 (Q : Int → St → Prop) (S : St) : Prop := (Q 0 S)
theorem aMo_may_46 {ad : Int → Nat} {Q : Int → St → Prop} {post : Int32 → Hp → Prop} (hp : ∀ (r : Int) (S : St) (M : Hp), US ad S M → rI r → Q r S → post (Int32.ofInt r) M)  {S : St} {M : Hp} (h : US ad S M) (hv : vMo_may_46 Q  S) : wMo_may_46 post  M := by
  unfold vMo_may_46 at hv
  unfold wMo_may_46
  refine ek_v (P := fun y => post y _) LI_0 ?_
  exact hp _ _ _ h LI_0r hv
def vpMo_may (self : Int) (p0 : Int) (p1 : Int) (p2 : Int) (p3 : Int) (S : St) (Q : Int → St → Prop) : Prop := ((rI (p1 * (S self 1))) ∧ ∀ z154 : Int, z154 = (p1 * (S self 1)) → ((rI (p2 * (S self 1))) ∧ ∀ z159 : Int, z159 = (p2 * (S self 1)) → (((0 : Int) ≤ p3 ∧ (p3 : Int) < 8) ∧ ((rI (z159 - z154)) ∧ (((z159 - z154) < (S 15 p3) → (vMo_may_46 Q  S)) ∧ (¬ (z159 - z154) < (S 15 p3) → (((0 : Int) ≤ p3 ∧ (p3 : Int) < 8) ∧ ((rI (z159 - z154)) ∧ (((z159 - z154) ≤ (S 16 p3) → ((rI (p1 + 1)) ∧ ∀ z180 : Int, z180 = (p1 + 1) → (∃ n181 : Nat, (vMo_may_53 Q n181 self p0 p2 p3 z154 z159 z180 S)))) ∧ (¬ (z159 - z154) ≤ (S 16 p3) → (vMo_may_46 Q  S)))))))))))
theorem apMo_may {ad : Int → Nat} {Q : Int → St → Prop} {post : Int32 → Hp → Prop} (hp : ∀ (r : Int) (S : St) (M : Hp), US ad S M → rI r → Q r S → post (Int32.ofInt r) M) {w_self : Nat} {self : Int} (e_self : w_self = ad self) (t_self : kt (20 + 6) self) {w_p0 : Int32} {p0 : Int} (e_p0 : w_p0 = Int32.ofInt p0) (r_p0 : rI p0) {w_p1 : Int32} {p1 : Int} (e_p1 : w_p1 = Int32.ofInt p1) (r_p1 : rI p1) {w_p2 : Int32} {p2 : Int} (e_p2 : w_p2 = Int32.ofInt p2) (r_p2 : rI p2) {w_p3 : Int32} {p3 : Int} (e_p3 : w_p3 = Int32.ofInt p3) (r_p3 : rI p3) {S : St} {M : Hp} (h : US ad S M) (hv : vpMo_may self p0 p1 p2 p3 S Q) : wpMo_may w_self w_p0 w_p1 w_p2 w_p3 M post := by
  subst e_self
  subst e_p0
  subst e_p1
  subst e_p2
  subst e_p3
  unfold vpMo_may at hv
  unfold wpMo_may
  refine g_fI h t_self rfl rfl ?_
  obtain ⟨c1, hv⟩ := hv
  refine nm_z (h_mul (show _ = Int32.ofInt p1 from rfl) (show _ = Int32.ofInt (S self 1) from rfl)) (fun z154 e2 => ?_)
  have r3 : rI z154 := by rw [e2]; exact c1
  replace hv := hv z154 e2
  refine g_fI h t_self rfl rfl ?_
  obtain ⟨c4, hv⟩ := hv
  refine nm_z (h_mul (show _ = Int32.ofInt p2 from rfl) (show _ = Int32.ofInt (S self 1) from rfl)) (fun z159 e5 => ?_)
  have r6 : rI z159 := by rw [e5]; exact c4
  replace hv := hv z159 e5
  refine g_fA h t_self rfl (rv_6_15 t_self) ?_
  obtain ⟨c7, hv⟩ := hv
  refine g_aI h (show kt 1 15 by decide) (show alen 15 = 8 by decide) (show _ = Int32.ofInt p3 from rfl) c7 ?_
  obtain ⟨c8, hv⟩ := hv
  refine ek_if (c_lt (h_sub (show _ = Int32.ofInt z159 from rfl) (show _ = Int32.ofInt z154 from rfl)) (show _ = Int32.ofInt (S 15 p3) from rfl) c8 (g_rI h (show kt 1 15 by decide) (by decide))) (fun g9 => ?_) (fun g9 => ?_)
  · replace hv := hv.1 g9
    exact aMo_may_46 hp   h hv
  · replace hv := hv.2 g9
    refine g_fA h t_self rfl (rv_6_16 t_self) ?_
    obtain ⟨c10, hv⟩ := hv
    refine g_aI h (show kt 1 16 by decide) (show alen 16 = 8 by decide) (show _ = Int32.ofInt p3 from rfl) c10 ?_
    obtain ⟨c11, hv⟩ := hv
    refine ek_if (c_le (h_sub (show _ = Int32.ofInt z159 from rfl) (show _ = Int32.ofInt z154 from rfl)) (show _ = Int32.ofInt (S 16 p3) from rfl) c11 (g_rI h (show kt 1 16 by decide) (by decide))) (fun g12 => ?_) (fun g12 => ?_)
    · replace hv := hv.1 g12
      obtain ⟨c13, hv⟩ := hv
      refine nm_z (h_add (show _ = Int32.ofInt p1 from rfl) LI_1) (fun z180 e14 => ?_)
      have r15 : rI z180 := by rw [e14]; exact c13
      replace hv := hv z180 e14
      obtain ⟨n181, hv⟩ := hv
      refine ⟨n181, ?_⟩
      exact aMo_may_53 hp  n181 _ _ rfl t_self _ _ (show _ = Int32.ofInt p0 from rfl) r_p0 _ _ (show _ = Int32.ofInt p2 from rfl) r_p2 _ _ (show _ = Int32.ofInt p3 from rfl) r_p3 _ _ (show _ = Int32.ofInt z154 from rfl) r3 _ _ (show _ = Int32.ofInt z159 from rfl) r6 _ _ (show _ = Int32.ofInt z180 from rfl) r15 _ _ h hv
    · replace hv := hv.2 g12
      exact aMo_may_46 hp   h hv
def vpMo_worthOf (self : Int) (p0 : Int) (p1 : Int) (p2 : Int) (S : St) (Q : Int → St → Prop) : Prop := (((0 : Int) ≤ p2 ∧ (p2 : Int) < 8) ∧ (((0 : Int) ≤ ((7 * p2) + p0) ∧ (((7 * p2) + p0) : Int) < 56) ∧ ((rJ (((S 19 p2) * p1) + (S 22 ((7 * p2) + p0)))) ∧ Q (((S 19 p2) * p1) + (S 22 ((7 * p2) + p0))) S)))
theorem apMo_worthOf {ad : Int → Nat} {Q : Int → St → Prop} {post : Int64 → Hp → Prop} (hp : ∀ (r : Int) (S : St) (M : Hp), US ad S M → rJ r → Q r S → post (Int64.ofInt r) M) {w_self : Nat} {self : Int} (e_self : w_self = ad self) (t_self : kt (20 + 6) self) {w_p0 : Int32} {p0 : Int} (e_p0 : w_p0 = Int32.ofInt p0) (r_p0 : rI p0) {w_p1 : Int32} {p1 : Int} (e_p1 : w_p1 = Int32.ofInt p1) (r_p1 : rI p1) {w_p2 : Int32} {p2 : Int} (e_p2 : w_p2 = Int32.ofInt p2) (r_p2 : rI p2) {S : St} {M : Hp} (h : US ad S M) (hv : vpMo_worthOf self p0 p1 p2 S Q) : wpMo_worthOf w_self w_p0 w_p1 w_p2 M post := by
  subst e_self
  subst e_p0
  subst e_p1
  subst e_p2
  unfold vpMo_worthOf at hv
  unfold wpMo_worthOf
  refine g_fA h t_self rfl (rv_6_19 t_self) ?_
  obtain ⟨c1, hv⟩ := hv
  refine g_aJ h (show kt 3 19 by decide) (show alen 19 = 8 by decide) (show _ = Int32.ofInt p2 from rfl) c1 ?_
  refine g_fA h t_self rfl (rv_6_22 t_self) ?_
  obtain ⟨c2, hv⟩ := hv
  refine g_aJ h (show kt 3 22 by decide) (show alen 22 = 56 by decide) (h_add (h_mul LI_7 (show _ = Int32.ofInt p2 from rfl)) (show _ = Int32.ofInt p0 from rfl)) c2 ?_
  obtain ⟨c3, hv⟩ := hv
  refine ek_v (P := fun y => post y _) (H_add (H_mul (show _ = Int64.ofInt (S 19 p2) from rfl) (h_toL (show _ = Int32.ofInt p1 from rfl) r_p1)) (show _ = Int64.ofInt (S 22 ((7 * p2) + p0)) from rfl)) ?_
  exact hp _ _ _ h c3 hv
def vMo_behind_29 (Q : Int → St → Prop) (y0 : Int) (S : St) : Prop := (Q y0 S)
theorem aMo_behind_29 {ad : Int → Nat} {Q : Int → St → Prop} {post : Int32 → Hp → Prop} (hp : ∀ (r : Int) (S : St) (M : Hp), US ad S M → rI r → Q r S → post (Int32.ofInt r) M) {w_y0 : Int32} {y0 : Int} (e_y0 : w_y0 = Int32.ofInt y0) (r_y0 : rI y0) {S : St} {M : Hp} (h : US ad S M) (hv : vMo_behind_29 Q y0 S) : wMo_behind_29 post w_y0 M := by
  subst e_y0
  unfold vMo_behind_29 at hv
  unfold wMo_behind_29
  refine ek_v (P := fun y => post y _) (show _ = Int32.ofInt y0 from rfl) ?_
  exact hp _ _ _ h r_y0 hv
def vpMo_behind (self : Int) (p0 : Int) (p1 : Int) (S : St) (Q : Int → St → Prop) : Prop := (((p1 = p0 → (vMo_behind_29 Q p0 S)) ∧ (¬ p1 = p0 → ((rI (p1 + (S self 3))) ∧ ((p0 ≤ (p1 + (S self 3)) → (vMo_behind_29 Q p0 S)) ∧ (¬ p0 ≤ (p1 + (S self 3)) → ((rI (p1 + (S self 3))) ∧ vMo_behind_29 Q (p1 + (S self 3)) S)))))))
theorem apMo_behind {ad : Int → Nat} {Q : Int → St → Prop} {post : Int32 → Hp → Prop} (hp : ∀ (r : Int) (S : St) (M : Hp), US ad S M → rI r → Q r S → post (Int32.ofInt r) M) {w_self : Nat} {self : Int} (e_self : w_self = ad self) (t_self : kt (20 + 6) self) {w_p0 : Int32} {p0 : Int} (e_p0 : w_p0 = Int32.ofInt p0) (r_p0 : rI p0) {w_p1 : Int32} {p1 : Int} (e_p1 : w_p1 = Int32.ofInt p1) (r_p1 : rI p1) {S : St} {M : Hp} (h : US ad S M) (hv : vpMo_behind self p0 p1 S Q) : wpMo_behind w_self w_p0 w_p1 M post := by
  subst e_self
  subst e_p0
  subst e_p1
  unfold vpMo_behind at hv
  unfold wpMo_behind
  refine ek_if (c_eq (show _ = Int32.ofInt p1 from rfl) (show _ = Int32.ofInt p0 from rfl) r_p1 r_p0) (fun g1 => ?_) (fun g1 => ?_)
  · replace hv := hv.1 g1
    exact aMo_behind_29 hp  (show _ = Int32.ofInt p0 from rfl) r_p0 h hv
  · replace hv := hv.2 g1
    refine g_fI h t_self rfl rfl ?_
    obtain ⟨c2, hv⟩ := hv
    refine ek_if (c_le (show _ = Int32.ofInt p0 from rfl) (h_add (show _ = Int32.ofInt p1 from rfl) (show _ = Int32.ofInt (S self 3) from rfl)) r_p0 c2) (fun g3 => ?_) (fun g3 => ?_)
    · replace hv := hv.1 g3
      exact aMo_behind_29 hp  (show _ = Int32.ofInt p0 from rfl) r_p0 h hv
    · replace hv := hv.2 g3
      refine g_fI h t_self rfl rfl ?_
      obtain ⟨c4, hv⟩ := hv
      exact aMo_behind_29 hp  (h_add (show _ = Int32.ofInt p1 from rfl) (show _ = Int32.ofInt (S self 3) from rfl)) c4 h hv
def vMo_reckon_195 (Q : St → Prop) (K24 : Int → Int → Int → Int → St → Prop) (K61 : Int → Int → Int → Int → Int → St → Prop) (K70 : Int → Int → Int → Int → Int → Int → St → Prop) (x0 : Int) (x1 : Int) (x2 : Int) (x3 : Int) (x4 : Int) (x5 : Int) (S : St) : Prop := ((rI (x5 + 1)) ∧ ∀ z1 : Int, z1 = (x5 + 1) → (K70 x0 x1 x2 x3 x4 z1 S))
theorem aMo_reckon_195 {ad : Int → Nat} {Q : St → Prop} {K24 : Int → Int → Int → Int → St → Prop} {K61 : Int → Int → Int → Int → Int → St → Prop} {K70 : Int → Int → Int → Int → Int → Int → St → Prop} {post : Hp → Prop} {k24 : Nat → Int32 → Int32 → Int32 → Hp → Prop} {k61 : Nat → Int32 → Int32 → Int32 → Int32 → Hp → Prop} {k70 : Nat → Int32 → Int32 → Int32 → Int32 → Int32 → Hp → Prop} (hp : ∀ (S : St) (M : Hp), US ad S M → Q S → post M) (hk24 : ∀ (b0 b1 b2 b3 : Int) (S : St) (M : Hp), kt (20 + 6) b0 → rI b1 → rI b2 → rI b3 → US ad S M → K24 b0 b1 b2 b3 S → k24 (ad b0) (Int32.ofInt b1) (Int32.ofInt b2) (Int32.ofInt b3) M) (hk61 : ∀ (b0 b1 b2 b3 b4 : Int) (S : St) (M : Hp), kt (20 + 6) b0 → rI b1 → rI b2 → rI b3 → rI b4 → US ad S M → K61 b0 b1 b2 b3 b4 S → k61 (ad b0) (Int32.ofInt b1) (Int32.ofInt b2) (Int32.ofInt b3) (Int32.ofInt b4) M) (hk70 : ∀ (b0 b1 b2 b3 b4 b5 : Int) (S : St) (M : Hp), kt (20 + 6) b0 → rI b1 → rI b2 → rI b3 → rI b4 → rI b5 → US ad S M → K70 b0 b1 b2 b3 b4 b5 S → k70 (ad b0) (Int32.ofInt b1) (Int32.ofInt b2) (Int32.ofInt b3) (Int32.ofInt b4) (Int32.ofInt b5) M) {w_x0 : Nat} {x0 : Int} (e_x0 : w_x0 = ad x0) (t_x0 : kt (20 + 6) x0) {w_x1 : Int32} {x1 : Int} (e_x1 : w_x1 = Int32.ofInt x1) (r_x1 : rI x1) {w_x2 : Int32} {x2 : Int} (e_x2 : w_x2 = Int32.ofInt x2) (r_x2 : rI x2) {w_x3 : Int32} {x3 : Int} (e_x3 : w_x3 = Int32.ofInt x3) (r_x3 : rI x3) {w_x4 : Int32} {x4 : Int} (e_x4 : w_x4 = Int32.ofInt x4) (r_x4 : rI x4) {w_x5 : Int32} {x5 : Int} (e_x5 : w_x5 = Int32.ofInt x5) (r_x5 : rI x5) {S : St} {M : Hp} (h : US ad S M) (hv : vMo_reckon_195 Q K24 K61 K70 x0 x1 x2 x3 x4 x5 S) : wMo_reckon_195 post k24 k61 k70 w_x0 w_x1 w_x2 w_x3 w_x4 w_x5 M := by
  subst e_x0
  subst e_x1
  subst e_x2
  subst e_x3
  subst e_x4
  subst e_x5
  unfold vMo_reckon_195 at hv
  unfold wMo_reckon_195
  obtain ⟨c1, hv⟩ := hv
  refine nm_z (h_add (show _ = Int32.ofInt x5 from rfl) LI_1) (fun z1 e2 => ?_)
  have r3 : rI z1 := by rw [e2]; exact c1
  replace hv := hv z1 e2
  exact hk70 _ _ _ _ _ _ _ _ t_x0 r_x1 r_x2 r_x3 r_x4 r3 h hv
def vMo_reckon_172 (Q : St → Prop) (K24 : Int → Int → Int → Int → St → Prop) (K61 : Int → Int → Int → Int → Int → St → Prop) (K70 : Int → Int → Int → Int → Int → Int → St → Prop) (x0 : Int) (x1 : Int) (x2 : Int) (x3 : Int) (x4 : Int) (x5 : Int) (x6 : Int) (x7 : Int) (S : St) : Prop := (((0 : Int) ≤ x3 ∧ (x3 : Int) < 81) ∧ ∀ S2 : St, S2 = up S 31 x3 x7 → (((0 : Int) ≤ x6 ∧ (x6 : Int) < 81) ∧ (((0 : Int) ≤ x3 ∧ (x3 : Int) < 81) ∧ (rI ((S2 32 x6) + 1)) ∧ ∀ S9 : St, S9 = up S2 32 x3 ((S2 32 x6) + 1) → (vMo_reckon_195 Q K24 K61 K70 x0 x1 x2 x3 x4 x5 S9))))
theorem aMo_reckon_172 {ad : Int → Nat} {Q : St → Prop} {K24 : Int → Int → Int → Int → St → Prop} {K61 : Int → Int → Int → Int → Int → St → Prop} {K70 : Int → Int → Int → Int → Int → Int → St → Prop} {post : Hp → Prop} {k24 : Nat → Int32 → Int32 → Int32 → Hp → Prop} {k61 : Nat → Int32 → Int32 → Int32 → Int32 → Hp → Prop} {k70 : Nat → Int32 → Int32 → Int32 → Int32 → Int32 → Hp → Prop} (hp : ∀ (S : St) (M : Hp), US ad S M → Q S → post M) (hk24 : ∀ (b0 b1 b2 b3 : Int) (S : St) (M : Hp), kt (20 + 6) b0 → rI b1 → rI b2 → rI b3 → US ad S M → K24 b0 b1 b2 b3 S → k24 (ad b0) (Int32.ofInt b1) (Int32.ofInt b2) (Int32.ofInt b3) M) (hk61 : ∀ (b0 b1 b2 b3 b4 : Int) (S : St) (M : Hp), kt (20 + 6) b0 → rI b1 → rI b2 → rI b3 → rI b4 → US ad S M → K61 b0 b1 b2 b3 b4 S → k61 (ad b0) (Int32.ofInt b1) (Int32.ofInt b2) (Int32.ofInt b3) (Int32.ofInt b4) M) (hk70 : ∀ (b0 b1 b2 b3 b4 b5 : Int) (S : St) (M : Hp), kt (20 + 6) b0 → rI b1 → rI b2 → rI b3 → rI b4 → rI b5 → US ad S M → K70 b0 b1 b2 b3 b4 b5 S → k70 (ad b0) (Int32.ofInt b1) (Int32.ofInt b2) (Int32.ofInt b3) (Int32.ofInt b4) (Int32.ofInt b5) M) {w_x0 : Nat} {x0 : Int} (e_x0 : w_x0 = ad x0) (t_x0 : kt (20 + 6) x0) {w_x1 : Int32} {x1 : Int} (e_x1 : w_x1 = Int32.ofInt x1) (r_x1 : rI x1) {w_x2 : Int32} {x2 : Int} (e_x2 : w_x2 = Int32.ofInt x2) (r_x2 : rI x2) {w_x3 : Int32} {x3 : Int} (e_x3 : w_x3 = Int32.ofInt x3) (r_x3 : rI x3) {w_x4 : Int32} {x4 : Int} (e_x4 : w_x4 = Int32.ofInt x4) (r_x4 : rI x4) {w_x5 : Int32} {x5 : Int} (e_x5 : w_x5 = Int32.ofInt x5) (r_x5 : rI x5) {w_x6 : Int32} {x6 : Int} (e_x6 : w_x6 = Int32.ofInt x6) (r_x6 : rI x6) {w_x7 : Int64} {x7 : Int} (e_x7 : w_x7 = Int64.ofInt x7) (r_x7 : rJ x7) {S : St} {M : Hp} (h : US ad S M) (hv : vMo_reckon_172 Q K24 K61 K70 x0 x1 x2 x3 x4 x5 x6 x7 S) : wMo_reckon_172 post k24 k61 k70 w_x0 w_x1 w_x2 w_x3 w_x4 w_x5 w_x6 w_x7 M := by
  subst e_x0
  subst e_x1
  subst e_x2
  subst e_x3
  subst e_x4
  subst e_x5
  subst e_x6
  subst e_x7
  unfold vMo_reckon_172 at hv
  unfold wMo_reckon_172
  refine g_fA h t_x0 rfl (rv_6_31 t_x0) ?_
  obtain ⟨c1, hv⟩ := hv
  refine g_sJ h (show kt 3 31 by decide) (show alen 31 = 81 by decide) (show _ = Int32.ofInt x3 from rfl) c1 (show _ = Int64.ofInt x7 from rfl) r_x7 (fun S2 N3 e5 h4 => ?_)
  replace hv := hv S2 e5
  refine g_fA h4 t_x0 rfl (rv_6_32 t_x0) ?_
  refine g_fA h4 t_x0 rfl (rv_6_32 t_x0) ?_
  obtain ⟨c6, hv⟩ := hv
  refine g_aI h4 (show kt 1 32 by decide) (show alen 32 = 81 by decide) (show _ = Int32.ofInt x6 from rfl) c6 ?_
  obtain ⟨c7, c8, hv⟩ := hv
  refine g_sI h4 (show kt 1 32 by decide) (show alen 32 = 81 by decide) (show _ = Int32.ofInt x3 from rfl) c7 (h_add (show _ = Int32.ofInt (S2 32 x6) from rfl) LI_1) c8 (fun S9 N10 e12 h11 => ?_)
  replace hv := hv S9 e12
  exact aMo_reckon_195 hp hk24 hk61 hk70 rfl t_x0 (show _ = Int32.ofInt x1 from rfl) r_x1 (show _ = Int32.ofInt x2 from rfl) r_x2 (show _ = Int32.ofInt x3 from rfl) r_x3 (show _ = Int32.ofInt x4 from rfl) r_x4 (show _ = Int32.ofInt x5 from rfl) r_x5 h11 hv
def vMo_reckon_70 (Q : St → Prop) (K24 : Int → Int → Int → Int → St → Prop) (K61 : Int → Int → Int → Int → Int → St → Prop) : Nat → Int → Int → Int → Int → Int → Int → St → Prop
  | 0 => fun _ _ _ _ _ _ _ => False
  | n + 1 => fun x0 x1 x2 x3 x4 x5 S => ((((S x0 14) ≤ x5 → ((rI (x4 + 1)) ∧ ∀ z34 : Int, z34 = (x4 + 1) → (K61 x0 x1 x2 x3 z34 S))) ∧ (¬ (S x0 14) ≤ x5 → (vpMo_may x0 x1 x3 x4 x5 S (fun (r5 : Int) (S6 : St) => (((r5 = 0 → (vMo_reckon_195 Q K24 K61 (vMo_reckon_70 Q K24 K61 n) x0 x1 x2 x3 x4 x5 S6)) ∧ (¬ r5 = 0 → (vpMo_behind x0 x2 x4 S6 (fun (r11 : Int) (S12 : St) => (((0 : Int) ≤ r11 ∧ (r11 : Int) < 81) ∧ ((rI (x4 - x3)) ∧ vpMo_worthOf x0 x1 (x4 - x3) x5 S12 (fun (r18 : Int) (S19 : St) => (((0 : Int) ≤ x5 ∧ (x5 : Int) < 8) ∧ ((rJ (((S12 31 r11) + r18) - (S19 23 x5))) ∧ ∀ z63 : Int, z63 = (((S12 31 r11) + r18) - (S19 23 x5)) → (((0 : Int) ≤ x3 ∧ (x3 : Int) < 81) ∧ ((((S19 31 x3) < z63 → (vMo_reckon_172 Q K24 K61 (vMo_reckon_70 Q K24 K61 n) x0 x1 x2 x3 x4 x5 r11 z63 S19)) ∧ (¬ (S19 31 x3) < z63 → (((0 : Int) ≤ x3 ∧ (x3 : Int) < 81) ∧ (((z63 = (S19 31 x3) → (((0 : Int) ≤ r11 ∧ (r11 : Int) < 81) ∧ (((0 : Int) ≤ x3 ∧ (x3 : Int) < 81) ∧ ((rI ((S19 32 r11) + 1)) ∧ (((S19 32 x3) ≤ ((S19 32 r11) + 1) → (vMo_reckon_195 Q K24 K61 (vMo_reckon_70 Q K24 K61 n) x0 x1 x2 x3 x4 x5 S19)) ∧ (¬ (S19 32 x3) ≤ ((S19 32 r11) + 1) → (vMo_reckon_172 Q K24 K61 (vMo_reckon_70 Q K24 K61 n) x0 x1 x2 x3 x4 x5 r11 z63 S19))))))) ∧ (¬ z63 = (S19 31 x3) → (vMo_reckon_195 Q K24 K61 (vMo_reckon_70 Q K24 K61 n) x0 x1 x2 x3 x4 x5 S19))))))))))))))))))))))))
theorem aMo_reckon_70 {ad : Int → Nat} {Q : St → Prop} {K24 : Int → Int → Int → Int → St → Prop} {K61 : Int → Int → Int → Int → Int → St → Prop} {post : Hp → Prop} {k24 : Nat → Int32 → Int32 → Int32 → Hp → Prop} {k61 : Nat → Int32 → Int32 → Int32 → Int32 → Hp → Prop} (hp : ∀ (S : St) (M : Hp), US ad S M → Q S → post M) (hk24 : ∀ (b0 b1 b2 b3 : Int) (S : St) (M : Hp), kt (20 + 6) b0 → rI b1 → rI b2 → rI b3 → US ad S M → K24 b0 b1 b2 b3 S → k24 (ad b0) (Int32.ofInt b1) (Int32.ofInt b2) (Int32.ofInt b3) M) (hk61 : ∀ (b0 b1 b2 b3 b4 : Int) (S : St) (M : Hp), kt (20 + 6) b0 → rI b1 → rI b2 → rI b3 → rI b4 → US ad S M → K61 b0 b1 b2 b3 b4 S → k61 (ad b0) (Int32.ofInt b1) (Int32.ofInt b2) (Int32.ofInt b3) (Int32.ofInt b4) M) : ∀ (n : Nat) (w_x0 : Nat) (x0 : Int) (e_x0 : w_x0 = ad x0) (t_x0 : kt (20 + 6) x0) (w_x1 : Int32) (x1 : Int) (e_x1 : w_x1 = Int32.ofInt x1) (r_x1 : rI x1) (w_x2 : Int32) (x2 : Int) (e_x2 : w_x2 = Int32.ofInt x2) (r_x2 : rI x2) (w_x3 : Int32) (x3 : Int) (e_x3 : w_x3 = Int32.ofInt x3) (r_x3 : rI x3) (w_x4 : Int32) (x4 : Int) (e_x4 : w_x4 = Int32.ofInt x4) (r_x4 : rI x4) (w_x5 : Int32) (x5 : Int) (e_x5 : w_x5 = Int32.ofInt x5) (r_x5 : rI x5) (S : St) (M : Hp), US ad S M → vMo_reckon_70 Q K24 K61 n x0 x1 x2 x3 x4 x5 S → wMo_reckon_70 post k24 k61 n w_x0 w_x1 w_x2 w_x3 w_x4 w_x5 M := by
  intro n
  induction n with
  | zero => intro w_x0 x0 e_x0 t_x0 w_x1 x1 e_x1 r_x1 w_x2 x2 e_x2 r_x2 w_x3 x3 e_x3 r_x3 w_x4 x4 e_x4 r_x4 w_x5 x5 e_x5 r_x5 S M h hv; exact hv.elim
  | succ n ih =>
    intro w_x0 x0 e_x0 t_x0 w_x1 x1 e_x1 r_x1 w_x2 x2 e_x2 r_x2 w_x3 x3 e_x3 r_x3 w_x4 x4 e_x4 r_x4 w_x5 x5 e_x5 r_x5 S M h hv
    subst e_x0
    subst e_x1
    subst e_x2
    subst e_x3
    subst e_x4
    subst e_x5
    unfold vMo_reckon_70 at hv
    unfold wMo_reckon_70
    refine g_fI h t_x0 rfl rfl ?_
    refine ek_if (c_le (show _ = Int32.ofInt (S x0 14) from rfl) (show _ = Int32.ofInt x5 from rfl) (g_rf (j := 14) h t_x0 rfl rfl) r_x5) (fun g1 => ?_) (fun g1 => ?_)
    · replace hv := hv.1 g1
      obtain ⟨c2, hv⟩ := hv
      refine nm_z (h_add (show _ = Int32.ofInt x4 from rfl) LI_1) (fun z34 e3 => ?_)
      have r4 : rI z34 := by rw [e3]; exact c2
      replace hv := hv z34 e3
      exact hk61 _ _ _ _ _ _ _ t_x0 r_x1 r_x2 r_x3 r4 h hv
    · replace hv := hv.2 g1
      refine ⟨g_ob h t_x0, ?_⟩
      refine apMo_may (fun r5 S6 N7 h8 r9 hv => ?_) rfl t_x0 (show _ = Int32.ofInt x1 from rfl) r_x1 (show _ = Int32.ofInt x3 from rfl) r_x3 (show _ = Int32.ofInt x4 from rfl) r_x4 (show _ = Int32.ofInt x5 from rfl) r_x5 h hv
      refine ek_if (c_eq (show _ = Int32.ofInt r5 from rfl) LI_0 r9 LI_0r) (fun g10 => ?_) (fun g10 => ?_)
      · replace hv := hv.1 g10
        exact aMo_reckon_195 hp hk24 hk61 (fun b0 b1 b2 b3 b4 b5 S9 M9 y0 y1 y2 y3 y4 y5 h9 hv9 => ih _ b0 rfl y0 _ b1 rfl y1 _ b2 rfl y2 _ b3 rfl y3 _ b4 rfl y4 _ b5 rfl y5 S9 M9 h9 hv9) rfl t_x0 (show _ = Int32.ofInt x1 from rfl) r_x1 (show _ = Int32.ofInt x2 from rfl) r_x2 (show _ = Int32.ofInt x3 from rfl) r_x3 (show _ = Int32.ofInt x4 from rfl) r_x4 (show _ = Int32.ofInt x5 from rfl) r_x5 h8 hv
      · replace hv := hv.2 g10
        refine ⟨g_ob h8 t_x0, ?_⟩
        refine apMo_behind (fun r11 S12 N13 h14 r15 hv => ?_) rfl t_x0 (show _ = Int32.ofInt x2 from rfl) r_x2 (show _ = Int32.ofInt x4 from rfl) r_x4 h8 hv
        refine g_fA h14 t_x0 rfl (rv_6_31 t_x0) ?_
        obtain ⟨c16, hv⟩ := hv
        refine g_aJ h14 (show kt 3 31 by decide) (show alen 31 = 81 by decide) (show _ = Int32.ofInt r11 from rfl) c16 ?_
        refine ⟨g_ob h14 t_x0, ?_⟩
        obtain ⟨c17, hv⟩ := hv
        refine apMo_worthOf (fun r18 S19 N20 h21 r22 hv => ?_) rfl t_x0 (show _ = Int32.ofInt x1 from rfl) r_x1 (h_sub (show _ = Int32.ofInt x4 from rfl) (show _ = Int32.ofInt x3 from rfl)) c17 (show _ = Int32.ofInt x5 from rfl) r_x5 h14 hv
        refine g_fA h21 t_x0 rfl (rv_6_23 t_x0) ?_
        obtain ⟨c23, hv⟩ := hv
        refine g_aJ h21 (show kt 3 23 by decide) (show alen 23 = 8 by decide) (show _ = Int32.ofInt x5 from rfl) c23 ?_
        obtain ⟨c24, hv⟩ := hv
        refine nm_Z (H_sub (H_add (show _ = Int64.ofInt (S12 31 r11) from rfl) (show _ = Int64.ofInt r18 from rfl)) (show _ = Int64.ofInt (S19 23 x5) from rfl)) (fun z63 e25 => ?_)
        have r26 : rJ z63 := by rw [e25]; exact c24
        replace hv := hv z63 e25
        refine g_fA h21 t_x0 rfl (rv_6_31 t_x0) ?_
        obtain ⟨c27, hv⟩ := hv
        refine g_aJ h21 (show kt 3 31 by decide) (show alen 31 = 81 by decide) (show _ = Int32.ofInt x3 from rfl) c27 ?_
        refine ek_if (C_lt (show _ = Int64.ofInt (S19 31 x3) from rfl) (show _ = Int64.ofInt z63 from rfl) (g_rJ h21 (show kt 3 31 by decide)) r26) (fun g28 => ?_) (fun g28 => ?_)
        · replace hv := hv.1 g28
          exact aMo_reckon_172 hp hk24 hk61 (fun b0 b1 b2 b3 b4 b5 S9 M9 y0 y1 y2 y3 y4 y5 h9 hv9 => ih _ b0 rfl y0 _ b1 rfl y1 _ b2 rfl y2 _ b3 rfl y3 _ b4 rfl y4 _ b5 rfl y5 S9 M9 h9 hv9) rfl t_x0 (show _ = Int32.ofInt x1 from rfl) r_x1 (show _ = Int32.ofInt x2 from rfl) r_x2 (show _ = Int32.ofInt x3 from rfl) r_x3 (show _ = Int32.ofInt x4 from rfl) r_x4 (show _ = Int32.ofInt x5 from rfl) r_x5 (show _ = Int32.ofInt r11 from rfl) r15 (show _ = Int64.ofInt z63 from rfl) r26 h21 hv
        · replace hv := hv.2 g28
          refine g_fA h21 t_x0 rfl (rv_6_31 t_x0) ?_
          obtain ⟨c29, hv⟩ := hv
          refine g_aJ h21 (show kt 3 31 by decide) (show alen 31 = 81 by decide) (show _ = Int32.ofInt x3 from rfl) c29 ?_
          refine ek_if (C_eq (show _ = Int64.ofInt z63 from rfl) (show _ = Int64.ofInt (S19 31 x3) from rfl) r26 (g_rJ h21 (show kt 3 31 by decide))) (fun g30 => ?_) (fun g30 => ?_)
          · replace hv := hv.1 g30
            refine g_fA h21 t_x0 rfl (rv_6_32 t_x0) ?_
            obtain ⟨c31, hv⟩ := hv
            refine g_aI h21 (show kt 1 32 by decide) (show alen 32 = 81 by decide) (show _ = Int32.ofInt r11 from rfl) c31 ?_
            refine g_fA h21 t_x0 rfl (rv_6_32 t_x0) ?_
            obtain ⟨c32, hv⟩ := hv
            refine g_aI h21 (show kt 1 32 by decide) (show alen 32 = 81 by decide) (show _ = Int32.ofInt x3 from rfl) c32 ?_
            obtain ⟨c33, hv⟩ := hv
            refine ek_if (c_le (show _ = Int32.ofInt (S19 32 x3) from rfl) (h_add (show _ = Int32.ofInt (S19 32 r11) from rfl) LI_1) (g_rI h21 (show kt 1 32 by decide) (by decide)) c33) (fun g34 => ?_) (fun g34 => ?_)
            · replace hv := hv.1 g34
              exact aMo_reckon_195 hp hk24 hk61 (fun b0 b1 b2 b3 b4 b5 S9 M9 y0 y1 y2 y3 y4 y5 h9 hv9 => ih _ b0 rfl y0 _ b1 rfl y1 _ b2 rfl y2 _ b3 rfl y3 _ b4 rfl y4 _ b5 rfl y5 S9 M9 h9 hv9) rfl t_x0 (show _ = Int32.ofInt x1 from rfl) r_x1 (show _ = Int32.ofInt x2 from rfl) r_x2 (show _ = Int32.ofInt x3 from rfl) r_x3 (show _ = Int32.ofInt x4 from rfl) r_x4 (show _ = Int32.ofInt x5 from rfl) r_x5 h21 hv
            · replace hv := hv.2 g34
              exact aMo_reckon_172 hp hk24 hk61 (fun b0 b1 b2 b3 b4 b5 S9 M9 y0 y1 y2 y3 y4 y5 h9 hv9 => ih _ b0 rfl y0 _ b1 rfl y1 _ b2 rfl y2 _ b3 rfl y3 _ b4 rfl y4 _ b5 rfl y5 S9 M9 h9 hv9) rfl t_x0 (show _ = Int32.ofInt x1 from rfl) r_x1 (show _ = Int32.ofInt x2 from rfl) r_x2 (show _ = Int32.ofInt x3 from rfl) r_x3 (show _ = Int32.ofInt x4 from rfl) r_x4 (show _ = Int32.ofInt x5 from rfl) r_x5 (show _ = Int32.ofInt r11 from rfl) r15 (show _ = Int64.ofInt z63 from rfl) r26 h21 hv
          · replace hv := hv.2 g30
            exact aMo_reckon_195 hp hk24 hk61 (fun b0 b1 b2 b3 b4 b5 S9 M9 y0 y1 y2 y3 y4 y5 h9 hv9 => ih _ b0 rfl y0 _ b1 rfl y1 _ b2 rfl y2 _ b3 rfl y3 _ b4 rfl y4 _ b5 rfl y5 S9 M9 h9 hv9) rfl t_x0 (show _ = Int32.ofInt x1 from rfl) r_x1 (show _ = Int32.ofInt x2 from rfl) r_x2 (show _ = Int32.ofInt x3 from rfl) r_x3 (show _ = Int32.ofInt x4 from rfl) r_x4 (show _ = Int32.ofInt x5 from rfl) r_x5 h21 hv
def vMo_reckon_61 (Q : St → Prop) (K24 : Int → Int → Int → Int → St → Prop) : Nat → Int → Int → Int → Int → Int → St → Prop
  | 0 => fun _ _ _ _ _ _ => False
  | n + 1 => fun x0 x1 x2 x3 x4 S => (((x2 < x4 → ((rI (x3 + (-1))) ∧ ∀ z104 : Int, z104 = (x3 + (-1)) → (K24 x0 x1 x2 z104 S))) ∧ (¬ x2 < x4 → (∃ n105 : Nat, (vMo_reckon_70 Q K24 (vMo_reckon_61 Q K24 n) n105 x0 x1 x2 x3 x4 0 S)))))
theorem aMo_reckon_61 {ad : Int → Nat} {Q : St → Prop} {K24 : Int → Int → Int → Int → St → Prop} {post : Hp → Prop} {k24 : Nat → Int32 → Int32 → Int32 → Hp → Prop} (hp : ∀ (S : St) (M : Hp), US ad S M → Q S → post M) (hk24 : ∀ (b0 b1 b2 b3 : Int) (S : St) (M : Hp), kt (20 + 6) b0 → rI b1 → rI b2 → rI b3 → US ad S M → K24 b0 b1 b2 b3 S → k24 (ad b0) (Int32.ofInt b1) (Int32.ofInt b2) (Int32.ofInt b3) M) : ∀ (n : Nat) (w_x0 : Nat) (x0 : Int) (e_x0 : w_x0 = ad x0) (t_x0 : kt (20 + 6) x0) (w_x1 : Int32) (x1 : Int) (e_x1 : w_x1 = Int32.ofInt x1) (r_x1 : rI x1) (w_x2 : Int32) (x2 : Int) (e_x2 : w_x2 = Int32.ofInt x2) (r_x2 : rI x2) (w_x3 : Int32) (x3 : Int) (e_x3 : w_x3 = Int32.ofInt x3) (r_x3 : rI x3) (w_x4 : Int32) (x4 : Int) (e_x4 : w_x4 = Int32.ofInt x4) (r_x4 : rI x4) (S : St) (M : Hp), US ad S M → vMo_reckon_61 Q K24 n x0 x1 x2 x3 x4 S → wMo_reckon_61 post k24 n w_x0 w_x1 w_x2 w_x3 w_x4 M := by
  intro n
  induction n with
  | zero => intro w_x0 x0 e_x0 t_x0 w_x1 x1 e_x1 r_x1 w_x2 x2 e_x2 r_x2 w_x3 x3 e_x3 r_x3 w_x4 x4 e_x4 r_x4 S M h hv; exact hv.elim
  | succ n ih =>
    intro w_x0 x0 e_x0 t_x0 w_x1 x1 e_x1 r_x1 w_x2 x2 e_x2 r_x2 w_x3 x3 e_x3 r_x3 w_x4 x4 e_x4 r_x4 S M h hv
    subst e_x0
    subst e_x1
    subst e_x2
    subst e_x3
    subst e_x4
    unfold vMo_reckon_61 at hv
    unfold wMo_reckon_61
    refine ek_if (c_lt (show _ = Int32.ofInt x2 from rfl) (show _ = Int32.ofInt x4 from rfl) r_x2 r_x4) (fun g1 => ?_) (fun g1 => ?_)
    · replace hv := hv.1 g1
      obtain ⟨c2, hv⟩ := hv
      refine nm_z (h_add (show _ = Int32.ofInt x3 from rfl) LI_m1) (fun z104 e3 => ?_)
      have r4 : rI z104 := by rw [e3]; exact c2
      replace hv := hv z104 e3
      exact hk24 _ _ _ _ _ _ t_x0 r_x1 r_x2 r4 h hv
    · replace hv := hv.2 g1
      obtain ⟨n105, hv⟩ := hv
      refine ⟨n105, ?_⟩
      exact aMo_reckon_70 hp hk24 (fun b0 b1 b2 b3 b4 S9 M9 y0 y1 y2 y3 y4 h9 hv9 => ih _ b0 rfl y0 _ b1 rfl y1 _ b2 rfl y2 _ b3 rfl y3 _ b4 rfl y4 S9 M9 h9 hv9) n105 _ _ rfl t_x0 _ _ (show _ = Int32.ofInt x1 from rfl) r_x1 _ _ (show _ = Int32.ofInt x2 from rfl) r_x2 _ _ (show _ = Int32.ofInt x3 from rfl) r_x3 _ _ (show _ = Int32.ofInt x4 from rfl) r_x4 _ _ LI_0 LI_0r _ _ h hv
def vMo_reckon_24 (Q : St → Prop) : Nat → Int → Int → Int → Int → St → Prop
  | 0 => fun _ _ _ _ _ => False
  | n + 1 => fun x0 x1 x2 x3 S => (((x3 < 0 → (Q S)) ∧ (¬ x3 < 0 → (((0 : Int) ≤ (x3 + 1) ∧ ((x3 + 1) : Int) < 81) ∧ (((0 : Int) ≤ x3 ∧ (x3 : Int) < 81) ∧ ∀ S4 : St, S4 = up S 31 x3 (S 31 (x3 + 1)) → (((0 : Int) ≤ (x3 + 1) ∧ ((x3 + 1) : Int) < 81) ∧ (((0 : Int) ≤ x3 ∧ (x3 : Int) < 81) ∧ ∀ S10 : St, S10 = up S4 32 x3 (S4 32 (x3 + 1)) → ((rI (x3 + 1)) ∧ ∀ z143 : Int, z143 = (x3 + 1) → (∃ n144 : Nat, (vMo_reckon_61 Q (vMo_reckon_24 Q n) n144 x0 x1 x2 x3 z143 S10))))))))))
theorem aMo_reckon_24 {ad : Int → Nat} {Q : St → Prop} {post : Hp → Prop} (hp : ∀ (S : St) (M : Hp), US ad S M → Q S → post M) : ∀ (n : Nat) (w_x0 : Nat) (x0 : Int) (e_x0 : w_x0 = ad x0) (t_x0 : kt (20 + 6) x0) (w_x1 : Int32) (x1 : Int) (e_x1 : w_x1 = Int32.ofInt x1) (r_x1 : rI x1) (w_x2 : Int32) (x2 : Int) (e_x2 : w_x2 = Int32.ofInt x2) (r_x2 : rI x2) (w_x3 : Int32) (x3 : Int) (e_x3 : w_x3 = Int32.ofInt x3) (r_x3 : rI x3) (S : St) (M : Hp), US ad S M → vMo_reckon_24 Q n x0 x1 x2 x3 S → wMo_reckon_24 post n w_x0 w_x1 w_x2 w_x3 M := by
  intro n
  induction n with
  | zero => intro w_x0 x0 e_x0 t_x0 w_x1 x1 e_x1 r_x1 w_x2 x2 e_x2 r_x2 w_x3 x3 e_x3 r_x3 S M h hv; exact hv.elim
  | succ n ih =>
    intro w_x0 x0 e_x0 t_x0 w_x1 x1 e_x1 r_x1 w_x2 x2 e_x2 r_x2 w_x3 x3 e_x3 r_x3 S M h hv
    subst e_x0
    subst e_x1
    subst e_x2
    subst e_x3
    unfold vMo_reckon_24 at hv
    unfold wMo_reckon_24
    refine ek_if (c_lt (show _ = Int32.ofInt x3 from rfl) LI_0 r_x3 LI_0r) (fun g1 => ?_) (fun g1 => ?_)
    · replace hv := hv.1 g1
      exact hp _ _ h hv
    · replace hv := hv.2 g1
      refine g_fA h t_x0 rfl (rv_6_31 t_x0) ?_
      refine g_fA h t_x0 rfl (rv_6_31 t_x0) ?_
      obtain ⟨c2, hv⟩ := hv
      refine g_aJ h (show kt 3 31 by decide) (show alen 31 = 81 by decide) (h_add (show _ = Int32.ofInt x3 from rfl) LI_1) c2 ?_
      obtain ⟨c3, hv⟩ := hv
      refine g_sJ h (show kt 3 31 by decide) (show alen 31 = 81 by decide) (show _ = Int32.ofInt x3 from rfl) c3 (show _ = Int64.ofInt (S 31 (x3 + 1)) from rfl) (g_rJ h (show kt 3 31 by decide)) (fun S4 N5 e7 h6 => ?_)
      replace hv := hv S4 e7
      refine g_fA h6 t_x0 rfl (rv_6_32 t_x0) ?_
      refine g_fA h6 t_x0 rfl (rv_6_32 t_x0) ?_
      obtain ⟨c8, hv⟩ := hv
      refine g_aI h6 (show kt 1 32 by decide) (show alen 32 = 81 by decide) (h_add (show _ = Int32.ofInt x3 from rfl) LI_1) c8 ?_
      obtain ⟨c9, hv⟩ := hv
      refine g_sI h6 (show kt 1 32 by decide) (show alen 32 = 81 by decide) (show _ = Int32.ofInt x3 from rfl) c9 (show _ = Int32.ofInt (S4 32 (x3 + 1)) from rfl) (g_rI h6 (show kt 1 32 by decide) (by decide)) (fun S10 N11 e13 h12 => ?_)
      replace hv := hv S10 e13
      obtain ⟨c14, hv⟩ := hv
      refine nm_z (h_add (show _ = Int32.ofInt x3 from rfl) LI_1) (fun z143 e15 => ?_)
      have r16 : rI z143 := by rw [e15]; exact c14
      replace hv := hv z143 e15
      obtain ⟨n144, hv⟩ := hv
      refine ⟨n144, ?_⟩
      exact aMo_reckon_61 hp (fun b0 b1 b2 b3 S9 M9 y0 y1 y2 y3 h9 hv9 => ih _ b0 rfl y0 _ b1 rfl y1 _ b2 rfl y2 _ b3 rfl y3 S9 M9 h9 hv9) n144 _ _ rfl t_x0 _ _ (show _ = Int32.ofInt x1 from rfl) r_x1 _ _ (show _ = Int32.ofInt x2 from rfl) r_x2 _ _ (show _ = Int32.ofInt x3 from rfl) r_x3 _ _ (show _ = Int32.ofInt z143 from rfl) r16 _ _ h12 hv
def vpMo_reckon (self : Int) (p0 : Int) (S : St) (Q : St → Prop) : Prop := (vpMo_stepsOf self p0 S (fun (r1 : Int) (S2 : St) => (((0 : Int) ≤ r1 ∧ (r1 : Int) < 81) ∧ ∀ S7 : St, S7 = up S2 31 r1 0 → (((0 : Int) ≤ r1 ∧ (r1 : Int) < 81) ∧ ∀ S12 : St, S12 = up S7 32 r1 0 → ((rI (r1 - 1)) ∧ ∀ z166 : Int, z166 = (r1 - 1) → (∃ n167 : Nat, (vMo_reckon_24 Q n167 self p0 r1 z166 S12)))))))
theorem apMo_reckon {ad : Int → Nat} {Q : St → Prop} {post : Hp → Prop} (hp : ∀ (S : St) (M : Hp), US ad S M → Q S → post M) {w_self : Nat} {self : Int} (e_self : w_self = ad self) (t_self : kt (20 + 6) self) {w_p0 : Int32} {p0 : Int} (e_p0 : w_p0 = Int32.ofInt p0) (r_p0 : rI p0) {S : St} {M : Hp} (h : US ad S M) (hv : vpMo_reckon self p0 S Q) : wpMo_reckon w_self w_p0 M post := by
  subst e_self
  subst e_p0
  unfold vpMo_reckon at hv
  unfold wpMo_reckon
  refine ⟨g_ob h t_self, ?_⟩
  refine apMo_stepsOf (fun r1 S2 N3 h4 r5 hv => ?_) rfl t_self (show _ = Int32.ofInt p0 from rfl) r_p0 h hv
  refine g_fA h4 t_self rfl (rv_6_31 t_self) ?_
  obtain ⟨c6, hv⟩ := hv
  refine g_sJ h4 (show kt 3 31 by decide) (show alen 31 = 81 by decide) (show _ = Int32.ofInt r1 from rfl) c6 LJ_0 LJ_0r (fun S7 N8 e10 h9 => ?_)
  replace hv := hv S7 e10
  refine g_fA h9 t_self rfl (rv_6_32 t_self) ?_
  obtain ⟨c11, hv⟩ := hv
  refine g_sI h9 (show kt 1 32 by decide) (show alen 32 = 81 by decide) (show _ = Int32.ofInt r1 from rfl) c11 LI_0 LI_0r (fun S12 N13 e15 h14 => ?_)
  replace hv := hv S12 e15
  obtain ⟨c16, hv⟩ := hv
  refine nm_z (h_sub (show _ = Int32.ofInt r1 from rfl) LI_1) (fun z166 e17 => ?_)
  have r18 : rI z166 := by rw [e17]; exact c16
  replace hv := hv z166 e17
  obtain ⟨n167, hv⟩ := hv
  refine ⟨n167, ?_⟩
  exact aMo_reckon_24 hp  n167 _ _ rfl t_self _ _ (show _ = Int32.ofInt p0 from rfl) r_p0 _ _ (show _ = Int32.ofInt r1 from rfl) r5 _ _ (show _ = Int32.ofInt z166 from rfl) r18 _ _ h14 hv
