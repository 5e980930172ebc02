def vMo_log_160 (Q : Int → St → Prop) (y0 : Int) (S : St) : Prop := (Q y0 S)
theorem aMo_log_160 {ad : Int → Nat} {Q : Int → St → Prop} {post : Int32 → Hp → Prop} (hp : ∀ (r : Int) (S : St) (M : Hp), US ad S M → rI r → Q r S → post (Int32.ofInt r) M) {w_y0 : Int32} {y0 : Int} (e_y0 : w_y0 = Int32.ofInt y0) (r_y0 : rI y0) {S : St} {M : Hp} (h : US ad S M) (hv : vMo_log_160 Q y0 S) : wMo_log_160 post w_y0 M := by
  subst e_y0
  unfold vMo_log_160 at hv
  unfold wMo_log_160
  refine ek_v (P := fun y => post y _) (show _ = Int32.ofInt y0 from rfl) ?_
  exact hp _ _ _ h r_y0 hv
def vMo_log_73 (Q : Int → St → Prop) (y0 : Int) (S : St) : Prop := (Q y0 S)
theorem aMo_log_73 {ad : Int → Nat} {Q : Int → St → Prop} {post : Int32 → Hp → Prop} (hp : ∀ (r : Int) (S : St) (M : Hp), US ad S M → rI r → Q r S → post (Int32.ofInt r) M) {w_y0 : Int32} {y0 : Int} (e_y0 : w_y0 = Int32.ofInt y0) (r_y0 : rI y0) {S : St} {M : Hp} (h : US ad S M) (hv : vMo_log_73 Q y0 S) : wMo_log_73 post w_y0 M := by
  subst e_y0
  unfold vMo_log_73 at hv
  unfold wMo_log_73
  refine ek_v (P := fun y => post y _) (show _ = Int32.ofInt y0 from rfl) ?_
  exact hp _ _ _ h r_y0 hv
def vMo_log_61 (Q : Int → St → Prop) (x0 : Int) (x3 : Int) (S : St) : Prop := ((((S x0 0) ≤ 0 → (vMo_log_73 Q x3 S)) ∧ (¬ (S x0 0) ≤ 0 → (vMo_log_73 Q 0 S))))
theorem aMo_log_61 {ad : Int → Nat} {Q : Int → St → Prop} {post : Int32 → Hp → Prop} (hp : ∀ (r : Int) (S : St) (M : Hp), US ad S M → rI r → Q r S → post (Int32.ofInt r) M) {w_x0 : Nat} {x0 : Int} (e_x0 : w_x0 = ad x0) (t_x0 : kt (20 + 6) x0) {w_x3 : Int32} {x3 : Int} (e_x3 : w_x3 = Int32.ofInt x3) (r_x3 : rI x3) {S : St} {M : Hp} (h : US ad S M) (hv : vMo_log_61 Q x0 x3 S) : wMo_log_61 post w_x0 w_x3 M := by
  subst e_x0
  subst e_x3
  unfold vMo_log_61 at hv
  unfold wMo_log_61
  refine g_fI h t_x0 rfl rfl ?_
  refine ek_if (c_le (show _ = Int32.ofInt (S x0 0) from rfl) LI_0 (g_rf (j := 0) h t_x0 rfl rfl) LI_0r) (fun g1 => ?_) (fun g1 => ?_)
  · replace hv := hv.1 g1
    exact aMo_log_73 hp  (show _ = Int32.ofInt x3 from rfl) r_x3 h hv
  · replace hv := hv.2 g1
    exact aMo_log_73 hp  LI_0 LI_0r h hv
def vMo_log_46 (Q : Int → St → Prop) (x0 : Int) (x1 : Int) (x2 : Int) (x3 : Int) (y0 : Int) (y1 : Int) (S : St) : Prop := (∀ S1 : St, S1 = up S y1 0 y0 → (((0 < (S1 x0 0) → (vMo_log_61 Q x0 x3 S1)) ∧ (¬ 0 < (S1 x0 0) → (((x1 = (-1) → (vMo_log_61 Q x0 x3 S1)) ∧ (¬ x1 = (-1) → (vpMo_logAt x0 x1 S1 (fun (r7 : Int) (S8 : St) => (((x2 = 0 → (((0 : Int) ≤ r7 ∧ (r7 : Int) < 2147483648) ∧ ((0 : Int) < 81 ∧ (81 : Int) < 2147483648) ∧ (rI (r7 / 81)) ∧ vMo_log_160 Q (r7 / 81) S8)) ∧ (¬ x2 = 0 → (((x2 = 1 → (((0 : Int) ≤ r7 ∧ (r7 : Int) < 2147483648) ∧ ((0 : Int) < 81 ∧ (81 : Int) < 2147483648) ∧ (rI (r7 % 81)) ∧ vMo_log_160 Q (r7 % 81) S8)) ∧ (¬ x2 = 1 → (((x2 = 2 → (((0 : Int) ≤ r7 ∧ (r7 : Int) < 486) ∧ (vMo_log_160 Q (S8 26 r7) S8))) ∧ (¬ x2 = 2 → (((x2 = 3 → (((0 : Int) ≤ r7 ∧ (r7 : Int) < 486) ∧ (vMo_log_160 Q (S8 27 r7) S8))) ∧ (¬ x2 = 3 → (((0 : Int) ≤ r7 ∧ (r7 : Int) < 486) ∧ (((0 : Int) ≤ r7 ∧ (r7 : Int) < 486) ∧ (((0 : Int) ≤ r7 ∧ (r7 : Int) < 2147483648) ∧ ((0 : Int) < 81 ∧ (81 : Int) < 2147483648) ∧ (rI (r7 / 81)) ∧ vpMo_worthOf x0 (r7 / 81) (S8 26 r7) (S8 27 r7) S8 (fun (r29 : Int) (S30 : St) => ((rI r29) ∧ vMo_log_160 Q r29 S30))))))))))))))))))))))))))
theorem aMo_log_46 {ad : Int → Nat} {Q : Int → St → Prop} {post : Int32 → Hp → Prop} (hp : ∀ (r : Int) (S : St) (M : Hp), US ad S M → rI r → Q r S → post (Int32.ofInt r) M) {w_x0 : Nat} {x0 : Int} (e_x0 : w_x0 = ad x0) (t_x0 : kt (20 + 6) x0) {w_x1 : Int32} {x1 : Int} (e_x1 : w_x1 = Int32.ofInt x1) (r_x1 : rI x1) {w_x2 : Int32} {x2 : Int} (e_x2 : w_x2 = Int32.ofInt x2) (r_x2 : rI x2) {w_x3 : Int32} {x3 : Int} (e_x3 : w_x3 = Int32.ofInt x3) (r_x3 : rI x3) {w_y0 : Int32} {y0 : Int} (e_y0 : w_y0 = Int32.ofInt y0) (r_y0 : rI y0) {w_y1 : Nat} {y1 : Int} (e_y1 : w_y1 = ad y1) (t_y1 : kt (20 + 6) y1) {S : St} {M : Hp} (h : US ad S M) (hv : vMo_log_46 Q x0 x1 x2 x3 y0 y1 S) : wMo_log_46 post w_x0 w_x1 w_x2 w_x3 w_y0 w_y1 M := by
  subst e_x0
  subst e_x1
  subst e_x2
  subst e_x3
  subst e_y0
  subst e_y1
  unfold vMo_log_46 at hv
  unfold wMo_log_46
  refine g_pI h t_y1 rfl rfl (show _ = Int32.ofInt y0 from rfl) r_y0 (fun S1 N2 e4 h3 => ?_)
  replace hv := hv S1 e4
  refine g_fI h3 t_x0 rfl rfl ?_
  refine ek_if (c_lt LI_0 (show _ = Int32.ofInt (S1 x0 0) from rfl) LI_0r (g_rf (j := 0) h3 t_x0 rfl rfl)) (fun g5 => ?_) (fun g5 => ?_)
  · replace hv := hv.1 g5
    exact aMo_log_61 hp  rfl t_x0 (show _ = Int32.ofInt x3 from rfl) r_x3 h3 hv
  · replace hv := hv.2 g5
    refine ek_if (c_eq (show _ = Int32.ofInt x1 from rfl) LI_m1 r_x1 LI_m1r) (fun g6 => ?_) (fun g6 => ?_)
    · replace hv := hv.1 g6
      exact aMo_log_61 hp  rfl t_x0 (show _ = Int32.ofInt x3 from rfl) r_x3 h3 hv
    · replace hv := hv.2 g6
      refine ⟨g_ob h3 t_x0, ?_⟩
      refine apMo_logAt (fun r7 S8 N9 h10 r11 hv => ?_) rfl t_x0 (show _ = Int32.ofInt x1 from rfl) r_x1 h3 hv
      refine ek_if (c_eq (show _ = Int32.ofInt x2 from rfl) LI_0 r_x2 LI_0r) (fun g12 => ?_) (fun g12 => ?_)
      · replace hv := hv.1 g12
        obtain ⟨c13, c14, c15, hv⟩ := hv
        exact aMo_log_160 hp  (h_div (show _ = Int32.ofInt r7 from rfl) LI_81 c13 c14) c15 h10 hv
      · replace hv := hv.2 g12
        refine ek_if (c_eq (show _ = Int32.ofInt x2 from rfl) LI_1 r_x2 LI_1r) (fun g16 => ?_) (fun g16 => ?_)
        · replace hv := hv.1 g16
          obtain ⟨c17, c18, c19, hv⟩ := hv
          exact aMo_log_160 hp  (h_rem (show _ = Int32.ofInt r7 from rfl) LI_81 c17 c18) c19 h10 hv
        · replace hv := hv.2 g16
          refine ek_if (c_eq (show _ = Int32.ofInt x2 from rfl) LI_2 r_x2 LI_2r) (fun g20 => ?_) (fun g20 => ?_)
          · replace hv := hv.1 g20
            refine g_fA h10 t_x0 rfl (rv_6_26 t_x0) ?_
            obtain ⟨c21, hv⟩ := hv
            refine g_aI h10 (show kt 1 26 by decide) (show alen 26 = 486 by decide) (show _ = Int32.ofInt r7 from rfl) c21 ?_
            exact aMo_log_160 hp  (show _ = Int32.ofInt (S8 26 r7) from rfl) (g_rI h10 (show kt 1 26 by decide) (by decide)) h10 hv
          · replace hv := hv.2 g20
            refine ek_if (c_eq (show _ = Int32.ofInt x2 from rfl) LI_3 r_x2 LI_3r) (fun g22 => ?_) (fun g22 => ?_)
            · replace hv := hv.1 g22
              refine g_fA h10 t_x0 rfl (rv_6_27 t_x0) ?_
              obtain ⟨c23, hv⟩ := hv
              refine g_aI h10 (show kt 1 27 by decide) (show alen 27 = 486 by decide) (show _ = Int32.ofInt r7 from rfl) c23 ?_
              exact aMo_log_160 hp  (show _ = Int32.ofInt (S8 27 r7) from rfl) (g_rI h10 (show kt 1 27 by decide) (by decide)) h10 hv
            · replace hv := hv.2 g22
              refine g_fA h10 t_x0 rfl (rv_6_26 t_x0) ?_
              obtain ⟨c24, hv⟩ := hv
              refine g_aI h10 (show kt 1 26 by decide) (show alen 26 = 486 by decide) (show _ = Int32.ofInt r7 from rfl) c24 ?_
              refine g_fA h10 t_x0 rfl (rv_6_27 t_x0) ?_
              obtain ⟨c25, hv⟩ := hv
              refine g_aI h10 (show kt 1 27 by decide) (show alen 27 = 486 by decide) (show _ = Int32.ofInt r7 from rfl) c25 ?_
              refine ⟨g_ob h10 t_x0, ?_⟩
              obtain ⟨c26, c27, c28, hv⟩ := hv
              refine apMo_worthOf (fun r29 S30 N31 h32 r33 hv => ?_) rfl t_x0 (h_div (show _ = Int32.ofInt r7 from rfl) LI_81 c26 c27) c28 (show _ = Int32.ofInt (S8 26 r7) from rfl) (g_rI h10 (show kt 1 26 by decide) (by decide)) (show _ = Int32.ofInt (S8 27 r7) from rfl) (g_rI h10 (show kt 1 27 by decide) (by decide)) h10 hv
              obtain ⟨c34, hv⟩ := hv
              exact aMo_log_160 hp  (H_toI (show _ = Int64.ofInt r29 from rfl) r33) c34 h32 hv
def vMo_log_25 (Q : Int → St → Prop) (x0 : Int) (x1 : Int) (x2 : Int) (x3 : Int) (y0 : Int) (S : St) : Prop := (vMo_log_46 Q x0 x1 x2 x3 2 y0 S)
theorem aMo_log_25 {ad : Int → Nat} {Q : Int → St → Prop} {post : Int32 → Hp → Prop} (hp : ∀ (r : Int) (S : St) (M : Hp), US ad S M → rI r → Q r S → post (Int32.ofInt r) M) {w_x0 : Nat} {x0 : Int} (e_x0 : w_x0 = ad x0) (t_x0 : kt (20 + 6) x0) {w_x1 : Int32} {x1 : Int} (e_x1 : w_x1 = Int32.ofInt x1) (r_x1 : rI x1) {w_x2 : Int32} {x2 : Int} (e_x2 : w_x2 = Int32.ofInt x2) (r_x2 : rI x2) {w_x3 : Int32} {x3 : Int} (e_x3 : w_x3 = Int32.ofInt x3) (r_x3 : rI x3) {w_y0 : Nat} {y0 : Int} (e_y0 : w_y0 = ad y0) (t_y0 : kt (20 + 6) y0) {S : St} {M : Hp} (h : US ad S M) (hv : vMo_log_25 Q x0 x1 x2 x3 y0 S) : wMo_log_25 post w_x0 w_x1 w_x2 w_x3 w_y0 M := by
  subst e_x0
  subst e_x1
  subst e_x2
  subst e_x3
  subst e_y0
  unfold vMo_log_25 at hv
  unfold wMo_log_25
  exact aMo_log_46 hp  rfl t_x0 (show _ = Int32.ofInt x1 from rfl) r_x1 (show _ = Int32.ofInt x2 from rfl) r_x2 (show _ = Int32.ofInt x3 from rfl) r_x3 LI_2 LI_2r rfl t_y0 h hv
def vpMo_log (self : Int) (p0 : Int) (p1 : Int) (S : St) (Q : Int → St → Prop) : Prop := (vpMo_none self S (fun (r1 : Int) (S2 : St) => (((r1 = 0 → (vpMo_logCount self S2 (fun (r7 : Int) (S8 : St) => (((p0 < (-1) → (vMo_log_25 Q self p0 p1 r7 self S8)) ∧ (¬ p0 < (-1) → (((p0 < r7 → (vpMo_isIn p1 0 4 S8 (fun (r14 : Int) (S15 : St) => (((r14 = 0 → (vMo_log_46 Q self p0 p1 r7 3 self S15)) ∧ (¬ r14 = 0 → (vMo_log_46 Q self p0 p1 r7 0 self S15))))))) ∧ (¬ p0 < r7 → (vMo_log_25 Q self p0 p1 r7 self S8)))))))))) ∧ (¬ r1 = 0 → (Q 0 S2))))))
theorem apMo_log {ad : Int → Nat} {Q : Int → St → Prop} {post : Int32 → Hp → Prop} (hp : ∀ (r : Int) (S : St) (M : Hp), US ad S M → rI r → Q r S → post (Int32.ofInt r) M) {w_self : Nat} {self : Int} (e_self : w_self = ad self) (t_self : kt (20 + 6) self) {w_p0 : Int32} {p0 : Int} (e_p0 : w_p0 = Int32.ofInt p0) (r_p0 : rI p0) {w_p1 : Int32} {p1 : Int} (e_p1 : w_p1 = Int32.ofInt p1) (r_p1 : rI p1) {S : St} {M : Hp} (h : US ad S M) (hv : vpMo_log self p0 p1 S Q) : wpMo_log w_self w_p0 w_p1 M post := by
  subst e_self
  subst e_p0
  subst e_p1
  unfold vpMo_log at hv
  unfold wpMo_log
  refine ⟨g_ob h t_self, ?_⟩
  refine apMo_none (fun r1 S2 N3 h4 r5 hv => ?_) rfl t_self h hv
  refine ek_if (c_eq (show _ = Int32.ofInt r1 from rfl) LI_0 r5 LI_0r) (fun g6 => ?_) (fun g6 => ?_)
  · replace hv := hv.1 g6
    refine ⟨g_ob h4 t_self, ?_⟩
    refine apMo_logCount (fun r7 S8 N9 h10 r11 hv => ?_) rfl t_self h4 hv
    refine ek_if (c_lt (show _ = Int32.ofInt p0 from rfl) LI_m1 r_p0 LI_m1r) (fun g12 => ?_) (fun g12 => ?_)
    · replace hv := hv.1 g12
      exact aMo_log_25 hp  rfl t_self (show _ = Int32.ofInt p0 from rfl) r_p0 (show _ = Int32.ofInt p1 from rfl) r_p1 (show _ = Int32.ofInt r7 from rfl) r11 rfl t_self h10 hv
    · replace hv := hv.2 g12
      refine ek_if (c_lt (show _ = Int32.ofInt p0 from rfl) (show _ = Int32.ofInt r7 from rfl) r_p0 r11) (fun g13 => ?_) (fun g13 => ?_)
      · replace hv := hv.1 g13
        refine apMo_isIn (fun r14 S15 N16 h17 r18 hv => ?_) (h_toL (show _ = Int32.ofInt p1 from rfl) r_p1) (rI_J r_p1) LJ_0 LJ_0r LJ_4 LJ_4r h10 hv
        refine ek_if (c_eq (show _ = Int32.ofInt r14 from rfl) LI_0 r18 LI_0r) (fun g19 => ?_) (fun g19 => ?_)
        · replace hv := hv.1 g19
          exact aMo_log_46 hp  rfl t_self (show _ = Int32.ofInt p0 from rfl) r_p0 (show _ = Int32.ofInt p1 from rfl) r_p1 (show _ = Int32.ofInt r7 from rfl) r11 LI_3 LI_3r rfl t_self h17 hv
        · replace hv := hv.2 g19
          exact aMo_log_46 hp  rfl t_self (show _ = Int32.ofInt p0 from rfl) r_p0 (show _ = Int32.ofInt p1 from rfl) r_p1 (show _ = Int32.ofInt r7 from rfl) r11 LI_0 LI_0r rfl t_self h17 hv
      · replace hv := hv.2 g13
        exact aMo_log_25 hp  rfl t_self (show _ = Int32.ofInt p0 from rfl) r_p0 (show _ = Int32.ofInt p1 from rfl) r_p1 (show _ = Int32.ofInt r7 from rfl) r11 rfl t_self h10 hv
  · replace hv := hv.2 g6
    refine ek_v (P := fun y => post y _) LI_0 ?_
    exact hp _ _ _ h4 LI_0r hv
def vMo_isFuel_30 (Q : Int → St → Prop) (y0 : Int) (S : St) : Prop := (((y0 : Int) = 0 ∨ (y0 : Int) = 1) ∧ (Q y0 S))
theorem aMo_isFuel_30 {ad : Int → Nat} {Q : Int → St → Prop} {post : Int32 → Hp → Prop} (hp : ∀ (r : Int) (S : St) (M : Hp), US ad S M → rI r → Q r S → post (Int32.ofInt r) M) {w_y0 : Int32} {y0 : Int} (e_y0 : w_y0 = Int32.ofInt y0) (r_y0 : rI y0) {S : St} {M : Hp} (h : US ad S M) (hv : vMo_isFuel_30 Q y0 S) : wMo_isFuel_30 post w_y0 M := by
  subst e_y0
  unfold vMo_isFuel_30 at hv
  unfold wMo_isFuel_30
  refine ⟨b01 (show _ = Int32.ofInt y0 from rfl) hv.1, ?_⟩
  replace hv := hv.2
  refine ek_v (P := fun y => post y _) (show _ = Int32.ofInt y0 from rfl) ?_
  exact hp _ _ _ h r_y0 hv
def vMo_isFuel_29 (Q : Int → St → Prop) (S : St) : Prop := (vMo_isFuel_30 Q 0 S)
theorem aMo_isFuel_29 {ad : Int → Nat} {Q : Int → St → Prop} {post : Int32 → Hp → Prop} (hp : ∀ (r : Int) (S : St) (M : Hp), US ad S M → rI r → Q r S → post (Int32.ofInt r) M)  {S : St} {M : Hp} (h : US ad S M) (hv : vMo_isFuel_29 Q  S) : wMo_isFuel_29 post  M := by
  unfold vMo_isFuel_29 at hv
  unfold wMo_isFuel_29
  exact aMo_isFuel_30 hp  LI_0 LI_0r h hv
def vpMo_isFuel (self : Int) (p0 : Int) (S : St) (Q : Int → St → Prop) : Prop := (((0 : Int) ≤ p0 ∧ (p0 : Int) < 2147483648) ∧ ((0 : Int) < 81 ∧ (81 : Int) < 2147483648) ∧ (rI (p0 / 81)) ∧ vpMo_stepsOf self (p0 / 81) S (fun (r4 : Int) (S5 : St) => (((0 : Int) ≤ p0 ∧ (p0 : Int) < 2147483648) ∧ ((0 : Int) < 81 ∧ (81 : Int) < 2147483648) ∧ (rI (p0 % 81)) ∧ ((r4 ≤ (p0 % 81) → (vMo_isFuel_29 Q  S5)) ∧ (¬ r4 ≤ (p0 % 81) → (((0 : Int) ≤ p0 ∧ (p0 : Int) < 486) ∧ ((((S5 25 p0) = 2 → (vMo_isFuel_30 Q 1 S5)) ∧ (¬ (S5 25 p0) = 2 → (vMo_isFuel_29 Q  S5))))))))))
theorem apMo_isFuel {ad : Int → Nat} {Q : Int → St → Prop} {post : Int32 → Hp → Prop} (hp : ∀ (r : Int) (S : St) (M : Hp), US ad S M → rI r → Q r S → post (Int32.ofInt r) M) {w_self : Nat} {self : Int} (e_self : w_self = ad self) (t_self : kt (20 + 6) self) {w_p0 : Int32} {p0 : Int} (e_p0 : w_p0 = Int32.ofInt p0) (r_p0 : rI p0) {S : St} {M : Hp} (h : US ad S M) (hv : vpMo_isFuel self p0 S Q) : wpMo_isFuel w_self w_p0 M post := by
  subst e_self
  subst e_p0
  unfold vpMo_isFuel at hv
  unfold wpMo_isFuel
  refine ⟨g_ob h t_self, ?_⟩
  obtain ⟨c1, c2, c3, hv⟩ := hv
  refine apMo_stepsOf (fun r4 S5 N6 h7 r8 hv => ?_) rfl t_self (h_div (show _ = Int32.ofInt p0 from rfl) LI_81 c1 c2) c3 h hv
  obtain ⟨c9, c10, c11, hv⟩ := hv
  refine ek_if (c_le (show _ = Int32.ofInt r4 from rfl) (h_rem (show _ = Int32.ofInt p0 from rfl) LI_81 c9 c10) r8 c11) (fun g12 => ?_) (fun g12 => ?_)
  · replace hv := hv.1 g12
    exact aMo_isFuel_29 hp   h7 hv
  · replace hv := hv.2 g12
    refine g_fA h7 t_self rfl (rv_6_25 t_self) ?_
    obtain ⟨c13, hv⟩ := hv
    refine g_aI h7 (show kt 1 25 by decide) (show alen 25 = 486 by decide) (show _ = Int32.ofInt p0 from rfl) c13 ?_
    refine ek_if (c_eq (show _ = Int32.ofInt (S5 25 p0) from rfl) LI_2 (g_rI h7 (show kt 1 25 by decide) (by decide)) LI_2r) (fun g14 => ?_) (fun g14 => ?_)
    · replace hv := hv.1 g14
      exact aMo_isFuel_30 hp  LI_1 LI_1r h7 hv
    · replace hv := hv.2 g14
      exact aMo_isFuel_29 hp   h7 hv
def vMo_beginsFuel_30 (Q : Int → St → Prop) (y0 : Int) (S : St) : Prop := (((y0 : Int) = 0 ∨ (y0 : Int) = 1) ∧ (Q y0 S))
theorem aMo_beginsFuel_30 {ad : Int → Nat} {Q : Int → St → Prop} {post : Int32 → Hp → Prop} (hp : ∀ (r : Int) (S : St) (M : Hp), US ad S M → rI r → Q r S → post (Int32.ofInt r) M) {w_y0 : Int32} {y0 : Int} (e_y0 : w_y0 = Int32.ofInt y0) (r_y0 : rI y0) {S : St} {M : Hp} (h : US ad S M) (hv : vMo_beginsFuel_30 Q y0 S) : wMo_beginsFuel_30 post w_y0 M := by
  subst e_y0
  unfold vMo_beginsFuel_30 at hv
  unfold wMo_beginsFuel_30
  refine ⟨b01 (show _ = Int32.ofInt y0 from rfl) hv.1, ?_⟩
  replace hv := hv.2
  refine ek_v (P := fun y => post y _) (show _ = Int32.ofInt y0 from rfl) ?_
  exact hp _ _ _ h r_y0 hv
def vMo_beginsFuel_29 (Q : Int → St → Prop) (S : St) : Prop := (vMo_beginsFuel_30 Q 0 S)
theorem aMo_beginsFuel_29 {ad : Int → Nat} {Q : Int → St → Prop} {post : Int32 → Hp → Prop} (hp : ∀ (r : Int) (S : St) (M : Hp), US ad S M → rI r → Q r S → post (Int32.ofInt r) M)  {S : St} {M : Hp} (h : US ad S M) (hv : vMo_beginsFuel_29 Q  S) : wMo_beginsFuel_29 post  M := by
  unfold vMo_beginsFuel_29 at hv
  unfold wMo_beginsFuel_29
  exact aMo_beginsFuel_30 hp  LI_0 LI_0r h hv
def vMo_beginsFuel_25 (Q : Int → St → Prop) (S : St) : Prop := (vMo_beginsFuel_30 Q 1 S)
theorem aMo_beginsFuel_25 {ad : Int → Nat} {Q : Int → St → Prop} {post : Int32 → Hp → Prop} (hp : ∀ (r : Int) (S : St) (M : Hp), US ad S M → rI r → Q r S → post (Int32.ofInt r) M)  {S : St} {M : Hp} (h : US ad S M) (hv : vMo_beginsFuel_25 Q  S) : wMo_beginsFuel_25 post  M := by
  unfold vMo_beginsFuel_25 at hv
  unfold wMo_beginsFuel_25
  exact aMo_beginsFuel_30 hp  LI_1 LI_1r h hv
def vpMo_beginsFuel (self : Int) (p0 : Int) (S : St) (Q : Int → St → Prop) : Prop := (vpMo_isFuel self p0 S (fun (r1 : Int) (S2 : St) => (((r1 = 0 → (vMo_beginsFuel_29 Q  S2)) ∧ (¬ r1 = 0 → (((0 : Int) ≤ p0 ∧ (p0 : Int) < 2147483648) ∧ ((0 : Int) < 81 ∧ (81 : Int) < 2147483648) ∧ (rI (p0 % 81)) ∧ (((p0 % 81) = 0 → (vMo_beginsFuel_25 Q  S2)) ∧ (¬ (p0 % 81) = 0 → ((rI (p0 - 1)) ∧ vpMo_isFuel self (p0 - 1) S2 (fun (r12 : Int) (S13 : St) => (((r12 = 0 → (vMo_beginsFuel_25 Q  S13)) ∧ (¬ r12 = 0 → (vMo_beginsFuel_29 Q  S13))))))))))))))
theorem apMo_beginsFuel {ad : Int → Nat} {Q : Int → St → Prop} {post : Int32 → Hp → Prop} (hp : ∀ (r : Int) (S : St) (M : Hp), US ad S M → rI r → Q r S → post (Int32.ofInt r) M) {w_self : Nat} {self : Int} (e_self : w_self = ad self) (t_self : kt (20 + 6) self) {w_p0 : Int32} {p0 : Int} (e_p0 : w_p0 = Int32.ofInt p0) (r_p0 : rI p0) {S : St} {M : Hp} (h : US ad S M) (hv : vpMo_beginsFuel self p0 S Q) : wpMo_beginsFuel w_self w_p0 M post := by
  subst e_self
  subst e_p0
  unfold vpMo_beginsFuel at hv
  unfold wpMo_beginsFuel
  refine ⟨g_ob h t_self, ?_⟩
  refine apMo_isFuel (fun r1 S2 N3 h4 r5 hv => ?_) rfl t_self (show _ = Int32.ofInt p0 from rfl) r_p0 h hv
  refine ek_if (c_eq (show _ = Int32.ofInt r1 from rfl) LI_0 r5 LI_0r) (fun g6 => ?_) (fun g6 => ?_)
  · replace hv := hv.1 g6
    exact aMo_beginsFuel_29 hp   h4 hv
  · replace hv := hv.2 g6
    obtain ⟨c7, c8, c9, hv⟩ := hv
    refine ek_if (c_eq (h_rem (show _ = Int32.ofInt p0 from rfl) LI_81 c7 c8) LI_0 c9 LI_0r) (fun g10 => ?_) (fun g10 => ?_)
    · replace hv := hv.1 g10
      exact aMo_beginsFuel_25 hp   h4 hv
    · replace hv := hv.2 g10
      refine ⟨g_ob h4 t_self, ?_⟩
      obtain ⟨c11, hv⟩ := hv
      refine apMo_isFuel (fun r12 S13 N14 h15 r16 hv => ?_) rfl t_self (h_sub (show _ = Int32.ofInt p0 from rfl) LI_1) c11 h4 hv
      refine ek_if (c_eq (show _ = Int32.ofInt r12 from rfl) LI_0 r16 LI_0r) (fun g17 => ?_) (fun g17 => ?_)
      · replace hv := hv.1 g17
        exact aMo_beginsFuel_25 hp   h15 hv
      · replace hv := hv.2 g17
        exact aMo_beginsFuel_29 hp   h15 hv
def vMo_fuelCount_30 (Q : Int → St → Prop) (K4 : Int → Int → Int → St → Prop) (x0 : Int) (x2 : Int) (y0 : Int) (S : St) : Prop := ((rI (x2 + 1)) ∧ ∀ z1 : Int, z1 = (x2 + 1) → (K4 x0 y0 z1 S))
theorem aMo_fuelCount_30 {ad : Int → Nat} {Q : Int → St → Prop} {K4 : Int → Int → Int → St → Prop} {post : Int32 → Hp → Prop} {k4 : Nat → Int32 → Int32 → Hp → Prop} (hp : ∀ (r : Int) (S : St) (M : Hp), US ad S M → rI r → Q r S → post (Int32.ofInt r) M) (hk4 : ∀ (b0 b1 b2 : Int) (S : St) (M : Hp), kt (20 + 6) b0 → rI b1 → rI b2 → US ad S M → K4 b0 b1 b2 S → k4 (ad b0) (Int32.ofInt b1) (Int32.ofInt b2) M) {w_x0 : Nat} {x0 : Int} (e_x0 : w_x0 = ad x0) (t_x0 : kt (20 + 6) x0) {w_x2 : Int32} {x2 : Int} (e_x2 : w_x2 = Int32.ofInt x2) (r_x2 : rI x2) {w_y0 : Int32} {y0 : Int} (e_y0 : w_y0 = Int32.ofInt y0) (r_y0 : rI y0) {S : St} {M : Hp} (h : US ad S M) (hv : vMo_fuelCount_30 Q K4 x0 x2 y0 S) : wMo_fuelCount_30 post k4 w_x0 w_x2 w_y0 M := by
  subst e_x0
  subst e_x2
  subst e_y0
  unfold vMo_fuelCount_30 at hv
  unfold wMo_fuelCount_30
  obtain ⟨c1, hv⟩ := hv
  refine nm_z (h_add (show _ = Int32.ofInt x2 from rfl) LI_1) (fun z1 e2 => ?_)
  have r3 : rI z1 := by rw [e2]; exact c1
  replace hv := hv z1 e2
  exact hk4 _ _ _ _ _ t_x0 r_y0 r3 h hv
def vMo_fuelCount_4 (Q : Int → St → Prop) : Nat → Int → Int → Int → St → Prop
  | 0 => fun _ _ _ _ => False
  | n + 1 => fun x0 x1 x2 S => ((rI (81 * (S x0 4))) ∧ (((81 * (S x0 4)) ≤ x2 → (Q x1 S)) ∧ (¬ (81 * (S x0 4)) ≤ x2 → (vpMo_beginsFuel x0 x2 S (fun (r3 : Int) (S4 : St) => (((r3 = 0 → (vMo_fuelCount_30 Q (vMo_fuelCount_4 Q n) x0 x2 x1 S4)) ∧ (¬ r3 = 0 → ((rI (x1 + 1)) ∧ vMo_fuelCount_30 Q (vMo_fuelCount_4 Q n) x0 x2 (x1 + 1) S4)))))))))
theorem aMo_fuelCount_4 {ad : Int → Nat} {Q : Int → St → Prop} {post : Int32 → Hp → Prop} (hp : ∀ (r : Int) (S : St) (M : Hp), US ad S M → rI r → Q r S → post (Int32.ofInt r) M) : ∀ (n : Nat) (w_x0 : Nat) (x0 : Int) (e_x0 : w_x0 = ad x0) (t_x0 : kt (20 + 6) x0) (w_x1 : Int32) (x1 : Int) (e_x1 : w_x1 = Int32.ofInt x1) (r_x1 : rI x1) (w_x2 : Int32) (x2 : Int) (e_x2 : w_x2 = Int32.ofInt x2) (r_x2 : rI x2) (S : St) (M : Hp), US ad S M → vMo_fuelCount_4 Q n x0 x1 x2 S → wMo_fuelCount_4 post n w_x0 w_x1 w_x2 M := by
  intro n
  induction n with
  | zero => intro w_x0 x0 e_x0 t_x0 w_x1 x1 e_x1 r_x1 w_x2 x2 e_x2 r_x2 S M h hv; exact hv.elim
  | succ n ih =>
    intro w_x0 x0 e_x0 t_x0 w_x1 x1 e_x1 r_x1 w_x2 x2 e_x2 r_x2 S M h hv
    subst e_x0
    subst e_x1
    subst e_x2
    unfold vMo_fuelCount_4 at hv
    unfold wMo_fuelCount_4
    refine g_fI h t_x0 rfl rfl ?_
    obtain ⟨c1, hv⟩ := hv
    refine ek_if (c_le (h_mul LI_81 (show _ = Int32.ofInt (S x0 4) from rfl)) (show _ = Int32.ofInt x2 from rfl) c1 r_x2) (fun g2 => ?_) (fun g2 => ?_)
    · replace hv := hv.1 g2
      refine ek_v (P := fun y => post y _) (show _ = Int32.ofInt x1 from rfl) ?_
      exact hp _ _ _ h r_x1 hv
    · replace hv := hv.2 g2
      refine ⟨g_ob h t_x0, ?_⟩
      refine apMo_beginsFuel (fun r3 S4 N5 h6 r7 hv => ?_) rfl t_x0 (show _ = Int32.ofInt x2 from rfl) r_x2 h hv
      refine ek_if (c_eq (show _ = Int32.ofInt r3 from rfl) LI_0 r7 LI_0r) (fun g8 => ?_) (fun g8 => ?_)
      · replace hv := hv.1 g8
        exact aMo_fuelCount_30 hp (fun b0 b1 b2 S9 M9 y0 y1 y2 h9 hv9 => ih _ b0 rfl y0 _ b1 rfl y1 _ b2 rfl y2 S9 M9 h9 hv9) rfl t_x0 (show _ = Int32.ofInt x2 from rfl) r_x2 (show _ = Int32.ofInt x1 from rfl) r_x1 h6 hv
      · replace hv := hv.2 g8
        obtain ⟨c9, hv⟩ := hv
        exact aMo_fuelCount_30 hp (fun b0 b1 b2 S9 M9 y0 y1 y2 h9 hv9 => ih _ b0 rfl y0 _ b1 rfl y1 _ b2 rfl y2 S9 M9 h9 hv9) rfl t_x0 (show _ = Int32.ofInt x2 from rfl) r_x2 (h_add (show _ = Int32.ofInt x1 from rfl) LI_1) c9 h6 hv
def vpMo_fuelCount (self : Int) (S : St) (Q : Int → St → Prop) : Prop := (∃ n11 : Nat, (vMo_fuelCount_4 Q n11 self 0 0 S))
theorem apMo_fuelCount {ad : Int → Nat} {Q : Int → St → Prop} {post : Int32 → Hp → Prop} (hp : ∀ (r : Int) (S : St) (M : Hp), US ad S M → rI r → Q r S → post (Int32.ofInt r) M) {w_self : Nat} {self : Int} (e_self : w_self = ad self) (t_self : kt (20 + 6) self) {S : St} {M : Hp} (h : US ad S M) (hv : vpMo_fuelCount self S Q) : wpMo_fuelCount w_self M post := by
  subst e_self
  unfold vpMo_fuelCount at hv
  unfold wpMo_fuelCount
  obtain ⟨n11, hv⟩ := hv
  refine ⟨n11, ?_⟩
  exact aMo_fuelCount_4 hp  n11 _ _ rfl t_self _ _ LI_0 LI_0r _ _ LI_0 LI_0r _ _ h hv
def vMo_fuel_179 (Q : Int → St → Prop) (y0 : Int) (S : St) : Prop := (Q y0 S)
theorem aMo_fuel_179 {ad : Int → Nat} {Q : Int → St → Prop} {post : Int32 → Hp → Prop} (hp : ∀ (r : Int) (S : St) (M : Hp), US ad S M → rI r → Q r S → post (Int32.ofInt r) M) {w_y0 : Int32} {y0 : Int} (e_y0 : w_y0 = Int32.ofInt y0) (r_y0 : rI y0) {S : St} {M : Hp} (h : US ad S M) (hv : vMo_fuel_179 Q y0 S) : wMo_fuel_179 post w_y0 M := by
  subst e_y0
  unfold vMo_fuel_179 at hv
  unfold wMo_fuel_179
  refine ek_v (P := fun y => post y _) (show _ = Int32.ofInt y0 from rfl) ?_
  exact hp _ _ _ h r_y0 hv
def vMo_fuel_152 (Q : Int → St → Prop) (x2 : Int) (x4 : Int) (x6 : Int) (S : St) : Prop := (((x2 = 0 → (((0 : Int) ≤ x4 ∧ (x4 : Int) < 2147483648) ∧ ((0 : Int) < 81 ∧ (81 : Int) < 2147483648) ∧ (rI (x4 / 81)) ∧ vMo_fuel_179 Q (x4 / 81) S)) ∧ (¬ x2 = 0 → (((x2 = 1 → (((0 : Int) ≤ x4 ∧ (x4 : Int) < 2147483648) ∧ ((0 : Int) < 81 ∧ (81 : Int) < 2147483648) ∧ (rI (x4 % 81)) ∧ vMo_fuel_179 Q (x4 % 81) S)) ∧ (¬ x2 = 1 → (vMo_fuel_179 Q x6 S)))))))
theorem aMo_fuel_152 {ad : Int → Nat} {Q : Int → St → Prop} {post : Int32 → Hp → Prop} (hp : ∀ (r : Int) (S : St) (M : Hp), US ad S M → rI r → Q r S → post (Int32.ofInt r) M) {w_x2 : Int32} {x2 : Int} (e_x2 : w_x2 = Int32.ofInt x2) (r_x2 : rI x2) {w_x4 : Int32} {x4 : Int} (e_x4 : w_x4 = Int32.ofInt x4) (r_x4 : rI x4) {w_x6 : Int32} {x6 : Int} (e_x6 : w_x6 = Int32.ofInt x6) (r_x6 : rI x6) {S : St} {M : Hp} (h : US ad S M) (hv : vMo_fuel_152 Q x2 x4 x6 S) : wMo_fuel_152 post w_x2 w_x4 w_x6 M := by
  subst e_x2
  subst e_x4
  subst e_x6
  unfold vMo_fuel_152 at hv
  unfold wMo_fuel_152
  refine ek_if (c_eq (show _ = Int32.ofInt x2 from rfl) LI_0 r_x2 LI_0r) (fun g1 => ?_) (fun g1 => ?_)
  · replace hv := hv.1 g1
    obtain ⟨c2, c3, c4, hv⟩ := hv
    exact aMo_fuel_179 hp  (h_div (show _ = Int32.ofInt x4 from rfl) LI_81 c2 c3) c4 h hv
  · replace hv := hv.2 g1
    refine ek_if (c_eq (show _ = Int32.ofInt x2 from rfl) LI_1 r_x2 LI_1r) (fun g5 => ?_) (fun g5 => ?_)
    · replace hv := hv.1 g5
      obtain ⟨c6, c7, c8, hv⟩ := hv
      exact aMo_fuel_179 hp  (h_rem (show _ = Int32.ofInt x4 from rfl) LI_81 c6 c7) c8 h hv
    · replace hv := hv.2 g5
      exact aMo_fuel_179 hp  (show _ = Int32.ofInt x6 from rfl) r_x6 h hv
def vMo_fuel_118 (Q : Int → St → Prop) : Nat → Int → Int → Int → Int → St → Prop
  | 0 => fun _ _ _ _ _ => False
  | n + 1 => fun x0 x2 x4 x6 S => ((rI (x4 + x6)) ∧ vpMo_isFuel x0 (x4 + x6) S (fun (r2 : Int) (S3 : St) => (((r2 = 0 → (vMo_fuel_152 Q x2 x4 x6 S3)) ∧ (¬ r2 = 0 → (((0 : Int) ≤ (x4 + x6) ∧ ((x4 + x6) : Int) < 2147483648) ∧ ((0 : Int) < 81 ∧ (81 : Int) < 2147483648) ∧ ((0 : Int) ≤ x4 ∧ (x4 : Int) < 2147483648) ∧ ((0 : Int) < 81 ∧ (81 : Int) < 2147483648) ∧ (rI ((x4 + x6) / 81)) ∧ (rI (x4 / 81)) ∧ ((((x4 + x6) / 81) = (x4 / 81) → ((rI (x6 + 1)) ∧ ∀ z8 : Int, z8 = (x6 + 1) → (vMo_fuel_118 Q n x0 x2 x4 z8 S3))) ∧ (¬ ((x4 + x6) / 81) = (x4 / 81) → (vMo_fuel_152 Q x2 x4 x6 S3)))))))))
theorem aMo_fuel_118 {ad : Int → Nat} {Q : Int → St → Prop} {post : Int32 → Hp → Prop} (hp : ∀ (r : Int) (S : St) (M : Hp), US ad S M → rI r → Q r S → post (Int32.ofInt r) M) : ∀ (n : Nat) (w_x0 : Nat) (x0 : Int) (e_x0 : w_x0 = ad x0) (t_x0 : kt (20 + 6) x0) (w_x2 : Int32) (x2 : Int) (e_x2 : w_x2 = Int32.ofInt x2) (r_x2 : rI x2) (w_x4 : Int32) (x4 : Int) (e_x4 : w_x4 = Int32.ofInt x4) (r_x4 : rI x4) (w_x6 : Int32) (x6 : Int) (e_x6 : w_x6 = Int32.ofInt x6) (r_x6 : rI x6) (S : St) (M : Hp), US ad S M → vMo_fuel_118 Q n x0 x2 x4 x6 S → wMo_fuel_118 post n w_x0 w_x2 w_x4 w_x6 M := by
  intro n
  induction n with
  | zero => intro w_x0 x0 e_x0 t_x0 w_x2 x2 e_x2 r_x2 w_x4 x4 e_x4 r_x4 w_x6 x6 e_x6 r_x6 S M h hv; exact hv.elim
  | succ n ih =>
    intro w_x0 x0 e_x0 t_x0 w_x2 x2 e_x2 r_x2 w_x4 x4 e_x4 r_x4 w_x6 x6 e_x6 r_x6 S M h hv
    subst e_x0
    subst e_x2
    subst e_x4
    subst e_x6
    unfold vMo_fuel_118 at hv
    unfold wMo_fuel_118
    refine ⟨g_ob h t_x0, ?_⟩
    obtain ⟨c1, hv⟩ := hv
    refine apMo_isFuel (fun r2 S3 N4 h5 r6 hv => ?_) rfl t_x0 (h_add (show _ = Int32.ofInt x4 from rfl) (show _ = Int32.ofInt x6 from rfl)) c1 h hv
    refine ek_if (c_eq (show _ = Int32.ofInt r2 from rfl) LI_0 r6 LI_0r) (fun g7 => ?_) (fun g7 => ?_)
    · replace hv := hv.1 g7
      exact aMo_fuel_152 hp  (show _ = Int32.ofInt x2 from rfl) r_x2 (show _ = Int32.ofInt x4 from rfl) r_x4 (show _ = Int32.ofInt x6 from rfl) r_x6 h5 hv
    · replace hv := hv.2 g7
      obtain ⟨c8, c9, c10, c11, c12, c13, hv⟩ := hv
      refine ek_if (c_eq (h_div (h_add (show _ = Int32.ofInt x4 from rfl) (show _ = Int32.ofInt x6 from rfl)) LI_81 c8 c9) (h_div (show _ = Int32.ofInt x4 from rfl) LI_81 c10 c11) c12 c13) (fun g14 => ?_) (fun g14 => ?_)
      · replace hv := hv.1 g14
        obtain ⟨c15, hv⟩ := hv
        refine nm_z (h_add (show _ = Int32.ofInt x6 from rfl) LI_1) (fun z8 e16 => ?_)
        have r17 : rI z8 := by rw [e16]; exact c15
        replace hv := hv z8 e16
        exact ih _ _ rfl t_x0 _ _ (show _ = Int32.ofInt x2 from rfl) r_x2 _ _ (show _ = Int32.ofInt x4 from rfl) r_x4 _ _ (show _ = Int32.ofInt z8 from rfl) r17 _ _ h5 hv
      · replace hv := hv.2 g14
        exact aMo_fuel_152 hp  (show _ = Int32.ofInt x2 from rfl) r_x2 (show _ = Int32.ofInt x4 from rfl) r_x4 (show _ = Int32.ofInt x6 from rfl) r_x6 h5 hv
def vMo_fuel_104 (Q : Int → St → Prop) (K80 : Int → Int → Int → Int → Int → St → Prop) (x0 : Int) (x1 : Int) (x2 : Int) (x4 : Int) (y0 : Int) (S : St) : Prop := ((rI (x4 + 1)) ∧ ∀ z9 : Int, z9 = (x4 + 1) → (K80 x0 x1 x2 z9 y0 S))
theorem aMo_fuel_104 {ad : Int → Nat} {Q : Int → St → Prop} {K80 : Int → Int → Int → Int → Int → St → Prop} {post : Int32 → Hp → Prop} {k80 : Nat → Int32 → Int32 → Int32 → Int32 → Hp → Prop} (hp : ∀ (r : Int) (S : St) (M : Hp), US ad S M → rI r → Q r S → post (Int32.ofInt r) M) (hk80 : ∀ (b0 b1 b2 b3 b4 : Int) (S : St) (M : Hp), kt (20 + 6) b0 → rI b1 → rI b2 → rI b3 → rI b4 → US ad S M → K80 b0 b1 b2 b3 b4 S → k80 (ad b0) (Int32.ofInt b1) (Int32.ofInt b2) (Int32.ofInt b3) (Int32.ofInt b4) M) {w_x0 : Nat} {x0 : Int} (e_x0 : w_x0 = ad x0) (t_x0 : kt (20 + 6) x0) {w_x1 : Int32} {x1 : Int} (e_x1 : w_x1 = Int32.ofInt x1) (r_x1 : rI x1) {w_x2 : Int32} {x2 : Int} (e_x2 : w_x2 = Int32.ofInt x2) (r_x2 : rI x2) {w_x4 : Int32} {x4 : Int} (e_x4 : w_x4 = Int32.ofInt x4) (r_x4 : rI x4) {w_y0 : Int32} {y0 : Int} (e_y0 : w_y0 = Int32.ofInt y0) (r_y0 : rI y0) {S : St} {M : Hp} (h : US ad S M) (hv : vMo_fuel_104 Q K80 x0 x1 x2 x4 y0 S) : wMo_fuel_104 post k80 w_x0 w_x1 w_x2 w_x4 w_y0 M := by
  subst e_x0
  subst e_x1
  subst e_x2
  subst e_x4
  subst e_y0
  unfold vMo_fuel_104 at hv
  unfold wMo_fuel_104
  obtain ⟨c1, hv⟩ := hv
  refine nm_z (h_add (show _ = Int32.ofInt x4 from rfl) LI_1) (fun z9 e2 => ?_)
  have r3 : rI z9 := by rw [e2]; exact c1
  replace hv := hv z9 e2
  exact hk80 _ _ _ _ _ _ _ t_x0 r_x1 r_x2 r3 r_y0 h hv
def vMo_fuel_80 (Q : Int → St → Prop) : Nat → Int → Int → Int → Int → Int → St → Prop
  | 0 => fun _ _ _ _ _ _ => False
  | n + 1 => fun x0 x1 x2 x4 x5 S => (((x1 < x5 → ((rI (x4 + (-1))) ∧ ∀ z11 : Int, z11 = (x4 + (-1)) → (∃ n12 : Nat, (vMo_fuel_118 Q n12 x0 x2 z11 1 S)))) ∧ (¬ x1 < x5 → (vpMo_beginsFuel x0 x4 S (fun (r5 : Int) (S6 : St) => (((r5 = 0 → (vMo_fuel_104 Q (vMo_fuel_80 Q n) x0 x1 x2 x4 x5 S6)) ∧ (¬ r5 = 0 → ((rI (x5 + 1)) ∧ vMo_fuel_104 Q (vMo_fuel_80 Q n) x0 x1 x2 x4 (x5 + 1) S6)))))))))
theorem aMo_fuel_80 {ad : Int → Nat} {Q : Int → St → Prop} {post : Int32 → Hp → Prop} (hp : ∀ (r : Int) (S : St) (M : Hp), US ad S M → rI r → Q r S → post (Int32.ofInt r) M) : ∀ (n : Nat) (w_x0 : Nat) (x0 : Int) (e_x0 : w_x0 = ad x0) (t_x0 : kt (20 + 6) x0) (w_x1 : Int32) (x1 : Int) (e_x1 : w_x1 = Int32.ofInt x1) (r_x1 : rI x1) (w_x2 : Int32) (x2 : Int) (e_x2 : w_x2 = Int32.ofInt x2) (r_x2 : rI x2) (w_x4 : Int32) (x4 : Int) (e_x4 : w_x4 = Int32.ofInt x4) (r_x4 : rI x4) (w_x5 : Int32) (x5 : Int) (e_x5 : w_x5 = Int32.ofInt x5) (r_x5 : rI x5) (S : St) (M : Hp), US ad S M → vMo_fuel_80 Q n x0 x1 x2 x4 x5 S → wMo_fuel_80 post n w_x0 w_x1 w_x2 w_x4 w_x5 M := by
  intro n
  induction n with
  | zero => intro w_x0 x0 e_x0 t_x0 w_x1 x1 e_x1 r_x1 w_x2 x2 e_x2 r_x2 w_x4 x4 e_x4 r_x4 w_x5 x5 e_x5 r_x5 S M h hv; exact hv.elim
  | succ n ih =>
    intro w_x0 x0 e_x0 t_x0 w_x1 x1 e_x1 r_x1 w_x2 x2 e_x2 r_x2 w_x4 x4 e_x4 r_x4 w_x5 x5 e_x5 r_x5 S M h hv
    subst e_x0
    subst e_x1
    subst e_x2
    subst e_x4
    subst e_x5
    unfold vMo_fuel_80 at hv
    unfold wMo_fuel_80
    refine ek_if (c_lt (show _ = Int32.ofInt x1 from rfl) (show _ = Int32.ofInt x5 from rfl) r_x1 r_x5) (fun g1 => ?_) (fun g1 => ?_)
    · replace hv := hv.1 g1
      obtain ⟨c2, hv⟩ := hv
      refine nm_z (h_add (show _ = Int32.ofInt x4 from rfl) LI_m1) (fun z11 e3 => ?_)
      have r4 : rI z11 := by rw [e3]; exact c2
      replace hv := hv z11 e3
      obtain ⟨n12, hv⟩ := hv
      refine ⟨n12, ?_⟩
      exact aMo_fuel_118 hp  n12 _ _ rfl t_x0 _ _ (show _ = Int32.ofInt x2 from rfl) r_x2 _ _ (show _ = Int32.ofInt z11 from rfl) r4 _ _ LI_1 LI_1r _ _ h hv
    · replace hv := hv.2 g1
      refine ⟨g_ob h t_x0, ?_⟩
      refine apMo_beginsFuel (fun r5 S6 N7 h8 r9 hv => ?_) rfl t_x0 (show _ = Int32.ofInt x4 from rfl) r_x4 h hv
      refine ek_if (c_eq (show _ = Int32.ofInt r5 from rfl) LI_0 r9 LI_0r) (fun g10 => ?_) (fun g10 => ?_)
      · replace hv := hv.1 g10
        exact aMo_fuel_104 hp (fun b0 b1 b2 b3 b4 S9 M9 y0 y1 y2 y3 y4 h9 hv9 => ih _ b0 rfl y0 _ b1 rfl y1 _ b2 rfl y2 _ b3 rfl y3 _ b4 rfl y4 S9 M9 h9 hv9) rfl t_x0 (show _ = Int32.ofInt x1 from rfl) r_x1 (show _ = Int32.ofInt x2 from rfl) r_x2 (show _ = Int32.ofInt x4 from rfl) r_x4 (show _ = Int32.ofInt x5 from rfl) r_x5 h8 hv
      · replace hv := hv.2 g10
        obtain ⟨c11, hv⟩ := hv
        exact aMo_fuel_104 hp (fun b0 b1 b2 b3 b4 S9 M9 y0 y1 y2 y3 y4 h9 hv9 => ih _ b0 rfl y0 _ b1 rfl y1 _ b2 rfl y2 _ b3 rfl y3 _ b4 rfl y4 S9 M9 h9 hv9) rfl t_x0 (show _ = Int32.ofInt x1 from rfl) r_x1 (show _ = Int32.ofInt x2 from rfl) r_x2 (show _ = Int32.ofInt x4 from rfl) r_x4 (h_add (show _ = Int32.ofInt x5 from rfl) LI_1) c11 h8 hv
def vMo_fuel_73 (Q : Int → St → Prop) (y0 : Int) (S : St) : Prop := (Q y0 S)
theorem aMo_fuel_73 {ad : Int → Nat} {Q : Int → St → Prop} {post : Int32 → Hp → Prop} (hp : ∀ (r : Int) (S : St) (M : Hp), US ad S M → rI r → Q r S → post (Int32.ofInt r) M) {w_y0 : Int32} {y0 : Int} (e_y0 : w_y0 = Int32.ofInt y0) (r_y0 : rI y0) {S : St} {M : Hp} (h : US ad S M) (hv : vMo_fuel_73 Q y0 S) : wMo_fuel_73 post w_y0 M := by
  subst e_y0
  unfold vMo_fuel_73 at hv
  unfold wMo_fuel_73
  refine ek_v (P := fun y => post y _) (show _ = Int32.ofInt y0 from rfl) ?_
  exact hp _ _ _ h r_y0 hv
def vMo_fuel_61 (Q : Int → St → Prop) (x0 : Int) (x3 : Int) (S : St) : Prop := ((((S x0 0) ≤ 0 → (vMo_fuel_73 Q x3 S)) ∧ (¬ (S x0 0) ≤ 0 → (vMo_fuel_73 Q 0 S))))
theorem aMo_fuel_61 {ad : Int → Nat} {Q : Int → St → Prop} {post : Int32 → Hp → Prop} (hp : ∀ (r : Int) (S : St) (M : Hp), US ad S M → rI r → Q r S → post (Int32.ofInt r) M) {w_x0 : Nat} {x0 : Int} (e_x0 : w_x0 = ad x0) (t_x0 : kt (20 + 6) x0) {w_x3 : Int32} {x3 : Int} (e_x3 : w_x3 = Int32.ofInt x3) (r_x3 : rI x3) {S : St} {M : Hp} (h : US ad S M) (hv : vMo_fuel_61 Q x0 x3 S) : wMo_fuel_61 post w_x0 w_x3 M := by
  subst e_x0
  subst e_x3
  unfold vMo_fuel_61 at hv
  unfold wMo_fuel_61
  refine g_fI h t_x0 rfl rfl ?_
  refine ek_if (c_le (show _ = Int32.ofInt (S x0 0) from rfl) LI_0 (g_rf (j := 0) h t_x0 rfl rfl) LI_0r) (fun g1 => ?_) (fun g1 => ?_)
  · replace hv := hv.1 g1
    exact aMo_fuel_73 hp  (show _ = Int32.ofInt x3 from rfl) r_x3 h hv
  · replace hv := hv.2 g1
    exact aMo_fuel_73 hp  LI_0 LI_0r h hv
def vMo_fuel_46 (Q : Int → St → Prop) (x0 : Int) (x1 : Int) (x2 : Int) (x3 : Int) (y0 : Int) (y1 : Int) (S : St) : Prop := (∀ S1 : St, S1 = up S y1 0 y0 → (((0 < (S1 x0 0) → (vMo_fuel_61 Q x0 x3 S1)) ∧ (¬ 0 < (S1 x0 0) → (((x1 = (-1) → (vMo_fuel_61 Q x0 x3 S1)) ∧ (¬ x1 = (-1) → (∃ n32 : Nat, (vMo_fuel_80 Q n32 x0 x1 x2 0 0 S1)))))))))
theorem aMo_fuel_46 {ad : Int → Nat} {Q : Int → St → Prop} {post : Int32 → Hp → Prop} (hp : ∀ (r : Int) (S : St) (M : Hp), US ad S M → rI r → Q r S → post (Int32.ofInt r) M) {w_x0 : Nat} {x0 : Int} (e_x0 : w_x0 = ad x0) (t_x0 : kt (20 + 6) x0) {w_x1 : Int32} {x1 : Int} (e_x1 : w_x1 = Int32.ofInt x1) (r_x1 : rI x1) {w_x2 : Int32} {x2 : Int} (e_x2 : w_x2 = Int32.ofInt x2) (r_x2 : rI x2) {w_x3 : Int32} {x3 : Int} (e_x3 : w_x3 = Int32.ofInt x3) (r_x3 : rI x3) {w_y0 : Int32} {y0 : Int} (e_y0 : w_y0 = Int32.ofInt y0) (r_y0 : rI y0) {w_y1 : Nat} {y1 : Int} (e_y1 : w_y1 = ad y1) (t_y1 : kt (20 + 6) y1) {S : St} {M : Hp} (h : US ad S M) (hv : vMo_fuel_46 Q x0 x1 x2 x3 y0 y1 S) : wMo_fuel_46 post w_x0 w_x1 w_x2 w_x3 w_y0 w_y1 M := by
  subst e_x0
  subst e_x1
  subst e_x2
  subst e_x3
  subst e_y0
  subst e_y1
  unfold vMo_fuel_46 at hv
  unfold wMo_fuel_46
  refine g_pI h t_y1 rfl rfl (show _ = Int32.ofInt y0 from rfl) r_y0 (fun S1 N2 e4 h3 => ?_)
  replace hv := hv S1 e4
  refine g_fI h3 t_x0 rfl rfl ?_
  refine ek_if (c_lt LI_0 (show _ = Int32.ofInt (S1 x0 0) from rfl) LI_0r (g_rf (j := 0) h3 t_x0 rfl rfl)) (fun g5 => ?_) (fun g5 => ?_)
  · replace hv := hv.1 g5
    exact aMo_fuel_61 hp  rfl t_x0 (show _ = Int32.ofInt x3 from rfl) r_x3 h3 hv
  · replace hv := hv.2 g5
    refine ek_if (c_eq (show _ = Int32.ofInt x1 from rfl) LI_m1 r_x1 LI_m1r) (fun g6 => ?_) (fun g6 => ?_)
    · replace hv := hv.1 g6
      exact aMo_fuel_61 hp  rfl t_x0 (show _ = Int32.ofInt x3 from rfl) r_x3 h3 hv
    · replace hv := hv.2 g6
      obtain ⟨n32, hv⟩ := hv
      refine ⟨n32, ?_⟩
      exact aMo_fuel_80 hp  n32 _ _ rfl t_x0 _ _ (show _ = Int32.ofInt x1 from rfl) r_x1 _ _ (show _ = Int32.ofInt x2 from rfl) r_x2 _ _ LI_0 LI_0r _ _ LI_0 LI_0r _ _ h3 hv
def vMo_fuel_25 (Q : Int → St → Prop) (x0 : Int) (x1 : Int) (x2 : Int) (x3 : Int) (y0 : Int) (S : St) : Prop := (vMo_fuel_46 Q x0 x1 x2 x3 2 y0 S)
theorem aMo_fuel_25 {ad : Int → Nat} {Q : Int → St → Prop} {post : Int32 → Hp → Prop} (hp : ∀ (r : Int) (S : St) (M : Hp), US ad S M → rI r → Q r S → post (Int32.ofInt r) M) {w_x0 : Nat} {x0 : Int} (e_x0 : w_x0 = ad x0) (t_x0 : kt (20 + 6) x0) {w_x1 : Int32} {x1 : Int} (e_x1 : w_x1 = Int32.ofInt x1) (r_x1 : rI x1) {w_x2 : Int32} {x2 : Int} (e_x2 : w_x2 = Int32.ofInt x2) (r_x2 : rI x2) {w_x3 : Int32} {x3 : Int} (e_x3 : w_x3 = Int32.ofInt x3) (r_x3 : rI x3) {w_y0 : Nat} {y0 : Int} (e_y0 : w_y0 = ad y0) (t_y0 : kt (20 + 6) y0) {S : St} {M : Hp} (h : US ad S M) (hv : vMo_fuel_25 Q x0 x1 x2 x3 y0 S) : wMo_fuel_25 post w_x0 w_x1 w_x2 w_x3 w_y0 M := by
  subst e_x0
  subst e_x1
  subst e_x2
  subst e_x3
  subst e_y0
  unfold vMo_fuel_25 at hv
  unfold wMo_fuel_25
  exact aMo_fuel_46 hp  rfl t_x0 (show _ = Int32.ofInt x1 from rfl) r_x1 (show _ = Int32.ofInt x2 from rfl) r_x2 (show _ = Int32.ofInt x3 from rfl) r_x3 LI_2 LI_2r rfl t_y0 h hv
def vpMo_fuel (self : Int) (p0 : Int) (p1 : Int) (S : St) (Q : Int → St → Prop) : Prop := (vpMo_none self S (fun (r1 : Int) (S2 : St) => (((r1 = 0 → (vpMo_fuelCount self S2 (fun (r7 : Int) (S8 : St) => (((p0 < (-1) → (vMo_fuel_25 Q self p0 p1 r7 self S8)) ∧ (¬ p0 < (-1) → (((p0 < r7 → (vpMo_isIn p1 0 2 S8 (fun (r14 : Int) (S15 : St) => (((r14 = 0 → (vMo_fuel_46 Q self p0 p1 r7 3 self S15)) ∧ (¬ r14 = 0 → (vMo_fuel_46 Q self p0 p1 r7 0 self S15))))))) ∧ (¬ p0 < r7 → (vMo_fuel_25 Q self p0 p1 r7 self S8)))))))))) ∧ (¬ r1 = 0 → (Q 0 S2))))))
theorem apMo_fuel {ad : Int → Nat} {Q : Int → St → Prop} {post : Int32 → Hp → Prop} (hp : ∀ (r : Int) (S : St) (M : Hp), US ad S M → rI r → Q r S → post (Int32.ofInt r) M) {w_self : Nat} {self : Int} (e_self : w_self = ad self) (t_self : kt (20 + 6) self) {w_p0 : Int32} {p0 : Int} (e_p0 : w_p0 = Int32.ofInt p0) (r_p0 : rI p0) {w_p1 : Int32} {p1 : Int} (e_p1 : w_p1 = Int32.ofInt p1) (r_p1 : rI p1) {S : St} {M : Hp} (h : US ad S M) (hv : vpMo_fuel self p0 p1 S Q) : wpMo_fuel w_self w_p0 w_p1 M post := by
  subst e_self
  subst e_p0
  subst e_p1
  unfold vpMo_fuel at hv
  unfold wpMo_fuel
  refine ⟨g_ob h t_self, ?_⟩
  refine apMo_none (fun r1 S2 N3 h4 r5 hv => ?_) rfl t_self h hv
  refine ek_if (c_eq (show _ = Int32.ofInt r1 from rfl) LI_0 r5 LI_0r) (fun g6 => ?_) (fun g6 => ?_)
  · replace hv := hv.1 g6
    refine ⟨g_ob h4 t_self, ?_⟩
    refine apMo_fuelCount (fun r7 S8 N9 h10 r11 hv => ?_) rfl t_self h4 hv
    refine ek_if (c_lt (show _ = Int32.ofInt p0 from rfl) LI_m1 r_p0 LI_m1r) (fun g12 => ?_) (fun g12 => ?_)
    · replace hv := hv.1 g12
      exact aMo_fuel_25 hp  rfl t_self (show _ = Int32.ofInt p0 from rfl) r_p0 (show _ = Int32.ofInt p1 from rfl) r_p1 (show _ = Int32.ofInt r7 from rfl) r11 rfl t_self h10 hv
    · replace hv := hv.2 g12
      refine ek_if (c_lt (show _ = Int32.ofInt p0 from rfl) (show _ = Int32.ofInt r7 from rfl) r_p0 r11) (fun g13 => ?_) (fun g13 => ?_)
      · replace hv := hv.1 g13
        refine apMo_isIn (fun r14 S15 N16 h17 r18 hv => ?_) (h_toL (show _ = Int32.ofInt p1 from rfl) r_p1) (rI_J r_p1) LJ_0 LJ_0r LJ_2 LJ_2r h10 hv
        refine ek_if (c_eq (show _ = Int32.ofInt r14 from rfl) LI_0 r18 LI_0r) (fun g19 => ?_) (fun g19 => ?_)
        · replace hv := hv.1 g19
          exact aMo_fuel_46 hp  rfl t_self (show _ = Int32.ofInt p0 from rfl) r_p0 (show _ = Int32.ofInt p1 from rfl) r_p1 (show _ = Int32.ofInt r7 from rfl) r11 LI_3 LI_3r rfl t_self h17 hv
        · replace hv := hv.2 g19
          exact aMo_fuel_46 hp  rfl t_self (show _ = Int32.ofInt p0 from rfl) r_p0 (show _ = Int32.ofInt p1 from rfl) r_p1 (show _ = Int32.ofInt r7 from rfl) r11 LI_0 LI_0r rfl t_self h17 hv
      · replace hv := hv.2 g13
        exact aMo_fuel_25 hp  rfl t_self (show _ = Int32.ofInt p0 from rfl) r_p0 (show _ = Int32.ofInt p1 from rfl) r_p1 (show _ = Int32.ofInt r7 from rfl) r11 rfl t_self h10 hv
  · replace hv := hv.2 g6
    refine ek_v (P := fun y => post y _) LI_0 ?_
    exact hp _ _ _ h4 LI_0r hv
def vMo_bound_15 (Q : Int → St → Prop) (y0 : Int) (S : St) : Prop := (Q y0 S)
theorem aMo_bound_15 {ad : Int → Nat} {Q : Int → St → Prop} {post : Int64 → Hp → Prop} (hp : ∀ (r : Int) (S : St) (M : Hp), US ad S M → rJ r → Q r S → post (Int64.ofInt r) M) {w_y0 : Int64} {y0 : Int} (e_y0 : w_y0 = Int64.ofInt y0) (r_y0 : rJ y0) {S : St} {M : Hp} (h : US ad S M) (hv : vMo_bound_15 Q y0 S) : wMo_bound_15 post w_y0 M := by
  subst e_y0
  unfold vMo_bound_15 at hv
  unfold wMo_bound_15
  refine ek_v (P := fun y => post y _) (show _ = Int64.ofInt y0 from rfl) ?_
  exact hp _ _ _ h r_y0 hv
def vpMo_bound (self : Int) (S : St) (Q : Int → St → Prop) : Prop := (vpMo_none self S (fun (r1 : Int) (S2 : St) => (((r1 = 0 → (vMo_bound_15 Q (S2 self 35) S2)) ∧ (¬ r1 = 0 → (vMo_bound_15 Q 0 S2))))))
theorem apMo_bound {ad : Int → Nat} {Q : Int → St → Prop} {post : Int64 → Hp → Prop} (hp : ∀ (r : Int) (S : St) (M : Hp), US ad S M → rJ r → Q r S → post (Int64.ofInt r) M) {w_self : Nat} {self : Int} (e_self : w_self = ad self) (t_self : kt (20 + 6) self) {S : St} {M : Hp} (h : US ad S M) (hv : vpMo_bound self S Q) : wpMo_bound w_self M post := by
  subst e_self
  unfold vpMo_bound at hv
  unfold wpMo_bound
  refine ⟨g_ob h t_self, ?_⟩
  refine apMo_none (fun r1 S2 N3 h4 r5 hv => ?_) rfl t_self h hv
  refine ek_if (c_eq (show _ = Int32.ofInt r1 from rfl) LI_0 r5 LI_0r) (fun g6 => ?_) (fun g6 => ?_)
  · replace hv := hv.1 g6
    refine g_fJ h4 t_self rfl rfl ?_
    exact aMo_bound_15 hp  (show _ = Int64.ofInt (S2 self 35) from rfl) (g_rF (j := 35) h4 t_self rfl rfl) h4 hv
  · replace hv := hv.2 g6
    exact aMo_bound_15 hp  LJ_0 LJ_0r h4 hv
def vMo_price_83 (Q : Int → St → Prop) (y0 : Int) (S : St) : Prop := (Q y0 S)
theorem aMo_price_83 {ad : Int → Nat} {Q : Int → St → Prop} {post : Int64 → Hp → Prop} (hp : ∀ (r : Int) (S : St) (M : Hp), US ad S M → rJ r → Q r S → post (Int64.ofInt r) M) {w_y0 : Int64} {y0 : Int} (e_y0 : w_y0 = Int64.ofInt y0) (r_y0 : rJ y0) {S : St} {M : Hp} (h : US ad S M) (hv : vMo_price_83 Q y0 S) : wMo_price_83 post w_y0 M := by
  subst e_y0
  unfold vMo_price_83 at hv
  unfold wMo_price_83
  refine ek_v (P := fun y => post y _) (show _ = Int64.ofInt y0 from rfl) ?_
  exact hp _ _ _ h r_y0 hv
def vMo_price_36 (Q : Int → St → Prop) (x0 : Int) (x1 : Int) (x2 : Int) (y0 : Int) (y1 : Int) (S : St) : Prop := (∀ S1 : St, S1 = up S y1 0 y0 → ((((S1 x0 0) ≤ 0 → (((x2 = 0 → (((0 : Int) ≤ x1 ∧ (x1 : Int) < 8) ∧ (vMo_price_83 Q (S1 24 x1) S1))) ∧ (¬ x2 = 0 → (((x2 = 1 → (vpMo_countOf x0 x1 S1 (fun (r9 : Int) (S10 : St) => (vMo_price_83 Q r9 S10)))) ∧ (¬ x2 = 1 → (((0 : Int) ≤ x1 ∧ (x1 : Int) < 8) ∧ (vMo_price_83 Q (S1 21 x1) S1))))))))) ∧ (¬ (S1 x0 0) ≤ 0 → (vMo_price_83 Q 0 S1)))))
theorem aMo_price_36 {ad : Int → Nat} {Q : Int → St → Prop} {post : Int64 → Hp → Prop} (hp : ∀ (r : Int) (S : St) (M : Hp), US ad S M → rJ r → Q r S → post (Int64.ofInt r) M) {w_x0 : Nat} {x0 : Int} (e_x0 : w_x0 = ad x0) (t_x0 : kt (20 + 6) x0) {w_x1 : Int32} {x1 : Int} (e_x1 : w_x1 = Int32.ofInt x1) (r_x1 : rI x1) {w_x2 : Int32} {x2 : Int} (e_x2 : w_x2 = Int32.ofInt x2) (r_x2 : rI x2) {w_y0 : Int32} {y0 : Int} (e_y0 : w_y0 = Int32.ofInt y0) (r_y0 : rI y0) {w_y1 : Nat} {y1 : Int} (e_y1 : w_y1 = ad y1) (t_y1 : kt (20 + 6) y1) {S : St} {M : Hp} (h : US ad S M) (hv : vMo_price_36 Q x0 x1 x2 y0 y1 S) : wMo_price_36 post w_x0 w_x1 w_x2 w_y0 w_y1 M := by
  subst e_x0
  subst e_x1
  subst e_x2
  subst e_y0
  subst e_y1
  unfold vMo_price_36 at hv
  unfold wMo_price_36
  refine g_pI h t_y1 rfl rfl (show _ = Int32.ofInt y0 from rfl) r_y0 (fun S1 N2 e4 h3 => ?_)
  replace hv := hv S1 e4
  refine g_fI h3 t_x0 rfl rfl ?_
  refine ek_if (c_le (show _ = Int32.ofInt (S1 x0 0) from rfl) LI_0 (g_rf (j := 0) h3 t_x0 rfl rfl) LI_0r) (fun g5 => ?_) (fun g5 => ?_)
  · replace hv := hv.1 g5
    refine ek_if (c_eq (show _ = Int32.ofInt x2 from rfl) LI_0 r_x2 LI_0r) (fun g6 => ?_) (fun g6 => ?_)
    · replace hv := hv.1 g6
      refine g_fA h3 t_x0 rfl (rv_6_24 t_x0) ?_
      obtain ⟨c7, hv⟩ := hv
      refine g_aJ h3 (show kt 3 24 by decide) (show alen 24 = 8 by decide) (show _ = Int32.ofInt x1 from rfl) c7 ?_
      exact aMo_price_83 hp  (show _ = Int64.ofInt (S1 24 x1) from rfl) (g_rJ h3 (show kt 3 24 by decide)) h3 hv
    · replace hv := hv.2 g6
      refine ek_if (c_eq (show _ = Int32.ofInt x2 from rfl) LI_1 r_x2 LI_1r) (fun g8 => ?_) (fun g8 => ?_)
      · replace hv := hv.1 g8
        refine ⟨g_ob h3 t_x0, ?_⟩
        refine apMo_countOf (fun r9 S10 N11 h12 r13 hv => ?_) rfl t_x0 (show _ = Int32.ofInt x1 from rfl) r_x1 h3 hv
        exact aMo_price_83 hp  (h_toL (show _ = Int32.ofInt r9 from rfl) r13) (rI_J r13) h12 hv
      · replace hv := hv.2 g8
        refine g_fA h3 t_x0 rfl (rv_6_21 t_x0) ?_
        obtain ⟨c14, hv⟩ := hv
        refine g_aJ h3 (show kt 3 21 by decide) (show alen 21 = 8 by decide) (show _ = Int32.ofInt x1 from rfl) c14 ?_
        exact aMo_price_83 hp  (show _ = Int64.ofInt (S1 21 x1) from rfl) (g_rJ h3 (show kt 3 21 by decide)) h3 hv
  · replace hv := hv.2 g5
    exact aMo_price_83 hp  LJ_0 LJ_0r h3 hv
def vMo_price_31 (Q : Int → St → Prop) (x0 : Int) (x1 : Int) (x2 : Int) (y0 : Int) (S : St) : Prop := (vMo_price_36 Q x0 x1 x2 2 y0 S)
theorem aMo_price_31 {ad : Int → Nat} {Q : Int → St → Prop} {post : Int64 → Hp → Prop} (hp : ∀ (r : Int) (S : St) (M : Hp), US ad S M → rJ r → Q r S → post (Int64.ofInt r) M) {w_x0 : Nat} {x0 : Int} (e_x0 : w_x0 = ad x0) (t_x0 : kt (20 + 6) x0) {w_x1 : Int32} {x1 : Int} (e_x1 : w_x1 = Int32.ofInt x1) (r_x1 : rI x1) {w_x2 : Int32} {x2 : Int} (e_x2 : w_x2 = Int32.ofInt x2) (r_x2 : rI x2) {w_y0 : Nat} {y0 : Int} (e_y0 : w_y0 = ad y0) (t_y0 : kt (20 + 6) y0) {S : St} {M : Hp} (h : US ad S M) (hv : vMo_price_31 Q x0 x1 x2 y0 S) : wMo_price_31 post w_x0 w_x1 w_x2 w_y0 M := by
  subst e_x0
  subst e_x1
  subst e_x2
  subst e_y0
  unfold vMo_price_31 at hv
  unfold wMo_price_31
  exact aMo_price_36 hp  rfl t_x0 (show _ = Int32.ofInt x1 from rfl) r_x1 (show _ = Int32.ofInt x2 from rfl) r_x2 LI_2 LI_2r rfl t_y0 h hv
def vpMo_price (self : Int) (p0 : Int) (p1 : Int) (S : St) (Q : Int → St → Prop) : Prop := (vpMo_none self S (fun (r1 : Int) (S2 : St) => (((r1 = 0 → (((p0 < 0 → (vMo_price_31 Q self p0 p1 self S2)) ∧ (¬ p0 < 0 → ((((S2 self 14) ≤ p0 → (vMo_price_31 Q self p0 p1 self S2)) ∧ (¬ (S2 self 14) ≤ p0 → (((p1 < 0 → (vMo_price_31 Q self p0 p1 self S2)) ∧ (¬ p1 < 0 → (((p1 ≤ 2 → (vMo_price_36 Q self p0 p1 0 self S2)) ∧ (¬ p1 ≤ 2 → (vMo_price_31 Q self p0 p1 self S2)))))))))))))) ∧ (¬ r1 = 0 → (Q 0 S2))))))
theorem apMo_price {ad : Int → Nat} {Q : Int → St → Prop} {post : Int64 → Hp → Prop} (hp : ∀ (r : Int) (S : St) (M : Hp), US ad S M → rJ r → Q r S → post (Int64.ofInt r) M) {w_self : Nat} {self : Int} (e_self : w_self = ad self) (t_self : kt (20 + 6) self) {w_p0 : Int32} {p0 : Int} (e_p0 : w_p0 = Int32.ofInt p0) (r_p0 : rI p0) {w_p1 : Int32} {p1 : Int} (e_p1 : w_p1 = Int32.ofInt p1) (r_p1 : rI p1) {S : St} {M : Hp} (h : US ad S M) (hv : vpMo_price self p0 p1 S Q) : wpMo_price w_self w_p0 w_p1 M post := by
  subst e_self
  subst e_p0
  subst e_p1
  unfold vpMo_price at hv
  unfold wpMo_price
  refine ⟨g_ob h t_self, ?_⟩
  refine apMo_none (fun r1 S2 N3 h4 r5 hv => ?_) rfl t_self h hv
  refine ek_if (c_eq (show _ = Int32.ofInt r1 from rfl) LI_0 r5 LI_0r) (fun g6 => ?_) (fun g6 => ?_)
  · replace hv := hv.1 g6
    refine ek_if (c_lt (show _ = Int32.ofInt p0 from rfl) LI_0 r_p0 LI_0r) (fun g7 => ?_) (fun g7 => ?_)
    · replace hv := hv.1 g7
      exact aMo_price_31 hp  rfl t_self (show _ = Int32.ofInt p0 from rfl) r_p0 (show _ = Int32.ofInt p1 from rfl) r_p1 rfl t_self h4 hv
    · replace hv := hv.2 g7
      refine g_fI h4 t_self rfl rfl ?_
      refine ek_if (c_le (show _ = Int32.ofInt (S2 self 14) from rfl) (show _ = Int32.ofInt p0 from rfl) (g_rf (j := 14) h4 t_self rfl rfl) r_p0) (fun g8 => ?_) (fun g8 => ?_)
      · replace hv := hv.1 g8
        exact aMo_price_31 hp  rfl t_self (show _ = Int32.ofInt p0 from rfl) r_p0 (show _ = Int32.ofInt p1 from rfl) r_p1 rfl t_self h4 hv
      · replace hv := hv.2 g8
        refine ek_if (c_lt (show _ = Int32.ofInt p1 from rfl) LI_0 r_p1 LI_0r) (fun g9 => ?_) (fun g9 => ?_)
        · replace hv := hv.1 g9
          exact aMo_price_31 hp  rfl t_self (show _ = Int32.ofInt p0 from rfl) r_p0 (show _ = Int32.ofInt p1 from rfl) r_p1 rfl t_self h4 hv
        · replace hv := hv.2 g9
          refine ek_if (c_le (show _ = Int32.ofInt p1 from rfl) LI_2 r_p1 LI_2r) (fun g10 => ?_) (fun g10 => ?_)
          · replace hv := hv.1 g10
            exact aMo_price_36 hp  rfl t_self (show _ = Int32.ofInt p0 from rfl) r_p0 (show _ = Int32.ofInt p1 from rfl) r_p1 LI_0 LI_0r rfl t_self h4 hv
          · replace hv := hv.2 g10
            exact aMo_price_31 hp  rfl t_self (show _ = Int32.ofInt p0 from rfl) r_p0 (show _ = Int32.ofInt p1 from rfl) r_p1 rfl t_self h4 hv
  · replace hv := hv.2 g6
    refine ek_v (P := fun y => post y _) LJ_0 ?_
    exact hp _ _ _ h4 LJ_0r hv
def vMo_override_112 (Q : Int → St → Prop) (x0 : Int) (x2 : Int) (S : St) : Prop := (vpMo_trueWorth x0 S (fun (r1 : Int) (S2 : St) => ((rJ (x2 - r1)) ∧ (rI (x2 - r1)) ∧ Q (x2 - r1) S2)))
theorem aMo_override_112 {ad : Int → Nat} {Q : Int → St → Prop} {post : Int32 → Hp → Prop} (hp : ∀ (r : Int) (S : St) (M : Hp), US ad S M → rI r → Q r S → post (Int32.ofInt r) M) {w_x0 : Nat} {x0 : Int} (e_x0 : w_x0 = ad x0) (t_x0 : kt (20 + 6) x0) {w_x2 : Int64} {x2 : Int} (e_x2 : w_x2 = Int64.ofInt x2) (r_x2 : rJ x2) {S : St} {M : Hp} (h : US ad S M) (hv : vMo_override_112 Q x0 x2 S) : wMo_override_112 post w_x0 w_x2 M := by
  subst e_x0
  subst e_x2
  unfold vMo_override_112 at hv
  unfold wMo_override_112
  refine ⟨g_ob h t_x0, ?_⟩
  refine apMo_trueWorth (fun r1 S2 N3 h4 r5 hv => ?_) rfl t_x0 h hv
  obtain ⟨c6, c7, hv⟩ := hv
  refine ek_v (P := fun y => post y _) (H_toI (H_sub (show _ = Int64.ofInt x2 from rfl) (show _ = Int64.ofInt r1 from rfl)) c6) ?_
  exact hp _ _ _ h4 c7 hv
def vMo_override_47 (Q : Int → St → Prop) (x0 : Int) (x1 : Int) (y0 : Int) (y1 : Int) (S : St) : Prop := (∀ S1 : St, S1 = up S y1 0 y0 → ((((S1 x0 0) ≤ 0 → (vpMo_trueWorth x0 S1 (fun (r6 : Int) (S7 : St) => (¬ (S7 x0 1) = 0 ∧ (((0 : Int) ≤ x1 ∧ (x1 : Int) < 2147483648) ∧ ((0 : Int) < (S7 x0 1) ∧ ((S7 x0 1) : Int) < 2147483648) ∧ ((0 : Int) ≤ ((81 * ((S7 x0 4) - 1)) + (x1 / (S7 x0 1))) ∧ (((81 * ((S7 x0 4) - 1)) + (x1 / (S7 x0 1))) : Int) < 486) ∧ ((1 : Int) = 0 ∨ (1 : Int) = 1) ∧ ∀ S15 : St, S15 = up S7 13 ((81 * ((S7 x0 4) - 1)) + (x1 / (S7 x0 1))) 1 → ((((S15 x0 34) = 0 → (vpMo_run x0 S15 (fun (r20 : Int) (S21 : St) => (vMo_override_112 Q x0 r6 S21)))) ∧ (¬ (S15 x0 34) = 0 → (vpMo_goRounds x0 (S15 x0 34) S15 (fun (r25 : Int) (S26 : St) => (vMo_override_112 Q x0 r6 S26))))))))))) ∧ (¬ (S1 x0 0) ≤ 0 → (Q 0 S1)))))
theorem aMo_override_47 {ad : Int → Nat} {Q : Int → St → Prop} {post : Int32 → Hp → Prop} (hp : ∀ (r : Int) (S : St) (M : Hp), US ad S M → rI r → Q r S → post (Int32.ofInt r) M) {w_x0 : Nat} {x0 : Int} (e_x0 : w_x0 = ad x0) (t_x0 : kt (20 + 6) x0) {w_x1 : Int32} {x1 : Int} (e_x1 : w_x1 = Int32.ofInt x1) (r_x1 : rI x1) {w_y0 : Int32} {y0 : Int} (e_y0 : w_y0 = Int32.ofInt y0) (r_y0 : rI y0) {w_y1 : Nat} {y1 : Int} (e_y1 : w_y1 = ad y1) (t_y1 : kt (20 + 6) y1) {S : St} {M : Hp} (h : US ad S M) (hv : vMo_override_47 Q x0 x1 y0 y1 S) : wMo_override_47 post w_x0 w_x1 w_y0 w_y1 M := by
  subst e_x0
  subst e_x1
  subst e_y0
  subst e_y1
  unfold vMo_override_47 at hv
  unfold wMo_override_47
  refine g_pI h t_y1 rfl rfl (show _ = Int32.ofInt y0 from rfl) r_y0 (fun S1 N2 e4 h3 => ?_)
  replace hv := hv S1 e4
  refine g_fI h3 t_x0 rfl rfl ?_
  refine ek_if (c_le (show _ = Int32.ofInt (S1 x0 0) from rfl) LI_0 (g_rf (j := 0) h3 t_x0 rfl rfl) LI_0r) (fun g5 => ?_) (fun g5 => ?_)
  · replace hv := hv.1 g5
    refine ⟨g_ob h3 t_x0, ?_⟩
    refine apMo_trueWorth (fun r6 S7 N8 h9 r10 hv => ?_) rfl t_x0 h3 hv
    refine g_fA h9 t_x0 rfl (rv_6_13 t_x0) ?_
    refine g_fI h9 t_x0 rfl rfl ?_
    refine g_fI h9 t_x0 rfl rfl ?_
    refine ⟨fun z => hv.1 ((c_eq (show _ = Int32.ofInt (S7 x0 1) from rfl) LI_0 (g_rf (j := 1) h9 t_x0 rfl rfl) LI_0r).mp z), ?_⟩
    replace hv := hv.2
    obtain ⟨c11, c12, c13, c14, hv⟩ := hv
    refine g_sZ h9 (show kt 2 13 by decide) (show alen 13 = 486 by decide) (h_add (h_mul LI_81 (h_sub (show _ = Int32.ofInt (S7 x0 4) from rfl) LI_1)) (h_div (show _ = Int32.ofInt x1 from rfl) (show _ = Int32.ofInt (S7 x0 1) from rfl) c11 c12)) c13 LI_1 c14 (fun S15 N16 e18 h17 => ?_)
    replace hv := hv S15 e18
    refine g_fI h17 t_x0 rfl rfl ?_
    refine ek_if (c_eq (show _ = Int32.ofInt (S15 x0 34) from rfl) LI_0 (g_rf (j := 34) h17 t_x0 rfl rfl) LI_0r) (fun g19 => ?_) (fun g19 => ?_)
    · replace hv := hv.1 g19
      refine ⟨g_ob h17 t_x0, ?_⟩
      refine apMo_run (fun r20 S21 N22 h23 r24 hv => ?_) rfl t_x0 h17 hv
      exact aMo_override_112 hp  rfl t_x0 (show _ = Int64.ofInt r6 from rfl) r10 h23 hv
    · replace hv := hv.2 g19
      refine g_fI h17 t_x0 rfl rfl ?_
      refine ⟨g_ob h17 t_x0, ?_⟩
      refine apMo_goRounds (fun r25 S26 N27 h28 r29 hv => ?_) rfl t_x0 (show _ = Int32.ofInt (S15 x0 34) from rfl) (g_rf (j := 34) h17 t_x0 rfl rfl) h17 hv
      exact aMo_override_112 hp  rfl t_x0 (show _ = Int64.ofInt r6 from rfl) r10 h28 hv
  · replace hv := hv.2 g5
    refine ek_v (P := fun y => post y _) LI_0 ?_
    exact hp _ _ _ h3 LI_0r hv
def vMo_override_42 (Q : Int → St → Prop) (x0 : Int) (x1 : Int) (y0 : Int) (S : St) : Prop := (vMo_override_47 Q x0 x1 2 y0 S)
theorem aMo_override_42 {ad : Int → Nat} {Q : Int → St → Prop} {post : Int32 → Hp → Prop} (hp : ∀ (r : Int) (S : St) (M : Hp), US ad S M → rI r → Q r S → post (Int32.ofInt r) M) {w_x0 : Nat} {x0 : Int} (e_x0 : w_x0 = ad x0) (t_x0 : kt (20 + 6) x0) {w_x1 : Int32} {x1 : Int} (e_x1 : w_x1 = Int32.ofInt x1) (r_x1 : rI x1) {w_y0 : Nat} {y0 : Int} (e_y0 : w_y0 = ad y0) (t_y0 : kt (20 + 6) y0) {S : St} {M : Hp} (h : US ad S M) (hv : vMo_override_42 Q x0 x1 y0 S) : wMo_override_42 post w_x0 w_x1 w_y0 M := by
  subst e_x0
  subst e_x1
  subst e_y0
  unfold vMo_override_42 at hv
  unfold wMo_override_42
  exact aMo_override_47 hp  rfl t_x0 (show _ = Int32.ofInt x1 from rfl) r_x1 LI_2 LI_2r rfl t_y0 h hv
def vpMo_override (self : Int) (p0 : Int) (S : St) (Q : Int → St → Prop) : Prop := (vpMo_none self S (fun (r1 : Int) (S2 : St) => (((r1 = 0 → (vpMo_isEnd self p0 S2 (fun (r7 : Int) (S8 : St) => (((r7 = 0 → (vMo_override_42 Q self p0 self S8)) ∧ (¬ r7 = 0 → (¬ (S8 self 1) = 0 ∧ (((0 : Int) ≤ p0 ∧ (p0 : Int) < 2147483648) ∧ ((0 : Int) < (S8 self 1) ∧ ((S8 self 1) : Int) < 2147483648) ∧ ((0 : Int) ≤ ((81 * ((S8 self 4) - 1)) + (p0 / (S8 self 1))) ∧ (((81 * ((S8 self 4) - 1)) + (p0 / (S8 self 1))) : Int) < 486) ∧ ((((S8 13 ((81 * ((S8 self 4) - 1)) + (p0 / (S8 self 1)))) = 0 → (vMo_override_47 Q self p0 0 self S8)) ∧ (¬ (S8 13 ((81 * ((S8 self 4) - 1)) + (p0 / (S8 self 1)))) = 0 → (vMo_override_42 Q self p0 self S8)))))))))))) ∧ (¬ r1 = 0 → (Q 0 S2))))))
theorem apMo_override {ad : Int → Nat} {Q : Int → St → Prop} {post : Int32 → Hp → Prop} (hp : ∀ (r : Int) (S : St) (M : Hp), US ad S M → rI r → Q r S → post (Int32.ofInt r) M) {w_self : Nat} {self : Int} (e_self : w_self = ad self) (t_self : kt (20 + 6) self) {w_p0 : Int32} {p0 : Int} (e_p0 : w_p0 = Int32.ofInt p0) (r_p0 : rI p0) {S : St} {M : Hp} (h : US ad S M) (hv : vpMo_override self p0 S Q) : wpMo_override w_self w_p0 M post := by
  subst e_self
  subst e_p0
  unfold vpMo_override at hv
  unfold wpMo_override
  refine ⟨g_ob h t_self, ?_⟩
  refine apMo_none (fun r1 S2 N3 h4 r5 hv => ?_) rfl t_self h hv
  refine ek_if (c_eq (show _ = Int32.ofInt r1 from rfl) LI_0 r5 LI_0r) (fun g6 => ?_) (fun g6 => ?_)
  · replace hv := hv.1 g6
    refine ⟨g_ob h4 t_self, ?_⟩
    refine apMo_isEnd (fun r7 S8 N9 h10 r11 hv => ?_) rfl t_self (show _ = Int32.ofInt p0 from rfl) r_p0 h4 hv
    refine ek_if (c_eq (show _ = Int32.ofInt r7 from rfl) LI_0 r11 LI_0r) (fun g12 => ?_) (fun g12 => ?_)
    · replace hv := hv.1 g12
      exact aMo_override_42 hp  rfl t_self (show _ = Int32.ofInt p0 from rfl) r_p0 rfl t_self h10 hv
    · replace hv := hv.2 g12
      refine g_fA h10 t_self rfl (rv_6_13 t_self) ?_
      refine g_fI h10 t_self rfl rfl ?_
      refine g_fI h10 t_self rfl rfl ?_
      refine ⟨fun z => hv.1 ((c_eq (show _ = Int32.ofInt (S8 self 1) from rfl) LI_0 (g_rf (j := 1) h10 t_self rfl rfl) LI_0r).mp z), ?_⟩
      replace hv := hv.2
      obtain ⟨c13, c14, c15, hv⟩ := hv
      refine g_aZ h10 (show kt 2 13 by decide) (show alen 13 = 486 by decide) (h_add (h_mul LI_81 (h_sub (show _ = Int32.ofInt (S8 self 4) from rfl) LI_1)) (h_div (show _ = Int32.ofInt p0 from rfl) (show _ = Int32.ofInt (S8 self 1) from rfl) c13 c14)) c15 ?_
      refine ek_if (c_eq (show _ = Int32.ofInt (S8 13 ((81 * ((S8 self 4) - 1)) + (p0 / (S8 self 1)))) from rfl) LI_0 (g_rI h10 (show kt 2 13 by decide) (by decide)) LI_0r) (fun g16 => ?_) (fun g16 => ?_)
      · replace hv := hv.1 g16
        exact aMo_override_47 hp  rfl t_self (show _ = Int32.ofInt p0 from rfl) r_p0 LI_0 LI_0r rfl t_self h10 hv
      · replace hv := hv.2 g16
        exact aMo_override_42 hp  rfl t_self (show _ = Int32.ofInt p0 from rfl) r_p0 rfl t_self h10 hv
  · replace hv := hv.2 g6
    refine ek_v (P := fun y => post y _) LI_0 ?_
    exact hp _ _ _ h4 LI_0r hv
def vMo_greatest_24 (Q : Int → St → Prop) (y0 : Int) (S : St) : Prop := (((y0 : Int) = 0 ∨ (y0 : Int) = 1) ∧ (Q y0 S))
theorem aMo_greatest_24 {ad : Int → Nat} {Q : Int → St → Prop} {post : Int32 → Hp → Prop} (hp : ∀ (r : Int) (S : St) (M : Hp), US ad S M → rI r → Q r S → post (Int32.ofInt r) M) {w_y0 : Int32} {y0 : Int} (e_y0 : w_y0 = Int32.ofInt y0) (r_y0 : rI y0) {S : St} {M : Hp} (h : US ad S M) (hv : vMo_greatest_24 Q y0 S) : wMo_greatest_24 post w_y0 M := by
  subst e_y0
  unfold vMo_greatest_24 at hv
  unfold wMo_greatest_24
  refine ⟨b01 (show _ = Int32.ofInt y0 from rfl) hv.1, ?_⟩
  replace hv := hv.2
  refine ek_v (P := fun y => post y _) (show _ = Int32.ofInt y0 from rfl) ?_
  exact hp _ _ _ h r_y0 hv
def vMo_greatest_23 (Q : Int → St → Prop) (S : St) : Prop := (vMo_greatest_24 Q 0 S)
theorem aMo_greatest_23 {ad : Int → Nat} {Q : Int → St → Prop} {post : Int32 → Hp → Prop} (hp : ∀ (r : Int) (S : St) (M : Hp), US ad S M → rI r → Q r S → post (Int32.ofInt r) M)  {S : St} {M : Hp} (h : US ad S M) (hv : vMo_greatest_23 Q  S) : wMo_greatest_23 post  M := by
  unfold vMo_greatest_23 at hv
  unfold wMo_greatest_23
  exact aMo_greatest_24 hp  LI_0 LI_0r h hv
def vpMo_greatest (self : Int) (S : St) (Q : Int → St → Prop) : Prop := (vpMo_none self S (fun (r1 : Int) (S2 : St) => (((r1 = 0 → (vpMo_trueWorth self S2 (fun (r7 : Int) (S8 : St) => (((r7 = (S8 self 35) → (vMo_greatest_24 Q 1 S8)) ∧ (¬ r7 = (S8 self 35) → (vMo_greatest_23 Q  S8))))))) ∧ (¬ r1 = 0 → (vMo_greatest_23 Q  S2))))))
theorem apMo_greatest {ad : Int → Nat} {Q : Int → St → Prop} {post : Int32 → Hp → Prop} (hp : ∀ (r : Int) (S : St) (M : Hp), US ad S M → rI r → Q r S → post (Int32.ofInt r) M) {w_self : Nat} {self : Int} (e_self : w_self = ad self) (t_self : kt (20 + 6) self) {S : St} {M : Hp} (h : US ad S M) (hv : vpMo_greatest self S Q) : wpMo_greatest w_self M post := by
  subst e_self
  unfold vpMo_greatest at hv
  unfold wpMo_greatest
  refine ⟨g_ob h t_self, ?_⟩
  refine apMo_none (fun r1 S2 N3 h4 r5 hv => ?_) rfl t_self h hv
  refine ek_if (c_eq (show _ = Int32.ofInt r1 from rfl) LI_0 r5 LI_0r) (fun g6 => ?_) (fun g6 => ?_)
  · replace hv := hv.1 g6
    refine ⟨g_ob h4 t_self, ?_⟩
    refine apMo_trueWorth (fun r7 S8 N9 h10 r11 hv => ?_) rfl t_self h4 hv
    refine g_fJ h10 t_self rfl rfl ?_
    refine ek_if (C_eq (show _ = Int64.ofInt r7 from rfl) (show _ = Int64.ofInt (S8 self 35) from rfl) r11 (g_rF (j := 35) h10 t_self rfl rfl)) (fun g12 => ?_) (fun g12 => ?_)
    · replace hv := hv.1 g12
      exact aMo_greatest_24 hp  LI_1 LI_1r h10 hv
    · replace hv := hv.2 g12
      exact aMo_greatest_23 hp   h10 hv
  · replace hv := hv.2 g6
    exact aMo_greatest_23 hp   h4 hv
def vLa_stem_18 (Q : Int → St → Prop) (y0 : Int) (y1 : Int) (y2 : Int) (S : St) : Prop := (((0 : Int) ≤ y1 ∧ (y1 : Int) < (alen y2)) ∧ ∀ S2 : St, S2 = up S y2 y1 y0 → (Q 0 S2))
theorem aLa_stem_18 {ad : Int → Nat} {Q : Int → St → Prop} {post : Int32 → Hp → Prop} (hp : ∀ (r : Int) (S : St) (M : Hp), US ad S M → rI r → Q r S → post (Int32.ofInt r) M) {w_y0 : Int64} {y0 : Int} (e_y0 : w_y0 = Int64.ofInt y0) (r_y0 : rJ y0) {w_y1 : Int32} {y1 : Int} (e_y1 : w_y1 = Int32.ofInt y1) (r_y1 : rI y1) {w_y2 : Nat} {y2 : Int} (e_y2 : w_y2 = ad y2) (t_y2 : kt 3 y2) {S : St} {M : Hp} (h : US ad S M) (hv : vLa_stem_18 Q y0 y1 y2 S) : wLa_stem_18 post w_y0 w_y1 w_y2 M := by
  subst e_y0
  subst e_y1
  subst e_y2
  unfold vLa_stem_18 at hv
  unfold wLa_stem_18
  obtain ⟨c1, hv⟩ := hv
  refine g_sJ h t_y2 rfl (show _ = Int32.ofInt y1 from rfl) c1 (show _ = Int64.ofInt y0 from rfl) r_y0 (fun S2 N3 e5 h4 => ?_)
  replace hv := hv S2 e5
  refine ek_v (P := fun y => post y _) LI_0 ?_
  exact hp _ _ _ h4 LI_0r hv
def vpLa_stem (p0 : Int) (p1 : Int) (p2 : Int) (p3 : Int) (p4 : Int) (S : St) (Q : Int → St → Prop) : Prop := (vpBT_stem p0 p1 p2 p3 S (fun (r1 : Int) (S2 : St) => (((r1 = 0 → (vLa_stem_18 Q 0 0 p4 S2)) ∧ (¬ r1 = 0 → (vLa_stem_18 Q 1 0 p4 S2))))) (fun (E9 : String) (S6 : St) => ((E9 = "java/lang/IllegalStateException" → (Q 1 S6)) ∧ ((E9 = "java/lang/IllegalArgumentException" → (Q 2 S6)) ∧ (E9 = "java/lang/IllegalStateException" ∨ E9 = "java/lang/IllegalArgumentException")))))
theorem apLa_stem {ad : Int → Nat} {Q : Int → St → Prop} {post : Int32 → Hp → Prop} (hp : ∀ (r : Int) (S : St) (M : Hp), US ad S M → rI r → Q r S → post (Int32.ofInt r) M) {w_p0 : Nat} {p0 : Int} (e_p0 : w_p0 = ad p0) (t_p0 : kt (20 + 0) p0) {w_p1 : Int32} {p1 : Int} (e_p1 : w_p1 = Int32.ofInt p1) (r_p1 : rI p1) {w_p2 : Int32} {p2 : Int} (e_p2 : w_p2 = Int32.ofInt p2) (r_p2 : rI p2) {w_p3 : Int32} {p3 : Int} (e_p3 : w_p3 = Int32.ofInt p3) (r_p3 : rI p3) {w_p4 : Nat} {p4 : Int} (e_p4 : w_p4 = ad p4) (t_p4 : kt 3 p4) {S : St} {M : Hp} (h : US ad S M) (hv : vpLa_stem p0 p1 p2 p3 p4 S Q) : wpLa_stem w_p0 w_p1 w_p2 w_p3 w_p4 M post := by
  subst e_p0
  subst e_p1
  subst e_p2
  subst e_p3
  subst e_p4
  unfold vpLa_stem at hv
  unfold wpLa_stem
  refine ⟨g_ob h t_p0, ?_⟩
  refine apBT_stem (fun r1 S2 N3 h4 r5 hv => ?_) (fun E9 S6 N7 h8 hv => ?_) rfl t_p0 (show _ = Int32.ofInt p1 from rfl) r_p1 (show _ = Int32.ofInt p2 from rfl) r_p2 (show _ = Int32.ofInt p3 from rfl) r_p3 h hv
  · skip
    refine ek_if (c_eq (show _ = Int32.ofInt r1 from rfl) LI_0 r5 LI_0r) (fun g9 => ?_) (fun g9 => ?_)
    · replace hv := hv.1 g9
      exact aLa_stem_18 hp  LJ_0 LJ_0r LI_0 LI_0r rfl t_p4 h4 hv
    · replace hv := hv.2 g9
      exact aLa_stem_18 hp  LJ_1 LJ_1r LI_0 LI_0r rfl t_p4 h4 hv
  · skip
    refine ⟨?_, ?_⟩
    · replace hv := hv.1
      intro g10 q9
      replace hv := hv g10
      refine ek_v (P := fun y => post y _) LI_1 ?_
      exact hp _ _ _ h8 LI_1r hv
    · replace hv := hv.2
      refine ⟨?_, ?_⟩
      · replace hv := hv.1
        intro g11 q9
        replace hv := hv g11
        refine ek_v (P := fun y => post y _) LI_2 ?_
        exact hp _ _ _ h8 LI_2r hv
      · replace hv := hv.2
        exact hv
