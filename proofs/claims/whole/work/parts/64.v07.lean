def vMo_setPrices_95 (Q : St → Prop) (K2 : Int → Int → Int → St → Prop) (x0 : Int) (x1 : Int) (x2 : Int) (y0 : Int) (y1 : Int) (y2 : Int) (S : St) : Prop := (((0 : Int) ≤ y1 ∧ (y1 : Int) < (alen y2)) ∧ ∀ S2 : St, S2 = up S y2 y1 y0 → ((rI (x2 + 1)) ∧ ∀ z6 : Int, z6 = (x2 + 1) → (K2 x0 x1 z6 S2)))
theorem aMo_setPrices_95 {ad : Int → Nat} {Q : St → Prop} {K2 : Int → Int → Int → St → Prop} {post : Hp → Prop} {k2 : Nat → Int32 → Int32 → Hp → Prop} (hp : ∀ (S : St) (M : Hp), US ad S M → Q S → post M) (hk2 : ∀ (b0 b1 b2 : Int) (S : St) (M : Hp), kt (20 + 6) b0 → rI b1 → rI b2 → US ad S M → K2 b0 b1 b2 S → k2 (ad b0) (Int32.ofInt b1) (Int32.ofInt b2) M) {w_x0 : Nat} {x0 : Int} (e_x0 : w_x0 = ad x0) (t_x0 : kt (20 + 6) x0) {w_x1 : Int32} {x1 : Int} (e_x1 : w_x1 = Int32.ofInt x1) (r_x1 : rI x1) {w_x2 : Int32} {x2 : Int} (e_x2 : w_x2 = Int32.ofInt x2) (r_x2 : rI x2) {w_y0 : Int64} {y0 : Int} (e_y0 : w_y0 = Int64.ofInt y0) (r_y0 : rJ y0) {w_y1 : Int32} {y1 : Int} (e_y1 : w_y1 = Int32.ofInt y1) (r_y1 : rI y1) {w_y2 : Nat} {y2 : Int} (e_y2 : w_y2 = ad y2) (t_y2 : kt 3 y2) {S : St} {M : Hp} (h : US ad S M) (hv : vMo_setPrices_95 Q K2 x0 x1 x2 y0 y1 y2 S) : wMo_setPrices_95 post k2 w_x0 w_x1 w_x2 w_y0 w_y1 w_y2 M := by
  subst e_x0
  subst e_x1
  subst e_x2
  subst e_y0
  subst e_y1
  subst e_y2
  unfold vMo_setPrices_95 at hv
  unfold wMo_setPrices_95
  obtain ⟨c1, hv⟩ := hv
  refine g_sJ h t_y2 rfl (show _ = Int32.ofInt y1 from rfl) c1 (show _ = Int64.ofInt y0 from rfl) r_y0 (fun S2 N3 e5 h4 => ?_)
  replace hv := hv S2 e5
  obtain ⟨c6, hv⟩ := hv
  refine nm_z (h_add (show _ = Int32.ofInt x2 from rfl) LI_1) (fun z6 e7 => ?_)
  have r8 : rI z6 := by rw [e7]; exact c6
  replace hv := hv z6 e7
  exact hk2 _ _ _ _ _ t_x0 r_x1 r8 h4 hv
def vMo_setPrices_89 (Q : St → Prop) (K2 : Int → Int → Int → St → Prop) (x0 : Int) (x1 : Int) (x2 : Int) (y0 : Int) (y1 : Int) (S : St) : Prop := (vMo_setPrices_95 Q K2 x0 x1 x2 0 y0 y1 S)
theorem aMo_setPrices_89 {ad : Int → Nat} {Q : St → Prop} {K2 : Int → Int → Int → St → Prop} {post : Hp → Prop} {k2 : Nat → Int32 → Int32 → Hp → Prop} (hp : ∀ (S : St) (M : Hp), US ad S M → Q S → post M) (hk2 : ∀ (b0 b1 b2 : Int) (S : St) (M : Hp), kt (20 + 6) b0 → rI b1 → rI b2 → US ad S M → K2 b0 b1 b2 S → k2 (ad b0) (Int32.ofInt b1) (Int32.ofInt b2) M) {w_x0 : Nat} {x0 : Int} (e_x0 : w_x0 = ad x0) (t_x0 : kt (20 + 6) x0) {w_x1 : Int32} {x1 : Int} (e_x1 : w_x1 = Int32.ofInt x1) (r_x1 : rI x1) {w_x2 : Int32} {x2 : Int} (e_x2 : w_x2 = Int32.ofInt x2) (r_x2 : rI x2) {w_y0 : Int32} {y0 : Int} (e_y0 : w_y0 = Int32.ofInt y0) (r_y0 : rI y0) {w_y1 : Nat} {y1 : Int} (e_y1 : w_y1 = ad y1) (t_y1 : kt 3 y1) {S : St} {M : Hp} (h : US ad S M) (hv : vMo_setPrices_89 Q K2 x0 x1 x2 y0 y1 S) : wMo_setPrices_89 post k2 w_x0 w_x1 w_x2 w_y0 w_y1 M := by
  subst e_x0
  subst e_x1
  subst e_x2
  subst e_y0
  subst e_y1
  unfold vMo_setPrices_89 at hv
  unfold wMo_setPrices_89
  exact aMo_setPrices_95 hp hk2 rfl t_x0 (show _ = Int32.ofInt x1 from rfl) r_x1 (show _ = Int32.ofInt x2 from rfl) r_x2 LJ_0 LJ_0r (show _ = Int32.ofInt y0 from rfl) r_y0 rfl t_y1 h hv
def vMo_setPrices_41 (Q : St → Prop) (K2 : Int → Int → Int → St → Prop) (x0 : Int) (x1 : Int) (x2 : Int) (y0 : Int) (S : St) : Prop := (((0 : Int) ≤ x2 ∧ (x2 : Int) < 8) ∧ (vpMo_countOf x0 x2 S (fun (r2 : Int) (S3 : St) => (((0 : Int) ≤ x2 ∧ (x2 : Int) < 8) ∧ ((rJ ((S 23 x2) + ((r2 - (S3 21 x2)) * y0))) ∧ ∀ z28 : Int, z28 = ((S 23 x2) + ((r2 - (S3 21 x2)) * y0)) → (((0 : Int) ≤ x2 ∧ (x2 : Int) < 8) ∧ ((((S3 21 x2) < 0 → (vMo_setPrices_89 Q K2 x0 x1 x2 x2 23 S3)) ∧ (¬ (S3 21 x2) < 0 → (((0 ≤ z28 → (vMo_setPrices_95 Q K2 x0 x1 x2 z28 x2 23 S3)) ∧ (¬ 0 ≤ z28 → (vMo_setPrices_89 Q K2 x0 x1 x2 x2 23 S3)))))))))))))
theorem aMo_setPrices_41 {ad : Int → Nat} {Q : St → Prop} {K2 : Int → Int → Int → St → Prop} {post : Hp → Prop} {k2 : Nat → Int32 → Int32 → Hp → Prop} (hp : ∀ (S : St) (M : Hp), US ad S M → Q S → post M) (hk2 : ∀ (b0 b1 b2 : Int) (S : St) (M : Hp), kt (20 + 6) b0 → rI b1 → rI b2 → US ad S M → K2 b0 b1 b2 S → k2 (ad b0) (Int32.ofInt b1) (Int32.ofInt b2) M) {w_x0 : Nat} {x0 : Int} (e_x0 : w_x0 = ad x0) (t_x0 : kt (20 + 6) x0) {w_x1 : Int32} {x1 : Int} (e_x1 : w_x1 = Int32.ofInt x1) (r_x1 : rI x1) {w_x2 : Int32} {x2 : Int} (e_x2 : w_x2 = Int32.ofInt x2) (r_x2 : rI x2) {w_y0 : Int64} {y0 : Int} (e_y0 : w_y0 = Int64.ofInt y0) (r_y0 : rJ y0) {S : St} {M : Hp} (h : US ad S M) (hv : vMo_setPrices_41 Q K2 x0 x1 x2 y0 S) : wMo_setPrices_41 post k2 w_x0 w_x1 w_x2 w_y0 M := by
  subst e_x0
  subst e_x1
  subst e_x2
  subst e_y0
  unfold vMo_setPrices_41 at hv
  unfold wMo_setPrices_41
  refine g_fA h t_x0 rfl (rv_6_23 t_x0) ?_
  obtain ⟨c1, hv⟩ := hv
  refine g_aJ h (show kt 3 23 by decide) (show alen 23 = 8 by decide) (show _ = Int32.ofInt x2 from rfl) c1 ?_
  refine ⟨g_ob h t_x0, ?_⟩
  refine apMo_countOf (fun r2 S3 N4 h5 r6 hv => ?_) rfl t_x0 (show _ = Int32.ofInt x2 from rfl) r_x2 h hv
  refine g_fA h5 t_x0 rfl (rv_6_21 t_x0) ?_
  obtain ⟨c7, hv⟩ := hv
  refine g_aJ h5 (show kt 3 21 by decide) (show alen 21 = 8 by decide) (show _ = Int32.ofInt x2 from rfl) c7 ?_
  obtain ⟨c8, hv⟩ := hv
  refine nm_Z (H_add (show _ = Int64.ofInt (S 23 x2) from rfl) (H_mul (H_sub (h_toL (show _ = Int32.ofInt r2 from rfl) r6) (show _ = Int64.ofInt (S3 21 x2) from rfl)) (show _ = Int64.ofInt y0 from rfl))) (fun z28 e9 => ?_)
  have r10 : rJ z28 := by rw [e9]; exact c8
  replace hv := hv z28 e9
  refine g_fA h5 t_x0 rfl (rv_6_23 t_x0) ?_
  refine g_fA h5 t_x0 rfl (rv_6_21 t_x0) ?_
  obtain ⟨c11, hv⟩ := hv
  refine g_aJ h5 (show kt 3 21 by decide) (show alen 21 = 8 by decide) (show _ = Int32.ofInt x2 from rfl) c11 ?_
  refine ek_if (C_lt (show _ = Int64.ofInt (S3 21 x2) from rfl) LJ_0 (g_rJ h5 (show kt 3 21 by decide)) LJ_0r) (fun g12 => ?_) (fun g12 => ?_)
  · replace hv := hv.1 g12
    exact aMo_setPrices_89 hp hk2 rfl t_x0 (show _ = Int32.ofInt x1 from rfl) r_x1 (show _ = Int32.ofInt x2 from rfl) r_x2 (show _ = Int32.ofInt x2 from rfl) r_x2 rfl (show kt 3 23 by decide) h5 hv
  · replace hv := hv.2 g12
    refine ek_if (C_le LJ_0 (show _ = Int64.ofInt z28 from rfl) LJ_0r r10) (fun g13 => ?_) (fun g13 => ?_)
    · replace hv := hv.1 g13
      exact aMo_setPrices_95 hp hk2 rfl t_x0 (show _ = Int32.ofInt x1 from rfl) r_x1 (show _ = Int32.ofInt x2 from rfl) r_x2 (show _ = Int64.ofInt z28 from rfl) r10 (show _ = Int32.ofInt x2 from rfl) r_x2 rfl (show kt 3 23 by decide) h5 hv
    · replace hv := hv.2 g13
      exact aMo_setPrices_89 hp hk2 rfl t_x0 (show _ = Int32.ofInt x1 from rfl) r_x1 (show _ = Int32.ofInt x2 from rfl) r_x2 (show _ = Int32.ofInt x2 from rfl) r_x2 rfl (show kt 3 23 by decide) h5 hv
def vMo_setPrices_2 (Q : St → Prop) : Nat → Int → Int → Int → St → Prop
  | 0 => fun _ _ _ _ => False
  | n + 1 => fun x0 x1 x2 S => ((((S x0 14) ≤ x2 → (Q S)) ∧ (¬ (S x0 14) ≤ x2 → (((0 : Int) ≤ x2 ∧ (x2 : Int) < 8) ∧ (((0 : Int) ≤ x2 ∧ (x2 : Int) < 8) ∧ ∀ S4 : St, S4 = up S 24 x2 (S 23 x2) → (¬ x1 = 0 ∧ (((0 : Int) ≤ 1024 ∧ (1024 : Int) < 2147483648) ∧ ((0 : Int) < x1 ∧ (x1 : Int) < 2147483648) ∧ (rI (1024 / x1)) ∧ (((1024 / x1) ≤ 1 → (vMo_setPrices_41 Q (vMo_setPrices_2 Q n) x0 x1 x2 1 S4)) ∧ (¬ (1024 / x1) ≤ 1 → (¬ x1 = 0 ∧ (((0 : Int) ≤ 1024 ∧ (1024 : Int) < 2147483648) ∧ ((0 : Int) < x1 ∧ (x1 : Int) < 2147483648) ∧ (rI (1024 / x1)) ∧ vMo_setPrices_41 Q (vMo_setPrices_2 Q n) x0 x1 x2 (1024 / x1) S4)))))))))))
theorem aMo_setPrices_2 {ad : Int → Nat} {Q : St → Prop} {post : Hp → Prop} (hp : ∀ (S : St) (M : Hp), US ad S M → Q S → post M) : ∀ (n : Nat) (w_x0 : Nat) (x0 : Int) (e_x0 : w_x0 = ad x0) (t_x0 : kt (20 + 6) x0) (w_x1 : Int32) (x1 : Int) (e_x1 : w_x1 = Int32.ofInt x1) (r_x1 : rI x1) (w_x2 : Int32) (x2 : Int) (e_x2 : w_x2 = Int32.ofInt x2) (r_x2 : rI x2) (S : St) (M : Hp), US ad S M → vMo_setPrices_2 Q n x0 x1 x2 S → wMo_setPrices_2 post n w_x0 w_x1 w_x2 M := by
  intro n
  induction n with
  | zero => intro w_x0 x0 e_x0 t_x0 w_x1 x1 e_x1 r_x1 w_x2 x2 e_x2 r_x2 S M h hv; exact hv.elim
  | succ n ih =>
    intro w_x0 x0 e_x0 t_x0 w_x1 x1 e_x1 r_x1 w_x2 x2 e_x2 r_x2 S M h hv
    subst e_x0
    subst e_x1
    subst e_x2
    unfold vMo_setPrices_2 at hv
    unfold wMo_setPrices_2
    refine g_fI h t_x0 rfl rfl ?_
    refine ek_if (c_le (show _ = Int32.ofInt (S x0 14) from rfl) (show _ = Int32.ofInt x2 from rfl) (g_rf (j := 14) h t_x0 rfl rfl) r_x2) (fun g1 => ?_) (fun g1 => ?_)
    · replace hv := hv.1 g1
      exact hp _ _ h hv
    · replace hv := hv.2 g1
      refine g_fA h t_x0 rfl (rv_6_24 t_x0) ?_
      refine g_fA h t_x0 rfl (rv_6_23 t_x0) ?_
      obtain ⟨c2, hv⟩ := hv
      refine g_aJ h (show kt 3 23 by decide) (show alen 23 = 8 by decide) (show _ = Int32.ofInt x2 from rfl) c2 ?_
      obtain ⟨c3, hv⟩ := hv
      refine g_sJ h (show kt 3 24 by decide) (show alen 24 = 8 by decide) (show _ = Int32.ofInt x2 from rfl) c3 (show _ = Int64.ofInt (S 23 x2) from rfl) (g_rJ h (show kt 3 23 by decide)) (fun S4 N5 e7 h6 => ?_)
      replace hv := hv S4 e7
      refine ⟨fun z => hv.1 ((c_eq (show _ = Int32.ofInt x1 from rfl) LI_0 r_x1 LI_0r).mp z), ?_⟩
      replace hv := hv.2
      obtain ⟨c8, c9, c10, hv⟩ := hv
      refine ek_if (c_le (h_div LI_1024 (show _ = Int32.ofInt x1 from rfl) c8 c9) LI_1 c10 LI_1r) (fun g11 => ?_) (fun g11 => ?_)
      · replace hv := hv.1 g11
        exact aMo_setPrices_41 hp (fun b0 b1 b2 S9 M9 y0 y1 y2 h9 hv9 => ih _ b0 rfl y0 _ b1 rfl y1 _ b2 rfl y2 S9 M9 h9 hv9) rfl t_x0 (show _ = Int32.ofInt x1 from rfl) r_x1 (show _ = Int32.ofInt x2 from rfl) r_x2 LJ_1 LJ_1r h6 hv
      · replace hv := hv.2 g11
        refine ⟨fun z => hv.1 ((c_eq (show _ = Int32.ofInt x1 from rfl) LI_0 r_x1 LI_0r).mp z), ?_⟩
        replace hv := hv.2
        obtain ⟨c12, c13, c14, hv⟩ := hv
        exact aMo_setPrices_41 hp (fun b0 b1 b2 S9 M9 y0 y1 y2 h9 hv9 => ih _ b0 rfl y0 _ b1 rfl y1 _ b2 rfl y2 S9 M9 h9 hv9) rfl t_x0 (show _ = Int32.ofInt x1 from rfl) r_x1 (show _ = Int32.ofInt x2 from rfl) r_x2 (h_toL (h_div LI_1024 (show _ = Int32.ofInt x1 from rfl) c12 c13) c14) (rI_J c14) h6 hv
def vpMo_setPrices (self : Int) (p0 : Int) (S : St) (Q : St → Prop) : Prop := (∃ n70 : Nat, (vMo_setPrices_2 Q n70 self p0 0 S))
theorem apMo_setPrices {ad : Int → Nat} {Q : St → Prop} {post : Hp → Prop} (hp : ∀ (S : St) (M : Hp), US ad S M → Q S → post M) {w_self : Nat} {self : Int} (e_self : w_self = ad self) (t_self : kt (20 + 6) self) {w_p0 : Int32} {p0 : Int} (e_p0 : w_p0 = Int32.ofInt p0) (r_p0 : rI p0) {S : St} {M : Hp} (h : US ad S M) (hv : vpMo_setPrices self p0 S Q) : wpMo_setPrices w_self w_p0 M post := by
  subst e_self
  subst e_p0
  unfold vpMo_setPrices at hv
  unfold wpMo_setPrices
  obtain ⟨n70, hv⟩ := hv
  refine ⟨n70, ?_⟩
  exact aMo_setPrices_2 hp  n70 _ _ rfl t_self _ _ (show _ = Int32.ofInt p0 from rfl) r_p0 _ _ LI_0 LI_0r _ _ h hv
def vMo_giveWay_110 (Q : St → Prop) (K36 : Int → Int → Int → Int → St → Prop) (K49 : Int → Int → Int → Int → Int → St → Prop) (x0 : Int) (x1 : Int) (x2 : Int) (x3 : Int) (x4 : Int) (S : St) : Prop := ((rI (x4 + (-1))) ∧ ∀ z1 : Int, z1 = (x4 + (-1)) → (K49 x0 x1 x2 x3 z1 S))
theorem aMo_giveWay_110 {ad : Int → Nat} {Q : St → Prop} {K36 : Int → Int → Int → Int → St → Prop} {K49 : Int → Int → Int → Int → Int → St → Prop} {post : Hp → Prop} {k36 : Nat → Int32 → Int32 → Int32 → Hp → Prop} {k49 : Nat → Int32 → Int32 → Int32 → Int32 → Hp → Prop} (hp : ∀ (S : St) (M : Hp), US ad S M → Q S → post M) (hk36 : ∀ (b0 b1 b2 b3 : Int) (S : St) (M : Hp), kt (20 + 6) b0 → rI b1 → rI b2 → rI b3 → US ad S M → K36 b0 b1 b2 b3 S → k36 (ad b0) (Int32.ofInt b1) (Int32.ofInt b2) (Int32.ofInt b3) M) (hk49 : ∀ (b0 b1 b2 b3 b4 : Int) (S : St) (M : Hp), kt (20 + 6) b0 → rI b1 → rI b2 → rI b3 → rI b4 → US ad S M → K49 b0 b1 b2 b3 b4 S → k49 (ad b0) (Int32.ofInt b1) (Int32.ofInt b2) (Int32.ofInt b3) (Int32.ofInt b4) M) {w_x0 : Nat} {x0 : Int} (e_x0 : w_x0 = ad x0) (t_x0 : kt (20 + 6) x0) {w_x1 : Int32} {x1 : Int} (e_x1 : w_x1 = Int32.ofInt x1) (r_x1 : rI x1) {w_x2 : Int32} {x2 : Int} (e_x2 : w_x2 = Int32.ofInt x2) (r_x2 : rI x2) {w_x3 : Int32} {x3 : Int} (e_x3 : w_x3 = Int32.ofInt x3) (r_x3 : rI x3) {w_x4 : Int32} {x4 : Int} (e_x4 : w_x4 = Int32.ofInt x4) (r_x4 : rI x4) {S : St} {M : Hp} (h : US ad S M) (hv : vMo_giveWay_110 Q K36 K49 x0 x1 x2 x3 x4 S) : wMo_giveWay_110 post k36 k49 w_x0 w_x1 w_x2 w_x3 w_x4 M := by
  subst e_x0
  subst e_x1
  subst e_x2
  subst e_x3
  subst e_x4
  unfold vMo_giveWay_110 at hv
  unfold wMo_giveWay_110
  obtain ⟨c1, hv⟩ := hv
  refine nm_z (h_add (show _ = Int32.ofInt x4 from rfl) LI_m1) (fun z1 e2 => ?_)
  have r3 : rI z1 := by rw [e2]; exact c1
  replace hv := hv z1 e2
  exact hk49 _ _ _ _ _ _ _ t_x0 r_x1 r_x2 r_x3 r3 h hv
def vMo_giveWay_49 (Q : St → Prop) (K36 : Int → Int → Int → Int → St → Prop) : Nat → Int → Int → Int → Int → Int → St → Prop
  | 0 => fun _ _ _ _ _ _ => False
  | n + 1 => fun x0 x1 x2 x3 x4 S => (((x4 < 0 → ((rI (x3 + (-1))) ∧ ∀ z3 : Int, z3 = (x3 + (-1)) → (K36 x0 x1 x2 z3 S))) ∧ (¬ x4 < 0 → ((rI ((81 * x3) + x4)) ∧ ∀ z4 : Int, z4 = ((81 * x3) + x4) → (((x2 ≤ 0 → (vMo_giveWay_110 Q K36 (vMo_giveWay_49 Q K36 n) x0 x1 x2 x3 x4 S)) ∧ (¬ x2 ≤ 0 → (((0 : Int) ≤ z4 ∧ (z4 : Int) < 486) ∧ ((((S 25 z4) = 1 → (((0 : Int) ≤ z4 ∧ (z4 : Int) < 486) ∧ ((((S 27 z4) = x1 → (((0 : Int) ≤ z4 ∧ (z4 : Int) < 486) ∧ ((rI (x4 + (S 26 z4))) ∧ vpMo_mark x0 x3 x4 (x4 + (S 26 z4)) 2 S (fun (S16 : St) => ((rI (x2 + (-1))) ∧ ∀ z37 : Int, z37 = (x2 + (-1)) → (vMo_giveWay_110 Q K36 (vMo_giveWay_49 Q K36 n) x0 x1 z37 x3 x4 S16)))))) ∧ (¬ (S 27 z4) = x1 → (vMo_giveWay_110 Q K36 (vMo_giveWay_49 Q K36 n) x0 x1 x2 x3 x4 S)))))) ∧ (¬ (S 25 z4) = 1 → (vMo_giveWay_110 Q K36 (vMo_giveWay_49 Q K36 n) x0 x1 x2 x3 x4 S))))))))))))
theorem aMo_giveWay_49 {ad : Int → Nat} {Q : St → Prop} {K36 : Int → Int → Int → Int → St → Prop} {post : Hp → Prop} {k36 : Nat → Int32 → Int32 → Int32 → Hp → Prop} (hp : ∀ (S : St) (M : Hp), US ad S M → Q S → post M) (hk36 : ∀ (b0 b1 b2 b3 : Int) (S : St) (M : Hp), kt (20 + 6) b0 → rI b1 → rI b2 → rI b3 → US ad S M → K36 b0 b1 b2 b3 S → k36 (ad b0) (Int32.ofInt b1) (Int32.ofInt b2) (Int32.ofInt b3) M) : ∀ (n : Nat) (w_x0 : Nat) (x0 : Int) (e_x0 : w_x0 = ad x0) (t_x0 : kt (20 + 6) x0) (w_x1 : Int32) (x1 : Int) (e_x1 : w_x1 = Int32.ofInt x1) (r_x1 : rI x1) (w_x2 : Int32) (x2 : Int) (e_x2 : w_x2 = Int32.ofInt x2) (r_x2 : rI x2) (w_x3 : Int32) (x3 : Int) (e_x3 : w_x3 = Int32.ofInt x3) (r_x3 : rI x3) (w_x4 : Int32) (x4 : Int) (e_x4 : w_x4 = Int32.ofInt x4) (r_x4 : rI x4) (S : St) (M : Hp), US ad S M → vMo_giveWay_49 Q K36 n x0 x1 x2 x3 x4 S → wMo_giveWay_49 post k36 n w_x0 w_x1 w_x2 w_x3 w_x4 M := by
  intro n
  induction n with
  | zero => intro w_x0 x0 e_x0 t_x0 w_x1 x1 e_x1 r_x1 w_x2 x2 e_x2 r_x2 w_x3 x3 e_x3 r_x3 w_x4 x4 e_x4 r_x4 S M h hv; exact hv.elim
  | succ n ih =>
    intro w_x0 x0 e_x0 t_x0 w_x1 x1 e_x1 r_x1 w_x2 x2 e_x2 r_x2 w_x3 x3 e_x3 r_x3 w_x4 x4 e_x4 r_x4 S M h hv
    subst e_x0
    subst e_x1
    subst e_x2
    subst e_x3
    subst e_x4
    unfold vMo_giveWay_49 at hv
    unfold wMo_giveWay_49
    refine ek_if (c_lt (show _ = Int32.ofInt x4 from rfl) LI_0 r_x4 LI_0r) (fun g1 => ?_) (fun g1 => ?_)
    · replace hv := hv.1 g1
      obtain ⟨c2, hv⟩ := hv
      refine nm_z (h_add (show _ = Int32.ofInt x3 from rfl) LI_m1) (fun z3 e3 => ?_)
      have r4 : rI z3 := by rw [e3]; exact c2
      replace hv := hv z3 e3
      exact hk36 _ _ _ _ _ _ t_x0 r_x1 r_x2 r4 h hv
    · replace hv := hv.2 g1
      obtain ⟨c5, hv⟩ := hv
      refine nm_z (h_add (h_mul LI_81 (show _ = Int32.ofInt x3 from rfl)) (show _ = Int32.ofInt x4 from rfl)) (fun z4 e6 => ?_)
      have r7 : rI z4 := by rw [e6]; exact c5
      replace hv := hv z4 e6
      refine ek_if (c_le (show _ = Int32.ofInt x2 from rfl) LI_0 r_x2 LI_0r) (fun g8 => ?_) (fun g8 => ?_)
      · replace hv := hv.1 g8
        exact aMo_giveWay_110 hp hk36 (fun b0 b1 b2 b3 b4 S9 M9 y0 y1 y2 y3 y4 h9 hv9 => ih _ b0 rfl y0 _ b1 rfl y1 _ b2 rfl y2 _ b3 rfl y3 _ b4 rfl y4 S9 M9 h9 hv9) rfl t_x0 (show _ = Int32.ofInt x1 from rfl) r_x1 (show _ = Int32.ofInt x2 from rfl) r_x2 (show _ = Int32.ofInt x3 from rfl) r_x3 (show _ = Int32.ofInt x4 from rfl) r_x4 h hv
      · replace hv := hv.2 g8
        refine g_fA h t_x0 rfl (rv_6_25 t_x0) ?_
        obtain ⟨c9, hv⟩ := hv
        refine g_aI h (show kt 1 25 by decide) (show alen 25 = 486 by decide) (show _ = Int32.ofInt z4 from rfl) c9 ?_
        refine ek_if (c_eq (show _ = Int32.ofInt (S 25 z4) from rfl) LI_1 (g_rI h (show kt 1 25 by decide) (by decide)) LI_1r) (fun g10 => ?_) (fun g10 => ?_)
        · replace hv := hv.1 g10
          refine g_fA h t_x0 rfl (rv_6_27 t_x0) ?_
          obtain ⟨c11, hv⟩ := hv
          refine g_aI h (show kt 1 27 by decide) (show alen 27 = 486 by decide) (show _ = Int32.ofInt z4 from rfl) c11 ?_
          refine ek_if (c_eq (show _ = Int32.ofInt (S 27 z4) from rfl) (show _ = Int32.ofInt x1 from rfl) (g_rI h (show kt 1 27 by decide) (by decide)) r_x1) (fun g12 => ?_) (fun g12 => ?_)
          · replace hv := hv.1 g12
            refine g_fA h t_x0 rfl (rv_6_26 t_x0) ?_
            obtain ⟨c13, hv⟩ := hv
            refine g_aI h (show kt 1 26 by decide) (show alen 26 = 486 by decide) (show _ = Int32.ofInt z4 from rfl) c13 ?_
            refine ⟨g_ob h t_x0, ?_⟩
            obtain ⟨c14, hv⟩ := hv
            refine apMo_mark (fun S16 N17 h18 hv => ?_) rfl t_x0 (show _ = Int32.ofInt x3 from rfl) r_x3 (show _ = Int32.ofInt x4 from rfl) r_x4 (h_add (show _ = Int32.ofInt x4 from rfl) (show _ = Int32.ofInt (S 26 z4) from rfl)) c14 LI_2 LI_2r h hv
            obtain ⟨c20, hv⟩ := hv
            refine nm_z (h_add (show _ = Int32.ofInt x2 from rfl) LI_m1) (fun z37 e21 => ?_)
            have r22 : rI z37 := by rw [e21]; exact c20
            replace hv := hv z37 e21
            exact aMo_giveWay_110 hp hk36 (fun b0 b1 b2 b3 b4 S9 M9 y0 y1 y2 y3 y4 h9 hv9 => ih _ b0 rfl y0 _ b1 rfl y1 _ b2 rfl y2 _ b3 rfl y3 _ b4 rfl y4 S9 M9 h9 hv9) rfl t_x0 (show _ = Int32.ofInt x1 from rfl) r_x1 (show _ = Int32.ofInt z37 from rfl) r22 (show _ = Int32.ofInt x3 from rfl) r_x3 (show _ = Int32.ofInt x4 from rfl) r_x4 h18 hv
          · replace hv := hv.2 g12
            exact aMo_giveWay_110 hp hk36 (fun b0 b1 b2 b3 b4 S9 M9 y0 y1 y2 y3 y4 h9 hv9 => ih _ b0 rfl y0 _ b1 rfl y1 _ b2 rfl y2 _ b3 rfl y3 _ b4 rfl y4 S9 M9 h9 hv9) rfl t_x0 (show _ = Int32.ofInt x1 from rfl) r_x1 (show _ = Int32.ofInt x2 from rfl) r_x2 (show _ = Int32.ofInt x3 from rfl) r_x3 (show _ = Int32.ofInt x4 from rfl) r_x4 h hv
        · replace hv := hv.2 g10
          exact aMo_giveWay_110 hp hk36 (fun b0 b1 b2 b3 b4 S9 M9 y0 y1 y2 y3 y4 h9 hv9 => ih _ b0 rfl y0 _ b1 rfl y1 _ b2 rfl y2 _ b3 rfl y3 _ b4 rfl y4 S9 M9 h9 hv9) rfl t_x0 (show _ = Int32.ofInt x1 from rfl) r_x1 (show _ = Int32.ofInt x2 from rfl) r_x2 (show _ = Int32.ofInt x3 from rfl) r_x3 (show _ = Int32.ofInt x4 from rfl) r_x4 h hv
def vMo_giveWay_36 (Q : St → Prop) : Nat → Int → Int → Int → Int → St → Prop
  | 0 => fun _ _ _ _ _ => False
  | n + 1 => fun x0 x1 x2 x3 S => (((x3 < 0 → (Q S)) ∧ (¬ x3 < 0 → (vpMo_stepsOf x0 x3 S (fun (r2 : Int) (S3 : St) => ((rI (r2 - 1)) ∧ ∀ z42 : Int, z42 = (r2 - 1) → (∃ n43 : Nat, (vMo_giveWay_49 Q (vMo_giveWay_36 Q n) n43 x0 x1 x2 x3 z42 S3))))))))
theorem aMo_giveWay_36 {ad : Int → Nat} {Q : St → Prop} {post : Hp → Prop} (hp : ∀ (S : St) (M : Hp), US ad S M → Q S → post M) : ∀ (n : Nat) (w_x0 : Nat) (x0 : Int) (e_x0 : w_x0 = ad x0) (t_x0 : kt (20 + 6) x0) (w_x1 : Int32) (x1 : Int) (e_x1 : w_x1 = Int32.ofInt x1) (r_x1 : rI x1) (w_x2 : Int32) (x2 : Int) (e_x2 : w_x2 = Int32.ofInt x2) (r_x2 : rI x2) (w_x3 : Int32) (x3 : Int) (e_x3 : w_x3 = Int32.ofInt x3) (r_x3 : rI x3) (S : St) (M : Hp), US ad S M → vMo_giveWay_36 Q n x0 x1 x2 x3 S → wMo_giveWay_36 post n w_x0 w_x1 w_x2 w_x3 M := by
  intro n
  induction n with
  | zero => intro w_x0 x0 e_x0 t_x0 w_x1 x1 e_x1 r_x1 w_x2 x2 e_x2 r_x2 w_x3 x3 e_x3 r_x3 S M h hv; exact hv.elim
  | succ n ih =>
    intro w_x0 x0 e_x0 t_x0 w_x1 x1 e_x1 r_x1 w_x2 x2 e_x2 r_x2 w_x3 x3 e_x3 r_x3 S M h hv
    subst e_x0
    subst e_x1
    subst e_x2
    subst e_x3
    unfold vMo_giveWay_36 at hv
    unfold wMo_giveWay_36
    refine ek_if (c_lt (show _ = Int32.ofInt x3 from rfl) LI_0 r_x3 LI_0r) (fun g1 => ?_) (fun g1 => ?_)
    · replace hv := hv.1 g1
      exact hp _ _ h hv
    · replace hv := hv.2 g1
      refine ⟨g_ob h t_x0, ?_⟩
      refine apMo_stepsOf (fun r2 S3 N4 h5 r6 hv => ?_) rfl t_x0 (show _ = Int32.ofInt x3 from rfl) r_x3 h hv
      obtain ⟨c7, hv⟩ := hv
      refine nm_z (h_sub (show _ = Int32.ofInt r2 from rfl) LI_1) (fun z42 e8 => ?_)
      have r9 : rI z42 := by rw [e8]; exact c7
      replace hv := hv z42 e8
      obtain ⟨n43, hv⟩ := hv
      refine ⟨n43, ?_⟩
      exact aMo_giveWay_49 hp (fun b0 b1 b2 b3 S9 M9 y0 y1 y2 y3 h9 hv9 => ih _ b0 rfl y0 _ b1 rfl y1 _ b2 rfl y2 _ b3 rfl y3 S9 M9 h9 hv9) n43 _ _ rfl t_x0 _ _ (show _ = Int32.ofInt x1 from rfl) r_x1 _ _ (show _ = Int32.ofInt x2 from rfl) r_x2 _ _ (show _ = Int32.ofInt x3 from rfl) r_x3 _ _ (show _ = Int32.ofInt z42 from rfl) r9 _ _ h5 hv
def vMo_giveWay_28 (Q : St → Prop) (x0 : Int) (x1 : Int) (y0 : Int) (S : St) : Prop := ((rI ((S x0 4) - 1)) ∧ ∀ z48 : Int, z48 = ((S x0 4) - 1) → (∃ n49 : Nat, (vMo_giveWay_36 Q n49 x0 x1 y0 z48 S)))
theorem aMo_giveWay_28 {ad : Int → Nat} {Q : St → Prop} {post : Hp → Prop} (hp : ∀ (S : St) (M : Hp), US ad S M → Q S → post M) {w_x0 : Nat} {x0 : Int} (e_x0 : w_x0 = ad x0) (t_x0 : kt (20 + 6) x0) {w_x1 : Int32} {x1 : Int} (e_x1 : w_x1 = Int32.ofInt x1) (r_x1 : rI x1) {w_y0 : Int32} {y0 : Int} (e_y0 : w_y0 = Int32.ofInt y0) (r_y0 : rI y0) {S : St} {M : Hp} (h : US ad S M) (hv : vMo_giveWay_28 Q x0 x1 y0 S) : wMo_giveWay_28 post w_x0 w_x1 w_y0 M := by
  subst e_x0
  subst e_x1
  subst e_y0
  unfold vMo_giveWay_28 at hv
  unfold wMo_giveWay_28
  refine g_fI h t_x0 rfl rfl ?_
  obtain ⟨c1, hv⟩ := hv
  refine nm_z (h_sub (show _ = Int32.ofInt (S x0 4) from rfl) LI_1) (fun z48 e2 => ?_)
  have r3 : rI z48 := by rw [e2]; exact c1
  replace hv := hv z48 e2
  obtain ⟨n49, hv⟩ := hv
  refine ⟨n49, ?_⟩
  exact aMo_giveWay_36 hp  n49 _ _ rfl t_x0 _ _ (show _ = Int32.ofInt x1 from rfl) r_x1 _ _ (show _ = Int32.ofInt y0 from rfl) r_y0 _ _ (show _ = Int32.ofInt z48 from rfl) r3 _ _ h hv
def vpMo_giveWay (self : Int) (p0 : Int) (S : St) (Q : St → Prop) : Prop := (((0 : Int) ≤ p0 ∧ (p0 : Int) < 8) ∧ (((0 ≤ (S 21 p0) → (vpMo_countOf self p0 S (fun (r3 : Int) (S4 : St) => (((0 : Int) ≤ p0 ∧ (p0 : Int) < 8) ∧ ((rI (r3 - (S4 21 p0))) ∧ vMo_giveWay_28 Q self p0 (r3 - (S4 21 p0)) S4))))) ∧ (¬ 0 ≤ (S 21 p0) → (vMo_giveWay_28 Q self p0 0 S)))))
theorem apMo_giveWay {ad : Int → Nat} {Q : St → Prop} {post : Hp → Prop} (hp : ∀ (S : St) (M : Hp), US ad S M → Q S → post M) {w_self : Nat} {self : Int} (e_self : w_self = ad self) (t_self : kt (20 + 6) self) {w_p0 : Int32} {p0 : Int} (e_p0 : w_p0 = Int32.ofInt p0) (r_p0 : rI p0) {S : St} {M : Hp} (h : US ad S M) (hv : vpMo_giveWay self p0 S Q) : wpMo_giveWay w_self w_p0 M post := by
  subst e_self
  subst e_p0
  unfold vpMo_giveWay at hv
  unfold wpMo_giveWay
  refine g_fA h t_self rfl (rv_6_21 t_self) ?_
  obtain ⟨c1, hv⟩ := hv
  refine g_aJ h (show kt 3 21 by decide) (show alen 21 = 8 by decide) (show _ = Int32.ofInt p0 from rfl) c1 ?_
  refine ek_if (C_le LJ_0 (show _ = Int64.ofInt (S 21 p0) from rfl) LJ_0r (g_rJ h (show kt 3 21 by decide))) (fun g2 => ?_) (fun g2 => ?_)
  · replace hv := hv.1 g2
    refine ⟨g_ob h t_self, ?_⟩
    refine apMo_countOf (fun r3 S4 N5 h6 r7 hv => ?_) rfl t_self (show _ = Int32.ofInt p0 from rfl) r_p0 h hv
    refine g_fA h6 t_self rfl (rv_6_21 t_self) ?_
    obtain ⟨c8, hv⟩ := hv
    refine g_aJ h6 (show kt 3 21 by decide) (show alen 21 = 8 by decide) (show _ = Int32.ofInt p0 from rfl) c8 ?_
    obtain ⟨c9, hv⟩ := hv
    exact aMo_giveWay_28 hp  rfl t_self (show _ = Int32.ofInt p0 from rfl) r_p0 (h_sub (show _ = Int32.ofInt r3 from rfl) (H_toI (show _ = Int64.ofInt (S4 21 p0) from rfl) (g_rJ h6 (show kt 3 21 by decide)))) c9 h6 hv
  · replace hv := hv.2 g2
    exact aMo_giveWay_28 hp  rfl t_self (show _ = Int32.ofInt p0 from rfl) r_p0 LI_0 LI_0r h hv
def vMo_goRounds_279 (Q : Int → St → Prop) (x0 : Int) (x1 : Int) (x6 : Int) (S : St) : Prop := (∀ S1 : St, S1 = up S x0 34 x1 → (∀ S5 : St, S5 = up S1 x0 33 1 → (Q x6 S5)))
theorem aMo_goRounds_279 {ad : Int → Nat} {Q : Int → St → Prop} {post : Int32 → Hp → Prop} (hp : ∀ (r : Int) (S : St) (M : Hp), US ad S M → rI r → Q r S → post (Int32.ofInt r) M) {w_x0 : Nat} {x0 : Int} (e_x0 : w_x0 = ad x0) (t_x0 : kt (20 + 6) x0) {w_x1 : Int32} {x1 : Int} (e_x1 : w_x1 = Int32.ofInt x1) (r_x1 : rI x1) {w_x6 : Int32} {x6 : Int} (e_x6 : w_x6 = Int32.ofInt x6) (r_x6 : rI x6) {S : St} {M : Hp} (h : US ad S M) (hv : vMo_goRounds_279 Q x0 x1 x6 S) : wMo_goRounds_279 post w_x0 w_x1 w_x6 M := by
  subst e_x0
  subst e_x1
  subst e_x6
  unfold vMo_goRounds_279 at hv
  unfold wMo_goRounds_279
  refine g_pI h t_x0 rfl rfl (show _ = Int32.ofInt x1 from rfl) r_x1 (fun S1 N2 e4 h3 => ?_)
  replace hv := hv S1 e4
  refine g_pI h3 t_x0 rfl rfl LI_1 LI_1r (fun S5 N6 e8 h7 => ?_)
  replace hv := hv S5 e8
  refine ek_v (P := fun y => post y _) (show _ = Int32.ofInt x6 from rfl) ?_
  exact hp _ _ _ h7 r_x6 hv
def vMo_goRounds_258 (Q : Int → St → Prop) : Nat → Int → Int → Int → Int → St → Prop
  | 0 => fun _ _ _ _ _ => False
  | n + 1 => fun x0 x1 x6 x7 S => ((((S x0 14) ≤ x7 → (vMo_goRounds_279 Q x0 x1 x6 S)) ∧ (¬ (S x0 14) ≤ x7 → (vpMo_giveWay x0 x7 S (fun (S3 : St) => ((rI (x7 + 1)) ∧ ∀ z16 : Int, z16 = (x7 + 1) → (vMo_goRounds_258 Q n x0 x1 x6 z16 S3)))))))
theorem aMo_goRounds_258 {ad : Int → Nat} {Q : Int → St → Prop} {post : Int32 → Hp → Prop} (hp : ∀ (r : Int) (S : St) (M : Hp), US ad S M → rI r → Q r S → post (Int32.ofInt r) M) : ∀ (n : Nat) (w_x0 : Nat) (x0 : Int) (e_x0 : w_x0 = ad x0) (t_x0 : kt (20 + 6) x0) (w_x1 : Int32) (x1 : Int) (e_x1 : w_x1 = Int32.ofInt x1) (r_x1 : rI x1) (w_x6 : Int32) (x6 : Int) (e_x6 : w_x6 = Int32.ofInt x6) (r_x6 : rI x6) (w_x7 : Int32) (x7 : Int) (e_x7 : w_x7 = Int32.ofInt x7) (r_x7 : rI x7) (S : St) (M : Hp), US ad S M → vMo_goRounds_258 Q n x0 x1 x6 x7 S → wMo_goRounds_258 post n w_x0 w_x1 w_x6 w_x7 M := by
  intro n
  induction n with
  | zero => intro w_x0 x0 e_x0 t_x0 w_x1 x1 e_x1 r_x1 w_x6 x6 e_x6 r_x6 w_x7 x7 e_x7 r_x7 S M h hv; exact hv.elim
  | succ n ih =>
    intro w_x0 x0 e_x0 t_x0 w_x1 x1 e_x1 r_x1 w_x6 x6 e_x6 r_x6 w_x7 x7 e_x7 r_x7 S M h hv
    subst e_x0
    subst e_x1
    subst e_x6
    subst e_x7
    unfold vMo_goRounds_258 at hv
    unfold wMo_goRounds_258
    refine g_fI h t_x0 rfl rfl ?_
    refine ek_if (c_le (show _ = Int32.ofInt (S x0 14) from rfl) (show _ = Int32.ofInt x7 from rfl) (g_rf (j := 14) h t_x0 rfl rfl) r_x7) (fun g1 => ?_) (fun g1 => ?_)
    · replace hv := hv.1 g1
      exact aMo_goRounds_279 hp  rfl t_x0 (show _ = Int32.ofInt x1 from rfl) r_x1 (show _ = Int32.ofInt x6 from rfl) r_x6 h hv
    · replace hv := hv.2 g1
      refine ⟨g_ob h t_x0, ?_⟩
      refine apMo_giveWay (fun S3 N4 h5 hv => ?_) rfl t_x0 (show _ = Int32.ofInt x7 from rfl) r_x7 h hv
      obtain ⟨c7, hv⟩ := hv
      refine nm_z (h_add (show _ = Int32.ofInt x7 from rfl) LI_1) (fun z16 e8 => ?_)
      have r9 : rI z16 := by rw [e8]; exact c7
      replace hv := hv z16 e8
      exact ih _ _ rfl t_x0 _ _ (show _ = Int32.ofInt x1 from rfl) r_x1 _ _ (show _ = Int32.ofInt x6 from rfl) r_x6 _ _ (show _ = Int32.ofInt z16 from rfl) r9 _ _ h5 hv
def vMo_goRounds_212 (Q : Int → St → Prop) (x0 : Int) (x1 : Int) (x2 : Int) (x6 : Int) (S : St) : Prop := (((x2 = 0 → (∃ n18 : Nat, (vMo_goRounds_258 Q n18 x0 x1 x6 0 S))) ∧ (¬ x2 = 0 → (vpMo_copy x0 28 25 S (fun (S3 : St) => (vpMo_copy x0 29 26 S3 (fun (S8 : St) => (vpMo_copy x0 30 27 S8 (fun (S13 : St) => (vMo_goRounds_279 Q x0 x1 x6 S13))))))))))
theorem aMo_goRounds_212 {ad : Int → Nat} {Q : Int → St → Prop} {post : Int32 → Hp → Prop} (hp : ∀ (r : Int) (S : St) (M : Hp), US ad S M → rI r → Q r S → post (Int32.ofInt r) M) {w_x0 : Nat} {x0 : Int} (e_x0 : w_x0 = ad x0) (t_x0 : kt (20 + 6) x0) {w_x1 : Int32} {x1 : Int} (e_x1 : w_x1 = Int32.ofInt x1) (r_x1 : rI x1) {w_x2 : Int32} {x2 : Int} (e_x2 : w_x2 = Int32.ofInt x2) (r_x2 : rI x2) {w_x6 : Int32} {x6 : Int} (e_x6 : w_x6 = Int32.ofInt x6) (r_x6 : rI x6) {S : St} {M : Hp} (h : US ad S M) (hv : vMo_goRounds_212 Q x0 x1 x2 x6 S) : wMo_goRounds_212 post w_x0 w_x1 w_x2 w_x6 M := by
  subst e_x0
  subst e_x1
  subst e_x2
  subst e_x6
  unfold vMo_goRounds_212 at hv
  unfold wMo_goRounds_212
  refine ek_if (c_eq (show _ = Int32.ofInt x2 from rfl) LI_0 r_x2 LI_0r) (fun g1 => ?_) (fun g1 => ?_)
  · replace hv := hv.1 g1
    obtain ⟨n18, hv⟩ := hv
    refine ⟨n18, ?_⟩
    exact aMo_goRounds_258 hp  n18 _ _ rfl t_x0 _ _ (show _ = Int32.ofInt x1 from rfl) r_x1 _ _ (show _ = Int32.ofInt x6 from rfl) r_x6 _ _ LI_0 LI_0r _ _ h hv
  · replace hv := hv.2 g1
    refine g_fA h t_x0 rfl (rv_6_28 t_x0) ?_
    refine g_fA h t_x0 rfl (rv_6_25 t_x0) ?_
    refine ⟨g_ob h t_x0, ?_⟩
    refine apMo_copy (fun S3 N4 h5 hv => ?_) rfl t_x0 rfl (show kt 1 28 by decide) rfl (show kt 1 25 by decide) h hv
    refine g_fA h5 t_x0 rfl (rv_6_29 t_x0) ?_
    refine g_fA h5 t_x0 rfl (rv_6_26 t_x0) ?_
    refine ⟨g_ob h5 t_x0, ?_⟩
    refine apMo_copy (fun S8 N9 h10 hv => ?_) rfl t_x0 rfl (show kt 1 29 by decide) rfl (show kt 1 26 by decide) h5 hv
    refine g_fA h10 t_x0 rfl (rv_6_30 t_x0) ?_
    refine g_fA h10 t_x0 rfl (rv_6_27 t_x0) ?_
    refine ⟨g_ob h10 t_x0, ?_⟩
    refine apMo_copy (fun S13 N14 h15 hv => ?_) rfl t_x0 rfl (show kt 1 30 by decide) rfl (show kt 1 27 by decide) h10 hv
    exact aMo_goRounds_279 hp  rfl t_x0 (show _ = Int32.ofInt x1 from rfl) r_x1 (show _ = Int32.ofInt x6 from rfl) r_x6 h15 hv
def vMo_goRounds_197 (Q : Int → St → Prop) (K31 : Int → Int → Int → Int → Int → Int → St → Prop) (x0 : Int) (x1 : Int) (x2 : Int) (x3 : Int) (x6 : Int) (S : St) : Prop := (vpMo_isSettled x0 S (fun (r1 : Int) (S2 : St) => (vpMo_setPrices x0 x6 S2 (fun (S7 : St) => (K31 x0 x1 x2 x3 r1 x6 S7)))))
theorem aMo_goRounds_197 {ad : Int → Nat} {Q : Int → St → Prop} {K31 : Int → Int → Int → Int → Int → Int → St → Prop} {post : Int32 → Hp → Prop} {k31 : Nat → Int32 → Int32 → Int64 → Int32 → Int32 → Hp → Prop} (hp : ∀ (r : Int) (S : St) (M : Hp), US ad S M → rI r → Q r S → post (Int32.ofInt r) M) (hk31 : ∀ (b0 b1 b2 b3 b4 b5 : Int) (S : St) (M : Hp), kt (20 + 6) b0 → rI b1 → rI b2 → rJ b3 → rI b4 → rI b5 → US ad S M → K31 b0 b1 b2 b3 b4 b5 S → k31 (ad b0) (Int32.ofInt b1) (Int32.ofInt b2) (Int64.ofInt b3) (Int32.ofInt b4) (Int32.ofInt b5) M) {w_x0 : Nat} {x0 : Int} (e_x0 : w_x0 = ad x0) (t_x0 : kt (20 + 6) x0) {w_x1 : Int32} {x1 : Int} (e_x1 : w_x1 = Int32.ofInt x1) (r_x1 : rI x1) {w_x2 : Int32} {x2 : Int} (e_x2 : w_x2 = Int32.ofInt x2) (r_x2 : rI x2) {w_x3 : Int64} {x3 : Int} (e_x3 : w_x3 = Int64.ofInt x3) (r_x3 : rJ x3) {w_x6 : Int32} {x6 : Int} (e_x6 : w_x6 = Int32.ofInt x6) (r_x6 : rI x6) {S : St} {M : Hp} (h : US ad S M) (hv : vMo_goRounds_197 Q K31 x0 x1 x2 x3 x6 S) : wMo_goRounds_197 post k31 w_x0 w_x1 w_x2 w_x3 w_x6 M := by
  subst e_x0
  subst e_x1
  subst e_x2
  subst e_x3
  subst e_x6
  unfold vMo_goRounds_197 at hv
  unfold wMo_goRounds_197
  refine ⟨g_ob h t_x0, ?_⟩
  refine apMo_isSettled (fun r1 S2 N3 h4 r5 hv => ?_) rfl t_x0 h hv
  refine ⟨g_ob h4 t_x0, ?_⟩
  refine apMo_setPrices (fun S7 N8 h9 hv => ?_) rfl t_x0 (show _ = Int32.ofInt x6 from rfl) r_x6 h4 hv
  exact hk31 _ _ _ _ _ _ _ _ t_x0 r_x1 r_x2 r_x3 r5 r_x6 h9 hv
def vMo_goRounds_154 (Q : Int → St → Prop) (K31 : Int → Int → Int → Int → Int → Int → St → Prop) (x0 : Int) (x1 : Int) (x6 : Int) (S : St) : Prop := (vpMo_trueWorth x0 S (fun (r1 : Int) (S2 : St) => (vpMo_copy x0 25 28 S2 (fun (S7 : St) => (vpMo_copy x0 26 29 S7 (fun (S12 : St) => (vpMo_copy x0 27 30 S12 (fun (S17 : St) => (vMo_goRounds_197 Q K31 x0 x1 1 r1 x6 S17)))))))))
theorem aMo_goRounds_154 {ad : Int → Nat} {Q : Int → St → Prop} {K31 : Int → Int → Int → Int → Int → Int → St → Prop} {post : Int32 → Hp → Prop} {k31 : Nat → Int32 → Int32 → Int64 → Int32 → Int32 → Hp → Prop} (hp : ∀ (r : Int) (S : St) (M : Hp), US ad S M → rI r → Q r S → post (Int32.ofInt r) M) (hk31 : ∀ (b0 b1 b2 b3 b4 b5 : Int) (S : St) (M : Hp), kt (20 + 6) b0 → rI b1 → rI b2 → rJ b3 → rI b4 → rI b5 → US ad S M → K31 b0 b1 b2 b3 b4 b5 S → k31 (ad b0) (Int32.ofInt b1) (Int32.ofInt b2) (Int64.ofInt b3) (Int32.ofInt b4) (Int32.ofInt b5) M) {w_x0 : Nat} {x0 : Int} (e_x0 : w_x0 = ad x0) (t_x0 : kt (20 + 6) x0) {w_x1 : Int32} {x1 : Int} (e_x1 : w_x1 = Int32.ofInt x1) (r_x1 : rI x1) {w_x6 : Int32} {x6 : Int} (e_x6 : w_x6 = Int32.ofInt x6) (r_x6 : rI x6) {S : St} {M : Hp} (h : US ad S M) (hv : vMo_goRounds_154 Q K31 x0 x1 x6 S) : wMo_goRounds_154 post k31 w_x0 w_x1 w_x6 M := by
  subst e_x0
  subst e_x1
  subst e_x6
  unfold vMo_goRounds_154 at hv
  unfold wMo_goRounds_154
  refine ⟨g_ob h t_x0, ?_⟩
  refine apMo_trueWorth (fun r1 S2 N3 h4 r5 hv => ?_) rfl t_x0 h hv
  refine g_fA h4 t_x0 rfl (rv_6_25 t_x0) ?_
  refine g_fA h4 t_x0 rfl (rv_6_28 t_x0) ?_
  refine ⟨g_ob h4 t_x0, ?_⟩
  refine apMo_copy (fun S7 N8 h9 hv => ?_) rfl t_x0 rfl (show kt 1 25 by decide) rfl (show kt 1 28 by decide) h4 hv
  refine g_fA h9 t_x0 rfl (rv_6_26 t_x0) ?_
  refine g_fA h9 t_x0 rfl (rv_6_29 t_x0) ?_
  refine ⟨g_ob h9 t_x0, ?_⟩
  refine apMo_copy (fun S12 N13 h14 hv => ?_) rfl t_x0 rfl (show kt 1 26 by decide) rfl (show kt 1 29 by decide) h9 hv
  refine g_fA h14 t_x0 rfl (rv_6_27 t_x0) ?_
  refine g_fA h14 t_x0 rfl (rv_6_30 t_x0) ?_
  refine ⟨g_ob h14 t_x0, ?_⟩
  refine apMo_copy (fun S17 N18 h19 hv => ?_) rfl t_x0 rfl (show kt 1 27 by decide) rfl (show kt 1 30 by decide) h14 hv
  exact aMo_goRounds_197 hp hk31 rfl t_x0 (show _ = Int32.ofInt x1 from rfl) r_x1 LI_1 LI_1r (show _ = Int64.ofInt r1 from rfl) r5 (show _ = Int32.ofInt x6 from rfl) r_x6 h19 hv
def vMo_goRounds_131 (Q : Int → St → Prop) (K31 : Int → Int → Int → Int → Int → Int → St → Prop) (x0 : Int) (x1 : Int) (x2 : Int) (x3 : Int) (x6 : Int) (y0 : Int) (y1 : Int) (S : St) : Prop := (∀ S1 : St, S1 = up S y1 35 y0 → (vpMo_allHold x0 S1 (fun (r5 : Int) (S6 : St) => (((r5 = 0 → (vMo_goRounds_197 Q K31 x0 x1 x2 x3 x6 S6)) ∧ (¬ r5 = 0 → (((x2 = 0 → (vMo_goRounds_154 Q K31 x0 x1 x6 S6)) ∧ (¬ x2 = 0 → (vpMo_trueWorth x0 S6 (fun (r12 : Int) (S13 : St) => (((r12 ≤ x3 → (vMo_goRounds_197 Q K31 x0 x1 x2 x3 x6 S13)) ∧ (¬ r12 ≤ x3 → (vMo_goRounds_154 Q K31 x0 x1 x6 S13)))))))))))))))
theorem aMo_goRounds_131 {ad : Int → Nat} {Q : Int → St → Prop} {K31 : Int → Int → Int → Int → Int → Int → St → Prop} {post : Int32 → Hp → Prop} {k31 : Nat → Int32 → Int32 → Int64 → Int32 → Int32 → Hp → Prop} (hp : ∀ (r : Int) (S : St) (M : Hp), US ad S M → rI r → Q r S → post (Int32.ofInt r) M) (hk31 : ∀ (b0 b1 b2 b3 b4 b5 : Int) (S : St) (M : Hp), kt (20 + 6) b0 → rI b1 → rI b2 → rJ b3 → rI b4 → rI b5 → US ad S M → K31 b0 b1 b2 b3 b4 b5 S → k31 (ad b0) (Int32.ofInt b1) (Int32.ofInt b2) (Int64.ofInt b3) (Int32.ofInt b4) (Int32.ofInt b5) M) {w_x0 : Nat} {x0 : Int} (e_x0 : w_x0 = ad x0) (t_x0 : kt (20 + 6) x0) {w_x1 : Int32} {x1 : Int} (e_x1 : w_x1 = Int32.ofInt x1) (r_x1 : rI x1) {w_x2 : Int32} {x2 : Int} (e_x2 : w_x2 = Int32.ofInt x2) (r_x2 : rI x2) {w_x3 : Int64} {x3 : Int} (e_x3 : w_x3 = Int64.ofInt x3) (r_x3 : rJ x3) {w_x6 : Int32} {x6 : Int} (e_x6 : w_x6 = Int32.ofInt x6) (r_x6 : rI x6) {w_y0 : Int64} {y0 : Int} (e_y0 : w_y0 = Int64.ofInt y0) (r_y0 : rJ y0) {w_y1 : Nat} {y1 : Int} (e_y1 : w_y1 = ad y1) (t_y1 : kt (20 + 6) y1) {S : St} {M : Hp} (h : US ad S M) (hv : vMo_goRounds_131 Q K31 x0 x1 x2 x3 x6 y0 y1 S) : wMo_goRounds_131 post k31 w_x0 w_x1 w_x2 w_x3 w_x6 w_y0 w_y1 M := by
  subst e_x0
  subst e_x1
  subst e_x2
  subst e_x3
  subst e_x6
  subst e_y0
  subst e_y1
  unfold vMo_goRounds_131 at hv
  unfold wMo_goRounds_131
  refine g_pJ h t_y1 rfl rfl (show _ = Int64.ofInt y0 from rfl) r_y0 (fun S1 N2 e4 h3 => ?_)
  replace hv := hv S1 e4
  refine ⟨g_ob h3 t_x0, ?_⟩
  refine apMo_allHold (fun r5 S6 N7 h8 r9 hv => ?_) rfl t_x0 h3 hv
  refine ek_if (c_eq (show _ = Int32.ofInt r5 from rfl) LI_0 r9 LI_0r) (fun g10 => ?_) (fun g10 => ?_)
  · replace hv := hv.1 g10
    exact aMo_goRounds_197 hp hk31 rfl t_x0 (show _ = Int32.ofInt x1 from rfl) r_x1 (show _ = Int32.ofInt x2 from rfl) r_x2 (show _ = Int64.ofInt x3 from rfl) r_x3 (show _ = Int32.ofInt x6 from rfl) r_x6 h8 hv
  · replace hv := hv.2 g10
    refine ek_if (c_eq (show _ = Int32.ofInt x2 from rfl) LI_0 r_x2 LI_0r) (fun g11 => ?_) (fun g11 => ?_)
    · replace hv := hv.1 g11
      exact aMo_goRounds_154 hp hk31 rfl t_x0 (show _ = Int32.ofInt x1 from rfl) r_x1 (show _ = Int32.ofInt x6 from rfl) r_x6 h8 hv
    · replace hv := hv.2 g11
      refine ⟨g_ob h8 t_x0, ?_⟩
      refine apMo_trueWorth (fun r12 S13 N14 h15 r16 hv => ?_) rfl t_x0 h8 hv
      refine ek_if (C_le (show _ = Int64.ofInt r12 from rfl) (show _ = Int64.ofInt x3 from rfl) r16 r_x3) (fun g17 => ?_) (fun g17 => ?_)
      · replace hv := hv.1 g17
        exact aMo_goRounds_197 hp hk31 rfl t_x0 (show _ = Int32.ofInt x1 from rfl) r_x1 (show _ = Int32.ofInt x2 from rfl) r_x2 (show _ = Int64.ofInt x3 from rfl) r_x3 (show _ = Int32.ofInt x6 from rfl) r_x6 h15 hv
      · replace hv := hv.2 g17
        exact aMo_goRounds_154 hp hk31 rfl t_x0 (show _ = Int32.ofInt x1 from rfl) r_x1 (show _ = Int32.ofInt x6 from rfl) r_x6 h15 hv
def vMo_goRounds_122 (Q : Int → St → Prop) (K31 : Int → Int → Int → Int → Int → Int → St → Prop) (x0 : Int) (x1 : Int) (x2 : Int) (x3 : Int) (x6 : Int) (x7 : Int) (y0 : Int) (S : St) : Prop := (vMo_goRounds_131 Q K31 x0 x1 x2 x3 x6 x7 y0 S)
theorem aMo_goRounds_122 {ad : Int → Nat} {Q : Int → St → Prop} {K31 : Int → Int → Int → Int → Int → Int → St → Prop} {post : Int32 → Hp → Prop} {k31 : Nat → Int32 → Int32 → Int64 → Int32 → Int32 → Hp → Prop} (hp : ∀ (r : Int) (S : St) (M : Hp), US ad S M → rI r → Q r S → post (Int32.ofInt r) M) (hk31 : ∀ (b0 b1 b2 b3 b4 b5 : Int) (S : St) (M : Hp), kt (20 + 6) b0 → rI b1 → rI b2 → rJ b3 → rI b4 → rI b5 → US ad S M → K31 b0 b1 b2 b3 b4 b5 S → k31 (ad b0) (Int32.ofInt b1) (Int32.ofInt b2) (Int64.ofInt b3) (Int32.ofInt b4) (Int32.ofInt b5) M) {w_x0 : Nat} {x0 : Int} (e_x0 : w_x0 = ad x0) (t_x0 : kt (20 + 6) x0) {w_x1 : Int32} {x1 : Int} (e_x1 : w_x1 = Int32.ofInt x1) (r_x1 : rI x1) {w_x2 : Int32} {x2 : Int} (e_x2 : w_x2 = Int32.ofInt x2) (r_x2 : rI x2) {w_x3 : Int64} {x3 : Int} (e_x3 : w_x3 = Int64.ofInt x3) (r_x3 : rJ x3) {w_x6 : Int32} {x6 : Int} (e_x6 : w_x6 = Int32.ofInt x6) (r_x6 : rI x6) {w_x7 : Int64} {x7 : Int} (e_x7 : w_x7 = Int64.ofInt x7) (r_x7 : rJ x7) {w_y0 : Nat} {y0 : Int} (e_y0 : w_y0 = ad y0) (t_y0 : kt (20 + 6) y0) {S : St} {M : Hp} (h : US ad S M) (hv : vMo_goRounds_122 Q K31 x0 x1 x2 x3 x6 x7 y0 S) : wMo_goRounds_122 post k31 w_x0 w_x1 w_x2 w_x3 w_x6 w_x7 w_y0 M := by
  subst e_x0
  subst e_x1
  subst e_x2
  subst e_x3
  subst e_x6
  subst e_x7
  subst e_y0
  unfold vMo_goRounds_122 at hv
  unfold wMo_goRounds_122
  exact aMo_goRounds_131 hp hk31 rfl t_x0 (show _ = Int32.ofInt x1 from rfl) r_x1 (show _ = Int32.ofInt x2 from rfl) r_x2 (show _ = Int64.ofInt x3 from rfl) r_x3 (show _ = Int32.ofInt x6 from rfl) r_x6 (show _ = Int64.ofInt x7 from rfl) r_x7 rfl t_y0 h hv
def vMo_goRounds_96 (Q : Int → St → Prop) (K31 : Int → Int → Int → Int → Int → Int → St → Prop) (K54 : Int → Int → Int → Int → Int → Int → Int → St → Prop) (x0 : Int) (x1 : Int) (x2 : Int) (x3 : Int) (x6 : Int) (x9 : Int) (y0 : Int) (y1 : Int) (S : St) : Prop := ((rJ (y1 + y0)) ∧ ∀ z100 : Int, z100 = (y1 + y0) → ((rI (x9 + 1)) ∧ ∀ z101 : Int, z101 = (x9 + 1) → (K54 x0 x1 x2 x3 x6 z100 z101 S)))
theorem aMo_goRounds_96 {ad : Int → Nat} {Q : Int → St → Prop} {K31 : Int → Int → Int → Int → Int → Int → St → Prop} {K54 : Int → Int → Int → Int → Int → Int → Int → St → Prop} {post : Int32 → Hp → Prop} {k31 : Nat → Int32 → Int32 → Int64 → Int32 → Int32 → Hp → Prop} {k54 : Nat → Int32 → Int32 → Int64 → Int32 → Int64 → Int32 → Hp → Prop} (hp : ∀ (r : Int) (S : St) (M : Hp), US ad S M → rI r → Q r S → post (Int32.ofInt r) M) (hk31 : ∀ (b0 b1 b2 b3 b4 b5 : Int) (S : St) (M : Hp), kt (20 + 6) b0 → rI b1 → rI b2 → rJ b3 → rI b4 → rI b5 → US ad S M → K31 b0 b1 b2 b3 b4 b5 S → k31 (ad b0) (Int32.ofInt b1) (Int32.ofInt b2) (Int64.ofInt b3) (Int32.ofInt b4) (Int32.ofInt b5) M) (hk54 : ∀ (b0 b1 b2 b3 b4 b5 b6 : Int) (S : St) (M : Hp), kt (20 + 6) b0 → rI b1 → rI b2 → rJ b3 → rI b4 → rJ b5 → rI b6 → US ad S M → K54 b0 b1 b2 b3 b4 b5 b6 S → k54 (ad b0) (Int32.ofInt b1) (Int32.ofInt b2) (Int64.ofInt b3) (Int32.ofInt b4) (Int64.ofInt b5) (Int32.ofInt b6) M) {w_x0 : Nat} {x0 : Int} (e_x0 : w_x0 = ad x0) (t_x0 : kt (20 + 6) x0) {w_x1 : Int32} {x1 : Int} (e_x1 : w_x1 = Int32.ofInt x1) (r_x1 : rI x1) {w_x2 : Int32} {x2 : Int} (e_x2 : w_x2 = Int32.ofInt x2) (r_x2 : rI x2) {w_x3 : Int64} {x3 : Int} (e_x3 : w_x3 = Int64.ofInt x3) (r_x3 : rJ x3) {w_x6 : Int32} {x6 : Int} (e_x6 : w_x6 = Int32.ofInt x6) (r_x6 : rI x6) {w_x9 : Int32} {x9 : Int} (e_x9 : w_x9 = Int32.ofInt x9) (r_x9 : rI x9) {w_y0 : Int64} {y0 : Int} (e_y0 : w_y0 = Int64.ofInt y0) (r_y0 : rJ y0) {w_y1 : Int64} {y1 : Int} (e_y1 : w_y1 = Int64.ofInt y1) (r_y1 : rJ y1) {S : St} {M : Hp} (h : US ad S M) (hv : vMo_goRounds_96 Q K31 K54 x0 x1 x2 x3 x6 x9 y0 y1 S) : wMo_goRounds_96 post k31 k54 w_x0 w_x1 w_x2 w_x3 w_x6 w_x9 w_y0 w_y1 M := by
  subst e_x0
  subst e_x1
  subst e_x2
  subst e_x3
  subst e_x6
  subst e_x9
  subst e_y0
  subst e_y1
  unfold vMo_goRounds_96 at hv
  unfold wMo_goRounds_96
  obtain ⟨c1, hv⟩ := hv
  refine nm_Z (H_add (show _ = Int64.ofInt y1 from rfl) (show _ = Int64.ofInt y0 from rfl)) (fun z100 e2 => ?_)
  have r3 : rJ z100 := by rw [e2]; exact c1
  replace hv := hv z100 e2
  obtain ⟨c4, hv⟩ := hv
  refine nm_z (h_add (show _ = Int32.ofInt x9 from rfl) LI_1) (fun z101 e5 => ?_)
  have r6 : rI z101 := by rw [e5]; exact c4
  replace hv := hv z101 e5
  exact hk54 _ _ _ _ _ _ _ _ _ t_x0 r_x1 r_x2 r_x3 r_x6 r3 r6 h hv
def vMo_goRounds_54 (Q : Int → St → Prop) (K31 : Int → Int → Int → Int → Int → Int → St → Prop) : Nat → Int → Int → Int → Int → Int → Int → Int → St → Prop
  | 0 => fun _ _ _ _ _ _ _ _ => False
  | n + 1 => fun x0 x1 x2 x3 x6 x7 x9 S => ((((S x0 14) ≤ x9 → (((x6 = 1 → (vMo_goRounds_122 Q K31 x0 x1 x2 x3 x6 x7 x0 S)) ∧ (¬ x6 = 1 → ((((S x0 35) ≤ x7 → (vMo_goRounds_131 Q K31 x0 x1 x2 x3 x6 (S x0 35) x0 S)) ∧ (¬ (S x0 35) ≤ x7 → (vMo_goRounds_122 Q K31 x0 x1 x2 x3 x6 x7 x0 S)))))))) ∧ (¬ (S x0 14) ≤ x9 → (((0 : Int) ≤ x9 ∧ (x9 : Int) < 8) ∧ (((0 ≤ (S 21 x9) → (((0 : Int) ≤ x9 ∧ (x9 : Int) < 8) ∧ (((0 : Int) ≤ x9 ∧ (x9 : Int) < 8) ∧ ((rJ ((S 23 x9) * (S 21 x9))) ∧ vMo_goRounds_96 Q K31 (vMo_goRounds_54 Q K31 n) x0 x1 x2 x3 x6 x9 ((S 23 x9) * (S 21 x9)) x7 S)))) ∧ (¬ 0 ≤ (S 21 x9) → (vMo_goRounds_96 Q K31 (vMo_goRounds_54 Q K31 n) x0 x1 x2 x3 x6 x9 0 x7 S))))))))
theorem aMo_goRounds_54 {ad : Int → Nat} {Q : Int → St → Prop} {K31 : Int → Int → Int → Int → Int → Int → St → Prop} {post : Int32 → Hp → Prop} {k31 : Nat → Int32 → Int32 → Int64 → Int32 → Int32 → Hp → Prop} (hp : ∀ (r : Int) (S : St) (M : Hp), US ad S M → rI r → Q r S → post (Int32.ofInt r) M) (hk31 : ∀ (b0 b1 b2 b3 b4 b5 : Int) (S : St) (M : Hp), kt (20 + 6) b0 → rI b1 → rI b2 → rJ b3 → rI b4 → rI b5 → US ad S M → K31 b0 b1 b2 b3 b4 b5 S → k31 (ad b0) (Int32.ofInt b1) (Int32.ofInt b2) (Int64.ofInt b3) (Int32.ofInt b4) (Int32.ofInt b5) M) : ∀ (n : Nat) (w_x0 : Nat) (x0 : Int) (e_x0 : w_x0 = ad x0) (t_x0 : kt (20 + 6) x0) (w_x1 : Int32) (x1 : Int) (e_x1 : w_x1 = Int32.ofInt x1) (r_x1 : rI x1) (w_x2 : Int32) (x2 : Int) (e_x2 : w_x2 = Int32.ofInt x2) (r_x2 : rI x2) (w_x3 : Int64) (x3 : Int) (e_x3 : w_x3 = Int64.ofInt x3) (r_x3 : rJ x3) (w_x6 : Int32) (x6 : Int) (e_x6 : w_x6 = Int32.ofInt x6) (r_x6 : rI x6) (w_x7 : Int64) (x7 : Int) (e_x7 : w_x7 = Int64.ofInt x7) (r_x7 : rJ x7) (w_x9 : Int32) (x9 : Int) (e_x9 : w_x9 = Int32.ofInt x9) (r_x9 : rI x9) (S : St) (M : Hp), US ad S M → vMo_goRounds_54 Q K31 n x0 x1 x2 x3 x6 x7 x9 S → wMo_goRounds_54 post k31 n w_x0 w_x1 w_x2 w_x3 w_x6 w_x7 w_x9 M := by
  intro n
  induction n with
  | zero => intro w_x0 x0 e_x0 t_x0 w_x1 x1 e_x1 r_x1 w_x2 x2 e_x2 r_x2 w_x3 x3 e_x3 r_x3 w_x6 x6 e_x6 r_x6 w_x7 x7 e_x7 r_x7 w_x9 x9 e_x9 r_x9 S M h hv; exact hv.elim
  | succ n ih =>
    intro w_x0 x0 e_x0 t_x0 w_x1 x1 e_x1 r_x1 w_x2 x2 e_x2 r_x2 w_x3 x3 e_x3 r_x3 w_x6 x6 e_x6 r_x6 w_x7 x7 e_x7 r_x7 w_x9 x9 e_x9 r_x9 S M h hv
    subst e_x0
    subst e_x1
    subst e_x2
    subst e_x3
    subst e_x6
    subst e_x7
    subst e_x9
    unfold vMo_goRounds_54 at hv
    unfold wMo_goRounds_54
    refine g_fI h t_x0 rfl rfl ?_
    refine ek_if (c_le (show _ = Int32.ofInt (S x0 14) from rfl) (show _ = Int32.ofInt x9 from rfl) (g_rf (j := 14) h t_x0 rfl rfl) r_x9) (fun g1 => ?_) (fun g1 => ?_)
    · replace hv := hv.1 g1
      refine ek_if (c_eq (show _ = Int32.ofInt x6 from rfl) LI_1 r_x6 LI_1r) (fun g2 => ?_) (fun g2 => ?_)
      · replace hv := hv.1 g2
        exact aMo_goRounds_122 hp hk31 rfl t_x0 (show _ = Int32.ofInt x1 from rfl) r_x1 (show _ = Int32.ofInt x2 from rfl) r_x2 (show _ = Int64.ofInt x3 from rfl) r_x3 (show _ = Int32.ofInt x6 from rfl) r_x6 (show _ = Int64.ofInt x7 from rfl) r_x7 rfl t_x0 h hv
      · replace hv := hv.2 g2
        refine g_fJ h t_x0 rfl rfl ?_
        refine ek_if (C_le (show _ = Int64.ofInt (S x0 35) from rfl) (show _ = Int64.ofInt x7 from rfl) (g_rF (j := 35) h t_x0 rfl rfl) r_x7) (fun g3 => ?_) (fun g3 => ?_)
        · replace hv := hv.1 g3
          refine g_fJ h t_x0 rfl rfl ?_
          exact aMo_goRounds_131 hp hk31 rfl t_x0 (show _ = Int32.ofInt x1 from rfl) r_x1 (show _ = Int32.ofInt x2 from rfl) r_x2 (show _ = Int64.ofInt x3 from rfl) r_x3 (show _ = Int32.ofInt x6 from rfl) r_x6 (show _ = Int64.ofInt (S x0 35) from rfl) (g_rF (j := 35) h t_x0 rfl rfl) rfl t_x0 h hv
        · replace hv := hv.2 g3
          exact aMo_goRounds_122 hp hk31 rfl t_x0 (show _ = Int32.ofInt x1 from rfl) r_x1 (show _ = Int32.ofInt x2 from rfl) r_x2 (show _ = Int64.ofInt x3 from rfl) r_x3 (show _ = Int32.ofInt x6 from rfl) r_x6 (show _ = Int64.ofInt x7 from rfl) r_x7 rfl t_x0 h hv
    · replace hv := hv.2 g1
      refine g_fA h t_x0 rfl (rv_6_21 t_x0) ?_
      obtain ⟨c4, hv⟩ := hv
      refine g_aJ h (show kt 3 21 by decide) (show alen 21 = 8 by decide) (show _ = Int32.ofInt x9 from rfl) c4 ?_
      refine ek_if (C_le LJ_0 (show _ = Int64.ofInt (S 21 x9) from rfl) LJ_0r (g_rJ h (show kt 3 21 by decide))) (fun g5 => ?_) (fun g5 => ?_)
      · replace hv := hv.1 g5
        refine g_fA h t_x0 rfl (rv_6_23 t_x0) ?_
        obtain ⟨c6, hv⟩ := hv
        refine g_aJ h (show kt 3 23 by decide) (show alen 23 = 8 by decide) (show _ = Int32.ofInt x9 from rfl) c6 ?_
        refine g_fA h t_x0 rfl (rv_6_21 t_x0) ?_
        obtain ⟨c7, hv⟩ := hv
        refine g_aJ h (show kt 3 21 by decide) (show alen 21 = 8 by decide) (show _ = Int32.ofInt x9 from rfl) c7 ?_
        obtain ⟨c8, hv⟩ := hv
        exact aMo_goRounds_96 hp hk31 (fun b0 b1 b2 b3 b4 b5 b6 S9 M9 y0 y1 y2 y3 y4 y5 y6 h9 hv9 => ih _ b0 rfl y0 _ b1 rfl y1 _ b2 rfl y2 _ b3 rfl y3 _ b4 rfl y4 _ b5 rfl y5 _ b6 rfl y6 S9 M9 h9 hv9) rfl t_x0 (show _ = Int32.ofInt x1 from rfl) r_x1 (show _ = Int32.ofInt x2 from rfl) r_x2 (show _ = Int64.ofInt x3 from rfl) r_x3 (show _ = Int32.ofInt x6 from rfl) r_x6 (show _ = Int32.ofInt x9 from rfl) r_x9 (H_mul (show _ = Int64.ofInt (S 23 x9) from rfl) (show _ = Int64.ofInt (S 21 x9) from rfl)) c8 (show _ = Int64.ofInt x7 from rfl) r_x7 h hv
      · replace hv := hv.2 g5
        exact aMo_goRounds_96 hp hk31 (fun b0 b1 b2 b3 b4 b5 b6 S9 M9 y0 y1 y2 y3 y4 y5 y6 h9 hv9 => ih _ b0 rfl y0 _ b1 rfl y1 _ b2 rfl y2 _ b3 rfl y3 _ b4 rfl y4 _ b5 rfl y5 _ b6 rfl y6 S9 M9 h9 hv9) rfl t_x0 (show _ = Int32.ofInt x1 from rfl) r_x1 (show _ = Int32.ofInt x2 from rfl) r_x2 (show _ = Int64.ofInt x3 from rfl) r_x3 (show _ = Int32.ofInt x6 from rfl) r_x6 (show _ = Int32.ofInt x9 from rfl) r_x9 LJ_0 LJ_0r (show _ = Int64.ofInt x7 from rfl) r_x7 h hv
def vMo_goRounds_31 (Q : Int → St → Prop) : Nat → Int → Int → Int → Int → Int → Int → St → Prop
  | 0 => fun _ _ _ _ _ _ _ => False
  | n + 1 => fun x0 x1 x2 x3 x5 x6 S => (((x1 ≤ x6 → (vMo_goRounds_212 Q x0 x1 x2 x6 S)) ∧ (¬ x1 ≤ x6 → (((x5 = 0 → ((rI (x6 + 1)) ∧ ∀ z147 : Int, z147 = (x6 + 1) → (vpMo_plan x0 S (fun (r6 : Int) (S7 : St) => (∃ n151 : Nat, (vMo_goRounds_54 Q (vMo_goRounds_31 Q n) n151 x0 x1 x2 x3 z147 r6 0 S7)))))) ∧ (¬ x5 = 0 → (vMo_goRounds_212 Q x0 x1 x2 x6 S)))))))
theorem aMo_goRounds_31 {ad : Int → Nat} {Q : Int → St → Prop} {post : Int32 → Hp → Prop} (hp : ∀ (r : Int) (S : St) (M : Hp), US ad S M → rI r → Q r S → post (Int32.ofInt r) M) : ∀ (n : Nat) (w_x0 : Nat) (x0 : Int) (e_x0 : w_x0 = ad x0) (t_x0 : kt (20 + 6) x0) (w_x1 : Int32) (x1 : Int) (e_x1 : w_x1 = Int32.ofInt x1) (r_x1 : rI x1) (w_x2 : Int32) (x2 : Int) (e_x2 : w_x2 = Int32.ofInt x2) (r_x2 : rI x2) (w_x3 : Int64) (x3 : Int) (e_x3 : w_x3 = Int64.ofInt x3) (r_x3 : rJ x3) (w_x5 : Int32) (x5 : Int) (e_x5 : w_x5 = Int32.ofInt x5) (r_x5 : rI x5) (w_x6 : Int32) (x6 : Int) (e_x6 : w_x6 = Int32.ofInt x6) (r_x6 : rI x6) (S : St) (M : Hp), US ad S M → vMo_goRounds_31 Q n x0 x1 x2 x3 x5 x6 S → wMo_goRounds_31 post n w_x0 w_x1 w_x2 w_x3 w_x5 w_x6 M := by
  intro n
  induction n with
  | zero => intro w_x0 x0 e_x0 t_x0 w_x1 x1 e_x1 r_x1 w_x2 x2 e_x2 r_x2 w_x3 x3 e_x3 r_x3 w_x5 x5 e_x5 r_x5 w_x6 x6 e_x6 r_x6 S M h hv; exact hv.elim
  | succ n ih =>
    intro w_x0 x0 e_x0 t_x0 w_x1 x1 e_x1 r_x1 w_x2 x2 e_x2 r_x2 w_x3 x3 e_x3 r_x3 w_x5 x5 e_x5 r_x5 w_x6 x6 e_x6 r_x6 S M h hv
    subst e_x0
    subst e_x1
    subst e_x2
    subst e_x3
    subst e_x5
    subst e_x6
    unfold vMo_goRounds_31 at hv
    unfold wMo_goRounds_31
    refine ek_if (c_le (show _ = Int32.ofInt x1 from rfl) (show _ = Int32.ofInt x6 from rfl) r_x1 r_x6) (fun g1 => ?_) (fun g1 => ?_)
    · replace hv := hv.1 g1
      exact aMo_goRounds_212 hp  rfl t_x0 (show _ = Int32.ofInt x1 from rfl) r_x1 (show _ = Int32.ofInt x2 from rfl) r_x2 (show _ = Int32.ofInt x6 from rfl) r_x6 h hv
    · replace hv := hv.2 g1
      refine ek_if (c_eq (show _ = Int32.ofInt x5 from rfl) LI_0 r_x5 LI_0r) (fun g2 => ?_) (fun g2 => ?_)
      · replace hv := hv.1 g2
        obtain ⟨c3, hv⟩ := hv
        refine nm_z (h_add (show _ = Int32.ofInt x6 from rfl) LI_1) (fun z147 e4 => ?_)
        have r5 : rI z147 := by rw [e4]; exact c3
        replace hv := hv z147 e4
        refine ⟨g_ob h t_x0, ?_⟩
        refine apMo_plan (fun r6 S7 N8 h9 r10 hv => ?_) rfl t_x0 h hv
        obtain ⟨n151, hv⟩ := hv
        refine ⟨n151, ?_⟩
        exact aMo_goRounds_54 hp (fun b0 b1 b2 b3 b4 b5 S9 M9 y0 y1 y2 y3 y4 y5 h9 hv9 => ih _ b0 rfl y0 _ b1 rfl y1 _ b2 rfl y2 _ b3 rfl y3 _ b4 rfl y4 _ b5 rfl y5 S9 M9 h9 hv9) n151 _ _ rfl t_x0 _ _ (show _ = Int32.ofInt x1 from rfl) r_x1 _ _ (show _ = Int32.ofInt x2 from rfl) r_x2 _ _ (show _ = Int64.ofInt x3 from rfl) r_x3 _ _ (show _ = Int32.ofInt z147 from rfl) r5 _ _ (show _ = Int64.ofInt r6 from rfl) r10 _ _ LI_0 LI_0r _ _ h9 hv
      · replace hv := hv.2 g2
        exact aMo_goRounds_212 hp  rfl t_x0 (show _ = Int32.ofInt x1 from rfl) r_x1 (show _ = Int32.ofInt x2 from rfl) r_x2 (show _ = Int32.ofInt x6 from rfl) r_x6 h hv
def vMo_goRounds_2 (Q : Int → St → Prop) : Nat → Int → Int → Int → St → Prop
  | 0 => fun _ _ _ _ => False
  | n + 1 => fun x0 x1 x2 S => (((8 ≤ x2 → (∃ n153 : Nat, (vMo_goRounds_31 Q n153 x0 x1 0 0 0 0 S))) ∧ (¬ 8 ≤ x2 → (((0 : Int) ≤ x2 ∧ (x2 : Int) < 8) ∧ ∀ S3 : St, S3 = up S 23 x2 0 → ((rI (x2 + 1)) ∧ ∀ z163 : Int, z163 = (x2 + 1) → (vMo_goRounds_2 Q n x0 x1 z163 S3))))))
theorem aMo_goRounds_2 {ad : Int → Nat} {Q : Int → St → Prop} {post : Int32 → Hp → Prop} (hp : ∀ (r : Int) (S : St) (M : Hp), US ad S M → rI r → Q r S → post (Int32.ofInt r) M) : ∀ (n : Nat) (w_x0 : Nat) (x0 : Int) (e_x0 : w_x0 = ad x0) (t_x0 : kt (20 + 6) x0) (w_x1 : Int32) (x1 : Int) (e_x1 : w_x1 = Int32.ofInt x1) (r_x1 : rI x1) (w_x2 : Int32) (x2 : Int) (e_x2 : w_x2 = Int32.ofInt x2) (r_x2 : rI x2) (S : St) (M : Hp), US ad S M → vMo_goRounds_2 Q n x0 x1 x2 S → wMo_goRounds_2 post n w_x0 w_x1 w_x2 M := by
  intro n
  induction n with
  | zero => intro w_x0 x0 e_x0 t_x0 w_x1 x1 e_x1 r_x1 w_x2 x2 e_x2 r_x2 S M h hv; exact hv.elim
  | succ n ih =>
    intro w_x0 x0 e_x0 t_x0 w_x1 x1 e_x1 r_x1 w_x2 x2 e_x2 r_x2 S M h hv
    subst e_x0
    subst e_x1
    subst e_x2
    unfold vMo_goRounds_2 at hv
    unfold wMo_goRounds_2
    refine ek_if (c_le LI_8 (show _ = Int32.ofInt x2 from rfl) LI_8r r_x2) (fun g1 => ?_) (fun g1 => ?_)
    · replace hv := hv.1 g1
      obtain ⟨n153, hv⟩ := hv
      refine ⟨n153, ?_⟩
      exact aMo_goRounds_31 hp  n153 _ _ rfl t_x0 _ _ (show _ = Int32.ofInt x1 from rfl) r_x1 _ _ LI_0 LI_0r _ _ LJ_0 LJ_0r _ _ LI_0 LI_0r _ _ LI_0 LI_0r _ _ h hv
    · replace hv := hv.2 g1
      refine g_fA h t_x0 rfl (rv_6_23 t_x0) ?_
      obtain ⟨c2, hv⟩ := hv
      refine g_sJ h (show kt 3 23 by decide) (show alen 23 = 8 by decide) (show _ = Int32.ofInt x2 from rfl) c2 LJ_0 LJ_0r (fun S3 N4 e6 h5 => ?_)
      replace hv := hv S3 e6
      obtain ⟨c7, hv⟩ := hv
      refine nm_z (h_add (show _ = Int32.ofInt x2 from rfl) LI_1) (fun z163 e8 => ?_)
      have r9 : rI z163 := by rw [e8]; exact c7
      replace hv := hv z163 e8
      exact ih _ _ rfl t_x0 _ _ (show _ = Int32.ofInt x1 from rfl) r_x1 _ _ (show _ = Int32.ofInt z163 from rfl) r9 _ _ h5 hv
def vpMo_goRounds (self : Int) (p0 : Int) (S : St) (Q : Int → St → Prop) : Prop := (∃ n164 : Nat, (vMo_goRounds_2 Q n164 self p0 0 S))
theorem apMo_goRounds {ad : Int → Nat} {Q : Int → St → Prop} {post : Int32 → Hp → Prop} (hp : ∀ (r : Int) (S : St) (M : Hp), US ad S M → rI r → Q r S → post (Int32.ofInt r) M) {w_self : Nat} {self : Int} (e_self : w_self = ad self) (t_self : kt (20 + 6) self) {w_p0 : Int32} {p0 : Int} (e_p0 : w_p0 = Int32.ofInt p0) (r_p0 : rI p0) {S : St} {M : Hp} (h : US ad S M) (hv : vpMo_goRounds self p0 S Q) : wpMo_goRounds w_self w_p0 M post := by
  subst e_self
  subst e_p0
  unfold vpMo_goRounds at hv
  unfold wpMo_goRounds
  obtain ⟨n164, hv⟩ := hv
  refine ⟨n164, ?_⟩
  exact aMo_goRounds_2 hp  n164 _ _ rfl t_self _ _ (show _ = Int32.ofInt p0 from rfl) r_p0 _ _ LI_0 LI_0r _ _ h hv
def vMo_priced_37 (Q : Int → St → Prop) (y0 : Int) (S : St) : Prop := (Q y0 S)
theorem aMo_priced_37 {ad : Int → Nat} {Q : Int → St → Prop} {post : Int32 → Hp → Prop} (hp : ∀ (r : Int) (S : St) (M : Hp), US ad S M → rI r → Q r S → post (Int32.ofInt r) M) {w_y0 : Int32} {y0 : Int} (e_y0 : w_y0 = Int32.ofInt y0) (r_y0 : rI y0) {S : St} {M : Hp} (h : US ad S M) (hv : vMo_priced_37 Q y0 S) : wMo_priced_37 post w_y0 M := by
  subst e_y0
  unfold vMo_priced_37 at hv
  unfold wMo_priced_37
  refine ek_v (P := fun y => post y _) (show _ = Int32.ofInt y0 from rfl) ?_
  exact hp _ _ _ h r_y0 hv
def vMo_priced_18 (Q : Int → St → Prop) (x0 : Int) (x1 : Int) (y0 : Int) (y1 : Int) (S : St) : Prop := (∀ S1 : St, S1 = up S y1 0 y0 → ((((S1 x0 0) ≤ 0 → (vpMo_goRounds x0 x1 S1 (fun (r6 : Int) (S7 : St) => (vMo_priced_37 Q r6 S7)))) ∧ (¬ (S1 x0 0) ≤ 0 → (vMo_priced_37 Q 0 S1)))))
theorem aMo_priced_18 {ad : Int → Nat} {Q : Int → St → Prop} {post : Int32 → Hp → Prop} (hp : ∀ (r : Int) (S : St) (M : Hp), US ad S M → rI r → Q r S → post (Int32.ofInt r) M) {w_x0 : Nat} {x0 : Int} (e_x0 : w_x0 = ad x0) (t_x0 : kt (20 + 6) x0) {w_x1 : Int32} {x1 : Int} (e_x1 : w_x1 = Int32.ofInt x1) (r_x1 : rI x1) {w_y0 : Int32} {y0 : Int} (e_y0 : w_y0 = Int32.ofInt y0) (r_y0 : rI y0) {w_y1 : Nat} {y1 : Int} (e_y1 : w_y1 = ad y1) (t_y1 : kt (20 + 6) y1) {S : St} {M : Hp} (h : US ad S M) (hv : vMo_priced_18 Q x0 x1 y0 y1 S) : wMo_priced_18 post w_x0 w_x1 w_y0 w_y1 M := by
  subst e_x0
  subst e_x1
  subst e_y0
  subst e_y1
  unfold vMo_priced_18 at hv
  unfold wMo_priced_18
  refine g_pI h t_y1 rfl rfl (show _ = Int32.ofInt y0 from rfl) r_y0 (fun S1 N2 e4 h3 => ?_)
  replace hv := hv S1 e4
  refine g_fI h3 t_x0 rfl rfl ?_
  refine ek_if (c_le (show _ = Int32.ofInt (S1 x0 0) from rfl) LI_0 (g_rf (j := 0) h3 t_x0 rfl rfl) LI_0r) (fun g5 => ?_) (fun g5 => ?_)
  · replace hv := hv.1 g5
    refine ⟨g_ob h3 t_x0, ?_⟩
    refine apMo_goRounds (fun r6 S7 N8 h9 r10 hv => ?_) rfl t_x0 (show _ = Int32.ofInt x1 from rfl) r_x1 h3 hv
    exact aMo_priced_37 hp  (show _ = Int32.ofInt r6 from rfl) r10 h9 hv
  · replace hv := hv.2 g5
    exact aMo_priced_37 hp  LI_0 LI_0r h3 hv
def vpMo_priced (self : Int) (p0 : Int) (S : St) (Q : Int → St → Prop) : Prop := (vpMo_isIn p0 1 10 S (fun (r1 : Int) (S2 : St) => (((r1 = 0 → (vMo_priced_18 Q self p0 1 self S2)) ∧ (¬ r1 = 0 → (vMo_priced_18 Q self p0 0 self S2))))))
theorem apMo_priced {ad : Int → Nat} {Q : Int → St → Prop} {post : Int32 → Hp → Prop} (hp : ∀ (r : Int) (S : St) (M : Hp), US ad S M → rI r → Q r S → post (Int32.ofInt r) M) {w_self : Nat} {self : Int} (e_self : w_self = ad self) (t_self : kt (20 + 6) self) {w_p0 : Int32} {p0 : Int} (e_p0 : w_p0 = Int32.ofInt p0) (r_p0 : rI p0) {S : St} {M : Hp} (h : US ad S M) (hv : vpMo_priced self p0 S Q) : wpMo_priced w_self w_p0 M post := by
  subst e_self
  subst e_p0
  unfold vpMo_priced at hv
  unfold wpMo_priced
  refine apMo_isIn (fun r1 S2 N3 h4 r5 hv => ?_) (h_toL (show _ = Int32.ofInt p0 from rfl) r_p0) (rI_J r_p0) LJ_1 LJ_1r LJ_10 LJ_10r h hv
  refine ek_if (c_eq (show _ = Int32.ofInt r1 from rfl) LI_0 r5 LI_0r) (fun g6 => ?_) (fun g6 => ?_)
  · replace hv := hv.1 g6
    exact aMo_priced_18 hp  rfl t_self (show _ = Int32.ofInt p0 from rfl) r_p0 LI_1 LI_1r rfl t_self h4 hv
  · replace hv := hv.2 g6
    exact aMo_priced_18 hp  rfl t_self (show _ = Int32.ofInt p0 from rfl) r_p0 LI_0 LI_0r rfl t_self h4 hv
def vMo_none_28 (Q : Int → St → Prop) (y0 : Int) (S : St) : Prop := (((y0 : Int) = 0 ∨ (y0 : Int) = 1) ∧ (Q y0 S))
theorem aMo_none_28 {ad : Int → Nat} {Q : Int → St → Prop} {post : Int32 → Hp → Prop} (hp : ∀ (r : Int) (S : St) (M : Hp), US ad S M → rI r → Q r S → post (Int32.ofInt r) M) {w_y0 : Int32} {y0 : Int} (e_y0 : w_y0 = Int32.ofInt y0) (r_y0 : rI y0) {S : St} {M : Hp} (h : US ad S M) (hv : vMo_none_28 Q y0 S) : wMo_none_28 post w_y0 M := by
  subst e_y0
  unfold vMo_none_28 at hv
  unfold wMo_none_28
  refine ⟨b01 (show _ = Int32.ofInt y0 from rfl) hv.1, ?_⟩
  replace hv := hv.2
  refine ek_v (P := fun y => post y _) (show _ = Int32.ofInt y0 from rfl) ?_
  exact hp _ _ _ h r_y0 hv
def vMo_none_13 (Q : Int → St → Prop) (x0 : Int) (y0 : Int) (y1 : Int) (S : St) : Prop := (∀ S1 : St, S1 = up S y1 0 y0 → ((((S1 x0 0) ≤ 0 → (vMo_none_28 Q 0 S1)) ∧ (¬ (S1 x0 0) ≤ 0 → (vMo_none_28 Q 1 S1)))))
theorem aMo_none_13 {ad : Int → Nat} {Q : Int → St → Prop} {post : Int32 → Hp → Prop} (hp : ∀ (r : Int) (S : St) (M : Hp), US ad S M → rI r → Q r S → post (Int32.ofInt r) M) {w_x0 : Nat} {x0 : Int} (e_x0 : w_x0 = ad x0) (t_x0 : kt (20 + 6) x0) {w_y0 : Int32} {y0 : Int} (e_y0 : w_y0 = Int32.ofInt y0) (r_y0 : rI y0) {w_y1 : Nat} {y1 : Int} (e_y1 : w_y1 = ad y1) (t_y1 : kt (20 + 6) y1) {S : St} {M : Hp} (h : US ad S M) (hv : vMo_none_13 Q x0 y0 y1 S) : wMo_none_13 post w_x0 w_y0 w_y1 M := by
  subst e_x0
  subst e_y0
  subst e_y1
  unfold vMo_none_13 at hv
  unfold wMo_none_13
  refine g_pI h t_y1 rfl rfl (show _ = Int32.ofInt y0 from rfl) r_y0 (fun S1 N2 e4 h3 => ?_)
  replace hv := hv S1 e4
  refine g_fI h3 t_x0 rfl rfl ?_
  refine ek_if (c_le (show _ = Int32.ofInt (S1 x0 0) from rfl) LI_0 (g_rf (j := 0) h3 t_x0 rfl rfl) LI_0r) (fun g5 => ?_) (fun g5 => ?_)
  · replace hv := hv.1 g5
    exact aMo_none_28 hp  LI_0 LI_0r h3 hv
  · replace hv := hv.2 g5
    exact aMo_none_28 hp  LI_1 LI_1r h3 hv
def vpMo_none (self : Int) (S : St) (Q : Int → St → Prop) : Prop := ((((S self 33) = 0 → (vMo_none_13 Q self 1 self S)) ∧ (¬ (S self 33) = 0 → (vMo_none_13 Q self 0 self S))))
theorem apMo_none {ad : Int → Nat} {Q : Int → St → Prop} {post : Int32 → Hp → Prop} (hp : ∀ (r : Int) (S : St) (M : Hp), US ad S M → rI r → Q r S → post (Int32.ofInt r) M) {w_self : Nat} {self : Int} (e_self : w_self = ad self) (t_self : kt (20 + 6) self) {S : St} {M : Hp} (h : US ad S M) (hv : vpMo_none self S Q) : wpMo_none w_self M post := by
  subst e_self
  unfold vpMo_none at hv
  unfold wpMo_none
  refine g_fI h t_self rfl rfl ?_
  refine ek_if (c_eq (show _ = Int32.ofInt (S self 33) from rfl) LI_0 (g_rf (j := 33) h t_self rfl rfl) LI_0r) (fun g1 => ?_) (fun g1 => ?_)
  · replace hv := hv.1 g1
    exact aMo_none_13 hp  rfl t_self LI_1 LI_1r rfl t_self h hv
  · replace hv := hv.2 g1
    exact aMo_none_13 hp  rfl t_self LI_0 LI_0r rfl t_self h hv
def vMo_worth_15 (Q : Int → St → Prop) (y0 : Int) (S : St) : Prop := (Q y0 S)
theorem aMo_worth_15 {ad : Int → Nat} {Q : Int → St → Prop} {post : Int64 → Hp → Prop} (hp : ∀ (r : Int) (S : St) (M : Hp), US ad S M → rJ r → Q r S → post (Int64.ofInt r) M) {w_y0 : Int64} {y0 : Int} (e_y0 : w_y0 = Int64.ofInt y0) (r_y0 : rJ y0) {S : St} {M : Hp} (h : US ad S M) (hv : vMo_worth_15 Q y0 S) : wMo_worth_15 post w_y0 M := by
  subst e_y0
  unfold vMo_worth_15 at hv
  unfold wMo_worth_15
  refine ek_v (P := fun y => post y _) (show _ = Int64.ofInt y0 from rfl) ?_
  exact hp _ _ _ h r_y0 hv
def vpMo_worth (self : Int) (S : St) (Q : Int → St → Prop) : Prop := (vpMo_none self S (fun (r1 : Int) (S2 : St) => (((r1 = 0 → (vpMo_trueWorth self S2 (fun (r7 : Int) (S8 : St) => (vMo_worth_15 Q r7 S8)))) ∧ (¬ r1 = 0 → (vMo_worth_15 Q 0 S2))))))
theorem apMo_worth {ad : Int → Nat} {Q : Int → St → Prop} {post : Int64 → Hp → Prop} (hp : ∀ (r : Int) (S : St) (M : Hp), US ad S M → rJ r → Q r S → post (Int64.ofInt r) M) {w_self : Nat} {self : Int} (e_self : w_self = ad self) (t_self : kt (20 + 6) self) {S : St} {M : Hp} (h : US ad S M) (hv : vpMo_worth self S Q) : wpMo_worth w_self M post := by
  subst e_self
  unfold vpMo_worth at hv
  unfold wpMo_worth
  refine ⟨g_ob h t_self, ?_⟩
  refine apMo_none (fun r1 S2 N3 h4 r5 hv => ?_) rfl t_self h hv
  refine ek_if (c_eq (show _ = Int32.ofInt r1 from rfl) LI_0 r5 LI_0r) (fun g6 => ?_) (fun g6 => ?_)
  · replace hv := hv.1 g6
    refine ⟨g_ob h4 t_self, ?_⟩
    refine apMo_trueWorth (fun r7 S8 N9 h10 r11 hv => ?_) rfl t_self h4 hv
    exact aMo_worth_15 hp  (show _ = Int64.ofInt r7 from rfl) r11 h10 hv
  · replace hv := hv.2 g6
    exact aMo_worth_15 hp  LJ_0 LJ_0r h4 hv
def vMo_logAt_83 (Q : Int → St → Prop) (K7 : Int → Int → Int → Int → Int → St → Prop) (x0 : Int) (x1 : Int) (x3 : Int) (x4 : Int) (y0 : Int) (S : St) : Prop := ((rI (x4 + 1)) ∧ ∀ z1 : Int, z1 = (x4 + 1) → (K7 x0 x1 y0 x3 z1 S))
theorem aMo_logAt_83 {ad : Int → Nat} {Q : Int → St → Prop} {K7 : Int → Int → Int → Int → Int → St → Prop} {post : Int32 → Hp → Prop} {k7 : Nat → Int32 → Int32 → Int32 → Int32 → Hp → Prop} (hp : ∀ (r : Int) (S : St) (M : Hp), US ad S M → rI r → Q r S → post (Int32.ofInt r) M) (hk7 : ∀ (b0 b1 b2 b3 b4 : Int) (S : St) (M : Hp), kt (20 + 6) b0 → rI b1 → rI b2 → rI b3 → rI b4 → US ad S M → K7 b0 b1 b2 b3 b4 S → k7 (ad b0) (Int32.ofInt b1) (Int32.ofInt b2) (Int32.ofInt b3) (Int32.ofInt b4) M) {w_x0 : Nat} {x0 : Int} (e_x0 : w_x0 = ad x0) (t_x0 : kt (20 + 6) x0) {w_x1 : Int32} {x1 : Int} (e_x1 : w_x1 = Int32.ofInt x1) (r_x1 : rI x1) {w_x3 : Int32} {x3 : Int} (e_x3 : w_x3 = Int32.ofInt x3) (r_x3 : rI x3) {w_x4 : Int32} {x4 : Int} (e_x4 : w_x4 = Int32.ofInt x4) (r_x4 : rI x4) {w_y0 : Int32} {y0 : Int} (e_y0 : w_y0 = Int32.ofInt y0) (r_y0 : rI y0) {S : St} {M : Hp} (h : US ad S M) (hv : vMo_logAt_83 Q K7 x0 x1 x3 x4 y0 S) : wMo_logAt_83 post k7 w_x0 w_x1 w_x3 w_x4 w_y0 M := by
  subst e_x0
  subst e_x1
  subst e_x3
  subst e_x4
  subst e_y0
  unfold vMo_logAt_83 at hv
  unfold wMo_logAt_83
  obtain ⟨c1, hv⟩ := hv
  refine nm_z (h_add (show _ = Int32.ofInt x4 from rfl) LI_1) (fun z1 e2 => ?_)
  have r3 : rI z1 := by rw [e2]; exact c1
  replace hv := hv z1 e2
  exact hk7 _ _ _ _ _ _ _ t_x0 r_x1 r_y0 r_x3 r3 h hv
def vMo_logAt_70 (Q : Int → St → Prop) (K7 : Int → Int → Int → Int → Int → St → Prop) (x0 : Int) (x1 : Int) (x2 : Int) (x4 : Int) (x5 : Int) (y0 : Int) (S : St) : Prop := (((x5 = 0 → (vMo_logAt_83 Q K7 x0 x1 y0 x4 x2 S)) ∧ (¬ x5 = 0 → ((rI (x2 + 1)) ∧ vMo_logAt_83 Q K7 x0 x1 y0 x4 (x2 + 1) S))))
theorem aMo_logAt_70 {ad : Int → Nat} {Q : Int → St → Prop} {K7 : Int → Int → Int → Int → Int → St → Prop} {post : Int32 → Hp → Prop} {k7 : Nat → Int32 → Int32 → Int32 → Int32 → Hp → Prop} (hp : ∀ (r : Int) (S : St) (M : Hp), US ad S M → rI r → Q r S → post (Int32.ofInt r) M) (hk7 : ∀ (b0 b1 b2 b3 b4 : Int) (S : St) (M : Hp), kt (20 + 6) b0 → rI b1 → rI b2 → rI b3 → rI b4 → US ad S M → K7 b0 b1 b2 b3 b4 S → k7 (ad b0) (Int32.ofInt b1) (Int32.ofInt b2) (Int32.ofInt b3) (Int32.ofInt b4) M) {w_x0 : Nat} {x0 : Int} (e_x0 : w_x0 = ad x0) (t_x0 : kt (20 + 6) x0) {w_x1 : Int32} {x1 : Int} (e_x1 : w_x1 = Int32.ofInt x1) (r_x1 : rI x1) {w_x2 : Int32} {x2 : Int} (e_x2 : w_x2 = Int32.ofInt x2) (r_x2 : rI x2) {w_x4 : Int32} {x4 : Int} (e_x4 : w_x4 = Int32.ofInt x4) (r_x4 : rI x4) {w_x5 : Int32} {x5 : Int} (e_x5 : w_x5 = Int32.ofInt x5) (r_x5 : rI x5) {w_y0 : Int32} {y0 : Int} (e_y0 : w_y0 = Int32.ofInt y0) (r_y0 : rI y0) {S : St} {M : Hp} (h : US ad S M) (hv : vMo_logAt_70 Q K7 x0 x1 x2 x4 x5 y0 S) : wMo_logAt_70 post k7 w_x0 w_x1 w_x2 w_x4 w_x5 w_y0 M := by
  subst e_x0
  subst e_x1
  subst e_x2
  subst e_x4
  subst e_x5
  subst e_y0
  unfold vMo_logAt_70 at hv
  unfold wMo_logAt_70
  refine ek_if (c_eq (show _ = Int32.ofInt x5 from rfl) LI_0 r_x5 LI_0r) (fun g1 => ?_) (fun g1 => ?_)
  · replace hv := hv.1 g1
    exact aMo_logAt_83 hp hk7 rfl t_x0 (show _ = Int32.ofInt x1 from rfl) r_x1 (show _ = Int32.ofInt y0 from rfl) r_y0 (show _ = Int32.ofInt x4 from rfl) r_x4 (show _ = Int32.ofInt x2 from rfl) r_x2 h hv
  · replace hv := hv.2 g1
    obtain ⟨c2, hv⟩ := hv
    exact aMo_logAt_83 hp hk7 rfl t_x0 (show _ = Int32.ofInt x1 from rfl) r_x1 (show _ = Int32.ofInt y0 from rfl) r_y0 (show _ = Int32.ofInt x4 from rfl) r_x4 (h_add (show _ = Int32.ofInt x2 from rfl) LI_1) c2 h hv
def vMo_logAt_69 (Q : Int → St → Prop) (K7 : Int → Int → Int → Int → Int → St → Prop) (x0 : Int) (x1 : Int) (x2 : Int) (x3 : Int) (x4 : Int) (x5 : Int) (S : St) : Prop := (vMo_logAt_70 Q K7 x0 x1 x2 x4 x5 x3 S)
theorem aMo_logAt_69 {ad : Int → Nat} {Q : Int → St → Prop} {K7 : Int → Int → Int → Int → Int → St → Prop} {post : Int32 → Hp → Prop} {k7 : Nat → Int32 → Int32 → Int32 → Int32 → Hp → Prop} (hp : ∀ (r : Int) (S : St) (M : Hp), US ad S M → rI r → Q r S → post (Int32.ofInt r) M) (hk7 : ∀ (b0 b1 b2 b3 b4 : Int) (S : St) (M : Hp), kt (20 + 6) b0 → rI b1 → rI b2 → rI b3 → rI b4 → US ad S M → K7 b0 b1 b2 b3 b4 S → k7 (ad b0) (Int32.ofInt b1) (Int32.ofInt b2) (Int32.ofInt b3) (Int32.ofInt b4) M) {w_x0 : Nat} {x0 : Int} (e_x0 : w_x0 = ad x0) (t_x0 : kt (20 + 6) x0) {w_x1 : Int32} {x1 : Int} (e_x1 : w_x1 = Int32.ofInt x1) (r_x1 : rI x1) {w_x2 : Int32} {x2 : Int} (e_x2 : w_x2 = Int32.ofInt x2) (r_x2 : rI x2) {w_x3 : Int32} {x3 : Int} (e_x3 : w_x3 = Int32.ofInt x3) (r_x3 : rI x3) {w_x4 : Int32} {x4 : Int} (e_x4 : w_x4 = Int32.ofInt x4) (r_x4 : rI x4) {w_x5 : Int32} {x5 : Int} (e_x5 : w_x5 = Int32.ofInt x5) (r_x5 : rI x5) {S : St} {M : Hp} (h : US ad S M) (hv : vMo_logAt_69 Q K7 x0 x1 x2 x3 x4 x5 S) : wMo_logAt_69 post k7 w_x0 w_x1 w_x2 w_x3 w_x4 w_x5 M := by
  subst e_x0
  subst e_x1
  subst e_x2
  subst e_x3
  subst e_x4
  subst e_x5
  unfold vMo_logAt_69 at hv
  unfold wMo_logAt_69
  exact aMo_logAt_70 hp hk7 rfl t_x0 (show _ = Int32.ofInt x1 from rfl) r_x1 (show _ = Int32.ofInt x2 from rfl) r_x2 (show _ = Int32.ofInt x4 from rfl) r_x4 (show _ = Int32.ofInt x5 from rfl) r_x5 (show _ = Int32.ofInt x3 from rfl) r_x3 h hv
def vMo_logAt_52 (Q : Int → St → Prop) (K7 : Int → Int → Int → Int → Int → St → Prop) (x0 : Int) (x1 : Int) (x2 : Int) (x3 : Int) (x4 : Int) (y0 : Int) (S : St) : Prop := (((y0 = 0 → (vMo_logAt_69 Q K7 x0 x1 x2 x3 x4 y0 S)) ∧ (¬ y0 = 0 → (((x2 = x1 → (vMo_logAt_70 Q K7 x0 x1 x2 x4 y0 x4 S)) ∧ (¬ x2 = x1 → (vMo_logAt_69 Q K7 x0 x1 x2 x3 x4 y0 S)))))))
theorem aMo_logAt_52 {ad : Int → Nat} {Q : Int → St → Prop} {K7 : Int → Int → Int → Int → Int → St → Prop} {post : Int32 → Hp → Prop} {k7 : Nat → Int32 → Int32 → Int32 → Int32 → Hp → Prop} (hp : ∀ (r : Int) (S : St) (M : Hp), US ad S M → rI r → Q r S → post (Int32.ofInt r) M) (hk7 : ∀ (b0 b1 b2 b3 b4 : Int) (S : St) (M : Hp), kt (20 + 6) b0 → rI b1 → rI b2 → rI b3 → rI b4 → US ad S M → K7 b0 b1 b2 b3 b4 S → k7 (ad b0) (Int32.ofInt b1) (Int32.ofInt b2) (Int32.ofInt b3) (Int32.ofInt b4) M) {w_x0 : Nat} {x0 : Int} (e_x0 : w_x0 = ad x0) (t_x0 : kt (20 + 6) x0) {w_x1 : Int32} {x1 : Int} (e_x1 : w_x1 = Int32.ofInt x1) (r_x1 : rI x1) {w_x2 : Int32} {x2 : Int} (e_x2 : w_x2 = Int32.ofInt x2) (r_x2 : rI x2) {w_x3 : Int32} {x3 : Int} (e_x3 : w_x3 = Int32.ofInt x3) (r_x3 : rI x3) {w_x4 : Int32} {x4 : Int} (e_x4 : w_x4 = Int32.ofInt x4) (r_x4 : rI x4) {w_y0 : Int32} {y0 : Int} (e_y0 : w_y0 = Int32.ofInt y0) (r_y0 : rI y0) {S : St} {M : Hp} (h : US ad S M) (hv : vMo_logAt_52 Q K7 x0 x1 x2 x3 x4 y0 S) : wMo_logAt_52 post k7 w_x0 w_x1 w_x2 w_x3 w_x4 w_y0 M := by
  subst e_x0
  subst e_x1
  subst e_x2
  subst e_x3
  subst e_x4
  subst e_y0
  unfold vMo_logAt_52 at hv
  unfold wMo_logAt_52
  refine ek_if (c_eq (show _ = Int32.ofInt y0 from rfl) LI_0 r_y0 LI_0r) (fun g1 => ?_) (fun g1 => ?_)
  · replace hv := hv.1 g1
    exact aMo_logAt_69 hp hk7 rfl t_x0 (show _ = Int32.ofInt x1 from rfl) r_x1 (show _ = Int32.ofInt x2 from rfl) r_x2 (show _ = Int32.ofInt x3 from rfl) r_x3 (show _ = Int32.ofInt x4 from rfl) r_x4 (show _ = Int32.ofInt y0 from rfl) r_y0 h hv
  · replace hv := hv.2 g1
    refine ek_if (c_eq (show _ = Int32.ofInt x2 from rfl) (show _ = Int32.ofInt x1 from rfl) r_x2 r_x1) (fun g2 => ?_) (fun g2 => ?_)
    · replace hv := hv.1 g2
      exact aMo_logAt_70 hp hk7 rfl t_x0 (show _ = Int32.ofInt x1 from rfl) r_x1 (show _ = Int32.ofInt x2 from rfl) r_x2 (show _ = Int32.ofInt x4 from rfl) r_x4 (show _ = Int32.ofInt y0 from rfl) r_y0 (show _ = Int32.ofInt x4 from rfl) r_x4 h hv
    · replace hv := hv.2 g2
      exact aMo_logAt_69 hp hk7 rfl t_x0 (show _ = Int32.ofInt x1 from rfl) r_x1 (show _ = Int32.ofInt x2 from rfl) r_x2 (show _ = Int32.ofInt x3 from rfl) r_x3 (show _ = Int32.ofInt x4 from rfl) r_x4 (show _ = Int32.ofInt y0 from rfl) r_y0 h hv
def vMo_logAt_51 (Q : Int → St → Prop) (K7 : Int → Int → Int → Int → Int → St → Prop) (x0 : Int) (x1 : Int) (x2 : Int) (x3 : Int) (x4 : Int) (S : St) : Prop := (vMo_logAt_52 Q K7 x0 x1 x2 x3 x4 0 S)
theorem aMo_logAt_51 {ad : Int → Nat} {Q : Int → St → Prop} {K7 : Int → Int → Int → Int → Int → St → Prop} {post : Int32 → Hp → Prop} {k7 : Nat → Int32 → Int32 → Int32 → Int32 → Hp → Prop} (hp : ∀ (r : Int) (S : St) (M : Hp), US ad S M → rI r → Q r S → post (Int32.ofInt r) M) (hk7 : ∀ (b0 b1 b2 b3 b4 : Int) (S : St) (M : Hp), kt (20 + 6) b0 → rI b1 → rI b2 → rI b3 → rI b4 → US ad S M → K7 b0 b1 b2 b3 b4 S → k7 (ad b0) (Int32.ofInt b1) (Int32.ofInt b2) (Int32.ofInt b3) (Int32.ofInt b4) M) {w_x0 : Nat} {x0 : Int} (e_x0 : w_x0 = ad x0) (t_x0 : kt (20 + 6) x0) {w_x1 : Int32} {x1 : Int} (e_x1 : w_x1 = Int32.ofInt x1) (r_x1 : rI x1) {w_x2 : Int32} {x2 : Int} (e_x2 : w_x2 = Int32.ofInt x2) (r_x2 : rI x2) {w_x3 : Int32} {x3 : Int} (e_x3 : w_x3 = Int32.ofInt x3) (r_x3 : rI x3) {w_x4 : Int32} {x4 : Int} (e_x4 : w_x4 = Int32.ofInt x4) (r_x4 : rI x4) {S : St} {M : Hp} (h : US ad S M) (hv : vMo_logAt_51 Q K7 x0 x1 x2 x3 x4 S) : wMo_logAt_51 post k7 w_x0 w_x1 w_x2 w_x3 w_x4 M := by
  subst e_x0
  subst e_x1
  subst e_x2
  subst e_x3
  subst e_x4
  unfold vMo_logAt_51 at hv
  unfold wMo_logAt_51
  exact aMo_logAt_52 hp hk7 rfl t_x0 (show _ = Int32.ofInt x1 from rfl) r_x1 (show _ = Int32.ofInt x2 from rfl) r_x2 (show _ = Int32.ofInt x3 from rfl) r_x3 (show _ = Int32.ofInt x4 from rfl) r_x4 LI_0 LI_0r h hv
def vMo_logAt_7 (Q : Int → St → Prop) : Nat → Int → Int → Int → Int → Int → St → Prop
  | 0 => fun _ _ _ _ _ _ => False
  | n + 1 => fun x0 x1 x2 x3 x4 S => ((rI (81 * (S x0 4))) ∧ (((81 * (S x0 4)) ≤ x4 → (Q x3 S)) ∧ (¬ (81 * (S x0 4)) ≤ x4 → (((0 : Int) ≤ x4 ∧ (x4 : Int) < 2147483648) ∧ ((0 : Int) < 81 ∧ (81 : Int) < 2147483648) ∧ (rI (x4 / 81)) ∧ vpMo_stepsOf x0 (x4 / 81) S (fun (r6 : Int) (S7 : St) => (((0 : Int) ≤ x4 ∧ (x4 : Int) < 2147483648) ∧ ((0 : Int) < 81 ∧ (81 : Int) < 2147483648) ∧ (rI (x4 % 81)) ∧ ((r6 ≤ (x4 % 81) → (vMo_logAt_51 Q (vMo_logAt_7 Q n) x0 x1 x2 x3 x4 S7)) ∧ (¬ r6 ≤ (x4 % 81) → (((0 : Int) ≤ x4 ∧ (x4 : Int) < 486) ∧ ((((S7 25 x4) = 1 → (vMo_logAt_52 Q (vMo_logAt_7 Q n) x0 x1 x2 x3 x4 1 S7)) ∧ (¬ (S7 25 x4) = 1 → (vMo_logAt_51 Q (vMo_logAt_7 Q n) x0 x1 x2 x3 x4 S7)))))))))))))
theorem aMo_logAt_7 {ad : Int → Nat} {Q : Int → St → Prop} {post : Int32 → Hp → Prop} (hp : ∀ (r : Int) (S : St) (M : Hp), US ad S M → rI r → Q r S → post (Int32.ofInt r) M) : ∀ (n : Nat) (w_x0 : Nat) (x0 : Int) (e_x0 : w_x0 = ad x0) (t_x0 : kt (20 + 6) x0) (w_x1 : Int32) (x1 : Int) (e_x1 : w_x1 = Int32.ofInt x1) (r_x1 : rI x1) (w_x2 : Int32) (x2 : Int) (e_x2 : w_x2 = Int32.ofInt x2) (r_x2 : rI x2) (w_x3 : Int32) (x3 : Int) (e_x3 : w_x3 = Int32.ofInt x3) (r_x3 : rI x3) (w_x4 : Int32) (x4 : Int) (e_x4 : w_x4 = Int32.ofInt x4) (r_x4 : rI x4) (S : St) (M : Hp), US ad S M → vMo_logAt_7 Q n x0 x1 x2 x3 x4 S → wMo_logAt_7 post n w_x0 w_x1 w_x2 w_x3 w_x4 M := by
  intro n
  induction n with
  | zero => intro w_x0 x0 e_x0 t_x0 w_x1 x1 e_x1 r_x1 w_x2 x2 e_x2 r_x2 w_x3 x3 e_x3 r_x3 w_x4 x4 e_x4 r_x4 S M h hv; exact hv.elim
  | succ n ih =>
    intro w_x0 x0 e_x0 t_x0 w_x1 x1 e_x1 r_x1 w_x2 x2 e_x2 r_x2 w_x3 x3 e_x3 r_x3 w_x4 x4 e_x4 r_x4 S M h hv
    subst e_x0
    subst e_x1
    subst e_x2
    subst e_x3
    subst e_x4
    unfold vMo_logAt_7 at hv
    unfold wMo_logAt_7
    refine g_fI h t_x0 rfl rfl ?_
    obtain ⟨c1, hv⟩ := hv
    refine ek_if (c_le (h_mul LI_81 (show _ = Int32.ofInt (S x0 4) from rfl)) (show _ = Int32.ofInt x4 from rfl) c1 r_x4) (fun g2 => ?_) (fun g2 => ?_)
    · replace hv := hv.1 g2
      refine ek_v (P := fun y => post y _) (show _ = Int32.ofInt x3 from rfl) ?_
      exact hp _ _ _ h r_x3 hv
    · replace hv := hv.2 g2
      refine ⟨g_ob h t_x0, ?_⟩
      obtain ⟨c3, c4, c5, hv⟩ := hv
      refine apMo_stepsOf (fun r6 S7 N8 h9 r10 hv => ?_) rfl t_x0 (h_div (show _ = Int32.ofInt x4 from rfl) LI_81 c3 c4) c5 h hv
      obtain ⟨c11, c12, c13, hv⟩ := hv
      refine ek_if (c_le (show _ = Int32.ofInt r6 from rfl) (h_rem (show _ = Int32.ofInt x4 from rfl) LI_81 c11 c12) r10 c13) (fun g14 => ?_) (fun g14 => ?_)
      · replace hv := hv.1 g14
        exact aMo_logAt_51 hp (fun b0 b1 b2 b3 b4 S9 M9 y0 y1 y2 y3 y4 h9 hv9 => ih _ b0 rfl y0 _ b1 rfl y1 _ b2 rfl y2 _ b3 rfl y3 _ b4 rfl y4 S9 M9 h9 hv9) rfl t_x0 (show _ = Int32.ofInt x1 from rfl) r_x1 (show _ = Int32.ofInt x2 from rfl) r_x2 (show _ = Int32.ofInt x3 from rfl) r_x3 (show _ = Int32.ofInt x4 from rfl) r_x4 h9 hv
      · replace hv := hv.2 g14
        refine g_fA h9 t_x0 rfl (rv_6_25 t_x0) ?_
        obtain ⟨c15, hv⟩ := hv
        refine g_aI h9 (show kt 1 25 by decide) (show alen 25 = 486 by decide) (show _ = Int32.ofInt x4 from rfl) c15 ?_
        refine ek_if (c_eq (show _ = Int32.ofInt (S7 25 x4) from rfl) LI_1 (g_rI h9 (show kt 1 25 by decide) (by decide)) LI_1r) (fun g16 => ?_) (fun g16 => ?_)
        · replace hv := hv.1 g16
          exact aMo_logAt_52 hp (fun b0 b1 b2 b3 b4 S9 M9 y0 y1 y2 y3 y4 h9 hv9 => ih _ b0 rfl y0 _ b1 rfl y1 _ b2 rfl y2 _ b3 rfl y3 _ b4 rfl y4 S9 M9 h9 hv9) rfl t_x0 (show _ = Int32.ofInt x1 from rfl) r_x1 (show _ = Int32.ofInt x2 from rfl) r_x2 (show _ = Int32.ofInt x3 from rfl) r_x3 (show _ = Int32.ofInt x4 from rfl) r_x4 LI_1 LI_1r h9 hv
        · replace hv := hv.2 g16
          exact aMo_logAt_51 hp (fun b0 b1 b2 b3 b4 S9 M9 y0 y1 y2 y3 y4 h9 hv9 => ih _ b0 rfl y0 _ b1 rfl y1 _ b2 rfl y2 _ b3 rfl y3 _ b4 rfl y4 S9 M9 h9 hv9) rfl t_x0 (show _ = Int32.ofInt x1 from rfl) r_x1 (show _ = Int32.ofInt x2 from rfl) r_x2 (show _ = Int32.ofInt x3 from rfl) r_x3 (show _ = Int32.ofInt x4 from rfl) r_x4 h9 hv
def vpMo_logAt (self : Int) (p0 : Int) (S : St) (Q : Int → St → Prop) : Prop := (∃ n24 : Nat, (vMo_logAt_7 Q n24 self p0 0 (-1) 0 S))
theorem apMo_logAt {ad : Int → Nat} {Q : Int → St → Prop} {post : Int32 → Hp → Prop} (hp : ∀ (r : Int) (S : St) (M : Hp), US ad S M → rI r → Q r S → post (Int32.ofInt r) M) {w_self : Nat} {self : Int} (e_self : w_self = ad self) (t_self : kt (20 + 6) self) {w_p0 : Int32} {p0 : Int} (e_p0 : w_p0 = Int32.ofInt p0) (r_p0 : rI p0) {S : St} {M : Hp} (h : US ad S M) (hv : vpMo_logAt self p0 S Q) : wpMo_logAt w_self w_p0 M post := by
  subst e_self
  subst e_p0
  unfold vpMo_logAt at hv
  unfold wpMo_logAt
  obtain ⟨n24, hv⟩ := hv
  refine ⟨n24, ?_⟩
  exact aMo_logAt_7 hp  n24 _ _ rfl t_self _ _ (show _ = Int32.ofInt p0 from rfl) r_p0 _ _ LI_0 LI_0r _ _ LI_m1 LI_m1r _ _ LI_0 LI_0r _ _ h hv
