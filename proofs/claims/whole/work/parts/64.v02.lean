def vPl_burn_3 (Q : St → Prop) : Nat → Int → Int → Int → Int → Int → St → Prop
  | 0 => fun _ _ _ _ _ _ => False
  | n + 1 => fun x0 x1 x2 x3 x4 S => ((rI (x2 + x3)) ∧ (((x2 + x3) ≤ x4 → (Q S)) ∧ (¬ (x2 + x3) ≤ x4 → (((0 : Int) ≤ ((x1 * 80) + x4) ∧ (((x1 * 80) + x4) : Int) < 480) ∧ ((1 : Int) = 0 ∨ (1 : Int) = 1) ∧ ∀ S5 : St, S5 = up S (x0 + 2) ((x1 * 80) + x4) 1 → ((rI (x4 + 1)) ∧ ∀ z11 : Int, z11 = (x4 + 1) → (vPl_burn_3 Q n x0 x1 x2 x3 z11 S5))))))
theorem aPl_burn_3 {ad : Int → Nat} {Q : St → Prop} {post : Hp → Prop} (hp : ∀ (S : St) (M : Hp), US ad S M → Q S → post M) : ∀ (n : Nat) (w_x0 : Nat) (x0 : Int) (e_x0 : w_x0 = ad x0) (t_x0 : kt (20 + 5) x0) (w_x1 : Int32) (x1 : Int) (e_x1 : w_x1 = Int32.ofInt x1) (r_x1 : rI x1) (w_x2 : Int32) (x2 : Int) (e_x2 : w_x2 = Int32.ofInt x2) (r_x2 : rI x2) (w_x3 : Int32) (x3 : Int) (e_x3 : w_x3 = Int32.ofInt x3) (r_x3 : rI x3) (w_x4 : Int32) (x4 : Int) (e_x4 : w_x4 = Int32.ofInt x4) (r_x4 : rI x4) (S : St) (M : Hp), US ad S M → vPl_burn_3 Q n x0 x1 x2 x3 x4 S → wPl_burn_3 post n w_x0 w_x1 w_x2 w_x3 w_x4 M := by
  intro n
  induction n with
  | zero => intro w_x0 x0 e_x0 t_x0 w_x1 x1 e_x1 r_x1 w_x2 x2 e_x2 r_x2 w_x3 x3 e_x3 r_x3 w_x4 x4 e_x4 r_x4 S M h hv; exact hv.elim
  | succ n ih =>
    intro w_x0 x0 e_x0 t_x0 w_x1 x1 e_x1 r_x1 w_x2 x2 e_x2 r_x2 w_x3 x3 e_x3 r_x3 w_x4 x4 e_x4 r_x4 S M h hv
    subst e_x0
    subst e_x1
    subst e_x2
    subst e_x3
    subst e_x4
    unfold vPl_burn_3 at hv
    unfold wPl_burn_3
    obtain ⟨c1, hv⟩ := hv
    refine ek_if (c_le (h_add (show _ = Int32.ofInt x2 from rfl) (show _ = Int32.ofInt x3 from rfl)) (show _ = Int32.ofInt x4 from rfl) c1 r_x4) (fun g2 => ?_) (fun g2 => ?_)
    · replace hv := hv.1 g2
      exact hp _ _ h hv
    · replace hv := hv.2 g2
      refine g_fA h t_x0 rfl (rv_5_1 t_x0) ?_
      obtain ⟨c3, c4, hv⟩ := hv
      refine g_sZ h (kt_5_1 t_x0) (al_5_1 t_x0) (h_add (h_mul (show _ = Int32.ofInt x1 from rfl) LI_80) (show _ = Int32.ofInt x4 from rfl)) c3 LI_1 c4 (fun S5 N6 e8 h7 => ?_)
      replace hv := hv S5 e8
      obtain ⟨c9, hv⟩ := hv
      refine nm_z (h_add (show _ = Int32.ofInt x4 from rfl) LI_1) (fun z11 e10 => ?_)
      have r11 : rI z11 := by rw [e10]; exact c9
      replace hv := hv z11 e10
      exact ih _ _ rfl t_x0 _ _ (show _ = Int32.ofInt x1 from rfl) r_x1 _ _ (show _ = Int32.ofInt x2 from rfl) r_x2 _ _ (show _ = Int32.ofInt x3 from rfl) r_x3 _ _ (show _ = Int32.ofInt z11 from rfl) r11 _ _ h7 hv
def vpPl_burn (self : Int) (p0 : Int) (p1 : Int) (p2 : Int) (S : St) (Q : St → Prop) : Prop := (∃ n12 : Nat, (vPl_burn_3 Q n12 self p0 p1 p2 p1 S))
theorem apPl_burn {ad : Int → Nat} {Q : St → Prop} {post : Hp → Prop} (hp : ∀ (S : St) (M : Hp), US ad S M → Q S → post M) {w_self : Nat} {self : Int} (e_self : w_self = ad self) (t_self : kt (20 + 5) self) {w_p0 : Int32} {p0 : Int} (e_p0 : w_p0 = Int32.ofInt p0) (r_p0 : rI p0) {w_p1 : Int32} {p1 : Int} (e_p1 : w_p1 = Int32.ofInt p1) (r_p1 : rI p1) {w_p2 : Int32} {p2 : Int} (e_p2 : w_p2 = Int32.ofInt p2) (r_p2 : rI p2) {S : St} {M : Hp} (h : US ad S M) (hv : vpPl_burn self p0 p1 p2 S Q) : wpPl_burn w_self w_p0 w_p1 w_p2 M post := by
  subst e_self
  subst e_p0
  subst e_p1
  subst e_p2
  unfold vpPl_burn at hv
  unfold wpPl_burn
  obtain ⟨n12, hv⟩ := hv
  refine ⟨n12, ?_⟩
  exact aPl_burn_3 hp  n12 _ _ rfl t_self _ _ (show _ = Int32.ofInt p0 from rfl) r_p0 _ _ (show _ = Int32.ofInt p1 from rfl) r_p1 _ _ (show _ = Int32.ofInt p2 from rfl) r_p2 _ _ (show _ = Int32.ofInt p1 from rfl) r_p1 _ _ h hv
def vpPr_trueWorth (self : Int) (p0 : Int) (p1 : Int) (S : St) (Q : Int → St → Prop) : Prop := (((0 : Int) ≤ p1 ∧ (p1 : Int) < 7) ∧ ((rJ (((S self 7) * p0) + (S (self + 3) p1))) ∧ Q (((S self 7) * p0) + (S (self + 3) p1)) S))
theorem apPr_trueWorth {ad : Int → Nat} {Q : Int → St → Prop} {post : Int64 → Hp → Prop} (hp : ∀ (r : Int) (S : St) (M : Hp), US ad S M → rJ r → Q r S → post (Int64.ofInt r) M) {w_self : Nat} {self : Int} (e_self : w_self = ad self) (t_self : kt (20 + 2) self) {w_p0 : Int32} {p0 : Int} (e_p0 : w_p0 = Int32.ofInt p0) (r_p0 : rI p0) {w_p1 : Int32} {p1 : Int} (e_p1 : w_p1 = Int32.ofInt p1) (r_p1 : rI p1) {S : St} {M : Hp} (h : US ad S M) (hv : vpPr_trueWorth self p0 p1 S Q) : wpPr_trueWorth w_self w_p0 w_p1 M post := by
  subst e_self
  subst e_p0
  subst e_p1
  unfold vpPr_trueWorth at hv
  unfold wpPr_trueWorth
  refine g_fJ h t_self rfl rfl ?_
  refine g_fA h t_self rfl (rv_2_2 t_self) ?_
  obtain ⟨c1, hv⟩ := hv
  refine g_aJ h (kt_2_2 t_self) (al_2_2 t_self) (show _ = Int32.ofInt p1 from rfl) c1 ?_
  obtain ⟨c2, hv⟩ := hv
  refine ek_v (P := fun y => post y _) (H_add (H_mul (show _ = Int64.ofInt (S self 7) from rfl) (h_toL (show _ = Int32.ofInt p0 from rfl) r_p0)) (show _ = Int64.ofInt (S (self + 3) p1) from rfl)) ?_
  exact hp _ _ _ h c2 hv
def vpPl_addLog (self : Int) (p0 : Int) (p1 : Int) (p2 : Int) (p3 : Int) (p4 : Int) (S : St) (Q : St → Prop) : Prop := ((rI ((S self 3) * 5)) ∧ ∀ z5 : Int, z5 = ((S self 3) * 5) → (((0 : Int) ≤ (z5 + 0) ∧ ((z5 + 0) : Int) < 2400) ∧ ∀ S5 : St, S5 = up S (self + 1) (z5 + 0) p0 → (((0 : Int) ≤ (z5 + 1) ∧ ((z5 + 1) : Int) < 2400) ∧ ∀ S10 : St, S10 = up S5 (self + 1) (z5 + 1) p1 → (((0 : Int) ≤ (z5 + 2) ∧ ((z5 + 2) : Int) < 2400) ∧ ∀ S15 : St, S15 = up S10 (self + 1) (z5 + 2) p2 → (((0 : Int) ≤ (z5 + 3) ∧ ((z5 + 3) : Int) < 2400) ∧ ∀ S20 : St, S20 = up S15 (self + 1) (z5 + 3) p3 → (((0 : Int) ≤ (z5 + 4) ∧ ((z5 + 4) : Int) < 2400) ∧ (rI p4) ∧ ∀ S26 : St, S26 = up S20 (self + 1) (z5 + 4) p4 → ((rI ((S26 self 3) + 1)) ∧ ∀ S30 : St, S30 = up S26 self 3 ((S26 self 3) + 1) → (((0 : Int) ≤ p3 ∧ (p3 : Int) < 8) ∧ (((0 : Int) ≤ p3 ∧ (p3 : Int) < 8) ∧ (rI ((S30 (self + 3) p3) + 1)) ∧ ∀ S38 : St, S38 = up S30 (self + 3) p3 ((S30 (self + 3) p3) + 1) → ((rJ ((S38 self 4) + p4)) ∧ ∀ S42 : St, S42 = up S38 self 4 ((S38 self 4) + p4) → (Q S42)))))))))))
theorem apPl_addLog {ad : Int → Nat} {Q : St → Prop} {post : Hp → Prop} (hp : ∀ (S : St) (M : Hp), US ad S M → Q S → post M) {w_self : Nat} {self : Int} (e_self : w_self = ad self) (t_self : kt (20 + 5) self) {w_p0 : Int32} {p0 : Int} (e_p0 : w_p0 = Int32.ofInt p0) (r_p0 : rI p0) {w_p1 : Int32} {p1 : Int} (e_p1 : w_p1 = Int32.ofInt p1) (r_p1 : rI p1) {w_p2 : Int32} {p2 : Int} (e_p2 : w_p2 = Int32.ofInt p2) (r_p2 : rI p2) {w_p3 : Int32} {p3 : Int} (e_p3 : w_p3 = Int32.ofInt p3) (r_p3 : rI p3) {w_p4 : Int64} {p4 : Int} (e_p4 : w_p4 = Int64.ofInt p4) (r_p4 : rJ p4) {S : St} {M : Hp} (h : US ad S M) (hv : vpPl_addLog self p0 p1 p2 p3 p4 S Q) : wpPl_addLog w_self w_p0 w_p1 w_p2 w_p3 w_p4 M post := by
  subst e_self
  subst e_p0
  subst e_p1
  subst e_p2
  subst e_p3
  subst e_p4
  unfold vpPl_addLog at hv
  unfold wpPl_addLog
  refine g_fI h t_self rfl rfl ?_
  obtain ⟨c1, hv⟩ := hv
  refine nm_z (h_mul (show _ = Int32.ofInt (S self 3) from rfl) LI_5) (fun z5 e2 => ?_)
  have r3 : rI z5 := by rw [e2]; exact c1
  replace hv := hv z5 e2
  refine g_fA h t_self rfl (rv_5_0 t_self) ?_
  obtain ⟨c4, hv⟩ := hv
  refine g_sI h (kt_5_0 t_self) (al_5_0 t_self) (h_add (show _ = Int32.ofInt z5 from rfl) LI_0) c4 (show _ = Int32.ofInt p0 from rfl) r_p0 (fun S5 N6 e8 h7 => ?_)
  replace hv := hv S5 e8
  refine g_fA h7 t_self rfl (rv_5_0 t_self) ?_
  obtain ⟨c9, hv⟩ := hv
  refine g_sI h7 (kt_5_0 t_self) (al_5_0 t_self) (h_add (show _ = Int32.ofInt z5 from rfl) LI_1) c9 (show _ = Int32.ofInt p1 from rfl) r_p1 (fun S10 N11 e13 h12 => ?_)
  replace hv := hv S10 e13
  refine g_fA h12 t_self rfl (rv_5_0 t_self) ?_
  obtain ⟨c14, hv⟩ := hv
  refine g_sI h12 (kt_5_0 t_self) (al_5_0 t_self) (h_add (show _ = Int32.ofInt z5 from rfl) LI_2) c14 (show _ = Int32.ofInt p2 from rfl) r_p2 (fun S15 N16 e18 h17 => ?_)
  replace hv := hv S15 e18
  refine g_fA h17 t_self rfl (rv_5_0 t_self) ?_
  obtain ⟨c19, hv⟩ := hv
  refine g_sI h17 (kt_5_0 t_self) (al_5_0 t_self) (h_add (show _ = Int32.ofInt z5 from rfl) LI_3) c19 (show _ = Int32.ofInt p3 from rfl) r_p3 (fun S20 N21 e23 h22 => ?_)
  replace hv := hv S20 e23
  refine g_fA h22 t_self rfl (rv_5_0 t_self) ?_
  obtain ⟨c24, c25, hv⟩ := hv
  refine g_sI h22 (kt_5_0 t_self) (al_5_0 t_self) (h_add (show _ = Int32.ofInt z5 from rfl) LI_4) c24 (H_toI (show _ = Int64.ofInt p4 from rfl) r_p4) c25 (fun S26 N27 e29 h28 => ?_)
  replace hv := hv S26 e29
  refine g_fI h28 t_self rfl rfl ?_
  obtain ⟨c34, hv⟩ := hv
  refine g_pI h28 t_self rfl rfl (h_add (show _ = Int32.ofInt (S26 self 3) from rfl) LI_1) c34 (fun S30 N31 e33 h32 => ?_)
  replace hv := hv S30 e33
  refine g_fA h32 t_self rfl (rv_5_2 t_self) ?_
  obtain ⟨c35, hv⟩ := hv
  refine g_aI h32 (kt_5_2 t_self) (al_5_2 t_self) (show _ = Int32.ofInt p3 from rfl) c35 ?_
  obtain ⟨c36, c37, hv⟩ := hv
  refine g_sI h32 (kt_5_2 t_self) (al_5_2 t_self) (show _ = Int32.ofInt p3 from rfl) c36 (h_add (show _ = Int32.ofInt (S30 (self + 3) p3) from rfl) LI_1) c37 (fun S38 N39 e41 h40 => ?_)
  replace hv := hv S38 e41
  refine g_fJ h40 t_self rfl rfl ?_
  obtain ⟨c46, hv⟩ := hv
  refine g_pJ h40 t_self rfl rfl (H_add (show _ = Int64.ofInt (S38 self 4) from rfl) (show _ = Int64.ofInt p4 from rfl)) c46 (fun S42 N43 e45 h44 => ?_)
  replace hv := hv S42 e45
  exact hp _ _ h44 hv
def vCu_writeTo_107 (Q : St → Prop) (K6 : Int → Int → Int → Int → Int → Int → Int → Int → St → Prop) (x0 : Int) (x1 : Int) (x2 : Int) (x3 : Int) (x4 : Int) (x5 : Int) (x6 : Int) (x7 : Int) (S : St) : Prop := ((rI (x7 + 1)) ∧ ∀ z1 : Int, z1 = (x7 + 1) → (K6 x0 x1 x2 x3 x4 x5 x6 z1 S))
theorem aCu_writeTo_107 {ad : Int → Nat} {Q : St → Prop} {K6 : Int → Int → Int → Int → Int → Int → Int → Int → St → Prop} {post : Hp → Prop} {k6 : Nat → Nat → Nat → Int32 → Nat → Int32 → Int32 → Int32 → Hp → Prop} (hp : ∀ (S : St) (M : Hp), US ad S M → Q S → post M) (hk6 : ∀ (b0 b1 b2 b3 b4 b5 b6 b7 : Int) (S : St) (M : Hp), kt (20 + 4) b0 → kt (20 + 5) b1 → kt (20 + 1) b2 → rI b3 → kt (10 + 4) b4 → rI b5 → rI b6 → rI b7 → US ad S M → K6 b0 b1 b2 b3 b4 b5 b6 b7 S → k6 (ad b0) (ad b1) (ad b2) (Int32.ofInt b3) (ad b4) (Int32.ofInt b5) (Int32.ofInt b6) (Int32.ofInt b7) M) {w_x0 : Nat} {x0 : Int} (e_x0 : w_x0 = ad x0) (t_x0 : kt (20 + 4) x0) {w_x1 : Nat} {x1 : Int} (e_x1 : w_x1 = ad x1) (t_x1 : kt (20 + 5) x1) {w_x2 : Nat} {x2 : Int} (e_x2 : w_x2 = ad x2) (t_x2 : kt (20 + 1) x2) {w_x3 : Int32} {x3 : Int} (e_x3 : w_x3 = Int32.ofInt x3) (r_x3 : rI x3) {w_x4 : Nat} {x4 : Int} (e_x4 : w_x4 = ad x4) (t_x4 : kt (10 + 4) x4) {w_x5 : Int32} {x5 : Int} (e_x5 : w_x5 = Int32.ofInt x5) (r_x5 : rI x5) {w_x6 : Int32} {x6 : Int} (e_x6 : w_x6 = Int32.ofInt x6) (r_x6 : rI x6) {w_x7 : Int32} {x7 : Int} (e_x7 : w_x7 = Int32.ofInt x7) (r_x7 : rI x7) {S : St} {M : Hp} (h : US ad S M) (hv : vCu_writeTo_107 Q K6 x0 x1 x2 x3 x4 x5 x6 x7 S) : wCu_writeTo_107 post k6 w_x0 w_x1 w_x2 w_x3 w_x4 w_x5 w_x6 w_x7 M := by
  subst e_x0
  subst e_x1
  subst e_x2
  subst e_x3
  subst e_x4
  subst e_x5
  subst e_x6
  subst e_x7
  unfold vCu_writeTo_107 at hv
  unfold wCu_writeTo_107
  obtain ⟨c1, hv⟩ := hv
  refine nm_z (h_add (show _ = Int32.ofInt x7 from rfl) LI_1) (fun z1 e2 => ?_)
  have r3 : rI z1 := by rw [e2]; exact c1
  replace hv := hv z1 e2
  exact hk6 _ _ _ _ _ _ _ _ _ _ t_x0 t_x1 t_x2 r_x3 t_x4 r_x5 r_x6 r3 h hv
def vCu_writeTo_44 (Q : St → Prop) (K6 : Int → Int → Int → Int → Int → Int → Int → Int → St → Prop) (x0 : Int) (x1 : Int) (x2 : Int) (x3 : Int) (x4 : Int) (x5 : Int) (x6 : Int) (x7 : Int) (S : St) : Prop := (((x7 < x6 → (vCu_writeTo_107 Q K6 x0 x1 x2 x3 x4 x5 x6 x7 S)) ∧ (¬ x7 < x6 → (((0 : Int) ≤ x7 ∧ (x7 : Int) < 80) ∧ ((rI ((S 105 x7) - x7)) ∧ ∀ z12 : Int, z12 = ((S 105 x7) - x7) → (((0 : Int) ≤ x7 ∧ (x7 : Int) < 80) ∧ (((0 : Int) ≤ x7 ∧ (x7 : Int) < 80) ∧ (((0 : Int) ≤ (S 106 x7) ∧ ((S 106 x7) : Int) < (alen x4)) ∧ (vpPr_trueWorth (140 + 4 * (S 106 x7)) z12 x3 S (fun (r9 : Int) (S10 : St) => (vpPl_addLog x1 x3 x7 z12 (S 106 x7) r9 S10 (fun (S15 : St) => (((0 : Int) ≤ x7 ∧ (x7 : Int) < 80) ∧ ((rI ((S15 105 x7) + x5)) ∧ ∀ z51 : Int, z51 = ((S15 105 x7) + x5) → (vCu_writeTo_107 Q K6 x0 x1 x2 x3 x4 x5 z51 x7 S15)))))))))))))))
theorem aCu_writeTo_44 {ad : Int → Nat} {Q : St → Prop} {K6 : Int → Int → Int → Int → Int → Int → Int → Int → St → Prop} {post : Hp → Prop} {k6 : Nat → Nat → Nat → Int32 → Nat → Int32 → Int32 → Int32 → Hp → Prop} (hp : ∀ (S : St) (M : Hp), US ad S M → Q S → post M) (hk6 : ∀ (b0 b1 b2 b3 b4 b5 b6 b7 : Int) (S : St) (M : Hp), kt (20 + 4) b0 → kt (20 + 5) b1 → kt (20 + 1) b2 → rI b3 → kt (10 + 4) b4 → rI b5 → rI b6 → rI b7 → US ad S M → K6 b0 b1 b2 b3 b4 b5 b6 b7 S → k6 (ad b0) (ad b1) (ad b2) (Int32.ofInt b3) (ad b4) (Int32.ofInt b5) (Int32.ofInt b6) (Int32.ofInt b7) M) {w_x0 : Nat} {x0 : Int} (e_x0 : w_x0 = ad x0) (t_x0 : kt (20 + 4) x0) {w_x1 : Nat} {x1 : Int} (e_x1 : w_x1 = ad x1) (t_x1 : kt (20 + 5) x1) {w_x2 : Nat} {x2 : Int} (e_x2 : w_x2 = ad x2) (t_x2 : kt (20 + 1) x2) {w_x3 : Int32} {x3 : Int} (e_x3 : w_x3 = Int32.ofInt x3) (r_x3 : rI x3) {w_x4 : Nat} {x4 : Int} (e_x4 : w_x4 = ad x4) (t_x4 : kt (10 + 4) x4) {w_x5 : Int32} {x5 : Int} (e_x5 : w_x5 = Int32.ofInt x5) (r_x5 : rI x5) {w_x6 : Int32} {x6 : Int} (e_x6 : w_x6 = Int32.ofInt x6) (r_x6 : rI x6) {w_x7 : Int32} {x7 : Int} (e_x7 : w_x7 = Int32.ofInt x7) (r_x7 : rI x7) {S : St} {M : Hp} (h : US ad S M) (hv : vCu_writeTo_44 Q K6 x0 x1 x2 x3 x4 x5 x6 x7 S) : wCu_writeTo_44 post k6 w_x0 w_x1 w_x2 w_x3 w_x4 w_x5 w_x6 w_x7 M := by
  subst e_x0
  subst e_x1
  subst e_x2
  subst e_x3
  subst e_x4
  subst e_x5
  subst e_x6
  subst e_x7
  unfold vCu_writeTo_44 at hv
  unfold wCu_writeTo_44
  refine ek_if (c_lt (show _ = Int32.ofInt x7 from rfl) (show _ = Int32.ofInt x6 from rfl) r_x7 r_x6) (fun g1 => ?_) (fun g1 => ?_)
  · replace hv := hv.1 g1
    exact aCu_writeTo_107 hp hk6 rfl t_x0 rfl t_x1 rfl t_x2 (show _ = Int32.ofInt x3 from rfl) r_x3 rfl t_x4 (show _ = Int32.ofInt x5 from rfl) r_x5 (show _ = Int32.ofInt x6 from rfl) r_x6 (show _ = Int32.ofInt x7 from rfl) r_x7 h hv
  · replace hv := hv.2 g1
    refine g_fA h t_x0 rfl (rv_4_1 t_x0) ?_
    obtain ⟨c2, hv⟩ := hv
    refine g_aI h (show kt 1 105 by decide) (show alen 105 = 80 by decide) (show _ = Int32.ofInt x7 from rfl) c2 ?_
    obtain ⟨c3, hv⟩ := hv
    refine nm_z (h_sub (show _ = Int32.ofInt (S 105 x7) from rfl) (show _ = Int32.ofInt x7 from rfl)) (fun z12 e4 => ?_)
    have r5 : rI z12 := by rw [e4]; exact c3
    replace hv := hv z12 e4
    refine g_fA h t_x0 rfl (rv_4_2 t_x0) ?_
    obtain ⟨c6, hv⟩ := hv
    refine g_aI h (show kt 1 106 by decide) (show alen 106 = 80 by decide) (show _ = Int32.ofInt x7 from rfl) c6 ?_
    refine g_fA h t_x0 rfl (rv_4_2 t_x0) ?_
    obtain ⟨c7, hv⟩ := hv
    refine g_aI h (show kt 1 106 by decide) (show alen 106 = 80 by decide) (show _ = Int32.ofInt x7 from rfl) c7 ?_
    obtain ⟨c8, hv⟩ := hv
    refine g_aA h t_x4 (by decide) rfl (show _ = Int32.ofInt (S 106 x7) from rfl) c8 (rk_4 t_x4) ?_
    refine ⟨g_ob h (kA_4 (al_c c8 (al_40 t_x4))), ?_⟩
    refine apPr_trueWorth (fun r9 S10 N11 h12 r13 hv => ?_) rfl (kA_4 (al_c c8 (al_40 t_x4))) (show _ = Int32.ofInt z12 from rfl) r5 (show _ = Int32.ofInt x3 from rfl) r_x3 h hv
    refine ⟨g_ob h12 t_x1, ?_⟩
    refine apPl_addLog (fun S15 N16 h17 hv => ?_) rfl t_x1 (show _ = Int32.ofInt x3 from rfl) r_x3 (show _ = Int32.ofInt x7 from rfl) r_x7 (show _ = Int32.ofInt z12 from rfl) r5 (show _ = Int32.ofInt (S 106 x7) from rfl) (g_rI h (show kt 1 106 by decide) (by decide)) (show _ = Int64.ofInt r9 from rfl) r13 h12 hv
    refine g_fA h17 t_x0 rfl (rv_4_1 t_x0) ?_
    obtain ⟨c19, hv⟩ := hv
    refine g_aI h17 (show kt 1 105 by decide) (show alen 105 = 80 by decide) (show _ = Int32.ofInt x7 from rfl) c19 ?_
    obtain ⟨c20, hv⟩ := hv
    refine nm_z (h_add (show _ = Int32.ofInt (S15 105 x7) from rfl) (show _ = Int32.ofInt x5 from rfl)) (fun z51 e21 => ?_)
    have r22 : rI z51 := by rw [e21]; exact c20
    replace hv := hv z51 e21
    exact aCu_writeTo_107 hp hk6 rfl t_x0 rfl t_x1 rfl t_x2 (show _ = Int32.ofInt x3 from rfl) r_x3 rfl t_x4 (show _ = Int32.ofInt x5 from rfl) r_x5 (show _ = Int32.ofInt z51 from rfl) r22 (show _ = Int32.ofInt x7 from rfl) r_x7 h17 hv
def vCu_writeTo_6 (Q : St → Prop) : Nat → Int → Int → Int → Int → Int → Int → Int → Int → St → Prop
  | 0 => fun _ _ _ _ _ _ _ _ _ => False
  | n + 1 => fun x0 x1 x2 x3 x4 x5 x6 x7 S => ((((S x2 11) ≤ x7 → (Q S)) ∧ (¬ (S x2 11) ≤ x7 → (((x7 < x6 → (vCu_writeTo_44 Q (vCu_writeTo_6 Q n) x0 x1 x2 x3 x4 x5 x6 x7 S)) ∧ (¬ x7 < x6 → (((0 : Int) ≤ x7 ∧ (x7 : Int) < 80) ∧ ((((S 106 x7) = (-1) → (vpPl_burn x1 x3 x7 1 S (fun (S6 : St) => (vCu_writeTo_107 Q (vCu_writeTo_6 Q n) x0 x1 x2 x3 x4 x5 x6 x7 S6)))) ∧ (¬ (S 106 x7) = (-1) → (vCu_writeTo_44 Q (vCu_writeTo_6 Q n) x0 x1 x2 x3 x4 x5 x6 x7 S)))))))))))
theorem aCu_writeTo_6 {ad : Int → Nat} {Q : St → Prop} {post : Hp → Prop} (hp : ∀ (S : St) (M : Hp), US ad S M → Q S → post M) : ∀ (n : Nat) (w_x0 : Nat) (x0 : Int) (e_x0 : w_x0 = ad x0) (t_x0 : kt (20 + 4) x0) (w_x1 : Nat) (x1 : Int) (e_x1 : w_x1 = ad x1) (t_x1 : kt (20 + 5) x1) (w_x2 : Nat) (x2 : Int) (e_x2 : w_x2 = ad x2) (t_x2 : kt (20 + 1) x2) (w_x3 : Int32) (x3 : Int) (e_x3 : w_x3 = Int32.ofInt x3) (r_x3 : rI x3) (w_x4 : Nat) (x4 : Int) (e_x4 : w_x4 = ad x4) (t_x4 : kt (10 + 4) x4) (w_x5 : Int32) (x5 : Int) (e_x5 : w_x5 = Int32.ofInt x5) (r_x5 : rI x5) (w_x6 : Int32) (x6 : Int) (e_x6 : w_x6 = Int32.ofInt x6) (r_x6 : rI x6) (w_x7 : Int32) (x7 : Int) (e_x7 : w_x7 = Int32.ofInt x7) (r_x7 : rI x7) (S : St) (M : Hp), US ad S M → vCu_writeTo_6 Q n x0 x1 x2 x3 x4 x5 x6 x7 S → wCu_writeTo_6 post n w_x0 w_x1 w_x2 w_x3 w_x4 w_x5 w_x6 w_x7 M := by
  intro n
  induction n with
  | zero => intro w_x0 x0 e_x0 t_x0 w_x1 x1 e_x1 t_x1 w_x2 x2 e_x2 t_x2 w_x3 x3 e_x3 r_x3 w_x4 x4 e_x4 t_x4 w_x5 x5 e_x5 r_x5 w_x6 x6 e_x6 r_x6 w_x7 x7 e_x7 r_x7 S M h hv; exact hv.elim
  | succ n ih =>
    intro w_x0 x0 e_x0 t_x0 w_x1 x1 e_x1 t_x1 w_x2 x2 e_x2 t_x2 w_x3 x3 e_x3 r_x3 w_x4 x4 e_x4 t_x4 w_x5 x5 e_x5 r_x5 w_x6 x6 e_x6 r_x6 w_x7 x7 e_x7 r_x7 S M h hv
    subst e_x0
    subst e_x1
    subst e_x2
    subst e_x3
    subst e_x4
    subst e_x5
    subst e_x6
    subst e_x7
    unfold vCu_writeTo_6 at hv
    unfold wCu_writeTo_6
    refine g_fI h t_x2 rfl rfl ?_
    refine ek_if (c_le (show _ = Int32.ofInt (S x2 11) from rfl) (show _ = Int32.ofInt x7 from rfl) (g_rf (j := 11) h t_x2 rfl rfl) r_x7) (fun g1 => ?_) (fun g1 => ?_)
    · replace hv := hv.1 g1
      exact hp _ _ h hv
    · replace hv := hv.2 g1
      refine ek_if (c_lt (show _ = Int32.ofInt x7 from rfl) (show _ = Int32.ofInt x6 from rfl) r_x7 r_x6) (fun g2 => ?_) (fun g2 => ?_)
      · replace hv := hv.1 g2
        exact aCu_writeTo_44 hp (fun b0 b1 b2 b3 b4 b5 b6 b7 S9 M9 y0 y1 y2 y3 y4 y5 y6 y7 h9 hv9 => ih _ b0 rfl y0 _ b1 rfl y1 _ b2 rfl y2 _ b3 rfl y3 _ b4 rfl y4 _ b5 rfl y5 _ b6 rfl y6 _ b7 rfl y7 S9 M9 h9 hv9) rfl t_x0 rfl t_x1 rfl t_x2 (show _ = Int32.ofInt x3 from rfl) r_x3 rfl t_x4 (show _ = Int32.ofInt x5 from rfl) r_x5 (show _ = Int32.ofInt x6 from rfl) r_x6 (show _ = Int32.ofInt x7 from rfl) r_x7 h hv
      · replace hv := hv.2 g2
        refine g_fA h t_x0 rfl (rv_4_2 t_x0) ?_
        obtain ⟨c3, hv⟩ := hv
        refine g_aI h (show kt 1 106 by decide) (show alen 106 = 80 by decide) (show _ = Int32.ofInt x7 from rfl) c3 ?_
        refine ek_if (c_eq (show _ = Int32.ofInt (S 106 x7) from rfl) LI_m1 (g_rI h (show kt 1 106 by decide) (by decide)) LI_m1r) (fun g4 => ?_) (fun g4 => ?_)
        · replace hv := hv.1 g4
          refine ⟨g_ob h t_x1, ?_⟩
          refine apPl_burn (fun S6 N7 h8 hv => ?_) rfl t_x1 (show _ = Int32.ofInt x3 from rfl) r_x3 (show _ = Int32.ofInt x7 from rfl) r_x7 LI_1 LI_1r h hv
          exact aCu_writeTo_107 hp (fun b0 b1 b2 b3 b4 b5 b6 b7 S9 M9 y0 y1 y2 y3 y4 y5 y6 y7 h9 hv9 => ih _ b0 rfl y0 _ b1 rfl y1 _ b2 rfl y2 _ b3 rfl y3 _ b4 rfl y4 _ b5 rfl y5 _ b6 rfl y6 _ b7 rfl y7 S9 M9 h9 hv9) rfl t_x0 rfl t_x1 rfl t_x2 (show _ = Int32.ofInt x3 from rfl) r_x3 rfl t_x4 (show _ = Int32.ofInt x5 from rfl) r_x5 (show _ = Int32.ofInt x6 from rfl) r_x6 (show _ = Int32.ofInt x7 from rfl) r_x7 h8 hv
        · replace hv := hv.2 g4
          exact aCu_writeTo_44 hp (fun b0 b1 b2 b3 b4 b5 b6 b7 S9 M9 y0 y1 y2 y3 y4 y5 y6 y7 h9 hv9 => ih _ b0 rfl y0 _ b1 rfl y1 _ b2 rfl y2 _ b3 rfl y3 _ b4 rfl y4 _ b5 rfl y5 _ b6 rfl y6 _ b7 rfl y7 S9 M9 h9 hv9) rfl t_x0 rfl t_x1 rfl t_x2 (show _ = Int32.ofInt x3 from rfl) r_x3 rfl t_x4 (show _ = Int32.ofInt x5 from rfl) r_x5 (show _ = Int32.ofInt x6 from rfl) r_x6 (show _ = Int32.ofInt x7 from rfl) r_x7 h hv
def vpCu_writeTo (self : Int) (p0 : Int) (p1 : Int) (p2 : Int) (p3 : Int) (p4 : Int) (S : St) (Q : St → Prop) : Prop := (∃ n70 : Nat, (vCu_writeTo_6 Q n70 self p0 p1 p2 p3 p4 0 0 S))
theorem apCu_writeTo {ad : Int → Nat} {Q : St → Prop} {post : Hp → Prop} (hp : ∀ (S : St) (M : Hp), US ad S M → Q S → post M) {w_self : Nat} {self : Int} (e_self : w_self = ad self) (t_self : kt (20 + 4) self) {w_p0 : Nat} {p0 : Int} (e_p0 : w_p0 = ad p0) (t_p0 : kt (20 + 5) p0) {w_p1 : Nat} {p1 : Int} (e_p1 : w_p1 = ad p1) (t_p1 : kt (20 + 1) p1) {w_p2 : Int32} {p2 : Int} (e_p2 : w_p2 = Int32.ofInt p2) (r_p2 : rI p2) {w_p3 : Nat} {p3 : Int} (e_p3 : w_p3 = ad p3) (t_p3 : kt (10 + 4) p3) {w_p4 : Int32} {p4 : Int} (e_p4 : w_p4 = Int32.ofInt p4) (r_p4 : rI p4) {S : St} {M : Hp} (h : US ad S M) (hv : vpCu_writeTo self p0 p1 p2 p3 p4 S Q) : wpCu_writeTo w_self w_p0 w_p1 w_p2 w_p3 w_p4 M post := by
  subst e_self
  subst e_p0
  subst e_p1
  subst e_p2
  subst e_p3
  subst e_p4
  unfold vpCu_writeTo at hv
  unfold wpCu_writeTo
  obtain ⟨n70, hv⟩ := hv
  refine ⟨n70, ?_⟩
  exact aCu_writeTo_6 hp  n70 _ _ rfl t_self _ _ rfl t_p0 _ _ rfl t_p1 _ _ (show _ = Int32.ofInt p2 from rfl) r_p2 _ _ rfl t_p3 _ _ (show _ = Int32.ofInt p4 from rfl) r_p4 _ _ LI_0 LI_0r _ _ LI_0 LI_0r _ _ h hv
def vBT_cutAll_6 (Q : St → Prop) : Nat → Int → Int → Int → St → Prop
  | 0 => fun _ _ _ _ => False
  | n + 1 => fun x0 x1 x2 S => ((((S x0 3) ≤ x2 → (Q S)) ∧ (¬ (S x0 3) ≤ x2 → (((0 : Int) ≤ x2 ∧ (x2 : Int) < 6) ∧ (vpCu_workOut 103 (200 + 20 * x2) x2 102 (S x0 4) (S x0 6) S (fun (S4 : St) => (((0 : Int) ≤ x2 ∧ (x2 : Int) < 6) ∧ (vpCu_writeTo 103 x1 (200 + 20 * x2) x2 102 (S4 x0 6) S4 (fun (S10 : St) => ((rI (x2 + 1)) ∧ ∀ z58 : Int, z58 = (x2 + 1) → (vBT_cutAll_6 Q n x0 x1 z58 S10)))))))))))
theorem aBT_cutAll_6 {ad : Int → Nat} {Q : St → Prop} {post : Hp → Prop} (hp : ∀ (S : St) (M : Hp), US ad S M → Q S → post M) : ∀ (n : Nat) (w_x0 : Nat) (x0 : Int) (e_x0 : w_x0 = ad x0) (t_x0 : kt (20 + 0) x0) (w_x1 : Nat) (x1 : Int) (e_x1 : w_x1 = ad x1) (t_x1 : kt (20 + 5) x1) (w_x2 : Int32) (x2 : Int) (e_x2 : w_x2 = Int32.ofInt x2) (r_x2 : rI x2) (S : St) (M : Hp), US ad S M → vBT_cutAll_6 Q n x0 x1 x2 S → wBT_cutAll_6 post n w_x0 w_x1 w_x2 M := by
  intro n
  induction n with
  | zero => intro w_x0 x0 e_x0 t_x0 w_x1 x1 e_x1 t_x1 w_x2 x2 e_x2 r_x2 S M h hv; exact hv.elim
  | succ n ih =>
    intro w_x0 x0 e_x0 t_x0 w_x1 x1 e_x1 t_x1 w_x2 x2 e_x2 r_x2 S M h hv
    subst e_x0
    subst e_x1
    subst e_x2
    unfold vBT_cutAll_6 at hv
    unfold wBT_cutAll_6
    refine g_fI h t_x0 rfl rfl ?_
    refine ek_if (c_le (show _ = Int32.ofInt (S x0 3) from rfl) (show _ = Int32.ofInt x2 from rfl) (g_rf (j := 3) h t_x0 rfl rfl) r_x2) (fun g1 => ?_) (fun g1 => ?_)
    · replace hv := hv.1 g1
      exact hp _ _ h hv
    · replace hv := hv.2 g1
      refine g_fA h t_x0 rfl (rv_0_2 t_x0) ?_
      refine g_fA h t_x0 rfl (rv_0_0 t_x0) ?_
      obtain ⟨c2, hv⟩ := hv
      refine g_aA h (show kt (10 + 3) 101 by decide) (by decide) (show alen 101 = 6 by decide) (show _ = Int32.ofInt x2 from rfl) c2 (rk_3 (show kt (10 + 3) 101 by decide)) ?_
      refine g_fA h t_x0 rfl (rv_0_1 t_x0) ?_
      refine g_fI h t_x0 rfl rfl ?_
      refine g_fI h t_x0 rfl rfl ?_
      refine ⟨g_ob h (show kt (20 + 4) 103 by decide), ?_⟩
      refine apCu_workOut (fun S4 N5 h6 hv => ?_) rfl (show kt (20 + 4) 103 by decide) rfl (kA_3 c2) (show _ = Int32.ofInt x2 from rfl) r_x2 rfl (show kt (10 + 4) 102 by decide) (show _ = Int32.ofInt (S x0 4) from rfl) (g_rf (j := 4) h t_x0 rfl rfl) (show _ = Int32.ofInt (S x0 6) from rfl) (g_rf (j := 6) h t_x0 rfl rfl) h hv
      refine g_fA h6 t_x0 rfl (rv_0_2 t_x0) ?_
      refine g_fA h6 t_x0 rfl (rv_0_0 t_x0) ?_
      obtain ⟨c8, hv⟩ := hv
      refine g_aA h6 (show kt (10 + 3) 101 by decide) (by decide) (show alen 101 = 6 by decide) (show _ = Int32.ofInt x2 from rfl) c8 (rk_3 (show kt (10 + 3) 101 by decide)) ?_
      refine g_fA h6 t_x0 rfl (rv_0_1 t_x0) ?_
      refine g_fI h6 t_x0 rfl rfl ?_
      refine ⟨g_ob h6 (show kt (20 + 4) 103 by decide), ?_⟩
      refine apCu_writeTo (fun S10 N11 h12 hv => ?_) rfl (show kt (20 + 4) 103 by decide) rfl t_x1 rfl (kA_3 c8) (show _ = Int32.ofInt x2 from rfl) r_x2 rfl (show kt (10 + 4) 102 by decide) (show _ = Int32.ofInt (S4 x0 6) from rfl) (g_rf (j := 6) h6 t_x0 rfl rfl) h6 hv
      obtain ⟨c14, hv⟩ := hv
      refine nm_z (h_add (show _ = Int32.ofInt x2 from rfl) LI_1) (fun z58 e15 => ?_)
      have r16 : rI z58 := by rw [e15]; exact c14
      replace hv := hv z58 e15
      exact ih _ _ rfl t_x0 _ _ rfl t_x1 _ _ (show _ = Int32.ofInt z58 from rfl) r16 _ _ h12 hv
def vpBT_cutAll (self : Int) (p0 : Int) (S : St) (Q : St → Prop) : Prop := (vpPl_clear p0 S (fun (S2 : St) => (∃ n61 : Nat, (vBT_cutAll_6 Q n61 self p0 0 S2))))
theorem apBT_cutAll {ad : Int → Nat} {Q : St → Prop} {post : Hp → Prop} (hp : ∀ (S : St) (M : Hp), US ad S M → Q S → post M) {w_self : Nat} {self : Int} (e_self : w_self = ad self) (t_self : kt (20 + 0) self) {w_p0 : Nat} {p0 : Int} (e_p0 : w_p0 = ad p0) (t_p0 : kt (20 + 5) p0) {S : St} {M : Hp} (h : US ad S M) (hv : vpBT_cutAll self p0 S Q) : wpBT_cutAll w_self w_p0 M post := by
  subst e_self
  subst e_p0
  unfold vpBT_cutAll at hv
  unfold wpBT_cutAll
  refine ⟨g_ob h t_p0, ?_⟩
  refine apPl_clear (fun S2 N3 h4 hv => ?_) rfl t_p0 h hv
  obtain ⟨n61, hv⟩ := hv
  refine ⟨n61, ?_⟩
  exact aBT_cutAll_6 hp  n61 _ _ rfl t_self _ _ rfl t_p0 _ _ LI_0 LI_0r _ _ h4 hv
def vpBT_makePlain (self : Int) (S : St) (Q : St → Prop) : Prop := (vpBT_startPlans self S (fun (S2 : St) => (vpBT_cutAll self (S2 100 7) S2 (fun (S7 : St) => (∀ S11 : St, S11 = up S7 self 11 (S7 (S7 100 7) 4) → (∀ S15 : St, S15 = up S11 self 10 0 → (∀ S19 : St, S19 = up S15 self 9 1 → (Q S19))))))))
theorem apBT_makePlain {ad : Int → Nat} {Q : St → Prop} {post : Hp → Prop} (hp : ∀ (S : St) (M : Hp), US ad S M → Q S → post M) {w_self : Nat} {self : Int} (e_self : w_self = ad self) (t_self : kt (20 + 0) self) {S : St} {M : Hp} (h : US ad S M) (hv : vpBT_makePlain self S Q) : wpBT_makePlain w_self M post := by
  subst e_self
  unfold vpBT_makePlain at hv
  unfold wpBT_makePlain
  refine ⟨g_ob h t_self, ?_⟩
  refine apBT_startPlans (fun S2 N3 h4 hv => ?_) rfl t_self h hv
  refine g_fA h4 t_self rfl (rv_0_7 t_self) ?_
  refine ⟨g_ob h4 t_self, ?_⟩
  refine apBT_cutAll (fun S7 N8 h9 hv => ?_) rfl t_self rfl (g_k7 h4) h4 hv
  refine g_fA h9 t_self rfl (rv_0_7 t_self) ?_
  refine g_fJ h9 (g_k7 h9) rfl rfl ?_
  refine g_pJ h9 t_self rfl rfl (show _ = Int64.ofInt (S7 (S7 100 7) 4) from rfl) (g_rF (j := 4) h9 (g_k7 h9) rfl rfl) (fun S11 N12 e14 h13 => ?_)
  replace hv := hv S11 e14
  refine g_pI h13 t_self rfl rfl LI_0 LI_0r (fun S15 N16 e18 h17 => ?_)
  replace hv := hv S15 e18
  refine g_pI h17 t_self rfl rfl LI_1 LI_1r (fun S19 N20 e22 h21 => ?_)
  replace hv := hv S19 e22
  exact hp _ _ h21 hv
def vpBT_run (self : Int) (S : St) (Q : Int → St → Prop) : Prop := (vpBT_makePlain self S (fun (S2 : St) => (Q (S2 (S2 100 7) 3) S2)))
theorem apBT_run {ad : Int → Nat} {Q : Int → St → Prop} {post : Int32 → Hp → Prop} (hp : ∀ (r : Int) (S : St) (M : Hp), US ad S M → rI r → Q r S → post (Int32.ofInt r) M) {w_self : Nat} {self : Int} (e_self : w_self = ad self) (t_self : kt (20 + 0) self) {S : St} {M : Hp} (h : US ad S M) (hv : vpBT_run self S Q) : wpBT_run w_self M post := by
  subst e_self
  unfold vpBT_run at hv
  unfold wpBT_run
  refine ⟨g_ob h t_self, ?_⟩
  refine apBT_makePlain (fun S2 N3 h4 hv => ?_) rfl t_self h hv
  refine g_fA h4 t_self rfl (rv_0_7 t_self) ?_
  refine g_fI h4 (g_k7 h4) rfl rfl ?_
  refine ek_v (P := fun y => post y _) (show _ = Int32.ofInt (S2 (S2 100 7) 3) from rfl) ?_
  exact hp _ _ _ h4 (g_rf (j := 3) h4 (g_k7 h4) rfl rfl) hv
def vPr_hasLimit_16 (Q : Int → St → Prop) (y0 : Int) (S : St) : Prop := (((y0 : Int) = 0 ∨ (y0 : Int) = 1) ∧ (Q y0 S))
theorem aPr_hasLimit_16 {ad : Int → Nat} {Q : Int → St → Prop} {post : Int32 → Hp → Prop} (hp : ∀ (r : Int) (S : St) (M : Hp), US ad S M → rI r → Q r S → post (Int32.ofInt r) M) {w_y0 : Int32} {y0 : Int} (e_y0 : w_y0 = Int32.ofInt y0) (r_y0 : rI y0) {S : St} {M : Hp} (h : US ad S M) (hv : vPr_hasLimit_16 Q y0 S) : wPr_hasLimit_16 post w_y0 M := by
  subst e_y0
  unfold vPr_hasLimit_16 at hv
  unfold wPr_hasLimit_16
  refine ⟨b01 (show _ = Int32.ofInt y0 from rfl) hv.1, ?_⟩
  replace hv := hv.2
  refine ek_v (P := fun y => post y _) (show _ = Int32.ofInt y0 from rfl) ?_
  exact hp _ _ _ h r_y0 hv
def vpPr_hasLimit (self : Int) (S : St) (Q : Int → St → Prop) : Prop := ((((S self 8) = (-1) → (vPr_hasLimit_16 Q 0 S)) ∧ (¬ (S self 8) = (-1) → (vPr_hasLimit_16 Q 1 S))))
theorem apPr_hasLimit {ad : Int → Nat} {Q : Int → St → Prop} {post : Int32 → Hp → Prop} (hp : ∀ (r : Int) (S : St) (M : Hp), US ad S M → rI r → Q r S → post (Int32.ofInt r) M) {w_self : Nat} {self : Int} (e_self : w_self = ad self) (t_self : kt (20 + 2) self) {S : St} {M : Hp} (h : US ad S M) (hv : vpPr_hasLimit self S Q) : wpPr_hasLimit w_self M post := by
  subst e_self
  unfold vpPr_hasLimit at hv
  unfold wpPr_hasLimit
  refine g_fJ h t_self rfl rfl ?_
  refine ek_if (C_eq (show _ = Int64.ofInt (S self 8) from rfl) LJ_m1 (g_rF (j := 8) h t_self rfl rfl) LJ_m1r) (fun g1 => ?_) (fun g1 => ?_)
  · replace hv := hv.1 g1
    exact aPr_hasLimit_16 hp  LI_0 LI_0r h hv
  · replace hv := hv.2 g1
    exact aPr_hasLimit_16 hp  LI_1 LI_1r h hv
def vBT_changePrices_79 (Q : St → Prop) (K18 : Int → Int → Int → Int → St → Prop) (x0 : Int) (x1 : Int) (x3 : Int) (x5 : Int) (S : St) : Prop := ((rI (x5 + 1)) ∧ ∀ z1 : Int, z1 = (x5 + 1) → (K18 x0 x1 x3 z1 S))
theorem aBT_changePrices_79 {ad : Int → Nat} {Q : St → Prop} {K18 : Int → Int → Int → Int → St → Prop} {post : Hp → Prop} {k18 : Nat → Nat → Int64 → Int32 → Hp → Prop} (hp : ∀ (S : St) (M : Hp), US ad S M → Q S → post M) (hk18 : ∀ (b0 b1 b2 b3 : Int) (S : St) (M : Hp), kt (20 + 0) b0 → kt (20 + 5) b1 → rJ b2 → rI b3 → US ad S M → K18 b0 b1 b2 b3 S → k18 (ad b0) (ad b1) (Int64.ofInt b2) (Int32.ofInt b3) M) {w_x0 : Nat} {x0 : Int} (e_x0 : w_x0 = ad x0) (t_x0 : kt (20 + 0) x0) {w_x1 : Nat} {x1 : Int} (e_x1 : w_x1 = ad x1) (t_x1 : kt (20 + 5) x1) {w_x3 : Int64} {x3 : Int} (e_x3 : w_x3 = Int64.ofInt x3) (r_x3 : rJ x3) {w_x5 : Int32} {x5 : Int} (e_x5 : w_x5 = Int32.ofInt x5) (r_x5 : rI x5) {S : St} {M : Hp} (h : US ad S M) (hv : vBT_changePrices_79 Q K18 x0 x1 x3 x5 S) : wBT_changePrices_79 post k18 w_x0 w_x1 w_x3 w_x5 M := by
  subst e_x0
  subst e_x1
  subst e_x3
  subst e_x5
  unfold vBT_changePrices_79 at hv
  unfold wBT_changePrices_79
  obtain ⟨c1, hv⟩ := hv
  refine nm_z (h_add (show _ = Int32.ofInt x5 from rfl) LI_1) (fun z1 e2 => ?_)
  have r3 : rI z1 := by rw [e2]; exact c1
  replace hv := hv z1 e2
  exact hk18 _ _ _ _ _ _ t_x0 t_x1 r_x3 r3 h hv
def vBT_changePrices_18 (Q : St → Prop) : Nat → Int → Int → Int → Int → St → Prop
  | 0 => fun _ _ _ _ _ => False
  | n + 1 => fun x0 x1 x3 x5 S => ((((S x0 4) ≤ x5 → (Q S)) ∧ (¬ (S x0 4) ≤ x5 → (((0 : Int) ≤ x5 ∧ (x5 : Int) < 8) ∧ (vpPr_hasLimit (140 + 4 * x5) S (fun (r3 : Int) (S4 : St) => (((r3 = 0 → (vBT_changePrices_79 Q (vBT_changePrices_18 Q n) x0 x1 x3 x5 S4)) ∧ (¬ r3 = 0 → (((0 : Int) ≤ x5 ∧ (x5 : Int) < 8) ∧ ((rJ ((S4 (140 + 4 * x5) 9) + (((S4 (x1 + 3) x5) - (S4 (140 + 4 * x5) 8)) * x3))) ∧ ∀ z38 : Int, z38 = ((S4 (140 + 4 * x5) 9) + (((S4 (x1 + 3) x5) - (S4 (140 + 4 * x5) 8)) * x3)) → ((rJ (max z38 0)) ∧ ∀ S13 : St, S13 = up S4 (140 + 4 * x5) 9 (max z38 0) → (vBT_changePrices_79 Q (vBT_changePrices_18 Q n) x0 x1 x3 x5 S13)))))))))))))
theorem aBT_changePrices_18 {ad : Int → Nat} {Q : St → Prop} {post : Hp → Prop} (hp : ∀ (S : St) (M : Hp), US ad S M → Q S → post M) : ∀ (n : Nat) (w_x0 : Nat) (x0 : Int) (e_x0 : w_x0 = ad x0) (t_x0 : kt (20 + 0) x0) (w_x1 : Nat) (x1 : Int) (e_x1 : w_x1 = ad x1) (t_x1 : kt (20 + 5) x1) (w_x3 : Int64) (x3 : Int) (e_x3 : w_x3 = Int64.ofInt x3) (r_x3 : rJ x3) (w_x5 : Int32) (x5 : Int) (e_x5 : w_x5 = Int32.ofInt x5) (r_x5 : rI x5) (S : St) (M : Hp), US ad S M → vBT_changePrices_18 Q n x0 x1 x3 x5 S → wBT_changePrices_18 post n w_x0 w_x1 w_x3 w_x5 M := by
  intro n
  induction n with
  | zero => intro w_x0 x0 e_x0 t_x0 w_x1 x1 e_x1 t_x1 w_x3 x3 e_x3 r_x3 w_x5 x5 e_x5 r_x5 S M h hv; exact hv.elim
  | succ n ih =>
    intro w_x0 x0 e_x0 t_x0 w_x1 x1 e_x1 t_x1 w_x3 x3 e_x3 r_x3 w_x5 x5 e_x5 r_x5 S M h hv
    subst e_x0
    subst e_x1
    subst e_x3
    subst e_x5
    unfold vBT_changePrices_18 at hv
    unfold wBT_changePrices_18
    refine g_fI h t_x0 rfl rfl ?_
    refine ek_if (c_le (show _ = Int32.ofInt (S x0 4) from rfl) (show _ = Int32.ofInt x5 from rfl) (g_rf (j := 4) h t_x0 rfl rfl) r_x5) (fun g1 => ?_) (fun g1 => ?_)
    · replace hv := hv.1 g1
      exact hp _ _ h hv
    · replace hv := hv.2 g1
      refine g_fA h t_x0 rfl (rv_0_1 t_x0) ?_
      obtain ⟨c2, hv⟩ := hv
      refine g_aA h (show kt (10 + 4) 102 by decide) (by decide) (show alen 102 = 8 by decide) (show _ = Int32.ofInt x5 from rfl) c2 (rk_4 (show kt (10 + 4) 102 by decide)) ?_
      refine ⟨g_ob h (kA_4 c2), ?_⟩
      refine apPr_hasLimit (fun r3 S4 N5 h6 r7 hv => ?_) rfl (kA_4 c2) h hv
      refine ek_if (c_eq (show _ = Int32.ofInt r3 from rfl) LI_0 r7 LI_0r) (fun g8 => ?_) (fun g8 => ?_)
      · replace hv := hv.1 g8
        exact aBT_changePrices_79 hp (fun b0 b1 b2 b3 S9 M9 y0 y1 y2 y3 h9 hv9 => ih _ b0 rfl y0 _ b1 rfl y1 _ b2 rfl y2 _ b3 rfl y3 S9 M9 h9 hv9) rfl t_x0 rfl t_x1 (show _ = Int64.ofInt x3 from rfl) r_x3 (show _ = Int32.ofInt x5 from rfl) r_x5 h6 hv
      · replace hv := hv.2 g8
        refine g_fJ h6 (kA_4 c2) rfl rfl ?_
        refine g_fA h6 t_x1 rfl (rv_5_2 t_x1) ?_
        obtain ⟨c9, hv⟩ := hv
        refine g_aI h6 (kt_5_2 t_x1) (al_5_2 t_x1) (show _ = Int32.ofInt x5 from rfl) c9 ?_
        refine g_fJ h6 (kA_4 c2) rfl rfl ?_
        obtain ⟨c10, hv⟩ := hv
        refine nm_Z (H_add (show _ = Int64.ofInt (S4 (140 + 4 * x5) 9) from rfl) (H_mul (H_sub (h_toL (show _ = Int32.ofInt (S4 (x1 + 3) x5) from rfl) (g_rI h6 (kt_5_2 t_x1) (by decide))) (show _ = Int64.ofInt (S4 (140 + 4 * x5) 8) from rfl)) (show _ = Int64.ofInt x3 from rfl))) (fun z38 e11 => ?_)
        have r12 : rJ z38 := by rw [e11]; exact c10
        replace hv := hv z38 e11
        obtain ⟨c17, hv⟩ := hv
        refine g_pJ h6 (kA_4 c2) rfl rfl (H_max (show _ = Int64.ofInt z38 from rfl) LJ_0 r12 LJ_0r) c17 (fun S13 N14 e16 h15 => ?_)
        replace hv := hv S13 e16
        exact aBT_changePrices_79 hp (fun b0 b1 b2 b3 S9 M9 y0 y1 y2 y3 h9 hv9 => ih _ b0 rfl y0 _ b1 rfl y1 _ b2 rfl y2 _ b3 rfl y3 S9 M9 h9 hv9) rfl t_x0 rfl t_x1 (show _ = Int64.ofInt x3 from rfl) r_x3 (show _ = Int32.ofInt x5 from rfl) r_x5 h15 hv
def vpBT_changePrices (self : Int) (p0 : Int) (p1 : Int) (S : St) (Q : St → Prop) : Prop := ((rI (max 1 p1)) ∧ ¬ (max 1 p1) = 0 ∧ (((0 : Int) ≤ 1024 ∧ (1024 : Int) < 2147483648) ∧ ((0 : Int) < (max 1 p1) ∧ ((max 1 p1) : Int) < 2147483648) ∧ (rI (1024 / (max 1 p1))) ∧ (rI (max 1 (1024 / (max 1 p1)))) ∧ ∀ z44 : Int, z44 = (max 1 (1024 / (max 1 p1))) → (∃ n45 : Nat, (vBT_changePrices_18 Q n45 self p0 z44 0 S))))
theorem apBT_changePrices {ad : Int → Nat} {Q : St → Prop} {post : Hp → Prop} (hp : ∀ (S : St) (M : Hp), US ad S M → Q S → post M) {w_self : Nat} {self : Int} (e_self : w_self = ad self) (t_self : kt (20 + 0) self) {w_p0 : Nat} {p0 : Int} (e_p0 : w_p0 = ad p0) (t_p0 : kt (20 + 5) p0) {w_p1 : Int32} {p1 : Int} (e_p1 : w_p1 = Int32.ofInt p1) (r_p1 : rI p1) {S : St} {M : Hp} (h : US ad S M) (hv : vpBT_changePrices self p0 p1 S Q) : wpBT_changePrices w_self w_p0 w_p1 M post := by
  subst e_self
  subst e_p0
  subst e_p1
  unfold vpBT_changePrices at hv
  unfold wpBT_changePrices
  obtain ⟨c1, hv⟩ := hv
  refine ⟨fun z => hv.1 ((c_eq (h_max LI_1 (show _ = Int32.ofInt p1 from rfl) LI_1r r_p1) LI_0 c1 LI_0r).mp z), ?_⟩
  replace hv := hv.2
  obtain ⟨c2, c3, c4, c5, hv⟩ := hv
  refine nm_Z (h_toL (h_max LI_1 (h_div LI_1024 (h_max LI_1 (show _ = Int32.ofInt p1 from rfl) LI_1r r_p1) c2 c3) LI_1r c4) c5) (fun z44 e6 => ?_)
  have r7 : rJ z44 := by rw [e6]; exact (rI_J c5)
  replace hv := hv z44 e6
  obtain ⟨n45, hv⟩ := hv
  refine ⟨n45, ?_⟩
  exact aBT_changePrices_18 hp  n45 _ _ rfl t_self _ _ rfl t_p0 _ _ (show _ = Int64.ofInt z44 from rfl) r7 _ _ LI_0 LI_0r _ _ h hv
def vBT_valueOf_57 (Q : Int → St → Prop) (K8 : Int → Int → Int → Int → St → Prop) (x0 : Int) (x1 : Int) (x2 : Int) (x4 : Int) (S : St) : Prop := ((rI (x4 + 1)) ∧ ∀ z1 : Int, z1 = (x4 + 1) → (K8 x0 x1 x2 z1 S))
theorem aBT_valueOf_57 {ad : Int → Nat} {Q : Int → St → Prop} {K8 : Int → Int → Int → Int → St → Prop} {post : Int64 → Hp → Prop} {k8 : Nat → Nat → Int64 → Int32 → Hp → Prop} (hp : ∀ (r : Int) (S : St) (M : Hp), US ad S M → rJ r → Q r S → post (Int64.ofInt r) M) (hk8 : ∀ (b0 b1 b2 b3 : Int) (S : St) (M : Hp), kt (20 + 0) b0 → kt (20 + 5) b1 → rJ b2 → rI b3 → US ad S M → K8 b0 b1 b2 b3 S → k8 (ad b0) (ad b1) (Int64.ofInt b2) (Int32.ofInt b3) M) {w_x0 : Nat} {x0 : Int} (e_x0 : w_x0 = ad x0) (t_x0 : kt (20 + 0) x0) {w_x1 : Nat} {x1 : Int} (e_x1 : w_x1 = ad x1) (t_x1 : kt (20 + 5) x1) {w_x2 : Int64} {x2 : Int} (e_x2 : w_x2 = Int64.ofInt x2) (r_x2 : rJ x2) {w_x4 : Int32} {x4 : Int} (e_x4 : w_x4 = Int32.ofInt x4) (r_x4 : rI x4) {S : St} {M : Hp} (h : US ad S M) (hv : vBT_valueOf_57 Q K8 x0 x1 x2 x4 S) : wBT_valueOf_57 post k8 w_x0 w_x1 w_x2 w_x4 M := by
  subst e_x0
  subst e_x1
  subst e_x2
  subst e_x4
  unfold vBT_valueOf_57 at hv
  unfold wBT_valueOf_57
  obtain ⟨c1, hv⟩ := hv
  refine nm_z (h_add (show _ = Int32.ofInt x4 from rfl) LI_1) (fun z1 e2 => ?_)
  have r3 : rI z1 := by rw [e2]; exact c1
  replace hv := hv z1 e2
  exact hk8 _ _ _ _ _ _ t_x0 t_x1 r_x2 r3 h hv
def vBT_valueOf_8 (Q : Int → St → Prop) : Nat → Int → Int → Int → Int → St → Prop
  | 0 => fun _ _ _ _ _ => False
  | n + 1 => fun x0 x1 x2 x4 S => ((((S x0 4) ≤ x4 → (Q x2 S)) ∧ (¬ (S x0 4) ≤ x4 → (((0 : Int) ≤ x4 ∧ (x4 : Int) < 8) ∧ (vpPr_hasLimit (140 + 4 * x4) S (fun (r3 : Int) (S4 : St) => (((r3 = 0 → (vBT_valueOf_57 Q (vBT_valueOf_8 Q n) x0 x1 x2 x4 S4)) ∧ (¬ r3 = 0 → (((0 : Int) ≤ x4 ∧ (x4 : Int) < 8) ∧ ((rJ (x2 + ((S4 (140 + 4 * x4) 9) * ((S4 (140 + 4 * x4) 8) - (S4 (x1 + 3) x4))))) ∧ ∀ z38 : Int, z38 = (x2 + ((S4 (140 + 4 * x4) 9) * ((S4 (140 + 4 * x4) 8) - (S4 (x1 + 3) x4)))) → (vBT_valueOf_57 Q (vBT_valueOf_8 Q n) x0 x1 z38 x4 S4))))))))))))
theorem aBT_valueOf_8 {ad : Int → Nat} {Q : Int → St → Prop} {post : Int64 → Hp → Prop} (hp : ∀ (r : Int) (S : St) (M : Hp), US ad S M → rJ r → Q r S → post (Int64.ofInt r) M) : ∀ (n : Nat) (w_x0 : Nat) (x0 : Int) (e_x0 : w_x0 = ad x0) (t_x0 : kt (20 + 0) x0) (w_x1 : Nat) (x1 : Int) (e_x1 : w_x1 = ad x1) (t_x1 : kt (20 + 5) x1) (w_x2 : Int64) (x2 : Int) (e_x2 : w_x2 = Int64.ofInt x2) (r_x2 : rJ x2) (w_x4 : Int32) (x4 : Int) (e_x4 : w_x4 = Int32.ofInt x4) (r_x4 : rI x4) (S : St) (M : Hp), US ad S M → vBT_valueOf_8 Q n x0 x1 x2 x4 S → wBT_valueOf_8 post n w_x0 w_x1 w_x2 w_x4 M := by
  intro n
  induction n with
  | zero => intro w_x0 x0 e_x0 t_x0 w_x1 x1 e_x1 t_x1 w_x2 x2 e_x2 r_x2 w_x4 x4 e_x4 r_x4 S M h hv; exact hv.elim
  | succ n ih =>
    intro w_x0 x0 e_x0 t_x0 w_x1 x1 e_x1 t_x1 w_x2 x2 e_x2 r_x2 w_x4 x4 e_x4 r_x4 S M h hv
    subst e_x0
    subst e_x1
    subst e_x2
    subst e_x4
    unfold vBT_valueOf_8 at hv
    unfold wBT_valueOf_8
    refine g_fI h t_x0 rfl rfl ?_
    refine ek_if (c_le (show _ = Int32.ofInt (S x0 4) from rfl) (show _ = Int32.ofInt x4 from rfl) (g_rf (j := 4) h t_x0 rfl rfl) r_x4) (fun g1 => ?_) (fun g1 => ?_)
    · replace hv := hv.1 g1
      refine ek_v (P := fun y => post y _) (show _ = Int64.ofInt x2 from rfl) ?_
      exact hp _ _ _ h r_x2 hv
    · replace hv := hv.2 g1
      refine g_fA h t_x0 rfl (rv_0_1 t_x0) ?_
      obtain ⟨c2, hv⟩ := hv
      refine g_aA h (show kt (10 + 4) 102 by decide) (by decide) (show alen 102 = 8 by decide) (show _ = Int32.ofInt x4 from rfl) c2 (rk_4 (show kt (10 + 4) 102 by decide)) ?_
      refine ⟨g_ob h (kA_4 c2), ?_⟩
      refine apPr_hasLimit (fun r3 S4 N5 h6 r7 hv => ?_) rfl (kA_4 c2) h hv
      refine ek_if (c_eq (show _ = Int32.ofInt r3 from rfl) LI_0 r7 LI_0r) (fun g8 => ?_) (fun g8 => ?_)
      · replace hv := hv.1 g8
        exact aBT_valueOf_57 hp (fun b0 b1 b2 b3 S9 M9 y0 y1 y2 y3 h9 hv9 => ih _ b0 rfl y0 _ b1 rfl y1 _ b2 rfl y2 _ b3 rfl y3 S9 M9 h9 hv9) rfl t_x0 rfl t_x1 (show _ = Int64.ofInt x2 from rfl) r_x2 (show _ = Int32.ofInt x4 from rfl) r_x4 h6 hv
      · replace hv := hv.2 g8
        refine g_fJ h6 (kA_4 c2) rfl rfl ?_
        refine g_fJ h6 (kA_4 c2) rfl rfl ?_
        refine g_fA h6 t_x1 rfl (rv_5_2 t_x1) ?_
        obtain ⟨c9, hv⟩ := hv
        refine g_aI h6 (kt_5_2 t_x1) (al_5_2 t_x1) (show _ = Int32.ofInt x4 from rfl) c9 ?_
        obtain ⟨c10, hv⟩ := hv
        refine nm_Z (H_add (show _ = Int64.ofInt x2 from rfl) (H_mul (show _ = Int64.ofInt (S4 (140 + 4 * x4) 9) from rfl) (H_sub (show _ = Int64.ofInt (S4 (140 + 4 * x4) 8) from rfl) (h_toL (show _ = Int32.ofInt (S4 (x1 + 3) x4) from rfl) (g_rI h6 (kt_5_2 t_x1) (by decide)))))) (fun z38 e11 => ?_)
        have r12 : rJ z38 := by rw [e11]; exact c10
        replace hv := hv z38 e11
        exact aBT_valueOf_57 hp (fun b0 b1 b2 b3 S9 M9 y0 y1 y2 y3 h9 hv9 => ih _ b0 rfl y0 _ b1 rfl y1 _ b2 rfl y2 _ b3 rfl y3 S9 M9 h9 hv9) rfl t_x0 rfl t_x1 (show _ = Int64.ofInt z38 from rfl) r12 (show _ = Int32.ofInt x4 from rfl) r_x4 h6 hv
def vpBT_valueOf (self : Int) (p0 : Int) (S : St) (Q : Int → St → Prop) : Prop := (∃ n43 : Nat, (vBT_valueOf_8 Q n43 self p0 (S p0 4) 0 S))
theorem apBT_valueOf {ad : Int → Nat} {Q : Int → St → Prop} {post : Int64 → Hp → Prop} (hp : ∀ (r : Int) (S : St) (M : Hp), US ad S M → rJ r → Q r S → post (Int64.ofInt r) M) {w_self : Nat} {self : Int} (e_self : w_self = ad self) (t_self : kt (20 + 0) self) {w_p0 : Nat} {p0 : Int} (e_p0 : w_p0 = ad p0) (t_p0 : kt (20 + 5) p0) {S : St} {M : Hp} (h : US ad S M) (hv : vpBT_valueOf self p0 S Q) : wpBT_valueOf w_self w_p0 M post := by
  subst e_self
  subst e_p0
  unfold vpBT_valueOf at hv
  unfold wpBT_valueOf
  refine g_fJ h t_p0 rfl rfl ?_
  obtain ⟨n43, hv⟩ := hv
  refine ⟨n43, ?_⟩
  exact aBT_valueOf_8 hp  n43 _ _ rfl t_self _ _ rfl t_p0 _ _ (show _ = Int64.ofInt (S p0 4) from rfl) (g_rF (j := 4) h t_p0 rfl rfl) _ _ LI_0 LI_0r _ _ h hv
def vPr_isBeyond_22 (Q : Int → St → Prop) (y0 : Int) (S : St) : Prop := (((y0 : Int) = 0 ∨ (y0 : Int) = 1) ∧ (Q y0 S))
theorem aPr_isBeyond_22 {ad : Int → Nat} {Q : Int → St → Prop} {post : Int32 → Hp → Prop} (hp : ∀ (r : Int) (S : St) (M : Hp), US ad S M → rI r → Q r S → post (Int32.ofInt r) M) {w_y0 : Int32} {y0 : Int} (e_y0 : w_y0 = Int32.ofInt y0) (r_y0 : rI y0) {S : St} {M : Hp} (h : US ad S M) (hv : vPr_isBeyond_22 Q y0 S) : wPr_isBeyond_22 post w_y0 M := by
  subst e_y0
  unfold vPr_isBeyond_22 at hv
  unfold wPr_isBeyond_22
  refine ⟨b01 (show _ = Int32.ofInt y0 from rfl) hv.1, ?_⟩
  replace hv := hv.2
  refine ek_v (P := fun y => post y _) (show _ = Int32.ofInt y0 from rfl) ?_
  exact hp _ _ _ h r_y0 hv
def vPr_isBeyond_21 (Q : Int → St → Prop) (S : St) : Prop := (vPr_isBeyond_22 Q 0 S)
theorem aPr_isBeyond_21 {ad : Int → Nat} {Q : Int → St → Prop} {post : Int32 → Hp → Prop} (hp : ∀ (r : Int) (S : St) (M : Hp), US ad S M → rI r → Q r S → post (Int32.ofInt r) M)  {S : St} {M : Hp} (h : US ad S M) (hv : vPr_isBeyond_21 Q  S) : wPr_isBeyond_21 post  M := by
  unfold vPr_isBeyond_21 at hv
  unfold wPr_isBeyond_21
  exact aPr_isBeyond_22 hp  LI_0 LI_0r h hv
def vpPr_isBeyond (self : Int) (p0 : Int) (S : St) (Q : Int → St → Prop) : Prop := (vpPr_hasLimit self S (fun (r1 : Int) (S2 : St) => (((r1 = 0 → (vPr_isBeyond_21 Q  S2)) ∧ (¬ r1 = 0 → (((p0 ≤ (S2 self 8) → (vPr_isBeyond_21 Q  S2)) ∧ (¬ p0 ≤ (S2 self 8) → (vPr_isBeyond_22 Q 1 S2)))))))))
theorem apPr_isBeyond {ad : Int → Nat} {Q : Int → St → Prop} {post : Int32 → Hp → Prop} (hp : ∀ (r : Int) (S : St) (M : Hp), US ad S M → rI r → Q r S → post (Int32.ofInt r) M) {w_self : Nat} {self : Int} (e_self : w_self = ad self) (t_self : kt (20 + 2) self) {w_p0 : Int32} {p0 : Int} (e_p0 : w_p0 = Int32.ofInt p0) (r_p0 : rI p0) {S : St} {M : Hp} (h : US ad S M) (hv : vpPr_isBeyond self p0 S Q) : wpPr_isBeyond w_self w_p0 M post := by
  subst e_self
  subst e_p0
  unfold vpPr_isBeyond at hv
  unfold wpPr_isBeyond
  refine ⟨g_ob h t_self, ?_⟩
  refine apPr_hasLimit (fun r1 S2 N3 h4 r5 hv => ?_) rfl t_self h hv
  refine ek_if (c_eq (show _ = Int32.ofInt r1 from rfl) LI_0 r5 LI_0r) (fun g6 => ?_) (fun g6 => ?_)
  · replace hv := hv.1 g6
    exact aPr_isBeyond_21 hp   h4 hv
  · replace hv := hv.2 g6
    refine g_fJ h4 t_self rfl rfl ?_
    refine ek_if (C_le (h_toL (show _ = Int32.ofInt p0 from rfl) r_p0) (show _ = Int64.ofInt (S2 self 8) from rfl) (rI_J r_p0) (g_rF (j := 8) h4 t_self rfl rfl)) (fun g7 => ?_) (fun g7 => ?_)
    · replace hv := hv.1 g7
      exact aPr_isBeyond_21 hp   h4 hv
    · replace hv := hv.2 g7
      exact aPr_isBeyond_22 hp  LI_1 LI_1r h4 hv
def vBT_limitsHold_2 (Q : Int → St → Prop) : Nat → Int → Int → Int → St → Prop
  | 0 => fun _ _ _ _ => False
  | n + 1 => fun x0 x1 x2 S => ((((S x0 4) ≤ x2 → (Q 1 S)) ∧ (¬ (S x0 4) ≤ x2 → (((0 : Int) ≤ x2 ∧ (x2 : Int) < 8) ∧ (((0 : Int) ≤ x2 ∧ (x2 : Int) < 8) ∧ (vpPr_isBeyond (140 + 4 * x2) (S (x1 + 3) x2) S (fun (r4 : Int) (S5 : St) => (((r4 = 0 → ((rI (x2 + 1)) ∧ ∀ z29 : Int, z29 = (x2 + 1) → (vBT_limitsHold_2 Q n x0 x1 z29 S5))) ∧ (¬ r4 = 0 → (Q 0 S5)))))))))))
theorem aBT_limitsHold_2 {ad : Int → Nat} {Q : Int → St → Prop} {post : Int32 → Hp → Prop} (hp : ∀ (r : Int) (S : St) (M : Hp), US ad S M → rI r → Q r S → post (Int32.ofInt r) M) : ∀ (n : Nat) (w_x0 : Nat) (x0 : Int) (e_x0 : w_x0 = ad x0) (t_x0 : kt (20 + 0) x0) (w_x1 : Nat) (x1 : Int) (e_x1 : w_x1 = ad x1) (t_x1 : kt (20 + 5) x1) (w_x2 : Int32) (x2 : Int) (e_x2 : w_x2 = Int32.ofInt x2) (r_x2 : rI x2) (S : St) (M : Hp), US ad S M → vBT_limitsHold_2 Q n x0 x1 x2 S → wBT_limitsHold_2 post n w_x0 w_x1 w_x2 M := by
  intro n
  induction n with
  | zero => intro w_x0 x0 e_x0 t_x0 w_x1 x1 e_x1 t_x1 w_x2 x2 e_x2 r_x2 S M h hv; exact hv.elim
  | succ n ih =>
    intro w_x0 x0 e_x0 t_x0 w_x1 x1 e_x1 t_x1 w_x2 x2 e_x2 r_x2 S M h hv
    subst e_x0
    subst e_x1
    subst e_x2
    unfold vBT_limitsHold_2 at hv
    unfold wBT_limitsHold_2
    refine g_fI h t_x0 rfl rfl ?_
    refine ek_if (c_le (show _ = Int32.ofInt (S x0 4) from rfl) (show _ = Int32.ofInt x2 from rfl) (g_rf (j := 4) h t_x0 rfl rfl) r_x2) (fun g1 => ?_) (fun g1 => ?_)
    · replace hv := hv.1 g1
      refine ek_v (P := fun y => post y _) LI_1 ?_
      exact hp _ _ _ h LI_1r hv
    · replace hv := hv.2 g1
      refine g_fA h t_x0 rfl (rv_0_1 t_x0) ?_
      obtain ⟨c2, hv⟩ := hv
      refine g_aA h (show kt (10 + 4) 102 by decide) (by decide) (show alen 102 = 8 by decide) (show _ = Int32.ofInt x2 from rfl) c2 (rk_4 (show kt (10 + 4) 102 by decide)) ?_
      refine g_fA h t_x1 rfl (rv_5_2 t_x1) ?_
      obtain ⟨c3, hv⟩ := hv
      refine g_aI h (kt_5_2 t_x1) (al_5_2 t_x1) (show _ = Int32.ofInt x2 from rfl) c3 ?_
      refine ⟨g_ob h (kA_4 c2), ?_⟩
      refine apPr_isBeyond (fun r4 S5 N6 h7 r8 hv => ?_) rfl (kA_4 c2) (show _ = Int32.ofInt (S (x1 + 3) x2) from rfl) (g_rI h (kt_5_2 t_x1) (by decide)) h hv
      refine ek_if (c_eq (show _ = Int32.ofInt r4 from rfl) LI_0 r8 LI_0r) (fun g9 => ?_) (fun g9 => ?_)
      · replace hv := hv.1 g9
        obtain ⟨c10, hv⟩ := hv
        refine nm_z (h_add (show _ = Int32.ofInt x2 from rfl) LI_1) (fun z29 e11 => ?_)
        have r12 : rI z29 := by rw [e11]; exact c10
        replace hv := hv z29 e11
        exact ih _ _ rfl t_x0 _ _ rfl t_x1 _ _ (show _ = Int32.ofInt z29 from rfl) r12 _ _ h7 hv
      · replace hv := hv.2 g9
        refine ek_v (P := fun y => post y _) LI_0 ?_
        exact hp _ _ _ h7 LI_0r hv
def vpBT_limitsHold (self : Int) (p0 : Int) (S : St) (Q : Int → St → Prop) : Prop := (∃ n30 : Nat, (vBT_limitsHold_2 Q n30 self p0 0 S))
theorem apBT_limitsHold {ad : Int → Nat} {Q : Int → St → Prop} {post : Int32 → Hp → Prop} (hp : ∀ (r : Int) (S : St) (M : Hp), US ad S M → rI r → Q r S → post (Int32.ofInt r) M) {w_self : Nat} {self : Int} (e_self : w_self = ad self) (t_self : kt (20 + 0) self) {w_p0 : Nat} {p0 : Int} (e_p0 : w_p0 = ad p0) (t_p0 : kt (20 + 5) p0) {S : St} {M : Hp} (h : US ad S M) (hv : vpBT_limitsHold self p0 S Q) : wpBT_limitsHold w_self w_p0 M post := by
  subst e_self
  subst e_p0
  unfold vpBT_limitsHold at hv
  unfold wpBT_limitsHold
  obtain ⟨n30, hv⟩ := hv
  refine ⟨n30, ?_⟩
  exact aBT_limitsHold_2 hp  n30 _ _ rfl t_self _ _ rfl t_p0 _ _ LI_0 LI_0r _ _ h hv
def vBT_pricesAreUsed_43 (Q : Int → St → Prop) (K2 : Int → Int → Int → St → Prop) (x0 : Int) (x1 : Int) (x2 : Int) (S : St) : Prop := ((rI (x2 + 1)) ∧ ∀ z1 : Int, z1 = (x2 + 1) → (K2 x0 x1 z1 S))
theorem aBT_pricesAreUsed_43 {ad : Int → Nat} {Q : Int → St → Prop} {K2 : Int → Int → Int → St → Prop} {post : Int32 → Hp → Prop} {k2 : Nat → Nat → Int32 → Hp → Prop} (hp : ∀ (r : Int) (S : St) (M : Hp), US ad S M → rI r → Q r S → post (Int32.ofInt r) M) (hk2 : ∀ (b0 b1 b2 : Int) (S : St) (M : Hp), kt (20 + 0) b0 → kt (20 + 5) b1 → rI b2 → US ad S M → K2 b0 b1 b2 S → k2 (ad b0) (ad b1) (Int32.ofInt b2) M) {w_x0 : Nat} {x0 : Int} (e_x0 : w_x0 = ad x0) (t_x0 : kt (20 + 0) x0) {w_x1 : Nat} {x1 : Int} (e_x1 : w_x1 = ad x1) (t_x1 : kt (20 + 5) x1) {w_x2 : Int32} {x2 : Int} (e_x2 : w_x2 = Int32.ofInt x2) (r_x2 : rI x2) {S : St} {M : Hp} (h : US ad S M) (hv : vBT_pricesAreUsed_43 Q K2 x0 x1 x2 S) : wBT_pricesAreUsed_43 post k2 w_x0 w_x1 w_x2 M := by
  subst e_x0
  subst e_x1
  subst e_x2
  unfold vBT_pricesAreUsed_43 at hv
  unfold wBT_pricesAreUsed_43
  obtain ⟨c1, hv⟩ := hv
  refine nm_z (h_add (show _ = Int32.ofInt x2 from rfl) LI_1) (fun z1 e2 => ?_)
  have r3 : rI z1 := by rw [e2]; exact c1
  replace hv := hv z1 e2
  exact hk2 _ _ _ _ _ t_x0 t_x1 r3 h hv
def vBT_pricesAreUsed_2 (Q : Int → St → Prop) : Nat → Int → Int → Int → St → Prop
  | 0 => fun _ _ _ _ => False
  | n + 1 => fun x0 x1 x2 S => ((((S x0 4) ≤ x2 → (Q 1 S)) ∧ (¬ (S x0 4) ≤ x2 → (((0 : Int) ≤ x2 ∧ (x2 : Int) < 8) ∧ ((((S (140 + 4 * x2) 9) ≤ 0 → (vBT_pricesAreUsed_43 Q (vBT_pricesAreUsed_2 Q n) x0 x1 x2 S)) ∧ (¬ (S (140 + 4 * x2) 9) ≤ 0 → (((0 : Int) ≤ x2 ∧ (x2 : Int) < 8) ∧ ((((S (x1 + 3) x2) = (S (140 + 4 * x2) 8) → (vBT_pricesAreUsed_43 Q (vBT_pricesAreUsed_2 Q n) x0 x1 x2 S)) ∧ (¬ (S (x1 + 3) x2) = (S (140 + 4 * x2) 8) → (Q 0 S))))))))))))
theorem aBT_pricesAreUsed_2 {ad : Int → Nat} {Q : Int → St → Prop} {post : Int32 → Hp → Prop} (hp : ∀ (r : Int) (S : St) (M : Hp), US ad S M → rI r → Q r S → post (Int32.ofInt r) M) : ∀ (n : Nat) (w_x0 : Nat) (x0 : Int) (e_x0 : w_x0 = ad x0) (t_x0 : kt (20 + 0) x0) (w_x1 : Nat) (x1 : Int) (e_x1 : w_x1 = ad x1) (t_x1 : kt (20 + 5) x1) (w_x2 : Int32) (x2 : Int) (e_x2 : w_x2 = Int32.ofInt x2) (r_x2 : rI x2) (S : St) (M : Hp), US ad S M → vBT_pricesAreUsed_2 Q n x0 x1 x2 S → wBT_pricesAreUsed_2 post n w_x0 w_x1 w_x2 M := by
  intro n
  induction n with
  | zero => intro w_x0 x0 e_x0 t_x0 w_x1 x1 e_x1 t_x1 w_x2 x2 e_x2 r_x2 S M h hv; exact hv.elim
  | succ n ih =>
    intro w_x0 x0 e_x0 t_x0 w_x1 x1 e_x1 t_x1 w_x2 x2 e_x2 r_x2 S M h hv
    subst e_x0
    subst e_x1
    subst e_x2
    unfold vBT_pricesAreUsed_2 at hv
    unfold wBT_pricesAreUsed_2
    refine g_fI h t_x0 rfl rfl ?_
    refine ek_if (c_le (show _ = Int32.ofInt (S x0 4) from rfl) (show _ = Int32.ofInt x2 from rfl) (g_rf (j := 4) h t_x0 rfl rfl) r_x2) (fun g1 => ?_) (fun g1 => ?_)
    · replace hv := hv.1 g1
      refine ek_v (P := fun y => post y _) LI_1 ?_
      exact hp _ _ _ h LI_1r hv
    · replace hv := hv.2 g1
      refine g_fA h t_x0 rfl (rv_0_1 t_x0) ?_
      obtain ⟨c2, hv⟩ := hv
      refine g_aA h (show kt (10 + 4) 102 by decide) (by decide) (show alen 102 = 8 by decide) (show _ = Int32.ofInt x2 from rfl) c2 (rk_4 (show kt (10 + 4) 102 by decide)) ?_
      refine g_fJ h (kA_4 c2) rfl rfl ?_
      refine ek_if (C_le (show _ = Int64.ofInt (S (140 + 4 * x2) 9) from rfl) LJ_0 (g_rF (j := 9) h (kA_4 c2) rfl rfl) LJ_0r) (fun g3 => ?_) (fun g3 => ?_)
      · replace hv := hv.1 g3
        exact aBT_pricesAreUsed_43 hp (fun b0 b1 b2 S9 M9 y0 y1 y2 h9 hv9 => ih _ b0 rfl y0 _ b1 rfl y1 _ b2 rfl y2 S9 M9 h9 hv9) rfl t_x0 rfl t_x1 (show _ = Int32.ofInt x2 from rfl) r_x2 h hv
      · replace hv := hv.2 g3
        refine g_fA h t_x1 rfl (rv_5_2 t_x1) ?_
        obtain ⟨c4, hv⟩ := hv
        refine g_aI h (kt_5_2 t_x1) (al_5_2 t_x1) (show _ = Int32.ofInt x2 from rfl) c4 ?_
        refine g_fJ h (kA_4 c2) rfl rfl ?_
        refine ek_if (C_eq (h_toL (show _ = Int32.ofInt (S (x1 + 3) x2) from rfl) (g_rI h (kt_5_2 t_x1) (by decide))) (show _ = Int64.ofInt (S (140 + 4 * x2) 8) from rfl) (rI_J (g_rI h (kt_5_2 t_x1) (by decide))) (g_rF (j := 8) h (kA_4 c2) rfl rfl)) (fun g5 => ?_) (fun g5 => ?_)
        · replace hv := hv.1 g5
          exact aBT_pricesAreUsed_43 hp (fun b0 b1 b2 S9 M9 y0 y1 y2 h9 hv9 => ih _ b0 rfl y0 _ b1 rfl y1 _ b2 rfl y2 S9 M9 h9 hv9) rfl t_x0 rfl t_x1 (show _ = Int32.ofInt x2 from rfl) r_x2 h hv
        · replace hv := hv.2 g5
          refine ek_v (P := fun y => post y _) LI_0 ?_
          exact hp _ _ _ h LI_0r hv
def vpBT_pricesAreUsed (self : Int) (p0 : Int) (S : St) (Q : Int → St → Prop) : Prop := (∃ n36 : Nat, (vBT_pricesAreUsed_2 Q n36 self p0 0 S))
theorem apBT_pricesAreUsed {ad : Int → Nat} {Q : Int → St → Prop} {post : Int32 → Hp → Prop} (hp : ∀ (r : Int) (S : St) (M : Hp), US ad S M → rI r → Q r S → post (Int32.ofInt r) M) {w_self : Nat} {self : Int} (e_self : w_self = ad self) (t_self : kt (20 + 0) self) {w_p0 : Nat} {p0 : Int} (e_p0 : w_p0 = ad p0) (t_p0 : kt (20 + 5) p0) {S : St} {M : Hp} (h : US ad S M) (hv : vpBT_pricesAreUsed self p0 S Q) : wpBT_pricesAreUsed w_self w_p0 M post := by
  subst e_self
  subst e_p0
  unfold vpBT_pricesAreUsed at hv
  unfold wpBT_pricesAreUsed
  obtain ⟨n36, hv⟩ := hv
  refine ⟨n36, ?_⟩
  exact aBT_pricesAreUsed_2 hp  n36 _ _ rfl t_self _ _ rfl t_p0 _ _ LI_0 LI_0r _ _ h hv
def vpBT_keepTrial (self : Int) (S : St) (Q : St → Prop) : Prop := (∀ S1 : St, S1 = up S self 7 (S 100 8) → (∀ S5 : St, S5 = up S1 self 8 (S 100 7) → (Q S5)))
theorem apBT_keepTrial {ad : Int → Nat} {Q : St → Prop} {post : Hp → Prop} (hp : ∀ (S : St) (M : Hp), US ad S M → Q S → post M) {w_self : Nat} {self : Int} (e_self : w_self = ad self) (t_self : kt (20 + 0) self) {S : St} {M : Hp} (h : US ad S M) (hv : vpBT_keepTrial self S Q) : wpBT_keepTrial w_self M post := by
  subst e_self
  unfold vpBT_keepTrial at hv
  unfold wpBT_keepTrial
  refine g_fA h t_self rfl (rv_0_7 t_self) ?_
  refine g_fA h t_self rfl (rv_0_8 t_self) ?_
  have k0 := kk_0 t_self; first | subst k0 | skip
  refine g_pR h (by decide) rfl (kk_5 (g_k8 h)) (fun S1 N2 e4 h3 => ?_)
  replace hv := hv S1 e4
  have k0 := kk_0 t_self; first | subst k0 | skip
  refine g_pR h3 (by decide) rfl (kk_5 (g_k7 h)) (fun S5 N6 e8 h7 => ?_)
  replace hv := hv S5 e8
  exact hp _ _ h7 hv
def vpPl_tellLog (self : Int) (p0 : Int) (p1 : Int) (S : St) (Q : Int → St → Prop) : Prop := (((0 : Int) ≤ ((p0 * 5) + p1) ∧ (((p0 * 5) + p1) : Int) < 2400) ∧ (Q (S (self + 1) ((p0 * 5) + p1)) S))
theorem apPl_tellLog {ad : Int → Nat} {Q : Int → St → Prop} {post : Int32 → Hp → Prop} (hp : ∀ (r : Int) (S : St) (M : Hp), US ad S M → rI r → Q r S → post (Int32.ofInt r) M) {w_self : Nat} {self : Int} (e_self : w_self = ad self) (t_self : kt (20 + 5) self) {w_p0 : Int32} {p0 : Int} (e_p0 : w_p0 = Int32.ofInt p0) (r_p0 : rI p0) {w_p1 : Int32} {p1 : Int} (e_p1 : w_p1 = Int32.ofInt p1) (r_p1 : rI p1) {S : St} {M : Hp} (h : US ad S M) (hv : vpPl_tellLog self p0 p1 S Q) : wpPl_tellLog w_self w_p0 w_p1 M post := by
  subst e_self
  subst e_p0
  subst e_p1
  unfold vpPl_tellLog at hv
  unfold wpPl_tellLog
  refine g_fA h t_self rfl (rv_5_0 t_self) ?_
  obtain ⟨c1, hv⟩ := hv
  refine g_aI h (kt_5_0 t_self) (al_5_0 t_self) (h_add (h_mul (show _ = Int32.ofInt p0 from rfl) LI_5) (show _ = Int32.ofInt p1 from rfl)) c1 ?_
  refine ek_v (P := fun y => post y _) (show _ = Int32.ofInt (S (self + 1) ((p0 * 5) + p1)) from rfl) ?_
  exact hp _ _ _ h (g_rI h (kt_5_0 t_self) (by decide)) hv
def vPl_closeGaps_43 (Q : St → Prop) (K4 : Int → Int → Int → St → Prop) (x0 : Int) (x1 : Int) (x2 : Int) (S : St) : Prop := ((rI (x2 + 1)) ∧ ∀ z1 : Int, z1 = (x2 + 1) → (K4 x0 x1 z1 S))
theorem aPl_closeGaps_43 {ad : Int → Nat} {Q : St → Prop} {K4 : Int → Int → Int → St → Prop} {post : Hp → Prop} {k4 : Nat → Int32 → Int32 → Hp → Prop} (hp : ∀ (S : St) (M : Hp), US ad S M → Q S → post M) (hk4 : ∀ (b0 b1 b2 : Int) (S : St) (M : Hp), kt (20 + 5) b0 → rI b1 → rI b2 → US ad S M → K4 b0 b1 b2 S → k4 (ad b0) (Int32.ofInt b1) (Int32.ofInt b2) M) {w_x0 : Nat} {x0 : Int} (e_x0 : w_x0 = ad x0) (t_x0 : kt (20 + 5) x0) {w_x1 : Int32} {x1 : Int} (e_x1 : w_x1 = Int32.ofInt x1) (r_x1 : rI x1) {w_x2 : Int32} {x2 : Int} (e_x2 : w_x2 = Int32.ofInt x2) (r_x2 : rI x2) {S : St} {M : Hp} (h : US ad S M) (hv : vPl_closeGaps_43 Q K4 x0 x1 x2 S) : wPl_closeGaps_43 post k4 w_x0 w_x1 w_x2 M := by
  subst e_x0
  subst e_x1
  subst e_x2
  unfold vPl_closeGaps_43 at hv
  unfold wPl_closeGaps_43
  obtain ⟨c1, hv⟩ := hv
  refine nm_z (h_add (show _ = Int32.ofInt x2 from rfl) LI_1) (fun z1 e2 => ?_)
  have r3 : rI z1 := by rw [e2]; exact c1
  replace hv := hv z1 e2
  exact hk4 _ _ _ _ _ t_x0 r_x1 r3 h hv
def vPl_closeGaps_4 (Q : St → Prop) : Nat → Int → Int → Int → St → Prop
  | 0 => fun _ _ _ _ => False
  | n + 1 => fun x0 x1 x2 S => ((((S x0 3) ≤ x2 → (∀ S2 : St, S2 = up S x0 3 x1 → (Q S2))) ∧ (¬ (S x0 3) ≤ x2 → (vpPl_tellLog x0 x2 3 S (fun (r6 : Int) (S7 : St) => (((r6 = (-1) → (vPl_closeGaps_43 Q (vPl_closeGaps_4 Q n) x0 x1 x2 S7)) ∧ (¬ r6 = (-1) → (((0 : Int) ≤ (x2 * 5) ∧ ((x2 * 5) : Int) + 5 ≤ 2400) ∧ ((0 : Int) ≤ (x1 * 5) ∧ ((x1 * 5) : Int) + 5 ≤ 2400) ∧ ∀ S14 : St, S14 = cpy S7 (x0 + 1) (x2 * 5) (x1 * 5) 5 → ((rI (x1 + 1)) ∧ ∀ z25 : Int, z25 = (x1 + 1) → (vPl_closeGaps_43 Q (vPl_closeGaps_4 Q n) x0 z25 x2 S14)))))))))))
theorem aPl_closeGaps_4 {ad : Int → Nat} {Q : St → Prop} {post : Hp → Prop} (hp : ∀ (S : St) (M : Hp), US ad S M → Q S → post M) : ∀ (n : Nat) (w_x0 : Nat) (x0 : Int) (e_x0 : w_x0 = ad x0) (t_x0 : kt (20 + 5) x0) (w_x1 : Int32) (x1 : Int) (e_x1 : w_x1 = Int32.ofInt x1) (r_x1 : rI x1) (w_x2 : Int32) (x2 : Int) (e_x2 : w_x2 = Int32.ofInt x2) (r_x2 : rI x2) (S : St) (M : Hp), US ad S M → vPl_closeGaps_4 Q n x0 x1 x2 S → wPl_closeGaps_4 post n w_x0 w_x1 w_x2 M := by
  intro n
  induction n with
  | zero => intro w_x0 x0 e_x0 t_x0 w_x1 x1 e_x1 r_x1 w_x2 x2 e_x2 r_x2 S M h hv; exact hv.elim
  | succ n ih =>
    intro w_x0 x0 e_x0 t_x0 w_x1 x1 e_x1 r_x1 w_x2 x2 e_x2 r_x2 S M h hv
    subst e_x0
    subst e_x1
    subst e_x2
    unfold vPl_closeGaps_4 at hv
    unfold wPl_closeGaps_4
    refine g_fI h t_x0 rfl rfl ?_
    refine ek_if (c_le (show _ = Int32.ofInt (S x0 3) from rfl) (show _ = Int32.ofInt x2 from rfl) (g_rf (j := 3) h t_x0 rfl rfl) r_x2) (fun g1 => ?_) (fun g1 => ?_)
    · replace hv := hv.1 g1
      refine g_pI h t_x0 rfl rfl (show _ = Int32.ofInt x1 from rfl) r_x1 (fun S2 N3 e5 h4 => ?_)
      replace hv := hv S2 e5
      exact hp _ _ h4 hv
    · replace hv := hv.2 g1
      refine ⟨g_ob h t_x0, ?_⟩
      refine apPl_tellLog (fun r6 S7 N8 h9 r10 hv => ?_) rfl t_x0 (show _ = Int32.ofInt x2 from rfl) r_x2 LI_3 LI_3r h hv
      refine ek_if (c_eq (show _ = Int32.ofInt r6 from rfl) LI_m1 r10 LI_m1r) (fun g11 => ?_) (fun g11 => ?_)
      · replace hv := hv.1 g11
        exact aPl_closeGaps_43 hp (fun b0 b1 b2 S9 M9 y0 y1 y2 h9 hv9 => ih _ b0 rfl y0 _ b1 rfl y1 _ b2 rfl y2 S9 M9 h9 hv9) rfl t_x0 (show _ = Int32.ofInt x1 from rfl) r_x1 (show _ = Int32.ofInt x2 from rfl) r_x2 h9 hv
      · replace hv := hv.2 g11
        refine g_fA h9 t_x0 rfl (rv_5_0 t_x0) ?_
        refine g_fA h9 t_x0 rfl (rv_5_0 t_x0) ?_
        obtain ⟨c12, c13, hv⟩ := hv
        refine g_cI h9 (kt_5_0 t_x0) (al_5_0 t_x0) (h_mul (show _ = Int32.ofInt x2 from rfl) LI_5) (h_mul (show _ = Int32.ofInt x1 from rfl) LI_5) LI_5 (by decide) c12 c13 (fun S14 N15 e17 h16 => ?_)
        replace hv := hv S14 e17
        obtain ⟨c18, hv⟩ := hv
        refine nm_z (h_add (show _ = Int32.ofInt x1 from rfl) LI_1) (fun z25 e19 => ?_)
        have r20 : rI z25 := by rw [e19]; exact c18
        replace hv := hv z25 e19
        exact aPl_closeGaps_43 hp (fun b0 b1 b2 S9 M9 y0 y1 y2 h9 hv9 => ih _ b0 rfl y0 _ b1 rfl y1 _ b2 rfl y2 S9 M9 h9 hv9) rfl t_x0 (show _ = Int32.ofInt z25 from rfl) r20 (show _ = Int32.ofInt x2 from rfl) r_x2 h16 hv
def vpPl_closeGaps (self : Int) (S : St) (Q : St → Prop) : Prop := (∃ n26 : Nat, (vPl_closeGaps_4 Q n26 self 0 0 S))
theorem apPl_closeGaps {ad : Int → Nat} {Q : St → Prop} {post : Hp → Prop} (hp : ∀ (S : St) (M : Hp), US ad S M → Q S → post M) {w_self : Nat} {self : Int} (e_self : w_self = ad self) (t_self : kt (20 + 5) self) {S : St} {M : Hp} (h : US ad S M) (hv : vpPl_closeGaps self S Q) : wpPl_closeGaps w_self M post := by
  subst e_self
  unfold vpPl_closeGaps at hv
  unfold wpPl_closeGaps
  obtain ⟨n26, hv⟩ := hv
  refine ⟨n26, ?_⟩
  exact aPl_closeGaps_4 hp  n26 _ _ rfl t_self _ _ LI_0 LI_0r _ _ LI_0 LI_0r _ _ h hv
def vPl_burnBeyondLimits_92 (Q : St → Prop) (K7 : Int → Int → Int → St → Prop) (x0 : Int) (x1 : Int) (x2 : Int) (S : St) : Prop := ((rI (x2 + (-1))) ∧ ∀ z1 : Int, z1 = (x2 + (-1)) → (K7 x0 x1 z1 S))
theorem aPl_burnBeyondLimits_92 {ad : Int → Nat} {Q : St → Prop} {K7 : Int → Int → Int → St → Prop} {post : Hp → Prop} {k7 : Nat → Nat → Int32 → Hp → Prop} (hp : ∀ (S : St) (M : Hp), US ad S M → Q S → post M) (hk7 : ∀ (b0 b1 b2 : Int) (S : St) (M : Hp), kt (20 + 5) b0 → kt (10 + 4) b1 → rI b2 → US ad S M → K7 b0 b1 b2 S → k7 (ad b0) (ad b1) (Int32.ofInt b2) M) {w_x0 : Nat} {x0 : Int} (e_x0 : w_x0 = ad x0) (t_x0 : kt (20 + 5) x0) {w_x1 : Nat} {x1 : Int} (e_x1 : w_x1 = ad x1) (t_x1 : kt (10 + 4) x1) {w_x2 : Int32} {x2 : Int} (e_x2 : w_x2 = Int32.ofInt x2) (r_x2 : rI x2) {S : St} {M : Hp} (h : US ad S M) (hv : vPl_burnBeyondLimits_92 Q K7 x0 x1 x2 S) : wPl_burnBeyondLimits_92 post k7 w_x0 w_x1 w_x2 M := by
  subst e_x0
  subst e_x1
  subst e_x2
  unfold vPl_burnBeyondLimits_92 at hv
  unfold wPl_burnBeyondLimits_92
  obtain ⟨c1, hv⟩ := hv
  refine nm_z (h_add (show _ = Int32.ofInt x2 from rfl) LI_m1) (fun z1 e2 => ?_)
  have r3 : rI z1 := by rw [e2]; exact c1
  replace hv := hv z1 e2
  exact hk7 _ _ _ _ _ t_x0 t_x1 r3 h hv
def vPl_burnBeyondLimits_7 (Q : St → Prop) : Nat → Int → Int → Int → St → Prop
  | 0 => fun _ _ _ _ => False
  | n + 1 => fun x0 x1 x2 S => (((x2 < 0 → (vpPl_closeGaps x0 S (fun (S3 : St) => (Q S3)))) ∧ (¬ x2 < 0 → (vpPl_tellLog x0 x2 3 S (fun (r7 : Int) (S8 : St) => (((0 : Int) ≤ r7 ∧ (r7 : Int) < (alen x1)) ∧ (((0 : Int) ≤ r7 ∧ (r7 : Int) < 8) ∧ (vpPr_isBeyond (140 + 4 * r7) (S8 (x0 + 3) r7) S8 (fun (r14 : Int) (S15 : St) => (((r14 = 0 → (vPl_burnBeyondLimits_92 Q (vPl_burnBeyondLimits_7 Q n) x0 x1 x2 S15)) ∧ (¬ r14 = 0 → (vpPl_tellLog x0 x2 0 S15 (fun (r20 : Int) (S21 : St) => (vpPl_tellLog x0 x2 1 S21 (fun (r25 : Int) (S26 : St) => (vpPl_tellLog x0 x2 2 S26 (fun (r30 : Int) (S31 : St) => (vpPl_burn x0 r20 r25 r30 S31 (fun (S36 : St) => (((0 : Int) ≤ r7 ∧ (r7 : Int) < 8) ∧ (((0 : Int) ≤ r7 ∧ (r7 : Int) < 8) ∧ (rI ((S36 (x0 + 3) r7) - 1)) ∧ ∀ S43 : St, S43 = up S36 (x0 + 3) r7 ((S36 (x0 + 3) r7) - 1) → (vpPl_tellLog x0 x2 4 S43 (fun (r47 : Int) (S48 : St) => ((rJ ((S43 x0 4) - r47)) ∧ ∀ S52 : St, S52 = up S48 x0 4 ((S43 x0 4) - r47) → (((0 : Int) ≤ ((x2 * 5) + 3) ∧ (((x2 * 5) + 3) : Int) < 2400) ∧ ∀ S58 : St, S58 = up S52 (x0 + 1) ((x2 * 5) + 3) (-1) → (vPl_burnBeyondLimits_92 Q (vPl_burnBeyondLimits_7 Q n) x0 x1 x2 S58)))))))))))))))))))))))))))
theorem aPl_burnBeyondLimits_7 {ad : Int → Nat} {Q : St → Prop} {post : Hp → Prop} (hp : ∀ (S : St) (M : Hp), US ad S M → Q S → post M) : ∀ (n : Nat) (w_x0 : Nat) (x0 : Int) (e_x0 : w_x0 = ad x0) (t_x0 : kt (20 + 5) x0) (w_x1 : Nat) (x1 : Int) (e_x1 : w_x1 = ad x1) (t_x1 : kt (10 + 4) x1) (w_x2 : Int32) (x2 : Int) (e_x2 : w_x2 = Int32.ofInt x2) (r_x2 : rI x2) (S : St) (M : Hp), US ad S M → vPl_burnBeyondLimits_7 Q n x0 x1 x2 S → wPl_burnBeyondLimits_7 post n w_x0 w_x1 w_x2 M := by
  intro n
  induction n with
  | zero => intro w_x0 x0 e_x0 t_x0 w_x1 x1 e_x1 t_x1 w_x2 x2 e_x2 r_x2 S M h hv; exact hv.elim
  | succ n ih =>
    intro w_x0 x0 e_x0 t_x0 w_x1 x1 e_x1 t_x1 w_x2 x2 e_x2 r_x2 S M h hv
    subst e_x0
    subst e_x1
    subst e_x2
    unfold vPl_burnBeyondLimits_7 at hv
    unfold wPl_burnBeyondLimits_7
    refine ek_if (c_lt (show _ = Int32.ofInt x2 from rfl) LI_0 r_x2 LI_0r) (fun g1 => ?_) (fun g1 => ?_)
    · replace hv := hv.1 g1
      refine ⟨g_ob h t_x0, ?_⟩
      refine apPl_closeGaps (fun S3 N4 h5 hv => ?_) rfl t_x0 h hv
      exact hp _ _ h5 hv
    · replace hv := hv.2 g1
      refine ⟨g_ob h t_x0, ?_⟩
      refine apPl_tellLog (fun r7 S8 N9 h10 r11 hv => ?_) rfl t_x0 (show _ = Int32.ofInt x2 from rfl) r_x2 LI_3 LI_3r h hv
      obtain ⟨c12, hv⟩ := hv
      refine g_aA h10 t_x1 (by decide) rfl (show _ = Int32.ofInt r7 from rfl) c12 (rk_4 t_x1) ?_
      refine g_fA h10 t_x0 rfl (rv_5_2 t_x0) ?_
      obtain ⟨c13, hv⟩ := hv
      refine g_aI h10 (kt_5_2 t_x0) (al_5_2 t_x0) (show _ = Int32.ofInt r7 from rfl) c13 ?_
      refine ⟨g_ob h10 (kA_4 (al_c c12 (al_40 t_x1))), ?_⟩
      refine apPr_isBeyond (fun r14 S15 N16 h17 r18 hv => ?_) rfl (kA_4 (al_c c12 (al_40 t_x1))) (show _ = Int32.ofInt (S8 (x0 + 3) r7) from rfl) (g_rI h10 (kt_5_2 t_x0) (by decide)) h10 hv
      refine ek_if (c_eq (show _ = Int32.ofInt r14 from rfl) LI_0 r18 LI_0r) (fun g19 => ?_) (fun g19 => ?_)
      · replace hv := hv.1 g19
        exact aPl_burnBeyondLimits_92 hp (fun b0 b1 b2 S9 M9 y0 y1 y2 h9 hv9 => ih _ b0 rfl y0 _ b1 rfl y1 _ b2 rfl y2 S9 M9 h9 hv9) rfl t_x0 rfl t_x1 (show _ = Int32.ofInt x2 from rfl) r_x2 h17 hv
      · replace hv := hv.2 g19
        refine ⟨g_ob h17 t_x0, ?_⟩
        refine apPl_tellLog (fun r20 S21 N22 h23 r24 hv => ?_) rfl t_x0 (show _ = Int32.ofInt x2 from rfl) r_x2 LI_0 LI_0r h17 hv
        refine ⟨g_ob h23 t_x0, ?_⟩
        refine apPl_tellLog (fun r25 S26 N27 h28 r29 hv => ?_) rfl t_x0 (show _ = Int32.ofInt x2 from rfl) r_x2 LI_1 LI_1r h23 hv
        refine ⟨g_ob h28 t_x0, ?_⟩
        refine apPl_tellLog (fun r30 S31 N32 h33 r34 hv => ?_) rfl t_x0 (show _ = Int32.ofInt x2 from rfl) r_x2 LI_2 LI_2r h28 hv
        refine ⟨g_ob h33 t_x0, ?_⟩
        refine apPl_burn (fun S36 N37 h38 hv => ?_) rfl t_x0 (show _ = Int32.ofInt r20 from rfl) r24 (show _ = Int32.ofInt r25 from rfl) r29 (show _ = Int32.ofInt r30 from rfl) r34 h33 hv
        refine g_fA h38 t_x0 rfl (rv_5_2 t_x0) ?_
        obtain ⟨c40, hv⟩ := hv
        refine g_aI h38 (kt_5_2 t_x0) (al_5_2 t_x0) (show _ = Int32.ofInt r7 from rfl) c40 ?_
        obtain ⟨c41, c42, hv⟩ := hv
        refine g_sI h38 (kt_5_2 t_x0) (al_5_2 t_x0) (show _ = Int32.ofInt r7 from rfl) c41 (h_sub (show _ = Int32.ofInt (S36 (x0 + 3) r7) from rfl) LI_1) c42 (fun S43 N44 e46 h45 => ?_)
        replace hv := hv S43 e46
        refine g_fJ h45 t_x0 rfl rfl ?_
        refine ⟨g_ob h45 t_x0, ?_⟩
        refine apPl_tellLog (fun r47 S48 N49 h50 r51 hv => ?_) rfl t_x0 (show _ = Int32.ofInt x2 from rfl) r_x2 LI_4 LI_4r h45 hv
        obtain ⟨c56, hv⟩ := hv
        refine g_pJ h50 t_x0 rfl rfl (H_sub (show _ = Int64.ofInt (S43 x0 4) from rfl) (h_toL (show _ = Int32.ofInt r47 from rfl) r51)) c56 (fun S52 N53 e55 h54 => ?_)
        replace hv := hv S52 e55
        refine g_fA h54 t_x0 rfl (rv_5_0 t_x0) ?_
        obtain ⟨c57, hv⟩ := hv
        refine g_sI h54 (kt_5_0 t_x0) (al_5_0 t_x0) (h_add (h_mul (show _ = Int32.ofInt x2 from rfl) LI_5) LI_3) c57 LI_m1 LI_m1r (fun S58 N59 e61 h60 => ?_)
        replace hv := hv S58 e61
        exact aPl_burnBeyondLimits_92 hp (fun b0 b1 b2 S9 M9 y0 y1 y2 h9 hv9 => ih _ b0 rfl y0 _ b1 rfl y1 _ b2 rfl y2 S9 M9 h9 hv9) rfl t_x0 rfl t_x1 (show _ = Int32.ofInt x2 from rfl) r_x2 h60 hv
def vpPl_burnBeyondLimits (self : Int) (p0 : Int) (S : St) (Q : St → Prop) : Prop := ((rI ((S self 3) - 1)) ∧ ∀ z76 : Int, z76 = ((S self 3) - 1) → (∃ n77 : Nat, (vPl_burnBeyondLimits_7 Q n77 self p0 z76 S)))
theorem apPl_burnBeyondLimits {ad : Int → Nat} {Q : St → Prop} {post : Hp → Prop} (hp : ∀ (S : St) (M : Hp), US ad S M → Q S → post M) {w_self : Nat} {self : Int} (e_self : w_self = ad self) (t_self : kt (20 + 5) self) {w_p0 : Nat} {p0 : Int} (e_p0 : w_p0 = ad p0) (t_p0 : kt (10 + 4) p0) {S : St} {M : Hp} (h : US ad S M) (hv : vpPl_burnBeyondLimits self p0 S Q) : wpPl_burnBeyondLimits w_self w_p0 M post := by
  subst e_self
  subst e_p0
  unfold vpPl_burnBeyondLimits at hv
  unfold wpPl_burnBeyondLimits
  refine g_fI h t_self rfl rfl ?_
  obtain ⟨c1, hv⟩ := hv
  refine nm_z (h_sub (show _ = Int32.ofInt (S self 3) from rfl) LI_1) (fun z76 e2 => ?_)
  have r3 : rI z76 := by rw [e2]; exact c1
  replace hv := hv z76 e2
  obtain ⟨n77, hv⟩ := hv
  refine ⟨n77, ?_⟩
  exact aPl_burnBeyondLimits_7 hp  n77 _ _ rfl t_self _ _ rfl t_p0 _ _ (show _ = Int32.ofInt z76 from rfl) r3 _ _ h hv
