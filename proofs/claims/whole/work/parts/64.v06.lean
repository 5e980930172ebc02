def vMo_goOn_121 (Q : Int → St → Prop) (K3 : Int → Int → Int → Int → Int → St → Prop) (K12 : Int → Int → Int → Int → Int → Int → St → Prop) (x0 : Int) (x1 : Int) (x2 : Int) (x3 : Int) (x4 : Int) (x5 : Int) (S : St) : Prop := ((rI (x5 + 1)) ∧ ∀ z1 : Int, z1 = (x5 + 1) → (K12 x0 x1 x2 x3 x4 z1 S))
theorem aMo_goOn_121 {ad : Int → Nat} {Q : Int → St → Prop} {K3 : Int → Int → Int → Int → Int → St → Prop} {K12 : Int → Int → Int → Int → Int → Int → St → Prop} {post : Int32 → Hp → Prop} {k3 : Nat → Int32 → Int32 → Int32 → Int32 → Hp → Prop} {k12 : Nat → Int32 → Int32 → Int32 → Int32 → Int32 → Hp → Prop} (hp : ∀ (r : Int) (S : St) (M : Hp), US ad S M → rI r → Q r S → post (Int32.ofInt r) M) (hk3 : ∀ (b0 b1 b2 b3 b4 : Int) (S : St) (M : Hp), kt (20 + 6) b0 → rI b1 → rI b2 → rI b3 → rI b4 → US ad S M → K3 b0 b1 b2 b3 b4 S → k3 (ad b0) (Int32.ofInt b1) (Int32.ofInt b2) (Int32.ofInt b3) (Int32.ofInt b4) M) (hk12 : ∀ (b0 b1 b2 b3 b4 b5 : Int) (S : St) (M : Hp), kt (20 + 6) b0 → rI b1 → rI b2 → rI b3 → rI b4 → rI b5 → US ad S M → K12 b0 b1 b2 b3 b4 b5 S → k12 (ad b0) (Int32.ofInt b1) (Int32.ofInt b2) (Int32.ofInt b3) (Int32.ofInt b4) (Int32.ofInt b5) M) {w_x0 : Nat} {x0 : Int} (e_x0 : w_x0 = ad x0) (t_x0 : kt (20 + 6) x0) {w_x1 : Int32} {x1 : Int} (e_x1 : w_x1 = Int32.ofInt x1) (r_x1 : rI x1) {w_x2 : Int32} {x2 : Int} (e_x2 : w_x2 = Int32.ofInt x2) (r_x2 : rI x2) {w_x3 : Int32} {x3 : Int} (e_x3 : w_x3 = Int32.ofInt x3) (r_x3 : rI x3) {w_x4 : Int32} {x4 : Int} (e_x4 : w_x4 = Int32.ofInt x4) (r_x4 : rI x4) {w_x5 : Int32} {x5 : Int} (e_x5 : w_x5 = Int32.ofInt x5) (r_x5 : rI x5) {S : St} {M : Hp} (h : US ad S M) (hv : vMo_goOn_121 Q K3 K12 x0 x1 x2 x3 x4 x5 S) : wMo_goOn_121 post k3 k12 w_x0 w_x1 w_x2 w_x3 w_x4 w_x5 M := by
  subst e_x0
  subst e_x1
  subst e_x2
  subst e_x3
  subst e_x4
  subst e_x5
  unfold vMo_goOn_121 at hv
  unfold wMo_goOn_121
  obtain ⟨c1, hv⟩ := hv
  refine nm_z (h_add (show _ = Int32.ofInt x5 from rfl) LI_1) (fun z1 e2 => ?_)
  have r3 : rI z1 := by rw [e2]; exact c1
  replace hv := hv z1 e2
  exact hk12 _ _ _ _ _ _ _ _ t_x0 r_x1 r_x2 r_x3 r_x4 r3 h hv
def vMo_goOn_90 (Q : Int → St → Prop) (K3 : Int → Int → Int → Int → Int → St → Prop) (K12 : Int → Int → Int → Int → Int → Int → St → Prop) (x0 : Int) (x1 : Int) (x2 : Int) (x3 : Int) (x4 : Int) (x5 : Int) (y0 : Int) (S : St) : Prop := (((y0 = 0 → (vMo_goOn_121 Q K3 K12 x0 x1 x2 x3 x4 x5 S)) ∧ (¬ y0 = 0 → (vpMo_may x0 x1 x2 x4 x5 S (fun (r2 : Int) (S3 : St) => (((r2 = 0 → (vMo_goOn_121 Q K3 K12 x0 x1 x2 x3 x4 x5 S3)) ∧ (¬ r2 = 0 → ((rI ((8 * (x4 - x2)) + x5)) ∧ Q ((8 * (x4 - x2)) + x5) S3)))))))))
theorem aMo_goOn_90 {ad : Int → Nat} {Q : Int → St → Prop} {K3 : Int → Int → Int → Int → Int → St → Prop} {K12 : Int → Int → Int → Int → Int → Int → St → Prop} {post : Int32 → Hp → Prop} {k3 : Nat → Int32 → Int32 → Int32 → Int32 → Hp → Prop} {k12 : Nat → Int32 → Int32 → Int32 → Int32 → Int32 → Hp → Prop} (hp : ∀ (r : Int) (S : St) (M : Hp), US ad S M → rI r → Q r S → post (Int32.ofInt r) M) (hk3 : ∀ (b0 b1 b2 b3 b4 : Int) (S : St) (M : Hp), kt (20 + 6) b0 → rI b1 → rI b2 → rI b3 → rI b4 → US ad S M → K3 b0 b1 b2 b3 b4 S → k3 (ad b0) (Int32.ofInt b1) (Int32.ofInt b2) (Int32.ofInt b3) (Int32.ofInt b4) M) (hk12 : ∀ (b0 b1 b2 b3 b4 b5 : Int) (S : St) (M : Hp), kt (20 + 6) b0 → rI b1 → rI b2 → rI b3 → rI b4 → rI b5 → US ad S M → K12 b0 b1 b2 b3 b4 b5 S → k12 (ad b0) (Int32.ofInt b1) (Int32.ofInt b2) (Int32.ofInt b3) (Int32.ofInt b4) (Int32.ofInt b5) M) {w_x0 : Nat} {x0 : Int} (e_x0 : w_x0 = ad x0) (t_x0 : kt (20 + 6) x0) {w_x1 : Int32} {x1 : Int} (e_x1 : w_x1 = Int32.ofInt x1) (r_x1 : rI x1) {w_x2 : Int32} {x2 : Int} (e_x2 : w_x2 = Int32.ofInt x2) (r_x2 : rI x2) {w_x3 : Int32} {x3 : Int} (e_x3 : w_x3 = Int32.ofInt x3) (r_x3 : rI x3) {w_x4 : Int32} {x4 : Int} (e_x4 : w_x4 = Int32.ofInt x4) (r_x4 : rI x4) {w_x5 : Int32} {x5 : Int} (e_x5 : w_x5 = Int32.ofInt x5) (r_x5 : rI x5) {w_y0 : Int32} {y0 : Int} (e_y0 : w_y0 = Int32.ofInt y0) (r_y0 : rI y0) {S : St} {M : Hp} (h : US ad S M) (hv : vMo_goOn_90 Q K3 K12 x0 x1 x2 x3 x4 x5 y0 S) : wMo_goOn_90 post k3 k12 w_x0 w_x1 w_x2 w_x3 w_x4 w_x5 w_y0 M := by
  subst e_x0
  subst e_x1
  subst e_x2
  subst e_x3
  subst e_x4
  subst e_x5
  subst e_y0
  unfold vMo_goOn_90 at hv
  unfold wMo_goOn_90
  refine ek_if (c_eq (show _ = Int32.ofInt y0 from rfl) LI_0 r_y0 LI_0r) (fun g1 => ?_) (fun g1 => ?_)
  · replace hv := hv.1 g1
    exact aMo_goOn_121 hp hk3 hk12 rfl t_x0 (show _ = Int32.ofInt x1 from rfl) r_x1 (show _ = Int32.ofInt x2 from rfl) r_x2 (show _ = Int32.ofInt x3 from rfl) r_x3 (show _ = Int32.ofInt x4 from rfl) r_x4 (show _ = Int32.ofInt x5 from rfl) r_x5 h hv
  · replace hv := hv.2 g1
    refine ⟨g_ob h t_x0, ?_⟩
    refine apMo_may (fun r2 S3 N4 h5 r6 hv => ?_) rfl t_x0 (show _ = Int32.ofInt x1 from rfl) r_x1 (show _ = Int32.ofInt x2 from rfl) r_x2 (show _ = Int32.ofInt x4 from rfl) r_x4 (show _ = Int32.ofInt x5 from rfl) r_x5 h hv
    refine ek_if (c_eq (show _ = Int32.ofInt r2 from rfl) LI_0 r6 LI_0r) (fun g7 => ?_) (fun g7 => ?_)
    · replace hv := hv.1 g7
      exact aMo_goOn_121 hp hk3 hk12 rfl t_x0 (show _ = Int32.ofInt x1 from rfl) r_x1 (show _ = Int32.ofInt x2 from rfl) r_x2 (show _ = Int32.ofInt x3 from rfl) r_x3 (show _ = Int32.ofInt x4 from rfl) r_x4 (show _ = Int32.ofInt x5 from rfl) r_x5 h5 hv
    · replace hv := hv.2 g7
      obtain ⟨c8, hv⟩ := hv
      refine ek_v (P := fun y => post y _) (h_add (h_mul LI_8 (h_sub (show _ = Int32.ofInt x4 from rfl) (show _ = Int32.ofInt x2 from rfl))) (show _ = Int32.ofInt x5 from rfl)) ?_
      exact hp _ _ _ h5 c8 hv
def vMo_goOn_89 (Q : Int → St → Prop) (K3 : Int → Int → Int → Int → Int → St → Prop) (K12 : Int → Int → Int → Int → Int → Int → St → Prop) (x0 : Int) (x1 : Int) (x2 : Int) (x3 : Int) (x4 : Int) (x5 : Int) (S : St) : Prop := (vMo_goOn_90 Q K3 K12 x0 x1 x2 x3 x4 x5 0 S)
theorem aMo_goOn_89 {ad : Int → Nat} {Q : Int → St → Prop} {K3 : Int → Int → Int → Int → Int → St → Prop} {K12 : Int → Int → Int → Int → Int → Int → St → Prop} {post : Int32 → Hp → Prop} {k3 : Nat → Int32 → Int32 → Int32 → Int32 → Hp → Prop} {k12 : Nat → Int32 → Int32 → Int32 → Int32 → Int32 → Hp → Prop} (hp : ∀ (r : Int) (S : St) (M : Hp), US ad S M → rI r → Q r S → post (Int32.ofInt r) M) (hk3 : ∀ (b0 b1 b2 b3 b4 : Int) (S : St) (M : Hp), kt (20 + 6) b0 → rI b1 → rI b2 → rI b3 → rI b4 → US ad S M → K3 b0 b1 b2 b3 b4 S → k3 (ad b0) (Int32.ofInt b1) (Int32.ofInt b2) (Int32.ofInt b3) (Int32.ofInt b4) M) (hk12 : ∀ (b0 b1 b2 b3 b4 b5 : Int) (S : St) (M : Hp), kt (20 + 6) b0 → rI b1 → rI b2 → rI b3 → rI b4 → rI b5 → US ad S M → K12 b0 b1 b2 b3 b4 b5 S → k12 (ad b0) (Int32.ofInt b1) (Int32.ofInt b2) (Int32.ofInt b3) (Int32.ofInt b4) (Int32.ofInt b5) M) {w_x0 : Nat} {x0 : Int} (e_x0 : w_x0 = ad x0) (t_x0 : kt (20 + 6) x0) {w_x1 : Int32} {x1 : Int} (e_x1 : w_x1 = Int32.ofInt x1) (r_x1 : rI x1) {w_x2 : Int32} {x2 : Int} (e_x2 : w_x2 = Int32.ofInt x2) (r_x2 : rI x2) {w_x3 : Int32} {x3 : Int} (e_x3 : w_x3 = Int32.ofInt x3) (r_x3 : rI x3) {w_x4 : Int32} {x4 : Int} (e_x4 : w_x4 = Int32.ofInt x4) (r_x4 : rI x4) {w_x5 : Int32} {x5 : Int} (e_x5 : w_x5 = Int32.ofInt x5) (r_x5 : rI x5) {S : St} {M : Hp} (h : US ad S M) (hv : vMo_goOn_89 Q K3 K12 x0 x1 x2 x3 x4 x5 S) : wMo_goOn_89 post k3 k12 w_x0 w_x1 w_x2 w_x3 w_x4 w_x5 M := by
  subst e_x0
  subst e_x1
  subst e_x2
  subst e_x3
  subst e_x4
  subst e_x5
  unfold vMo_goOn_89 at hv
  unfold wMo_goOn_89
  exact aMo_goOn_90 hp hk3 hk12 rfl t_x0 (show _ = Int32.ofInt x1 from rfl) r_x1 (show _ = Int32.ofInt x2 from rfl) r_x2 (show _ = Int32.ofInt x3 from rfl) r_x3 (show _ = Int32.ofInt x4 from rfl) r_x4 (show _ = Int32.ofInt x5 from rfl) r_x5 LI_0 LI_0r h hv
def vMo_goOn_12 (Q : Int → St → Prop) (K3 : Int → Int → Int → Int → Int → St → Prop) : Nat → Int → Int → Int → Int → Int → Int → St → Prop
  | 0 => fun _ _ _ _ _ _ _ => False
  | n + 1 => fun x0 x1 x2 x3 x4 x5 S => ((((S x0 14) ≤ x5 → ((rI (x4 + (-1))) ∧ ∀ z12 : Int, z12 = (x4 + (-1)) → (K3 x0 x1 x2 x3 z12 S))) ∧ (¬ (S x0 14) ≤ x5 → (vpMo_behind x0 x3 x4 S (fun (r5 : Int) (S6 : St) => (((0 : Int) ≤ r5 ∧ (r5 : Int) < 81) ∧ (((0 : Int) ≤ x2 ∧ (x2 : Int) < 81) ∧ ((rI ((S6 32 r5) + 1)) ∧ ((((S6 32 r5) + 1) = (S6 32 x2) → (((0 : Int) ≤ r5 ∧ (r5 : Int) < 81) ∧ ((rI (x4 - x2)) ∧ vpMo_worthOf x0 x1 (x4 - x2) x5 S6 (fun (r16 : Int) (S17 : St) => (((0 : Int) ≤ x5 ∧ (x5 : Int) < 8) ∧ (((0 : Int) ≤ x2 ∧ (x2 : Int) < 81) ∧ ((rJ (((S6 31 r5) + r16) - (S17 23 x5))) ∧ (((((S6 31 r5) + r16) - (S17 23 x5)) = (S17 31 x2) → (vMo_goOn_90 Q K3 (vMo_goOn_12 Q K3 n) x0 x1 x2 x3 x4 x5 1 S17)) ∧ (¬ (((S6 31 r5) + r16) - (S17 23 x5)) = (S17 31 x2) → (vMo_goOn_89 Q K3 (vMo_goOn_12 Q K3 n) x0 x1 x2 x3 x4 x5 S17)))))))))) ∧ (¬ ((S6 32 r5) + 1) = (S6 32 x2) → (vMo_goOn_89 Q K3 (vMo_goOn_12 Q K3 n) x0 x1 x2 x3 x4 x5 S6)))))))))))
theorem aMo_goOn_12 {ad : Int → Nat} {Q : Int → St → Prop} {K3 : Int → Int → Int → Int → Int → St → Prop} {post : Int32 → Hp → Prop} {k3 : Nat → Int32 → Int32 → Int32 → Int32 → Hp → Prop} (hp : ∀ (r : Int) (S : St) (M : Hp), US ad S M → rI r → Q r S → post (Int32.ofInt r) M) (hk3 : ∀ (b0 b1 b2 b3 b4 : Int) (S : St) (M : Hp), kt (20 + 6) b0 → rI b1 → rI b2 → rI b3 → rI b4 → US ad S M → K3 b0 b1 b2 b3 b4 S → k3 (ad b0) (Int32.ofInt b1) (Int32.ofInt b2) (Int32.ofInt b3) (Int32.ofInt b4) M) : ∀ (n : Nat) (w_x0 : Nat) (x0 : Int) (e_x0 : w_x0 = ad x0) (t_x0 : kt (20 + 6) x0) (w_x1 : Int32) (x1 : Int) (e_x1 : w_x1 = Int32.ofInt x1) (r_x1 : rI x1) (w_x2 : Int32) (x2 : Int) (e_x2 : w_x2 = Int32.ofInt x2) (r_x2 : rI x2) (w_x3 : Int32) (x3 : Int) (e_x3 : w_x3 = Int32.ofInt x3) (r_x3 : rI x3) (w_x4 : Int32) (x4 : Int) (e_x4 : w_x4 = Int32.ofInt x4) (r_x4 : rI x4) (w_x5 : Int32) (x5 : Int) (e_x5 : w_x5 = Int32.ofInt x5) (r_x5 : rI x5) (S : St) (M : Hp), US ad S M → vMo_goOn_12 Q K3 n x0 x1 x2 x3 x4 x5 S → wMo_goOn_12 post k3 n w_x0 w_x1 w_x2 w_x3 w_x4 w_x5 M := by
  intro n
  induction n with
  | zero => intro w_x0 x0 e_x0 t_x0 w_x1 x1 e_x1 r_x1 w_x2 x2 e_x2 r_x2 w_x3 x3 e_x3 r_x3 w_x4 x4 e_x4 r_x4 w_x5 x5 e_x5 r_x5 S M h hv; exact hv.elim
  | succ n ih =>
    intro w_x0 x0 e_x0 t_x0 w_x1 x1 e_x1 r_x1 w_x2 x2 e_x2 r_x2 w_x3 x3 e_x3 r_x3 w_x4 x4 e_x4 r_x4 w_x5 x5 e_x5 r_x5 S M h hv
    subst e_x0
    subst e_x1
    subst e_x2
    subst e_x3
    subst e_x4
    subst e_x5
    unfold vMo_goOn_12 at hv
    unfold wMo_goOn_12
    refine g_fI h t_x0 rfl rfl ?_
    refine ek_if (c_le (show _ = Int32.ofInt (S x0 14) from rfl) (show _ = Int32.ofInt x5 from rfl) (g_rf (j := 14) h t_x0 rfl rfl) r_x5) (fun g1 => ?_) (fun g1 => ?_)
    · replace hv := hv.1 g1
      obtain ⟨c2, hv⟩ := hv
      refine nm_z (h_add (show _ = Int32.ofInt x4 from rfl) LI_m1) (fun z12 e3 => ?_)
      have r4 : rI z12 := by rw [e3]; exact c2
      replace hv := hv z12 e3
      exact hk3 _ _ _ _ _ _ _ t_x0 r_x1 r_x2 r_x3 r4 h hv
    · replace hv := hv.2 g1
      refine ⟨g_ob h t_x0, ?_⟩
      refine apMo_behind (fun r5 S6 N7 h8 r9 hv => ?_) rfl t_x0 (show _ = Int32.ofInt x3 from rfl) r_x3 (show _ = Int32.ofInt x4 from rfl) r_x4 h hv
      refine g_fA h8 t_x0 rfl (rv_6_32 t_x0) ?_
      obtain ⟨c10, hv⟩ := hv
      refine g_aI h8 (show kt 1 32 by decide) (show alen 32 = 81 by decide) (show _ = Int32.ofInt r5 from rfl) c10 ?_
      refine g_fA h8 t_x0 rfl (rv_6_32 t_x0) ?_
      obtain ⟨c11, hv⟩ := hv
      refine g_aI h8 (show kt 1 32 by decide) (show alen 32 = 81 by decide) (show _ = Int32.ofInt x2 from rfl) c11 ?_
      obtain ⟨c12, hv⟩ := hv
      refine ek_if (c_eq (h_add (show _ = Int32.ofInt (S6 32 r5) from rfl) LI_1) (show _ = Int32.ofInt (S6 32 x2) from rfl) c12 (g_rI h8 (show kt 1 32 by decide) (by decide))) (fun g13 => ?_) (fun g13 => ?_)
      · replace hv := hv.1 g13
        refine g_fA h8 t_x0 rfl (rv_6_31 t_x0) ?_
        obtain ⟨c14, hv⟩ := hv
        refine g_aJ h8 (show kt 3 31 by decide) (show alen 31 = 81 by decide) (show _ = Int32.ofInt r5 from rfl) c14 ?_
        refine ⟨g_ob h8 t_x0, ?_⟩
        obtain ⟨c15, hv⟩ := hv
        refine apMo_worthOf (fun r16 S17 N18 h19 r20 hv => ?_) rfl t_x0 (show _ = Int32.ofInt x1 from rfl) r_x1 (h_sub (show _ = Int32.ofInt x4 from rfl) (show _ = Int32.ofInt x2 from rfl)) c15 (show _ = Int32.ofInt x5 from rfl) r_x5 h8 hv
        refine g_fA h19 t_x0 rfl (rv_6_23 t_x0) ?_
        obtain ⟨c21, hv⟩ := hv
        refine g_aJ h19 (show kt 3 23 by decide) (show alen 23 = 8 by decide) (show _ = Int32.ofInt x5 from rfl) c21 ?_
        refine g_fA h19 t_x0 rfl (rv_6_31 t_x0) ?_
        obtain ⟨c22, hv⟩ := hv
        refine g_aJ h19 (show kt 3 31 by decide) (show alen 31 = 81 by decide) (show _ = Int32.ofInt x2 from rfl) c22 ?_
        obtain ⟨c23, hv⟩ := hv
        refine ek_if (C_eq (H_sub (H_add (show _ = Int64.ofInt (S6 31 r5) from rfl) (show _ = Int64.ofInt r16 from rfl)) (show _ = Int64.ofInt (S17 23 x5) from rfl)) (show _ = Int64.ofInt (S17 31 x2) from rfl) c23 (g_rJ h19 (show kt 3 31 by decide))) (fun g24 => ?_) (fun g24 => ?_)
        · replace hv := hv.1 g24
          exact aMo_goOn_90 hp hk3 (fun b0 b1 b2 b3 b4 b5 S9 M9 y0 y1 y2 y3 y4 y5 h9 hv9 => ih _ b0 rfl y0 _ b1 rfl y1 _ b2 rfl y2 _ b3 rfl y3 _ b4 rfl y4 _ b5 rfl y5 S9 M9 h9 hv9) rfl t_x0 (show _ = Int32.ofInt x1 from rfl) r_x1 (show _ = Int32.ofInt x2 from rfl) r_x2 (show _ = Int32.ofInt x3 from rfl) r_x3 (show _ = Int32.ofInt x4 from rfl) r_x4 (show _ = Int32.ofInt x5 from rfl) r_x5 LI_1 LI_1r h19 hv
        · replace hv := hv.2 g24
          exact aMo_goOn_89 hp hk3 (fun b0 b1 b2 b3 b4 b5 S9 M9 y0 y1 y2 y3 y4 y5 h9 hv9 => ih _ b0 rfl y0 _ b1 rfl y1 _ b2 rfl y2 _ b3 rfl y3 _ b4 rfl y4 _ b5 rfl y5 S9 M9 h9 hv9) rfl t_x0 (show _ = Int32.ofInt x1 from rfl) r_x1 (show _ = Int32.ofInt x2 from rfl) r_x2 (show _ = Int32.ofInt x3 from rfl) r_x3 (show _ = Int32.ofInt x4 from rfl) r_x4 (show _ = Int32.ofInt x5 from rfl) r_x5 h19 hv
      · replace hv := hv.2 g13
        exact aMo_goOn_89 hp hk3 (fun b0 b1 b2 b3 b4 b5 S9 M9 y0 y1 y2 y3 y4 y5 h9 hv9 => ih _ b0 rfl y0 _ b1 rfl y1 _ b2 rfl y2 _ b3 rfl y3 _ b4 rfl y4 _ b5 rfl y5 S9 M9 h9 hv9) rfl t_x0 (show _ = Int32.ofInt x1 from rfl) r_x1 (show _ = Int32.ofInt x2 from rfl) r_x2 (show _ = Int32.ofInt x3 from rfl) r_x3 (show _ = Int32.ofInt x4 from rfl) r_x4 (show _ = Int32.ofInt x5 from rfl) r_x5 h8 hv
def vMo_goOn_3 (Q : Int → St → Prop) : Nat → Int → Int → Int → Int → Int → St → Prop
  | 0 => fun _ _ _ _ _ _ => False
  | n + 1 => fun x0 x1 x2 x3 x4 S => (((x4 ≤ x2 → (Q 0 S)) ∧ (¬ x4 ≤ x2 → (∃ n67 : Nat, (vMo_goOn_12 Q (vMo_goOn_3 Q n) n67 x0 x1 x2 x3 x4 0 S)))))
theorem aMo_goOn_3 {ad : Int → Nat} {Q : Int → St → Prop} {post : Int32 → Hp → Prop} (hp : ∀ (r : Int) (S : St) (M : Hp), US ad S M → rI r → Q r S → post (Int32.ofInt r) M) : ∀ (n : Nat) (w_x0 : Nat) (x0 : Int) (e_x0 : w_x0 = ad x0) (t_x0 : kt (20 + 6) x0) (w_x1 : Int32) (x1 : Int) (e_x1 : w_x1 = Int32.ofInt x1) (r_x1 : rI x1) (w_x2 : Int32) (x2 : Int) (e_x2 : w_x2 = Int32.ofInt x2) (r_x2 : rI x2) (w_x3 : Int32) (x3 : Int) (e_x3 : w_x3 = Int32.ofInt x3) (r_x3 : rI x3) (w_x4 : Int32) (x4 : Int) (e_x4 : w_x4 = Int32.ofInt x4) (r_x4 : rI x4) (S : St) (M : Hp), US ad S M → vMo_goOn_3 Q n x0 x1 x2 x3 x4 S → wMo_goOn_3 post n w_x0 w_x1 w_x2 w_x3 w_x4 M := by
  intro n
  induction n with
  | zero => intro w_x0 x0 e_x0 t_x0 w_x1 x1 e_x1 r_x1 w_x2 x2 e_x2 r_x2 w_x3 x3 e_x3 r_x3 w_x4 x4 e_x4 r_x4 S M h hv; exact hv.elim
  | succ n ih =>
    intro w_x0 x0 e_x0 t_x0 w_x1 x1 e_x1 r_x1 w_x2 x2 e_x2 r_x2 w_x3 x3 e_x3 r_x3 w_x4 x4 e_x4 r_x4 S M h hv
    subst e_x0
    subst e_x1
    subst e_x2
    subst e_x3
    subst e_x4
    unfold vMo_goOn_3 at hv
    unfold wMo_goOn_3
    refine ek_if (c_le (show _ = Int32.ofInt x4 from rfl) (show _ = Int32.ofInt x2 from rfl) r_x4 r_x2) (fun g1 => ?_) (fun g1 => ?_)
    · replace hv := hv.1 g1
      refine ek_v (P := fun y => post y _) LI_0 ?_
      exact hp _ _ _ h LI_0r hv
    · replace hv := hv.2 g1
      obtain ⟨n67, hv⟩ := hv
      refine ⟨n67, ?_⟩
      exact aMo_goOn_12 hp (fun b0 b1 b2 b3 b4 S9 M9 y0 y1 y2 y3 y4 h9 hv9 => ih _ b0 rfl y0 _ b1 rfl y1 _ b2 rfl y2 _ b3 rfl y3 _ b4 rfl y4 S9 M9 h9 hv9) n67 _ _ rfl t_x0 _ _ (show _ = Int32.ofInt x1 from rfl) r_x1 _ _ (show _ = Int32.ofInt x2 from rfl) r_x2 _ _ (show _ = Int32.ofInt x3 from rfl) r_x3 _ _ (show _ = Int32.ofInt x4 from rfl) r_x4 _ _ LI_0 LI_0r _ _ h hv
def vpMo_goOn (self : Int) (p0 : Int) (p1 : Int) (p2 : Int) (S : St) (Q : Int → St → Prop) : Prop := (∃ n68 : Nat, (vMo_goOn_3 Q n68 self p0 p1 p2 p2 S))
theorem apMo_goOn {ad : Int → Nat} {Q : Int → St → Prop} {post : Int32 → Hp → Prop} (hp : ∀ (r : Int) (S : St) (M : Hp), US ad S M → rI r → Q r S → post (Int32.ofInt r) M) {w_self : Nat} {self : Int} (e_self : w_self = ad self) (t_self : kt (20 + 6) self) {w_p0 : Int32} {p0 : Int} (e_p0 : w_p0 = Int32.ofInt p0) (r_p0 : rI p0) {w_p1 : Int32} {p1 : Int} (e_p1 : w_p1 = Int32.ofInt p1) (r_p1 : rI p1) {w_p2 : Int32} {p2 : Int} (e_p2 : w_p2 = Int32.ofInt p2) (r_p2 : rI p2) {S : St} {M : Hp} (h : US ad S M) (hv : vpMo_goOn self p0 p1 p2 S Q) : wpMo_goOn w_self w_p0 w_p1 w_p2 M post := by
  subst e_self
  subst e_p0
  subst e_p1
  subst e_p2
  unfold vpMo_goOn at hv
  unfold wpMo_goOn
  obtain ⟨n68, hv⟩ := hv
  refine ⟨n68, ?_⟩
  exact aMo_goOn_3 hp  n68 _ _ rfl t_self _ _ (show _ = Int32.ofInt p0 from rfl) r_p0 _ _ (show _ = Int32.ofInt p1 from rfl) r_p1 _ _ (show _ = Int32.ofInt p2 from rfl) r_p2 _ _ (show _ = Int32.ofInt p2 from rfl) r_p2 _ _ h hv
def vMo_mark_3 (Q : St → Prop) : Nat → Int → Int → Int → Int → Int → St → Prop
  | 0 => fun _ _ _ _ _ _ => False
  | n + 1 => fun x0 x1 x3 x4 x5 S => (((x3 ≤ x5 → (Q S)) ∧ (¬ x3 ≤ x5 → (((0 : Int) ≤ ((81 * x1) + x5) ∧ (((81 * x1) + x5) : Int) < 486) ∧ ∀ S3 : St, S3 = up S 25 ((81 * x1) + x5) x4 → ((rI (x5 + 1)) ∧ ∀ z11 : Int, z11 = (x5 + 1) → (vMo_mark_3 Q n x0 x1 x3 x4 z11 S3))))))
theorem aMo_mark_3 {ad : Int → Nat} {Q : St → Prop} {post : Hp → Prop} (hp : ∀ (S : St) (M : Hp), US ad S M → Q S → post M) : ∀ (n : Nat) (w_x0 : Nat) (x0 : Int) (e_x0 : w_x0 = ad x0) (t_x0 : kt (20 + 6) x0) (w_x1 : Int32) (x1 : Int) (e_x1 : w_x1 = Int32.ofInt x1) (r_x1 : rI x1) (w_x3 : Int32) (x3 : Int) (e_x3 : w_x3 = Int32.ofInt x3) (r_x3 : rI x3) (w_x4 : Int32) (x4 : Int) (e_x4 : w_x4 = Int32.ofInt x4) (r_x4 : rI x4) (w_x5 : Int32) (x5 : Int) (e_x5 : w_x5 = Int32.ofInt x5) (r_x5 : rI x5) (S : St) (M : Hp), US ad S M → vMo_mark_3 Q n x0 x1 x3 x4 x5 S → wMo_mark_3 post n w_x0 w_x1 w_x3 w_x4 w_x5 M := by
  intro n
  induction n with
  | zero => intro w_x0 x0 e_x0 t_x0 w_x1 x1 e_x1 r_x1 w_x3 x3 e_x3 r_x3 w_x4 x4 e_x4 r_x4 w_x5 x5 e_x5 r_x5 S M h hv; exact hv.elim
  | succ n ih =>
    intro w_x0 x0 e_x0 t_x0 w_x1 x1 e_x1 r_x1 w_x3 x3 e_x3 r_x3 w_x4 x4 e_x4 r_x4 w_x5 x5 e_x5 r_x5 S M h hv
    subst e_x0
    subst e_x1
    subst e_x3
    subst e_x4
    subst e_x5
    unfold vMo_mark_3 at hv
    unfold wMo_mark_3
    refine ek_if (c_le (show _ = Int32.ofInt x3 from rfl) (show _ = Int32.ofInt x5 from rfl) r_x3 r_x5) (fun g1 => ?_) (fun g1 => ?_)
    · replace hv := hv.1 g1
      exact hp _ _ h hv
    · replace hv := hv.2 g1
      refine g_fA h t_x0 rfl (rv_6_25 t_x0) ?_
      obtain ⟨c2, hv⟩ := hv
      refine g_sI h (show kt 1 25 by decide) (show alen 25 = 486 by decide) (h_add (h_mul LI_81 (show _ = Int32.ofInt x1 from rfl)) (show _ = Int32.ofInt x5 from rfl)) c2 (show _ = Int32.ofInt x4 from rfl) r_x4 (fun S3 N4 e6 h5 => ?_)
      replace hv := hv S3 e6
      obtain ⟨c7, hv⟩ := hv
      refine nm_z (h_add (show _ = Int32.ofInt x5 from rfl) LI_1) (fun z11 e8 => ?_)
      have r9 : rI z11 := by rw [e8]; exact c7
      replace hv := hv z11 e8
      exact ih _ _ rfl t_x0 _ _ (show _ = Int32.ofInt x1 from rfl) r_x1 _ _ (show _ = Int32.ofInt x3 from rfl) r_x3 _ _ (show _ = Int32.ofInt x4 from rfl) r_x4 _ _ (show _ = Int32.ofInt z11 from rfl) r9 _ _ h5 hv
def vpMo_mark (self : Int) (p0 : Int) (p1 : Int) (p2 : Int) (p3 : Int) (S : St) (Q : St → Prop) : Prop := (∃ n12 : Nat, (vMo_mark_3 Q n12 self p0 p2 p3 p1 S))
theorem apMo_mark {ad : Int → Nat} {Q : St → Prop} {post : Hp → Prop} (hp : ∀ (S : St) (M : Hp), US ad S M → Q S → post M) {w_self : Nat} {self : Int} (e_self : w_self = ad self) (t_self : kt (20 + 6) self) {w_p0 : Int32} {p0 : Int} (e_p0 : w_p0 = Int32.ofInt p0) (r_p0 : rI p0) {w_p1 : Int32} {p1 : Int} (e_p1 : w_p1 = Int32.ofInt p1) (r_p1 : rI p1) {w_p2 : Int32} {p2 : Int} (e_p2 : w_p2 = Int32.ofInt p2) (r_p2 : rI p2) {w_p3 : Int32} {p3 : Int} (e_p3 : w_p3 = Int32.ofInt p3) (r_p3 : rI p3) {S : St} {M : Hp} (h : US ad S M) (hv : vpMo_mark self p0 p1 p2 p3 S Q) : wpMo_mark w_self w_p0 w_p1 w_p2 w_p3 M post := by
  subst e_self
  subst e_p0
  subst e_p1
  subst e_p2
  subst e_p3
  unfold vpMo_mark at hv
  unfold wpMo_mark
  obtain ⟨n12, hv⟩ := hv
  refine ⟨n12, ?_⟩
  exact aMo_mark_3 hp  n12 _ _ rfl t_self _ _ (show _ = Int32.ofInt p0 from rfl) r_p0 _ _ (show _ = Int32.ofInt p2 from rfl) r_p2 _ _ (show _ = Int32.ofInt p3 from rfl) r_p3 _ _ (show _ = Int32.ofInt p1 from rfl) r_p1 _ _ h hv
def vMo_walk_128 (Q : St → Prop) (K8 : Int → Int → Int → Int → St → Prop) (x0 : Int) (x1 : Int) (x2 : Int) (x3 : Int) (S : St) : Prop := (K8 x0 x1 x2 x3 S)
theorem aMo_walk_128 {ad : Int → Nat} {Q : St → Prop} {K8 : Int → Int → Int → Int → St → Prop} {post : Hp → Prop} {k8 : Nat → Int32 → Int32 → Int32 → Hp → Prop} (hp : ∀ (S : St) (M : Hp), US ad S M → Q S → post M) (hk8 : ∀ (b0 b1 b2 b3 : Int) (S : St) (M : Hp), kt (20 + 6) b0 → rI b1 → rI b2 → rI b3 → US ad S M → K8 b0 b1 b2 b3 S → k8 (ad b0) (Int32.ofInt b1) (Int32.ofInt b2) (Int32.ofInt b3) M) {w_x0 : Nat} {x0 : Int} (e_x0 : w_x0 = ad x0) (t_x0 : kt (20 + 6) x0) {w_x1 : Int32} {x1 : Int} (e_x1 : w_x1 = Int32.ofInt x1) (r_x1 : rI x1) {w_x2 : Int32} {x2 : Int} (e_x2 : w_x2 = Int32.ofInt x2) (r_x2 : rI x2) {w_x3 : Int32} {x3 : Int} (e_x3 : w_x3 = Int32.ofInt x3) (r_x3 : rI x3) {S : St} {M : Hp} (h : US ad S M) (hv : vMo_walk_128 Q K8 x0 x1 x2 x3 S) : wMo_walk_128 post k8 w_x0 w_x1 w_x2 w_x3 M := by
  subst e_x0
  subst e_x1
  subst e_x2
  subst e_x3
  unfold vMo_walk_128 at hv
  unfold wMo_walk_128
  exact hk8 _ _ _ _ _ _ t_x0 r_x1 r_x2 r_x3 h hv
def vMo_walk_8 (Q : St → Prop) : Nat → Int → Int → Int → Int → St → Prop
  | 0 => fun _ _ _ _ _ => False
  | n + 1 => fun x0 x1 x2 x3 S => (((x2 ≤ x3 → (Q S)) ∧ (¬ x2 ≤ x3 → (vpMo_goOn x0 x1 x3 x2 S (fun (r2 : Int) (S3 : St) => (((r2 = 0 → ((rI (x3 + 1)) ∧ vpMo_mark x0 x1 x3 (x3 + 1) 2 S3 (fun (S10 : St) => ((rI (x3 + 1)) ∧ ∀ z46 : Int, z46 = (x3 + 1) → (vMo_walk_128 Q (vMo_walk_8 Q n) x0 x1 x2 z46 S10))))) ∧ (¬ r2 = 0 → (((0 : Int) ≤ r2 ∧ (r2 : Int) < 2147483648) ∧ ((0 : Int) < 8 ∧ (8 : Int) < 2147483648) ∧ (rI (x3 + (r2 / 8))) ∧ ∀ z6 : Int, z6 = (x3 + (r2 / 8)) → (vpMo_mark x0 x1 x3 z6 4 S3 (fun (S23 : St) => (((0 : Int) ≤ ((81 * x1) + x3) ∧ (((81 * x1) + x3) : Int) < 486) ∧ ∀ S28 : St, S28 = up S23 25 ((81 * x1) + x3) 1 → (((0 : Int) ≤ r2 ∧ (r2 : Int) < 2147483648) ∧ ((0 : Int) < 8 ∧ (8 : Int) < 2147483648) ∧ ((0 : Int) ≤ ((81 * x1) + x3) ∧ (((81 * x1) + x3) : Int) < 486) ∧ (rI (r2 / 8)) ∧ ∀ S36 : St, S36 = up S28 26 ((81 * x1) + x3) (r2 / 8) → (((0 : Int) ≤ r2 ∧ (r2 : Int) < 2147483648) ∧ ((0 : Int) < 8 ∧ (8 : Int) < 2147483648) ∧ ((0 : Int) ≤ ((81 * x1) + x3) ∧ (((81 * x1) + x3) : Int) < 486) ∧ (rI (r2 % 8)) ∧ ∀ S44 : St, S44 = up S36 27 ((81 * x1) + x3) (r2 % 8) → (vpMo_behind x0 x2 z6 S44 (fun (r48 : Int) (S49 : St) => (vpMo_mark x0 x1 z6 r48 3 S49 (fun (S54 : St) => (vpMo_behind x0 x2 z6 S54 (fun (r58 : Int) (S59 : St) => (vMo_walk_128 Q (vMo_walk_8 Q n) x0 x1 x2 r58 S59)))))))))))))))))))))
theorem aMo_walk_8 {ad : Int → Nat} {Q : St → Prop} {post : Hp → Prop} (hp : ∀ (S : St) (M : Hp), US ad S M → Q S → post M) : ∀ (n : Nat) (w_x0 : Nat) (x0 : Int) (e_x0 : w_x0 = ad x0) (t_x0 : kt (20 + 6) x0) (w_x1 : Int32) (x1 : Int) (e_x1 : w_x1 = Int32.ofInt x1) (r_x1 : rI x1) (w_x2 : Int32) (x2 : Int) (e_x2 : w_x2 = Int32.ofInt x2) (r_x2 : rI x2) (w_x3 : Int32) (x3 : Int) (e_x3 : w_x3 = Int32.ofInt x3) (r_x3 : rI x3) (S : St) (M : Hp), US ad S M → vMo_walk_8 Q n x0 x1 x2 x3 S → wMo_walk_8 post n w_x0 w_x1 w_x2 w_x3 M := by
  intro n
  induction n with
  | zero => intro w_x0 x0 e_x0 t_x0 w_x1 x1 e_x1 r_x1 w_x2 x2 e_x2 r_x2 w_x3 x3 e_x3 r_x3 S M h hv; exact hv.elim
  | succ n ih =>
    intro w_x0 x0 e_x0 t_x0 w_x1 x1 e_x1 r_x1 w_x2 x2 e_x2 r_x2 w_x3 x3 e_x3 r_x3 S M h hv
    subst e_x0
    subst e_x1
    subst e_x2
    subst e_x3
    unfold vMo_walk_8 at hv
    unfold wMo_walk_8
    refine ek_if (c_le (show _ = Int32.ofInt x2 from rfl) (show _ = Int32.ofInt x3 from rfl) r_x2 r_x3) (fun g1 => ?_) (fun g1 => ?_)
    · replace hv := hv.1 g1
      exact hp _ _ h hv
    · replace hv := hv.2 g1
      refine ⟨g_ob h t_x0, ?_⟩
      refine apMo_goOn (fun r2 S3 N4 h5 r6 hv => ?_) rfl t_x0 (show _ = Int32.ofInt x1 from rfl) r_x1 (show _ = Int32.ofInt x3 from rfl) r_x3 (show _ = Int32.ofInt x2 from rfl) r_x2 h hv
      refine ek_if (c_eq (show _ = Int32.ofInt r2 from rfl) LI_0 r6 LI_0r) (fun g7 => ?_) (fun g7 => ?_)
      · replace hv := hv.1 g7
        refine ⟨g_ob h5 t_x0, ?_⟩
        obtain ⟨c8, hv⟩ := hv
        refine apMo_mark (fun S10 N11 h12 hv => ?_) rfl t_x0 (show _ = Int32.ofInt x1 from rfl) r_x1 (show _ = Int32.ofInt x3 from rfl) r_x3 (h_add (show _ = Int32.ofInt x3 from rfl) LI_1) c8 LI_2 LI_2r h5 hv
        obtain ⟨c14, hv⟩ := hv
        refine nm_z (h_add (show _ = Int32.ofInt x3 from rfl) LI_1) (fun z46 e15 => ?_)
        have r16 : rI z46 := by rw [e15]; exact c14
        replace hv := hv z46 e15
        exact aMo_walk_128 hp (fun b0 b1 b2 b3 S9 M9 y0 y1 y2 y3 h9 hv9 => ih _ b0 rfl y0 _ b1 rfl y1 _ b2 rfl y2 _ b3 rfl y3 S9 M9 h9 hv9) rfl t_x0 (show _ = Int32.ofInt x1 from rfl) r_x1 (show _ = Int32.ofInt x2 from rfl) r_x2 (show _ = Int32.ofInt z46 from rfl) r16 h12 hv
      · replace hv := hv.2 g7
        obtain ⟨c17, c18, c19, hv⟩ := hv
        refine nm_z (h_add (show _ = Int32.ofInt x3 from rfl) (h_div (show _ = Int32.ofInt r2 from rfl) LI_8 c17 c18)) (fun z6 e20 => ?_)
        have r21 : rI z6 := by rw [e20]; exact c19
        replace hv := hv z6 e20
        refine ⟨g_ob h5 t_x0, ?_⟩
        refine apMo_mark (fun S23 N24 h25 hv => ?_) rfl t_x0 (show _ = Int32.ofInt x1 from rfl) r_x1 (show _ = Int32.ofInt x3 from rfl) r_x3 (show _ = Int32.ofInt z6 from rfl) r21 LI_4 LI_4r h5 hv
        refine g_fA h25 t_x0 rfl (rv_6_25 t_x0) ?_
        obtain ⟨c27, hv⟩ := hv
        refine g_sI h25 (show kt 1 25 by decide) (show alen 25 = 486 by decide) (h_add (h_mul LI_81 (show _ = Int32.ofInt x1 from rfl)) (show _ = Int32.ofInt x3 from rfl)) c27 LI_1 LI_1r (fun S28 N29 e31 h30 => ?_)
        replace hv := hv S28 e31
        refine g_fA h30 t_x0 rfl (rv_6_26 t_x0) ?_
        obtain ⟨c32, c33, c34, c35, hv⟩ := hv
        refine g_sI h30 (show kt 1 26 by decide) (show alen 26 = 486 by decide) (h_add (h_mul LI_81 (show _ = Int32.ofInt x1 from rfl)) (show _ = Int32.ofInt x3 from rfl)) c34 (h_div (show _ = Int32.ofInt r2 from rfl) LI_8 c32 c33) c35 (fun S36 N37 e39 h38 => ?_)
        replace hv := hv S36 e39
        refine g_fA h38 t_x0 rfl (rv_6_27 t_x0) ?_
        obtain ⟨c40, c41, c42, c43, hv⟩ := hv
        refine g_sI h38 (show kt 1 27 by decide) (show alen 27 = 486 by decide) (h_add (h_mul LI_81 (show _ = Int32.ofInt x1 from rfl)) (show _ = Int32.ofInt x3 from rfl)) c42 (h_rem (show _ = Int32.ofInt r2 from rfl) LI_8 c40 c41) c43 (fun S44 N45 e47 h46 => ?_)
        replace hv := hv S44 e47
        refine ⟨g_ob h46 t_x0, ?_⟩
        refine apMo_behind (fun r48 S49 N50 h51 r52 hv => ?_) rfl t_x0 (show _ = Int32.ofInt x2 from rfl) r_x2 (show _ = Int32.ofInt z6 from rfl) r21 h46 hv
        refine ⟨g_ob h51 t_x0, ?_⟩
        refine apMo_mark (fun S54 N55 h56 hv => ?_) rfl t_x0 (show _ = Int32.ofInt x1 from rfl) r_x1 (show _ = Int32.ofInt z6 from rfl) r21 (show _ = Int32.ofInt r48 from rfl) r52 LI_3 LI_3r h51 hv
        refine ⟨g_ob h56 t_x0, ?_⟩
        refine apMo_behind (fun r58 S59 N60 h61 r62 hv => ?_) rfl t_x0 (show _ = Int32.ofInt x2 from rfl) r_x2 (show _ = Int32.ofInt z6 from rfl) r21 h56 hv
        exact aMo_walk_128 hp (fun b0 b1 b2 b3 S9 M9 y0 y1 y2 y3 h9 hv9 => ih _ b0 rfl y0 _ b1 rfl y1 _ b2 rfl y2 _ b3 rfl y3 S9 M9 h9 hv9) rfl t_x0 (show _ = Int32.ofInt x1 from rfl) r_x1 (show _ = Int32.ofInt x2 from rfl) r_x2 (show _ = Int32.ofInt r58 from rfl) r62 h61 hv
def vpMo_walk (self : Int) (p0 : Int) (S : St) (Q : St → Prop) : Prop := (vpMo_stepsOf self p0 S (fun (r1 : Int) (S2 : St) => (∃ n50 : Nat, (vMo_walk_8 Q n50 self p0 r1 0 S2))))
theorem apMo_walk {ad : Int → Nat} {Q : St → Prop} {post : Hp → Prop} (hp : ∀ (S : St) (M : Hp), US ad S M → Q S → post M) {w_self : Nat} {self : Int} (e_self : w_self = ad self) (t_self : kt (20 + 6) self) {w_p0 : Int32} {p0 : Int} (e_p0 : w_p0 = Int32.ofInt p0) (r_p0 : rI p0) {S : St} {M : Hp} (h : US ad S M) (hv : vpMo_walk self p0 S Q) : wpMo_walk w_self w_p0 M post := by
  subst e_self
  subst e_p0
  unfold vpMo_walk at hv
  unfold wpMo_walk
  refine ⟨g_ob h t_self, ?_⟩
  refine apMo_stepsOf (fun r1 S2 N3 h4 r5 hv => ?_) rfl t_self (show _ = Int32.ofInt p0 from rfl) r_p0 h hv
  obtain ⟨n50, hv⟩ := hv
  refine ⟨n50, ?_⟩
  exact aMo_walk_8 hp  n50 _ _ rfl t_self _ _ (show _ = Int32.ofInt p0 from rfl) r_p0 _ _ (show _ = Int32.ofInt r1 from rfl) r5 _ _ LI_0 LI_0r _ _ h4 hv
def vMo_plan_4 (Q : Int → St → Prop) : Nat → Int → Int → Int → St → Prop
  | 0 => fun _ _ _ _ => False
  | n + 1 => fun x0 x1 x3 S => ((((S x0 4) ≤ x3 → (Q x1 S)) ∧ (¬ (S x0 4) ≤ x3 → (vpMo_reckon x0 x3 S (fun (S3 : St) => (((0 : Int) ≤ 0 ∧ (0 : Int) < 81) ∧ ((rJ (x1 + (S3 31 0))) ∧ ∀ z17 : Int, z17 = (x1 + (S3 31 0)) → (vpMo_walk x0 x3 S3 (fun (S12 : St) => ((rI (x3 + 1)) ∧ ∀ z20 : Int, z20 = (x3 + 1) → (vMo_plan_4 Q n x0 z17 z20 S12)))))))))))
theorem aMo_plan_4 {ad : Int → Nat} {Q : Int → St → Prop} {post : Int64 → Hp → Prop} (hp : ∀ (r : Int) (S : St) (M : Hp), US ad S M → rJ r → Q r S → post (Int64.ofInt r) M) : ∀ (n : Nat) (w_x0 : Nat) (x0 : Int) (e_x0 : w_x0 = ad x0) (t_x0 : kt (20 + 6) x0) (w_x1 : Int64) (x1 : Int) (e_x1 : w_x1 = Int64.ofInt x1) (r_x1 : rJ x1) (w_x3 : Int32) (x3 : Int) (e_x3 : w_x3 = Int32.ofInt x3) (r_x3 : rI x3) (S : St) (M : Hp), US ad S M → vMo_plan_4 Q n x0 x1 x3 S → wMo_plan_4 post n w_x0 w_x1 w_x3 M := by
  intro n
  induction n with
  | zero => intro w_x0 x0 e_x0 t_x0 w_x1 x1 e_x1 r_x1 w_x3 x3 e_x3 r_x3 S M h hv; exact hv.elim
  | succ n ih =>
    intro w_x0 x0 e_x0 t_x0 w_x1 x1 e_x1 r_x1 w_x3 x3 e_x3 r_x3 S M h hv
    subst e_x0
    subst e_x1
    subst e_x3
    unfold vMo_plan_4 at hv
    unfold wMo_plan_4
    refine g_fI h t_x0 rfl rfl ?_
    refine ek_if (c_le (show _ = Int32.ofInt (S x0 4) from rfl) (show _ = Int32.ofInt x3 from rfl) (g_rf (j := 4) h t_x0 rfl rfl) r_x3) (fun g1 => ?_) (fun g1 => ?_)
    · replace hv := hv.1 g1
      refine ek_v (P := fun y => post y _) (show _ = Int64.ofInt x1 from rfl) ?_
      exact hp _ _ _ h r_x1 hv
    · replace hv := hv.2 g1
      refine ⟨g_ob h t_x0, ?_⟩
      refine apMo_reckon (fun S3 N4 h5 hv => ?_) rfl t_x0 (show _ = Int32.ofInt x3 from rfl) r_x3 h hv
      refine g_fA h5 t_x0 rfl (rv_6_31 t_x0) ?_
      obtain ⟨c7, hv⟩ := hv
      refine g_aJ h5 (show kt 3 31 by decide) (show alen 31 = 81 by decide) LI_0 c7 ?_
      obtain ⟨c8, hv⟩ := hv
      refine nm_Z (H_add (show _ = Int64.ofInt x1 from rfl) (show _ = Int64.ofInt (S3 31 0) from rfl)) (fun z17 e9 => ?_)
      have r10 : rJ z17 := by rw [e9]; exact c8
      replace hv := hv z17 e9
      refine ⟨g_ob h5 t_x0, ?_⟩
      refine apMo_walk (fun S12 N13 h14 hv => ?_) rfl t_x0 (show _ = Int32.ofInt x3 from rfl) r_x3 h5 hv
      obtain ⟨c16, hv⟩ := hv
      refine nm_z (h_add (show _ = Int32.ofInt x3 from rfl) LI_1) (fun z20 e17 => ?_)
      have r18 : rI z20 := by rw [e17]; exact c16
      replace hv := hv z20 e17
      exact ih _ _ rfl t_x0 _ _ (show _ = Int64.ofInt z17 from rfl) r10 _ _ (show _ = Int32.ofInt z20 from rfl) r18 _ _ h14 hv
def vpMo_plan (self : Int) (S : St) (Q : Int → St → Prop) : Prop := (∃ n21 : Nat, (vMo_plan_4 Q n21 self 0 0 S))
theorem apMo_plan {ad : Int → Nat} {Q : Int → St → Prop} {post : Int64 → Hp → Prop} (hp : ∀ (r : Int) (S : St) (M : Hp), US ad S M → rJ r → Q r S → post (Int64.ofInt r) M) {w_self : Nat} {self : Int} (e_self : w_self = ad self) (t_self : kt (20 + 6) self) {S : St} {M : Hp} (h : US ad S M) (hv : vpMo_plan self S Q) : wpMo_plan w_self M post := by
  subst e_self
  unfold vpMo_plan at hv
  unfold wpMo_plan
  obtain ⟨n21, hv⟩ := hv
  refine ⟨n21, ?_⟩
  exact aMo_plan_4 hp  n21 _ _ rfl t_self _ _ LJ_0 LJ_0r _ _ LI_0 LI_0r _ _ h hv
def vMo_countOf_64 (Q : Int → St → Prop) (K4 : Int → Int → Int → Int → St → Prop) (K15 : Int → Int → Int → Int → Int → St → Prop) (x0 : Int) (x1 : Int) (x3 : Int) (x4 : Int) (y0 : Int) (S : St) : Prop := ((rI (x4 + 1)) ∧ ∀ z1 : Int, z1 = (x4 + 1) → (K15 x0 x1 y0 x3 z1 S))
theorem aMo_countOf_64 {ad : Int → Nat} {Q : Int → St → Prop} {K4 : Int → Int → Int → Int → St → Prop} {K15 : Int → Int → Int → Int → Int → St → Prop} {post : Int32 → Hp → Prop} {k4 : Nat → Int32 → Int32 → Int32 → Hp → Prop} {k15 : Nat → Int32 → Int32 → Int32 → Int32 → Hp → Prop} (hp : ∀ (r : Int) (S : St) (M : Hp), US ad S M → rI r → Q r S → post (Int32.ofInt r) M) (hk4 : ∀ (b0 b1 b2 b3 : Int) (S : St) (M : Hp), kt (20 + 6) b0 → rI b1 → rI b2 → rI b3 → US ad S M → K4 b0 b1 b2 b3 S → k4 (ad b0) (Int32.ofInt b1) (Int32.ofInt b2) (Int32.ofInt b3) M) (hk15 : ∀ (b0 b1 b2 b3 b4 : Int) (S : St) (M : Hp), kt (20 + 6) b0 → rI b1 → rI b2 → rI b3 → rI b4 → US ad S M → K15 b0 b1 b2 b3 b4 S → k15 (ad b0) (Int32.ofInt b1) (Int32.ofInt b2) (Int32.ofInt b3) (Int32.ofInt b4) M) {w_x0 : Nat} {x0 : Int} (e_x0 : w_x0 = ad x0) (t_x0 : kt (20 + 6) x0) {w_x1 : Int32} {x1 : Int} (e_x1 : w_x1 = Int32.ofInt x1) (r_x1 : rI x1) {w_x3 : Int32} {x3 : Int} (e_x3 : w_x3 = Int32.ofInt x3) (r_x3 : rI x3) {w_x4 : Int32} {x4 : Int} (e_x4 : w_x4 = Int32.ofInt x4) (r_x4 : rI x4) {w_y0 : Int32} {y0 : Int} (e_y0 : w_y0 = Int32.ofInt y0) (r_y0 : rI y0) {S : St} {M : Hp} (h : US ad S M) (hv : vMo_countOf_64 Q K4 K15 x0 x1 x3 x4 y0 S) : wMo_countOf_64 post k4 k15 w_x0 w_x1 w_x3 w_x4 w_y0 M := by
  subst e_x0
  subst e_x1
  subst e_x3
  subst e_x4
  subst e_y0
  unfold vMo_countOf_64 at hv
  unfold wMo_countOf_64
  obtain ⟨c1, hv⟩ := hv
  refine nm_z (h_add (show _ = Int32.ofInt x4 from rfl) LI_1) (fun z1 e2 => ?_)
  have r3 : rI z1 := by rw [e2]; exact c1
  replace hv := hv z1 e2
  exact hk15 _ _ _ _ _ _ _ t_x0 r_x1 r_y0 r_x3 r3 h hv
def vMo_countOf_63 (Q : Int → St → Prop) (K4 : Int → Int → Int → Int → St → Prop) (K15 : Int → Int → Int → Int → Int → St → Prop) (x0 : Int) (x1 : Int) (x2 : Int) (x3 : Int) (x4 : Int) (S : St) : Prop := (vMo_countOf_64 Q K4 K15 x0 x1 x3 x4 x2 S)
theorem aMo_countOf_63 {ad : Int → Nat} {Q : Int → St → Prop} {K4 : Int → Int → Int → Int → St → Prop} {K15 : Int → Int → Int → Int → Int → St → Prop} {post : Int32 → Hp → Prop} {k4 : Nat → Int32 → Int32 → Int32 → Hp → Prop} {k15 : Nat → Int32 → Int32 → Int32 → Int32 → Hp → Prop} (hp : ∀ (r : Int) (S : St) (M : Hp), US ad S M → rI r → Q r S → post (Int32.ofInt r) M) (hk4 : ∀ (b0 b1 b2 b3 : Int) (S : St) (M : Hp), kt (20 + 6) b0 → rI b1 → rI b2 → rI b3 → US ad S M → K4 b0 b1 b2 b3 S → k4 (ad b0) (Int32.ofInt b1) (Int32.ofInt b2) (Int32.ofInt b3) M) (hk15 : ∀ (b0 b1 b2 b3 b4 : Int) (S : St) (M : Hp), kt (20 + 6) b0 → rI b1 → rI b2 → rI b3 → rI b4 → US ad S M → K15 b0 b1 b2 b3 b4 S → k15 (ad b0) (Int32.ofInt b1) (Int32.ofInt b2) (Int32.ofInt b3) (Int32.ofInt b4) M) {w_x0 : Nat} {x0 : Int} (e_x0 : w_x0 = ad x0) (t_x0 : kt (20 + 6) x0) {w_x1 : Int32} {x1 : Int} (e_x1 : w_x1 = Int32.ofInt x1) (r_x1 : rI x1) {w_x2 : Int32} {x2 : Int} (e_x2 : w_x2 = Int32.ofInt x2) (r_x2 : rI x2) {w_x3 : Int32} {x3 : Int} (e_x3 : w_x3 = Int32.ofInt x3) (r_x3 : rI x3) {w_x4 : Int32} {x4 : Int} (e_x4 : w_x4 = Int32.ofInt x4) (r_x4 : rI x4) {S : St} {M : Hp} (h : US ad S M) (hv : vMo_countOf_63 Q K4 K15 x0 x1 x2 x3 x4 S) : wMo_countOf_63 post k4 k15 w_x0 w_x1 w_x2 w_x3 w_x4 M := by
  subst e_x0
  subst e_x1
  subst e_x2
  subst e_x3
  subst e_x4
  unfold vMo_countOf_63 at hv
  unfold wMo_countOf_63
  exact aMo_countOf_64 hp hk4 hk15 rfl t_x0 (show _ = Int32.ofInt x1 from rfl) r_x1 (show _ = Int32.ofInt x3 from rfl) r_x3 (show _ = Int32.ofInt x4 from rfl) r_x4 (show _ = Int32.ofInt x2 from rfl) r_x2 h hv
def vMo_countOf_15 (Q : Int → St → Prop) (K4 : Int → Int → Int → Int → St → Prop) : Nat → Int → Int → Int → Int → Int → St → Prop
  | 0 => fun _ _ _ _ _ _ => False
  | n + 1 => fun x0 x1 x2 x3 x4 S => (vpMo_stepsOf x0 x3 S (fun (r1 : Int) (S2 : St) => (((r1 ≤ x4 → ((rI (x3 + 1)) ∧ ∀ z6 : Int, z6 = (x3 + 1) → (K4 x0 x1 x2 z6 S2))) ∧ (¬ r1 ≤ x4 → (((0 : Int) ≤ ((81 * x3) + x4) ∧ (((81 * x3) + x4) : Int) < 486) ∧ ((((S2 25 ((81 * x3) + x4)) = 1 → (((0 : Int) ≤ ((81 * x3) + x4) ∧ (((81 * x3) + x4) : Int) < 486) ∧ ((((S2 27 ((81 * x3) + x4)) = x1 → ((rI (x2 + 1)) ∧ vMo_countOf_64 Q K4 (vMo_countOf_15 Q K4 n) x0 x1 x3 x4 (x2 + 1) S2)) ∧ (¬ (S2 27 ((81 * x3) + x4)) = x1 → (vMo_countOf_63 Q K4 (vMo_countOf_15 Q K4 n) x0 x1 x2 x3 x4 S2)))))) ∧ (¬ (S2 25 ((81 * x3) + x4)) = 1 → (vMo_countOf_63 Q K4 (vMo_countOf_15 Q K4 n) x0 x1 x2 x3 x4 S2))))))))))
theorem aMo_countOf_15 {ad : Int → Nat} {Q : Int → St → Prop} {K4 : Int → Int → Int → Int → St → Prop} {post : Int32 → Hp → Prop} {k4 : Nat → Int32 → Int32 → Int32 → Hp → Prop} (hp : ∀ (r : Int) (S : St) (M : Hp), US ad S M → rI r → Q r S → post (Int32.ofInt r) M) (hk4 : ∀ (b0 b1 b2 b3 : Int) (S : St) (M : Hp), kt (20 + 6) b0 → rI b1 → rI b2 → rI b3 → US ad S M → K4 b0 b1 b2 b3 S → k4 (ad b0) (Int32.ofInt b1) (Int32.ofInt b2) (Int32.ofInt b3) M) : ∀ (n : Nat) (w_x0 : Nat) (x0 : Int) (e_x0 : w_x0 = ad x0) (t_x0 : kt (20 + 6) x0) (w_x1 : Int32) (x1 : Int) (e_x1 : w_x1 = Int32.ofInt x1) (r_x1 : rI x1) (w_x2 : Int32) (x2 : Int) (e_x2 : w_x2 = Int32.ofInt x2) (r_x2 : rI x2) (w_x3 : Int32) (x3 : Int) (e_x3 : w_x3 = Int32.ofInt x3) (r_x3 : rI x3) (w_x4 : Int32) (x4 : Int) (e_x4 : w_x4 = Int32.ofInt x4) (r_x4 : rI x4) (S : St) (M : Hp), US ad S M → vMo_countOf_15 Q K4 n x0 x1 x2 x3 x4 S → wMo_countOf_15 post k4 n w_x0 w_x1 w_x2 w_x3 w_x4 M := by
  intro n
  induction n with
  | zero => intro w_x0 x0 e_x0 t_x0 w_x1 x1 e_x1 r_x1 w_x2 x2 e_x2 r_x2 w_x3 x3 e_x3 r_x3 w_x4 x4 e_x4 r_x4 S M h hv; exact hv.elim
  | succ n ih =>
    intro w_x0 x0 e_x0 t_x0 w_x1 x1 e_x1 r_x1 w_x2 x2 e_x2 r_x2 w_x3 x3 e_x3 r_x3 w_x4 x4 e_x4 r_x4 S M h hv
    subst e_x0
    subst e_x1
    subst e_x2
    subst e_x3
    subst e_x4
    unfold vMo_countOf_15 at hv
    unfold wMo_countOf_15
    refine ⟨g_ob h t_x0, ?_⟩
    refine apMo_stepsOf (fun r1 S2 N3 h4 r5 hv => ?_) rfl t_x0 (show _ = Int32.ofInt x3 from rfl) r_x3 h hv
    refine ek_if (c_le (show _ = Int32.ofInt r1 from rfl) (show _ = Int32.ofInt x4 from rfl) r5 r_x4) (fun g6 => ?_) (fun g6 => ?_)
    · replace hv := hv.1 g6
      obtain ⟨c7, hv⟩ := hv
      refine nm_z (h_add (show _ = Int32.ofInt x3 from rfl) LI_1) (fun z6 e8 => ?_)
      have r9 : rI z6 := by rw [e8]; exact c7
      replace hv := hv z6 e8
      exact hk4 _ _ _ _ _ _ t_x0 r_x1 r_x2 r9 h4 hv
    · replace hv := hv.2 g6
      refine g_fA h4 t_x0 rfl (rv_6_25 t_x0) ?_
      obtain ⟨c10, hv⟩ := hv
      refine g_aI h4 (show kt 1 25 by decide) (show alen 25 = 486 by decide) (h_add (h_mul LI_81 (show _ = Int32.ofInt x3 from rfl)) (show _ = Int32.ofInt x4 from rfl)) c10 ?_
      refine ek_if (c_eq (show _ = Int32.ofInt (S2 25 ((81 * x3) + x4)) from rfl) LI_1 (g_rI h4 (show kt 1 25 by decide) (by decide)) LI_1r) (fun g11 => ?_) (fun g11 => ?_)
      · replace hv := hv.1 g11
        refine g_fA h4 t_x0 rfl (rv_6_27 t_x0) ?_
        obtain ⟨c12, hv⟩ := hv
        refine g_aI h4 (show kt 1 27 by decide) (show alen 27 = 486 by decide) (h_add (h_mul LI_81 (show _ = Int32.ofInt x3 from rfl)) (show _ = Int32.ofInt x4 from rfl)) c12 ?_
        refine ek_if (c_eq (show _ = Int32.ofInt (S2 27 ((81 * x3) + x4)) from rfl) (show _ = Int32.ofInt x1 from rfl) (g_rI h4 (show kt 1 27 by decide) (by decide)) r_x1) (fun g13 => ?_) (fun g13 => ?_)
        · replace hv := hv.1 g13
          obtain ⟨c14, hv⟩ := hv
          exact aMo_countOf_64 hp hk4 (fun b0 b1 b2 b3 b4 S9 M9 y0 y1 y2 y3 y4 h9 hv9 => ih _ b0 rfl y0 _ b1 rfl y1 _ b2 rfl y2 _ b3 rfl y3 _ b4 rfl y4 S9 M9 h9 hv9) rfl t_x0 (show _ = Int32.ofInt x1 from rfl) r_x1 (show _ = Int32.ofInt x3 from rfl) r_x3 (show _ = Int32.ofInt x4 from rfl) r_x4 (h_add (show _ = Int32.ofInt x2 from rfl) LI_1) c14 h4 hv
        · replace hv := hv.2 g13
          exact aMo_countOf_63 hp hk4 (fun b0 b1 b2 b3 b4 S9 M9 y0 y1 y2 y3 y4 h9 hv9 => ih _ b0 rfl y0 _ b1 rfl y1 _ b2 rfl y2 _ b3 rfl y3 _ b4 rfl y4 S9 M9 h9 hv9) rfl t_x0 (show _ = Int32.ofInt x1 from rfl) r_x1 (show _ = Int32.ofInt x2 from rfl) r_x2 (show _ = Int32.ofInt x3 from rfl) r_x3 (show _ = Int32.ofInt x4 from rfl) r_x4 h4 hv
      · replace hv := hv.2 g11
        exact aMo_countOf_63 hp hk4 (fun b0 b1 b2 b3 b4 S9 M9 y0 y1 y2 y3 y4 h9 hv9 => ih _ b0 rfl y0 _ b1 rfl y1 _ b2 rfl y2 _ b3 rfl y3 _ b4 rfl y4 S9 M9 h9 hv9) rfl t_x0 (show _ = Int32.ofInt x1 from rfl) r_x1 (show _ = Int32.ofInt x2 from rfl) r_x2 (show _ = Int32.ofInt x3 from rfl) r_x3 (show _ = Int32.ofInt x4 from rfl) r_x4 h4 hv
def vMo_countOf_4 (Q : Int → St → Prop) : Nat → Int → Int → Int → Int → St → Prop
  | 0 => fun _ _ _ _ _ => False
  | n + 1 => fun x0 x1 x2 x3 S => ((((S x0 4) ≤ x3 → (Q x2 S)) ∧ (¬ (S x0 4) ≤ x3 → (∃ n32 : Nat, (vMo_countOf_15 Q (vMo_countOf_4 Q n) n32 x0 x1 x2 x3 0 S)))))
theorem aMo_countOf_4 {ad : Int → Nat} {Q : Int → St → Prop} {post : Int32 → Hp → Prop} (hp : ∀ (r : Int) (S : St) (M : Hp), US ad S M → rI r → Q r S → post (Int32.ofInt r) M) : ∀ (n : Nat) (w_x0 : Nat) (x0 : Int) (e_x0 : w_x0 = ad x0) (t_x0 : kt (20 + 6) x0) (w_x1 : Int32) (x1 : Int) (e_x1 : w_x1 = Int32.ofInt x1) (r_x1 : rI x1) (w_x2 : Int32) (x2 : Int) (e_x2 : w_x2 = Int32.ofInt x2) (r_x2 : rI x2) (w_x3 : Int32) (x3 : Int) (e_x3 : w_x3 = Int32.ofInt x3) (r_x3 : rI x3) (S : St) (M : Hp), US ad S M → vMo_countOf_4 Q n x0 x1 x2 x3 S → wMo_countOf_4 post n w_x0 w_x1 w_x2 w_x3 M := by
  intro n
  induction n with
  | zero => intro w_x0 x0 e_x0 t_x0 w_x1 x1 e_x1 r_x1 w_x2 x2 e_x2 r_x2 w_x3 x3 e_x3 r_x3 S M h hv; exact hv.elim
  | succ n ih =>
    intro w_x0 x0 e_x0 t_x0 w_x1 x1 e_x1 r_x1 w_x2 x2 e_x2 r_x2 w_x3 x3 e_x3 r_x3 S M h hv
    subst e_x0
    subst e_x1
    subst e_x2
    subst e_x3
    unfold vMo_countOf_4 at hv
    unfold wMo_countOf_4
    refine g_fI h t_x0 rfl rfl ?_
    refine ek_if (c_le (show _ = Int32.ofInt (S x0 4) from rfl) (show _ = Int32.ofInt x3 from rfl) (g_rf (j := 4) h t_x0 rfl rfl) r_x3) (fun g1 => ?_) (fun g1 => ?_)
    · replace hv := hv.1 g1
      refine ek_v (P := fun y => post y _) (show _ = Int32.ofInt x2 from rfl) ?_
      exact hp _ _ _ h r_x2 hv
    · replace hv := hv.2 g1
      obtain ⟨n32, hv⟩ := hv
      refine ⟨n32, ?_⟩
      exact aMo_countOf_15 hp (fun b0 b1 b2 b3 S9 M9 y0 y1 y2 y3 h9 hv9 => ih _ b0 rfl y0 _ b1 rfl y1 _ b2 rfl y2 _ b3 rfl y3 S9 M9 h9 hv9) n32 _ _ rfl t_x0 _ _ (show _ = Int32.ofInt x1 from rfl) r_x1 _ _ (show _ = Int32.ofInt x2 from rfl) r_x2 _ _ (show _ = Int32.ofInt x3 from rfl) r_x3 _ _ LI_0 LI_0r _ _ h hv
def vpMo_countOf (self : Int) (p0 : Int) (S : St) (Q : Int → St → Prop) : Prop := (∃ n33 : Nat, (vMo_countOf_4 Q n33 self p0 0 0 S))
theorem apMo_countOf {ad : Int → Nat} {Q : Int → St → Prop} {post : Int32 → Hp → Prop} (hp : ∀ (r : Int) (S : St) (M : Hp), US ad S M → rI r → Q r S → post (Int32.ofInt r) M) {w_self : Nat} {self : Int} (e_self : w_self = ad self) (t_self : kt (20 + 6) self) {w_p0 : Int32} {p0 : Int} (e_p0 : w_p0 = Int32.ofInt p0) (r_p0 : rI p0) {S : St} {M : Hp} (h : US ad S M) (hv : vpMo_countOf self p0 S Q) : wpMo_countOf w_self w_p0 M post := by
  subst e_self
  subst e_p0
  unfold vpMo_countOf at hv
  unfold wpMo_countOf
  obtain ⟨n33, hv⟩ := hv
  refine ⟨n33, ?_⟩
  exact aMo_countOf_4 hp  n33 _ _ rfl t_self _ _ (show _ = Int32.ofInt p0 from rfl) r_p0 _ _ LI_0 LI_0r _ _ LI_0 LI_0r _ _ h hv
def vMo_trueWorth_70 (Q : Int → St → Prop) (K4 : Int → Int → Int → St → Prop) (K15 : Int → Int → Int → Int → St → Prop) (x0 : Int) (x3 : Int) (x4 : Int) (y0 : Int) (S : St) : Prop := ((rI (x4 + 1)) ∧ ∀ z1 : Int, z1 = (x4 + 1) → (K15 x0 y0 x3 z1 S))
theorem aMo_trueWorth_70 {ad : Int → Nat} {Q : Int → St → Prop} {K4 : Int → Int → Int → St → Prop} {K15 : Int → Int → Int → Int → St → Prop} {post : Int64 → Hp → Prop} {k4 : Nat → Int64 → Int32 → Hp → Prop} {k15 : Nat → Int64 → Int32 → Int32 → Hp → Prop} (hp : ∀ (r : Int) (S : St) (M : Hp), US ad S M → rJ r → Q r S → post (Int64.ofInt r) M) (hk4 : ∀ (b0 b1 b2 : Int) (S : St) (M : Hp), kt (20 + 6) b0 → rJ b1 → rI b2 → US ad S M → K4 b0 b1 b2 S → k4 (ad b0) (Int64.ofInt b1) (Int32.ofInt b2) M) (hk15 : ∀ (b0 b1 b2 b3 : Int) (S : St) (M : Hp), kt (20 + 6) b0 → rJ b1 → rI b2 → rI b3 → US ad S M → K15 b0 b1 b2 b3 S → k15 (ad b0) (Int64.ofInt b1) (Int32.ofInt b2) (Int32.ofInt b3) M) {w_x0 : Nat} {x0 : Int} (e_x0 : w_x0 = ad x0) (t_x0 : kt (20 + 6) x0) {w_x3 : Int32} {x3 : Int} (e_x3 : w_x3 = Int32.ofInt x3) (r_x3 : rI x3) {w_x4 : Int32} {x4 : Int} (e_x4 : w_x4 = Int32.ofInt x4) (r_x4 : rI x4) {w_y0 : Int64} {y0 : Int} (e_y0 : w_y0 = Int64.ofInt y0) (r_y0 : rJ y0) {S : St} {M : Hp} (h : US ad S M) (hv : vMo_trueWorth_70 Q K4 K15 x0 x3 x4 y0 S) : wMo_trueWorth_70 post k4 k15 w_x0 w_x3 w_x4 w_y0 M := by
  subst e_x0
  subst e_x3
  subst e_x4
  subst e_y0
  unfold vMo_trueWorth_70 at hv
  unfold wMo_trueWorth_70
  obtain ⟨c1, hv⟩ := hv
  refine nm_z (h_add (show _ = Int32.ofInt x4 from rfl) LI_1) (fun z1 e2 => ?_)
  have r3 : rI z1 := by rw [e2]; exact c1
  replace hv := hv z1 e2
  exact hk15 _ _ _ _ _ _ t_x0 r_y0 r_x3 r3 h hv
def vMo_trueWorth_15 (Q : Int → St → Prop) (K4 : Int → Int → Int → St → Prop) : Nat → Int → Int → Int → Int → St → Prop
  | 0 => fun _ _ _ _ _ => False
  | n + 1 => fun x0 x1 x3 x4 S => (vpMo_stepsOf x0 x3 S (fun (r1 : Int) (S2 : St) => (((r1 ≤ x4 → ((rI (x3 + 1)) ∧ ∀ z6 : Int, z6 = (x3 + 1) → (K4 x0 x1 z6 S2))) ∧ (¬ r1 ≤ x4 → ((rI ((81 * x3) + x4)) ∧ ∀ z7 : Int, z7 = ((81 * x3) + x4) → (((0 : Int) ≤ z7 ∧ (z7 : Int) < 486) ∧ ((((S2 25 z7) = 1 → (((0 : Int) ≤ z7 ∧ (z7 : Int) < 486) ∧ (((0 : Int) ≤ z7 ∧ (z7 : Int) < 486) ∧ (vpMo_worthOf x0 x3 (S2 26 z7) (S2 27 z7) S2 (fun (r17 : Int) (S18 : St) => ((rJ (x1 + r17)) ∧ vMo_trueWorth_70 Q K4 (vMo_trueWorth_15 Q K4 n) x0 x3 x4 (x1 + r17) S18)))))) ∧ (¬ (S2 25 z7) = 1 → (vMo_trueWorth_70 Q K4 (vMo_trueWorth_15 Q K4 n) x0 x3 x4 x1 S2)))))))))))
theorem aMo_trueWorth_15 {ad : Int → Nat} {Q : Int → St → Prop} {K4 : Int → Int → Int → St → Prop} {post : Int64 → Hp → Prop} {k4 : Nat → Int64 → Int32 → Hp → Prop} (hp : ∀ (r : Int) (S : St) (M : Hp), US ad S M → rJ r → Q r S → post (Int64.ofInt r) M) (hk4 : ∀ (b0 b1 b2 : Int) (S : St) (M : Hp), kt (20 + 6) b0 → rJ b1 → rI b2 → US ad S M → K4 b0 b1 b2 S → k4 (ad b0) (Int64.ofInt b1) (Int32.ofInt b2) M) : ∀ (n : Nat) (w_x0 : Nat) (x0 : Int) (e_x0 : w_x0 = ad x0) (t_x0 : kt (20 + 6) x0) (w_x1 : Int64) (x1 : Int) (e_x1 : w_x1 = Int64.ofInt x1) (r_x1 : rJ x1) (w_x3 : Int32) (x3 : Int) (e_x3 : w_x3 = Int32.ofInt x3) (r_x3 : rI x3) (w_x4 : Int32) (x4 : Int) (e_x4 : w_x4 = Int32.ofInt x4) (r_x4 : rI x4) (S : St) (M : Hp), US ad S M → vMo_trueWorth_15 Q K4 n x0 x1 x3 x4 S → wMo_trueWorth_15 post k4 n w_x0 w_x1 w_x3 w_x4 M := by
  intro n
  induction n with
  | zero => intro w_x0 x0 e_x0 t_x0 w_x1 x1 e_x1 r_x1 w_x3 x3 e_x3 r_x3 w_x4 x4 e_x4 r_x4 S M h hv; exact hv.elim
  | succ n ih =>
    intro w_x0 x0 e_x0 t_x0 w_x1 x1 e_x1 r_x1 w_x3 x3 e_x3 r_x3 w_x4 x4 e_x4 r_x4 S M h hv
    subst e_x0
    subst e_x1
    subst e_x3
    subst e_x4
    unfold vMo_trueWorth_15 at hv
    unfold wMo_trueWorth_15
    refine ⟨g_ob h t_x0, ?_⟩
    refine apMo_stepsOf (fun r1 S2 N3 h4 r5 hv => ?_) rfl t_x0 (show _ = Int32.ofInt x3 from rfl) r_x3 h hv
    refine ek_if (c_le (show _ = Int32.ofInt r1 from rfl) (show _ = Int32.ofInt x4 from rfl) r5 r_x4) (fun g6 => ?_) (fun g6 => ?_)
    · replace hv := hv.1 g6
      obtain ⟨c7, hv⟩ := hv
      refine nm_z (h_add (show _ = Int32.ofInt x3 from rfl) LI_1) (fun z6 e8 => ?_)
      have r9 : rI z6 := by rw [e8]; exact c7
      replace hv := hv z6 e8
      exact hk4 _ _ _ _ _ t_x0 r_x1 r9 h4 hv
    · replace hv := hv.2 g6
      obtain ⟨c10, hv⟩ := hv
      refine nm_z (h_add (h_mul LI_81 (show _ = Int32.ofInt x3 from rfl)) (show _ = Int32.ofInt x4 from rfl)) (fun z7 e11 => ?_)
      have r12 : rI z7 := by rw [e11]; exact c10
      replace hv := hv z7 e11
      refine g_fA h4 t_x0 rfl (rv_6_25 t_x0) ?_
      obtain ⟨c13, hv⟩ := hv
      refine g_aI h4 (show kt 1 25 by decide) (show alen 25 = 486 by decide) (show _ = Int32.ofInt z7 from rfl) c13 ?_
      refine ek_if (c_eq (show _ = Int32.ofInt (S2 25 z7) from rfl) LI_1 (g_rI h4 (show kt 1 25 by decide) (by decide)) LI_1r) (fun g14 => ?_) (fun g14 => ?_)
      · replace hv := hv.1 g14
        refine g_fA h4 t_x0 rfl (rv_6_26 t_x0) ?_
        obtain ⟨c15, hv⟩ := hv
        refine g_aI h4 (show kt 1 26 by decide) (show alen 26 = 486 by decide) (show _ = Int32.ofInt z7 from rfl) c15 ?_
        refine g_fA h4 t_x0 rfl (rv_6_27 t_x0) ?_
        obtain ⟨c16, hv⟩ := hv
        refine g_aI h4 (show kt 1 27 by decide) (show alen 27 = 486 by decide) (show _ = Int32.ofInt z7 from rfl) c16 ?_
        refine ⟨g_ob h4 t_x0, ?_⟩
        refine apMo_worthOf (fun r17 S18 N19 h20 r21 hv => ?_) rfl t_x0 (show _ = Int32.ofInt x3 from rfl) r_x3 (show _ = Int32.ofInt (S2 26 z7) from rfl) (g_rI h4 (show kt 1 26 by decide) (by decide)) (show _ = Int32.ofInt (S2 27 z7) from rfl) (g_rI h4 (show kt 1 27 by decide) (by decide)) h4 hv
        obtain ⟨c22, hv⟩ := hv
        exact aMo_trueWorth_70 hp hk4 (fun b0 b1 b2 b3 S9 M9 y0 y1 y2 y3 h9 hv9 => ih _ b0 rfl y0 _ b1 rfl y1 _ b2 rfl y2 _ b3 rfl y3 S9 M9 h9 hv9) rfl t_x0 (show _ = Int32.ofInt x3 from rfl) r_x3 (show _ = Int32.ofInt x4 from rfl) r_x4 (H_add (show _ = Int64.ofInt x1 from rfl) (show _ = Int64.ofInt r17 from rfl)) c22 h20 hv
      · replace hv := hv.2 g14
        exact aMo_trueWorth_70 hp hk4 (fun b0 b1 b2 b3 S9 M9 y0 y1 y2 y3 h9 hv9 => ih _ b0 rfl y0 _ b1 rfl y1 _ b2 rfl y2 _ b3 rfl y3 S9 M9 h9 hv9) rfl t_x0 (show _ = Int32.ofInt x3 from rfl) r_x3 (show _ = Int32.ofInt x4 from rfl) r_x4 (show _ = Int64.ofInt x1 from rfl) r_x1 h4 hv
def vMo_trueWorth_4 (Q : Int → St → Prop) : Nat → Int → Int → Int → St → Prop
  | 0 => fun _ _ _ _ => False
  | n + 1 => fun x0 x1 x3 S => ((((S x0 4) ≤ x3 → (Q x1 S)) ∧ (¬ (S x0 4) ≤ x3 → (∃ n44 : Nat, (vMo_trueWorth_15 Q (vMo_trueWorth_4 Q n) n44 x0 x1 x3 0 S)))))
theorem aMo_trueWorth_4 {ad : Int → Nat} {Q : Int → St → Prop} {post : Int64 → Hp → Prop} (hp : ∀ (r : Int) (S : St) (M : Hp), US ad S M → rJ r → Q r S → post (Int64.ofInt r) M) : ∀ (n : Nat) (w_x0 : Nat) (x0 : Int) (e_x0 : w_x0 = ad x0) (t_x0 : kt (20 + 6) x0) (w_x1 : Int64) (x1 : Int) (e_x1 : w_x1 = Int64.ofInt x1) (r_x1 : rJ x1) (w_x3 : Int32) (x3 : Int) (e_x3 : w_x3 = Int32.ofInt x3) (r_x3 : rI x3) (S : St) (M : Hp), US ad S M → vMo_trueWorth_4 Q n x0 x1 x3 S → wMo_trueWorth_4 post n w_x0 w_x1 w_x3 M := by
  intro n
  induction n with
  | zero => intro w_x0 x0 e_x0 t_x0 w_x1 x1 e_x1 r_x1 w_x3 x3 e_x3 r_x3 S M h hv; exact hv.elim
  | succ n ih =>
    intro w_x0 x0 e_x0 t_x0 w_x1 x1 e_x1 r_x1 w_x3 x3 e_x3 r_x3 S M h hv
    subst e_x0
    subst e_x1
    subst e_x3
    unfold vMo_trueWorth_4 at hv
    unfold wMo_trueWorth_4
    refine g_fI h t_x0 rfl rfl ?_
    refine ek_if (c_le (show _ = Int32.ofInt (S x0 4) from rfl) (show _ = Int32.ofInt x3 from rfl) (g_rf (j := 4) h t_x0 rfl rfl) r_x3) (fun g1 => ?_) (fun g1 => ?_)
    · replace hv := hv.1 g1
      refine ek_v (P := fun y => post y _) (show _ = Int64.ofInt x1 from rfl) ?_
      exact hp _ _ _ h r_x1 hv
    · replace hv := hv.2 g1
      obtain ⟨n44, hv⟩ := hv
      refine ⟨n44, ?_⟩
      exact aMo_trueWorth_15 hp (fun b0 b1 b2 S9 M9 y0 y1 y2 h9 hv9 => ih _ b0 rfl y0 _ b1 rfl y1 _ b2 rfl y2 S9 M9 h9 hv9) n44 _ _ rfl t_x0 _ _ (show _ = Int64.ofInt x1 from rfl) r_x1 _ _ (show _ = Int32.ofInt x3 from rfl) r_x3 _ _ LI_0 LI_0r _ _ h hv
def vpMo_trueWorth (self : Int) (S : St) (Q : Int → St → Prop) : Prop := (∃ n45 : Nat, (vMo_trueWorth_4 Q n45 self 0 0 S))
theorem apMo_trueWorth {ad : Int → Nat} {Q : Int → St → Prop} {post : Int64 → Hp → Prop} (hp : ∀ (r : Int) (S : St) (M : Hp), US ad S M → rJ r → Q r S → post (Int64.ofInt r) M) {w_self : Nat} {self : Int} (e_self : w_self = ad self) (t_self : kt (20 + 6) self) {S : St} {M : Hp} (h : US ad S M) (hv : vpMo_trueWorth self S Q) : wpMo_trueWorth w_self M post := by
  subst e_self
  unfold vpMo_trueWorth at hv
  unfold wpMo_trueWorth
  obtain ⟨n45, hv⟩ := hv
  refine ⟨n45, ?_⟩
  exact aMo_trueWorth_4 hp  n45 _ _ rfl t_self _ _ LJ_0 LJ_0r _ _ LI_0 LI_0r _ _ h hv
def vMo_logCount_4 (Q : Int → St → Prop) : Nat → Int → Int → Int → St → Prop
  | 0 => fun _ _ _ _ => False
  | n + 1 => fun x0 x1 x2 S => ((((S x0 14) ≤ x2 → (Q x1 S)) ∧ (¬ (S x0 14) ≤ x2 → (vpMo_countOf x0 x2 S (fun (r2 : Int) (S3 : St) => ((rI (x1 + r2)) ∧ ∀ z9 : Int, z9 = (x1 + r2) → ((rI (x2 + 1)) ∧ ∀ z10 : Int, z10 = (x2 + 1) → (vMo_logCount_4 Q n x0 z9 z10 S3))))))))
theorem aMo_logCount_4 {ad : Int → Nat} {Q : Int → St → Prop} {post : Int32 → Hp → Prop} (hp : ∀ (r : Int) (S : St) (M : Hp), US ad S M → rI r → Q r S → post (Int32.ofInt r) M) : ∀ (n : Nat) (w_x0 : Nat) (x0 : Int) (e_x0 : w_x0 = ad x0) (t_x0 : kt (20 + 6) x0) (w_x1 : Int32) (x1 : Int) (e_x1 : w_x1 = Int32.ofInt x1) (r_x1 : rI x1) (w_x2 : Int32) (x2 : Int) (e_x2 : w_x2 = Int32.ofInt x2) (r_x2 : rI x2) (S : St) (M : Hp), US ad S M → vMo_logCount_4 Q n x0 x1 x2 S → wMo_logCount_4 post n w_x0 w_x1 w_x2 M := by
  intro n
  induction n with
  | zero => intro w_x0 x0 e_x0 t_x0 w_x1 x1 e_x1 r_x1 w_x2 x2 e_x2 r_x2 S M h hv; exact hv.elim
  | succ n ih =>
    intro w_x0 x0 e_x0 t_x0 w_x1 x1 e_x1 r_x1 w_x2 x2 e_x2 r_x2 S M h hv
    subst e_x0
    subst e_x1
    subst e_x2
    unfold vMo_logCount_4 at hv
    unfold wMo_logCount_4
    refine g_fI h t_x0 rfl rfl ?_
    refine ek_if (c_le (show _ = Int32.ofInt (S x0 14) from rfl) (show _ = Int32.ofInt x2 from rfl) (g_rf (j := 14) h t_x0 rfl rfl) r_x2) (fun g1 => ?_) (fun g1 => ?_)
    · replace hv := hv.1 g1
      refine ek_v (P := fun y => post y _) (show _ = Int32.ofInt x1 from rfl) ?_
      exact hp _ _ _ h r_x1 hv
    · replace hv := hv.2 g1
      refine ⟨g_ob h t_x0, ?_⟩
      refine apMo_countOf (fun r2 S3 N4 h5 r6 hv => ?_) rfl t_x0 (show _ = Int32.ofInt x2 from rfl) r_x2 h hv
      obtain ⟨c7, hv⟩ := hv
      refine nm_z (h_add (show _ = Int32.ofInt x1 from rfl) (show _ = Int32.ofInt r2 from rfl)) (fun z9 e8 => ?_)
      have r9 : rI z9 := by rw [e8]; exact c7
      replace hv := hv z9 e8
      obtain ⟨c10, hv⟩ := hv
      refine nm_z (h_add (show _ = Int32.ofInt x2 from rfl) LI_1) (fun z10 e11 => ?_)
      have r12 : rI z10 := by rw [e11]; exact c10
      replace hv := hv z10 e11
      exact ih _ _ rfl t_x0 _ _ (show _ = Int32.ofInt z9 from rfl) r9 _ _ (show _ = Int32.ofInt z10 from rfl) r12 _ _ h5 hv
def vpMo_logCount (self : Int) (S : St) (Q : Int → St → Prop) : Prop := (∃ n11 : Nat, (vMo_logCount_4 Q n11 self 0 0 S))
theorem apMo_logCount {ad : Int → Nat} {Q : Int → St → Prop} {post : Int32 → Hp → Prop} (hp : ∀ (r : Int) (S : St) (M : Hp), US ad S M → rI r → Q r S → post (Int32.ofInt r) M) {w_self : Nat} {self : Int} (e_self : w_self = ad self) (t_self : kt (20 + 6) self) {S : St} {M : Hp} (h : US ad S M) (hv : vpMo_logCount self S Q) : wpMo_logCount w_self M post := by
  subst e_self
  unfold vpMo_logCount at hv
  unfold wpMo_logCount
  obtain ⟨n11, hv⟩ := hv
  refine ⟨n11, ?_⟩
  exact aMo_logCount_4 hp  n11 _ _ rfl t_self _ _ LI_0 LI_0r _ _ LI_0 LI_0r _ _ h hv
def vMo_run_7 (Q : Int → St → Prop) : Nat → Int → Int → St → Prop
  | 0 => fun _ _ _ => False
  | n + 1 => fun x0 x1 S => (((8 ≤ x1 → (vpMo_plan x0 S (fun (r2 : Int) (S3 : St) => (∀ S7 : St, S7 = up S3 x0 35 r2 → (∀ S11 : St, S11 = up S7 x0 34 0 → (∀ S15 : St, S15 = up S11 x0 33 1 → (vpMo_logCount x0 S15 (fun (r19 : Int) (S20 : St) => (Q r19 S20))))))))) ∧ (¬ 8 ≤ x1 → (((0 : Int) ≤ x1 ∧ (x1 : Int) < 8) ∧ ∀ S25 : St, S25 = up S 23 x1 0 → (((0 : Int) ≤ x1 ∧ (x1 : Int) < 8) ∧ ∀ S30 : St, S30 = up S25 24 x1 0 → ((rI (x1 + 1)) ∧ ∀ z38 : Int, z38 = (x1 + 1) → (vMo_run_7 Q n x0 z38 S30)))))))
theorem aMo_run_7 {ad : Int → Nat} {Q : Int → St → Prop} {post : Int32 → Hp → Prop} (hp : ∀ (r : Int) (S : St) (M : Hp), US ad S M → rI r → Q r S → post (Int32.ofInt r) M) : ∀ (n : Nat) (w_x0 : Nat) (x0 : Int) (e_x0 : w_x0 = ad x0) (t_x0 : kt (20 + 6) x0) (w_x1 : Int32) (x1 : Int) (e_x1 : w_x1 = Int32.ofInt x1) (r_x1 : rI x1) (S : St) (M : Hp), US ad S M → vMo_run_7 Q n x0 x1 S → wMo_run_7 post n w_x0 w_x1 M := by
  intro n
  induction n with
  | zero => intro w_x0 x0 e_x0 t_x0 w_x1 x1 e_x1 r_x1 S M h hv; exact hv.elim
  | succ n ih =>
    intro w_x0 x0 e_x0 t_x0 w_x1 x1 e_x1 r_x1 S M h hv
    subst e_x0
    subst e_x1
    unfold vMo_run_7 at hv
    unfold wMo_run_7
    refine ek_if (c_le LI_8 (show _ = Int32.ofInt x1 from rfl) LI_8r r_x1) (fun g1 => ?_) (fun g1 => ?_)
    · replace hv := hv.1 g1
      refine ⟨g_ob h t_x0, ?_⟩
      refine apMo_plan (fun r2 S3 N4 h5 r6 hv => ?_) rfl t_x0 h hv
      refine g_pJ h5 t_x0 rfl rfl (show _ = Int64.ofInt r2 from rfl) r6 (fun S7 N8 e10 h9 => ?_)
      replace hv := hv S7 e10
      refine g_pI h9 t_x0 rfl rfl LI_0 LI_0r (fun S11 N12 e14 h13 => ?_)
      replace hv := hv S11 e14
      refine g_pI h13 t_x0 rfl rfl LI_1 LI_1r (fun S15 N16 e18 h17 => ?_)
      replace hv := hv S15 e18
      refine ⟨g_ob h17 t_x0, ?_⟩
      refine apMo_logCount (fun r19 S20 N21 h22 r23 hv => ?_) rfl t_x0 h17 hv
      refine ek_v (P := fun y => post y _) (show _ = Int32.ofInt r19 from rfl) ?_
      exact hp _ _ _ h22 r23 hv
    · replace hv := hv.2 g1
      refine g_fA h t_x0 rfl (rv_6_23 t_x0) ?_
      obtain ⟨c24, hv⟩ := hv
      refine g_sJ h (show kt 3 23 by decide) (show alen 23 = 8 by decide) (show _ = Int32.ofInt x1 from rfl) c24 LJ_0 LJ_0r (fun S25 N26 e28 h27 => ?_)
      replace hv := hv S25 e28
      refine g_fA h27 t_x0 rfl (rv_6_24 t_x0) ?_
      obtain ⟨c29, hv⟩ := hv
      refine g_sJ h27 (show kt 3 24 by decide) (show alen 24 = 8 by decide) (show _ = Int32.ofInt x1 from rfl) c29 LJ_0 LJ_0r (fun S30 N31 e33 h32 => ?_)
      replace hv := hv S30 e33
      obtain ⟨c34, hv⟩ := hv
      refine nm_z (h_add (show _ = Int32.ofInt x1 from rfl) LI_1) (fun z38 e35 => ?_)
      have r36 : rI z38 := by rw [e35]; exact c34
      replace hv := hv z38 e35
      exact ih _ _ rfl t_x0 _ _ (show _ = Int32.ofInt z38 from rfl) r36 _ _ h32 hv
def vpMo_run (self : Int) (S : St) (Q : Int → St → Prop) : Prop := (∀ S1 : St, S1 = up S self 0 0 → (∃ n43 : Nat, (vMo_run_7 Q n43 self 0 S1)))
theorem apMo_run {ad : Int → Nat} {Q : Int → St → Prop} {post : Int32 → Hp → Prop} (hp : ∀ (r : Int) (S : St) (M : Hp), US ad S M → rI r → Q r S → post (Int32.ofInt r) M) {w_self : Nat} {self : Int} (e_self : w_self = ad self) (t_self : kt (20 + 6) self) {S : St} {M : Hp} (h : US ad S M) (hv : vpMo_run self S Q) : wpMo_run w_self M post := by
  subst e_self
  unfold vpMo_run at hv
  unfold wpMo_run
  refine g_pI h t_self rfl rfl LI_0 LI_0r (fun S1 N2 e4 h3 => ?_)
  replace hv := hv S1 e4
  obtain ⟨n43, hv⟩ := hv
  refine ⟨n43, ?_⟩
  exact aMo_run_7 hp  n43 _ _ rfl t_self _ _ LI_0 LI_0r _ _ h3 hv
def vMo_copy_2 (Q : St → Prop) : Nat → Int → Int → Int → St → Prop
  | 0 => fun _ _ _ _ => False
  | n + 1 => fun x1 x2 x3 S => (((486 ≤ x3 → (Q S)) ∧ (¬ 486 ≤ x3 → (((0 : Int) ≤ x3 ∧ (x3 : Int) < (alen x1)) ∧ (((0 : Int) ≤ x3 ∧ (x3 : Int) < (alen x2)) ∧ ∀ S4 : St, S4 = up S x2 x3 (S x1 x3) → ((rI (x3 + 1)) ∧ ∀ z12 : Int, z12 = (x3 + 1) → (vMo_copy_2 Q n x1 x2 z12 S4)))))))
theorem aMo_copy_2 {ad : Int → Nat} {Q : St → Prop} {post : Hp → Prop} (hp : ∀ (S : St) (M : Hp), US ad S M → Q S → post M) : ∀ (n : Nat) (w_x1 : Nat) (x1 : Int) (e_x1 : w_x1 = ad x1) (t_x1 : kt 1 x1) (w_x2 : Nat) (x2 : Int) (e_x2 : w_x2 = ad x2) (t_x2 : kt 1 x2) (w_x3 : Int32) (x3 : Int) (e_x3 : w_x3 = Int32.ofInt x3) (r_x3 : rI x3) (S : St) (M : Hp), US ad S M → vMo_copy_2 Q n x1 x2 x3 S → wMo_copy_2 post n w_x1 w_x2 w_x3 M := by
  intro n
  induction n with
  | zero => intro w_x1 x1 e_x1 t_x1 w_x2 x2 e_x2 t_x2 w_x3 x3 e_x3 r_x3 S M h hv; exact hv.elim
  | succ n ih =>
    intro w_x1 x1 e_x1 t_x1 w_x2 x2 e_x2 t_x2 w_x3 x3 e_x3 r_x3 S M h hv
    subst e_x1
    subst e_x2
    subst e_x3
    unfold vMo_copy_2 at hv
    unfold wMo_copy_2
    refine ek_if (c_le LI_486 (show _ = Int32.ofInt x3 from rfl) LI_486r r_x3) (fun g1 => ?_) (fun g1 => ?_)
    · replace hv := hv.1 g1
      exact hp _ _ h hv
    · replace hv := hv.2 g1
      obtain ⟨c2, hv⟩ := hv
      refine g_aI h t_x1 rfl (show _ = Int32.ofInt x3 from rfl) c2 ?_
      obtain ⟨c3, hv⟩ := hv
      refine g_sI h t_x2 rfl (show _ = Int32.ofInt x3 from rfl) c3 (show _ = Int32.ofInt (S x1 x3) from rfl) (g_rI h t_x1 (by decide)) (fun S4 N5 e7 h6 => ?_)
      replace hv := hv S4 e7
      obtain ⟨c8, hv⟩ := hv
      refine nm_z (h_add (show _ = Int32.ofInt x3 from rfl) LI_1) (fun z12 e9 => ?_)
      have r10 : rI z12 := by rw [e9]; exact c8
      replace hv := hv z12 e9
      exact ih _ _ rfl t_x1 _ _ rfl t_x2 _ _ (show _ = Int32.ofInt z12 from rfl) r10 _ _ h6 hv
def vpMo_copy (self : Int) (p0 : Int) (p1 : Int) (S : St) (Q : St → Prop) : Prop := (∃ n13 : Nat, (vMo_copy_2 Q n13 p0 p1 0 S))
theorem apMo_copy {ad : Int → Nat} {Q : St → Prop} {post : Hp → Prop} (hp : ∀ (S : St) (M : Hp), US ad S M → Q S → post M) {w_self : Nat} {self : Int} (e_self : w_self = ad self) (t_self : kt (20 + 6) self) {w_p0 : Nat} {p0 : Int} (e_p0 : w_p0 = ad p0) (t_p0 : kt 1 p0) {w_p1 : Nat} {p1 : Int} (e_p1 : w_p1 = ad p1) (t_p1 : kt 1 p1) {S : St} {M : Hp} (h : US ad S M) (hv : vpMo_copy self p0 p1 S Q) : wpMo_copy w_self w_p0 w_p1 M post := by
  subst e_self
  subst e_p0
  subst e_p1
  unfold vpMo_copy at hv
  unfold wpMo_copy
  obtain ⟨n13, hv⟩ := hv
  refine ⟨n13, ?_⟩
  exact aMo_copy_2 hp  n13 _ _ rfl t_p0 _ _ rfl t_p1 _ _ LI_0 LI_0r _ _ h hv
def vMo_allHold_48 (Q : Int → St → Prop) (K4 : Int → Int → Int → St → Prop) (x0 : Int) (x2 : Int) (y0 : Int) (S : St) : Prop := ((rI (x2 + 1)) ∧ ∀ z1 : Int, z1 = (x2 + 1) → (K4 x0 y0 z1 S))
theorem aMo_allHold_48 {ad : Int → Nat} {Q : Int → St → Prop} {K4 : Int → Int → Int → St → Prop} {post : Int32 → Hp → Prop} {k4 : Nat → Int32 → Int32 → Hp → Prop} (hp : ∀ (r : Int) (S : St) (M : Hp), US ad S M → rI r → Q r S → post (Int32.ofInt r) M) (hk4 : ∀ (b0 b1 b2 : Int) (S : St) (M : Hp), kt (20 + 6) b0 → rI b1 → rI b2 → US ad S M → K4 b0 b1 b2 S → k4 (ad b0) (Int32.ofInt b1) (Int32.ofInt b2) M) {w_x0 : Nat} {x0 : Int} (e_x0 : w_x0 = ad x0) (t_x0 : kt (20 + 6) x0) {w_x2 : Int32} {x2 : Int} (e_x2 : w_x2 = Int32.ofInt x2) (r_x2 : rI x2) {w_y0 : Int32} {y0 : Int} (e_y0 : w_y0 = Int32.ofInt y0) (r_y0 : rI y0) {S : St} {M : Hp} (h : US ad S M) (hv : vMo_allHold_48 Q K4 x0 x2 y0 S) : wMo_allHold_48 post k4 w_x0 w_x2 w_y0 M := by
  subst e_x0
  subst e_x2
  subst e_y0
  unfold vMo_allHold_48 at hv
  unfold wMo_allHold_48
  obtain ⟨c1, hv⟩ := hv
  refine nm_z (h_add (show _ = Int32.ofInt x2 from rfl) LI_1) (fun z1 e2 => ?_)
  have r3 : rI z1 := by rw [e2]; exact c1
  replace hv := hv z1 e2
  exact hk4 _ _ _ _ _ t_x0 r_y0 r3 h hv
def vMo_allHold_47 (Q : Int → St → Prop) (K4 : Int → Int → Int → St → Prop) (x0 : Int) (x2 : Int) (S : St) : Prop := (vMo_allHold_48 Q K4 x0 x2 0 S)
theorem aMo_allHold_47 {ad : Int → Nat} {Q : Int → St → Prop} {K4 : Int → Int → Int → St → Prop} {post : Int32 → Hp → Prop} {k4 : Nat → Int32 → Int32 → Hp → Prop} (hp : ∀ (r : Int) (S : St) (M : Hp), US ad S M → rI r → Q r S → post (Int32.ofInt r) M) (hk4 : ∀ (b0 b1 b2 : Int) (S : St) (M : Hp), kt (20 + 6) b0 → rI b1 → rI b2 → US ad S M → K4 b0 b1 b2 S → k4 (ad b0) (Int32.ofInt b1) (Int32.ofInt b2) M) {w_x0 : Nat} {x0 : Int} (e_x0 : w_x0 = ad x0) (t_x0 : kt (20 + 6) x0) {w_x2 : Int32} {x2 : Int} (e_x2 : w_x2 = Int32.ofInt x2) (r_x2 : rI x2) {S : St} {M : Hp} (h : US ad S M) (hv : vMo_allHold_47 Q K4 x0 x2 S) : wMo_allHold_47 post k4 w_x0 w_x2 M := by
  subst e_x0
  subst e_x2
  unfold vMo_allHold_47 at hv
  unfold wMo_allHold_47
  exact aMo_allHold_48 hp hk4 rfl t_x0 (show _ = Int32.ofInt x2 from rfl) r_x2 LI_0 LI_0r h hv
def vMo_allHold_43 (Q : Int → St → Prop) (K4 : Int → Int → Int → St → Prop) (x0 : Int) (x2 : Int) (S : St) : Prop := (vMo_allHold_48 Q K4 x0 x2 1 S)
theorem aMo_allHold_43 {ad : Int → Nat} {Q : Int → St → Prop} {K4 : Int → Int → Int → St → Prop} {post : Int32 → Hp → Prop} {k4 : Nat → Int32 → Int32 → Hp → Prop} (hp : ∀ (r : Int) (S : St) (M : Hp), US ad S M → rI r → Q r S → post (Int32.ofInt r) M) (hk4 : ∀ (b0 b1 b2 : Int) (S : St) (M : Hp), kt (20 + 6) b0 → rI b1 → rI b2 → US ad S M → K4 b0 b1 b2 S → k4 (ad b0) (Int32.ofInt b1) (Int32.ofInt b2) M) {w_x0 : Nat} {x0 : Int} (e_x0 : w_x0 = ad x0) (t_x0 : kt (20 + 6) x0) {w_x2 : Int32} {x2 : Int} (e_x2 : w_x2 = Int32.ofInt x2) (r_x2 : rI x2) {S : St} {M : Hp} (h : US ad S M) (hv : vMo_allHold_43 Q K4 x0 x2 S) : wMo_allHold_43 post k4 w_x0 w_x2 M := by
  subst e_x0
  subst e_x2
  unfold vMo_allHold_43 at hv
  unfold wMo_allHold_43
  exact aMo_allHold_48 hp hk4 rfl t_x0 (show _ = Int32.ofInt x2 from rfl) r_x2 LI_1 LI_1r h hv
def vMo_allHold_4 (Q : Int → St → Prop) : Nat → Int → Int → Int → St → Prop
  | 0 => fun _ _ _ _ => False
  | n + 1 => fun x0 x1 x2 S => ((((S x0 14) ≤ x2 → (((x1 : Int) = 0 ∨ (x1 : Int) = 1) ∧ (Q x1 S))) ∧ (¬ (S x0 14) ≤ x2 → (((x1 = 0 → (vMo_allHold_47 Q (vMo_allHold_4 Q n) x0 x2 S)) ∧ (¬ x1 = 0 → (((0 : Int) ≤ x2 ∧ (x2 : Int) < 8) ∧ ((((S 21 x2) < 0 → (vMo_allHold_43 Q (vMo_allHold_4 Q n) x0 x2 S)) ∧ (¬ (S 21 x2) < 0 → (vpMo_countOf x0 x2 S (fun (r5 : Int) (S6 : St) => (((0 : Int) ≤ x2 ∧ (x2 : Int) < 8) ∧ ((((S6 21 x2) < r5 → (vMo_allHold_47 Q (vMo_allHold_4 Q n) x0 x2 S6)) ∧ (¬ (S6 21 x2) < r5 → (vMo_allHold_43 Q (vMo_allHold_4 Q n) x0 x2 S6)))))))))))))))))
theorem aMo_allHold_4 {ad : Int → Nat} {Q : Int → St → Prop} {post : Int32 → Hp → Prop} (hp : ∀ (r : Int) (S : St) (M : Hp), US ad S M → rI r → Q r S → post (Int32.ofInt r) M) : ∀ (n : Nat) (w_x0 : Nat) (x0 : Int) (e_x0 : w_x0 = ad x0) (t_x0 : kt (20 + 6) x0) (w_x1 : Int32) (x1 : Int) (e_x1 : w_x1 = Int32.ofInt x1) (r_x1 : rI x1) (w_x2 : Int32) (x2 : Int) (e_x2 : w_x2 = Int32.ofInt x2) (r_x2 : rI x2) (S : St) (M : Hp), US ad S M → vMo_allHold_4 Q n x0 x1 x2 S → wMo_allHold_4 post n w_x0 w_x1 w_x2 M := by
  intro n
  induction n with
  | zero => intro w_x0 x0 e_x0 t_x0 w_x1 x1 e_x1 r_x1 w_x2 x2 e_x2 r_x2 S M h hv; exact hv.elim
  | succ n ih =>
    intro w_x0 x0 e_x0 t_x0 w_x1 x1 e_x1 r_x1 w_x2 x2 e_x2 r_x2 S M h hv
    subst e_x0
    subst e_x1
    subst e_x2
    unfold vMo_allHold_4 at hv
    unfold wMo_allHold_4
    refine g_fI h t_x0 rfl rfl ?_
    refine ek_if (c_le (show _ = Int32.ofInt (S x0 14) from rfl) (show _ = Int32.ofInt x2 from rfl) (g_rf (j := 14) h t_x0 rfl rfl) r_x2) (fun g1 => ?_) (fun g1 => ?_)
    · replace hv := hv.1 g1
      refine ⟨b01 (show _ = Int32.ofInt x1 from rfl) hv.1, ?_⟩
      replace hv := hv.2
      refine ek_v (P := fun y => post y _) (show _ = Int32.ofInt x1 from rfl) ?_
      exact hp _ _ _ h r_x1 hv
    · replace hv := hv.2 g1
      refine ek_if (c_eq (show _ = Int32.ofInt x1 from rfl) LI_0 r_x1 LI_0r) (fun g2 => ?_) (fun g2 => ?_)
      · replace hv := hv.1 g2
        exact aMo_allHold_47 hp (fun b0 b1 b2 S9 M9 y0 y1 y2 h9 hv9 => ih _ b0 rfl y0 _ b1 rfl y1 _ b2 rfl y2 S9 M9 h9 hv9) rfl t_x0 (show _ = Int32.ofInt x2 from rfl) r_x2 h hv
      · replace hv := hv.2 g2
        refine g_fA h t_x0 rfl (rv_6_21 t_x0) ?_
        obtain ⟨c3, hv⟩ := hv
        refine g_aJ h (show kt 3 21 by decide) (show alen 21 = 8 by decide) (show _ = Int32.ofInt x2 from rfl) c3 ?_
        refine ek_if (C_lt (show _ = Int64.ofInt (S 21 x2) from rfl) LJ_0 (g_rJ h (show kt 3 21 by decide)) LJ_0r) (fun g4 => ?_) (fun g4 => ?_)
        · replace hv := hv.1 g4
          exact aMo_allHold_43 hp (fun b0 b1 b2 S9 M9 y0 y1 y2 h9 hv9 => ih _ b0 rfl y0 _ b1 rfl y1 _ b2 rfl y2 S9 M9 h9 hv9) rfl t_x0 (show _ = Int32.ofInt x2 from rfl) r_x2 h hv
        · replace hv := hv.2 g4
          refine ⟨g_ob h t_x0, ?_⟩
          refine apMo_countOf (fun r5 S6 N7 h8 r9 hv => ?_) rfl t_x0 (show _ = Int32.ofInt x2 from rfl) r_x2 h hv
          refine g_fA h8 t_x0 rfl (rv_6_21 t_x0) ?_
          obtain ⟨c10, hv⟩ := hv
          refine g_aJ h8 (show kt 3 21 by decide) (show alen 21 = 8 by decide) (show _ = Int32.ofInt x2 from rfl) c10 ?_
          refine ek_if (C_lt (show _ = Int64.ofInt (S6 21 x2) from rfl) (h_toL (show _ = Int32.ofInt r5 from rfl) r9) (g_rJ h8 (show kt 3 21 by decide)) (rI_J r9)) (fun g11 => ?_) (fun g11 => ?_)
          · replace hv := hv.1 g11
            exact aMo_allHold_47 hp (fun b0 b1 b2 S9 M9 y0 y1 y2 h9 hv9 => ih _ b0 rfl y0 _ b1 rfl y1 _ b2 rfl y2 S9 M9 h9 hv9) rfl t_x0 (show _ = Int32.ofInt x2 from rfl) r_x2 h8 hv
          · replace hv := hv.2 g11
            exact aMo_allHold_43 hp (fun b0 b1 b2 S9 M9 y0 y1 y2 h9 hv9 => ih _ b0 rfl y0 _ b1 rfl y1 _ b2 rfl y2 S9 M9 h9 hv9) rfl t_x0 (show _ = Int32.ofInt x2 from rfl) r_x2 h8 hv
def vpMo_allHold (self : Int) (S : St) (Q : Int → St → Prop) : Prop := (∃ n32 : Nat, (vMo_allHold_4 Q n32 self 1 0 S))
theorem apMo_allHold {ad : Int → Nat} {Q : Int → St → Prop} {post : Int32 → Hp → Prop} (hp : ∀ (r : Int) (S : St) (M : Hp), US ad S M → rI r → Q r S → post (Int32.ofInt r) M) {w_self : Nat} {self : Int} (e_self : w_self = ad self) (t_self : kt (20 + 6) self) {S : St} {M : Hp} (h : US ad S M) (hv : vpMo_allHold self S Q) : wpMo_allHold w_self M post := by
  subst e_self
  unfold vpMo_allHold at hv
  unfold wpMo_allHold
  obtain ⟨n32, hv⟩ := hv
  refine ⟨n32, ?_⟩
  exact aMo_allHold_4 hp  n32 _ _ rfl t_self _ _ LI_1 LI_1r _ _ LI_0 LI_0r _ _ h hv
def vMo_isSettled_51 (Q : Int → St → Prop) (K7 : Int → Int → Int → St → Prop) (x0 : Int) (x2 : Int) (y0 : Int) (S : St) : Prop := ((rI (x2 + 1)) ∧ ∀ z1 : Int, z1 = (x2 + 1) → (K7 x0 y0 z1 S))
theorem aMo_isSettled_51 {ad : Int → Nat} {Q : Int → St → Prop} {K7 : Int → Int → Int → St → Prop} {post : Int32 → Hp → Prop} {k7 : Nat → Int32 → Int32 → Hp → Prop} (hp : ∀ (r : Int) (S : St) (M : Hp), US ad S M → rI r → Q r S → post (Int32.ofInt r) M) (hk7 : ∀ (b0 b1 b2 : Int) (S : St) (M : Hp), kt (20 + 6) b0 → rI b1 → rI b2 → US ad S M → K7 b0 b1 b2 S → k7 (ad b0) (Int32.ofInt b1) (Int32.ofInt b2) M) {w_x0 : Nat} {x0 : Int} (e_x0 : w_x0 = ad x0) (t_x0 : kt (20 + 6) x0) {w_x2 : Int32} {x2 : Int} (e_x2 : w_x2 = Int32.ofInt x2) (r_x2 : rI x2) {w_y0 : Int32} {y0 : Int} (e_y0 : w_y0 = Int32.ofInt y0) (r_y0 : rI y0) {S : St} {M : Hp} (h : US ad S M) (hv : vMo_isSettled_51 Q K7 x0 x2 y0 S) : wMo_isSettled_51 post k7 w_x0 w_x2 w_y0 M := by
  subst e_x0
  subst e_x2
  subst e_y0
  unfold vMo_isSettled_51 at hv
  unfold wMo_isSettled_51
  obtain ⟨c1, hv⟩ := hv
  refine nm_z (h_add (show _ = Int32.ofInt x2 from rfl) LI_1) (fun z1 e2 => ?_)
  have r3 : rI z1 := by rw [e2]; exact c1
  replace hv := hv z1 e2
  exact hk7 _ _ _ _ _ t_x0 r_y0 r3 h hv
def vMo_isSettled_50 (Q : Int → St → Prop) (K7 : Int → Int → Int → St → Prop) (x0 : Int) (x2 : Int) (S : St) : Prop := (vMo_isSettled_51 Q K7 x0 x2 0 S)
theorem aMo_isSettled_50 {ad : Int → Nat} {Q : Int → St → Prop} {K7 : Int → Int → Int → St → Prop} {post : Int32 → Hp → Prop} {k7 : Nat → Int32 → Int32 → Hp → Prop} (hp : ∀ (r : Int) (S : St) (M : Hp), US ad S M → rI r → Q r S → post (Int32.ofInt r) M) (hk7 : ∀ (b0 b1 b2 : Int) (S : St) (M : Hp), kt (20 + 6) b0 → rI b1 → rI b2 → US ad S M → K7 b0 b1 b2 S → k7 (ad b0) (Int32.ofInt b1) (Int32.ofInt b2) M) {w_x0 : Nat} {x0 : Int} (e_x0 : w_x0 = ad x0) (t_x0 : kt (20 + 6) x0) {w_x2 : Int32} {x2 : Int} (e_x2 : w_x2 = Int32.ofInt x2) (r_x2 : rI x2) {S : St} {M : Hp} (h : US ad S M) (hv : vMo_isSettled_50 Q K7 x0 x2 S) : wMo_isSettled_50 post k7 w_x0 w_x2 M := by
  subst e_x0
  subst e_x2
  unfold vMo_isSettled_50 at hv
  unfold wMo_isSettled_50
  exact aMo_isSettled_51 hp hk7 rfl t_x0 (show _ = Int32.ofInt x2 from rfl) r_x2 LI_0 LI_0r h hv
def vMo_isSettled_46 (Q : Int → St → Prop) (K7 : Int → Int → Int → St → Prop) (x0 : Int) (x2 : Int) (S : St) : Prop := (vMo_isSettled_51 Q K7 x0 x2 1 S)
theorem aMo_isSettled_46 {ad : Int → Nat} {Q : Int → St → Prop} {K7 : Int → Int → Int → St → Prop} {post : Int32 → Hp → Prop} {k7 : Nat → Int32 → Int32 → Hp → Prop} (hp : ∀ (r : Int) (S : St) (M : Hp), US ad S M → rI r → Q r S → post (Int32.ofInt r) M) (hk7 : ∀ (b0 b1 b2 : Int) (S : St) (M : Hp), kt (20 + 6) b0 → rI b1 → rI b2 → US ad S M → K7 b0 b1 b2 S → k7 (ad b0) (Int32.ofInt b1) (Int32.ofInt b2) M) {w_x0 : Nat} {x0 : Int} (e_x0 : w_x0 = ad x0) (t_x0 : kt (20 + 6) x0) {w_x2 : Int32} {x2 : Int} (e_x2 : w_x2 = Int32.ofInt x2) (r_x2 : rI x2) {S : St} {M : Hp} (h : US ad S M) (hv : vMo_isSettled_46 Q K7 x0 x2 S) : wMo_isSettled_46 post k7 w_x0 w_x2 M := by
  subst e_x0
  subst e_x2
  unfold vMo_isSettled_46 at hv
  unfold wMo_isSettled_46
  exact aMo_isSettled_51 hp hk7 rfl t_x0 (show _ = Int32.ofInt x2 from rfl) r_x2 LI_1 LI_1r h hv
def vMo_isSettled_7 (Q : Int → St → Prop) : Nat → Int → Int → Int → St → Prop
  | 0 => fun _ _ _ _ => False
  | n + 1 => fun x0 x1 x2 S => ((((S x0 14) ≤ x2 → (((x1 : Int) = 0 ∨ (x1 : Int) = 1) ∧ (Q x1 S))) ∧ (¬ (S x0 14) ≤ x2 → (((x1 = 0 → (vMo_isSettled_50 Q (vMo_isSettled_7 Q n) x0 x2 S)) ∧ (¬ x1 = 0 → (((0 : Int) ≤ x2 ∧ (x2 : Int) < 8) ∧ ((((S 23 x2) = 0 → (vMo_isSettled_46 Q (vMo_isSettled_7 Q n) x0 x2 S)) ∧ (¬ (S 23 x2) = 0 → (vpMo_countOf x0 x2 S (fun (r5 : Int) (S6 : St) => (((0 : Int) ≤ x2 ∧ (x2 : Int) < 8) ∧ (((r5 = (S6 21 x2) → (vMo_isSettled_46 Q (vMo_isSettled_7 Q n) x0 x2 S6)) ∧ (¬ r5 = (S6 21 x2) → (vMo_isSettled_50 Q (vMo_isSettled_7 Q n) x0 x2 S6)))))))))))))))))
theorem aMo_isSettled_7 {ad : Int → Nat} {Q : Int → St → Prop} {post : Int32 → Hp → Prop} (hp : ∀ (r : Int) (S : St) (M : Hp), US ad S M → rI r → Q r S → post (Int32.ofInt r) M) : ∀ (n : Nat) (w_x0 : Nat) (x0 : Int) (e_x0 : w_x0 = ad x0) (t_x0 : kt (20 + 6) x0) (w_x1 : Int32) (x1 : Int) (e_x1 : w_x1 = Int32.ofInt x1) (r_x1 : rI x1) (w_x2 : Int32) (x2 : Int) (e_x2 : w_x2 = Int32.ofInt x2) (r_x2 : rI x2) (S : St) (M : Hp), US ad S M → vMo_isSettled_7 Q n x0 x1 x2 S → wMo_isSettled_7 post n w_x0 w_x1 w_x2 M := by
  intro n
  induction n with
  | zero => intro w_x0 x0 e_x0 t_x0 w_x1 x1 e_x1 r_x1 w_x2 x2 e_x2 r_x2 S M h hv; exact hv.elim
  | succ n ih =>
    intro w_x0 x0 e_x0 t_x0 w_x1 x1 e_x1 r_x1 w_x2 x2 e_x2 r_x2 S M h hv
    subst e_x0
    subst e_x1
    subst e_x2
    unfold vMo_isSettled_7 at hv
    unfold wMo_isSettled_7
    refine g_fI h t_x0 rfl rfl ?_
    refine ek_if (c_le (show _ = Int32.ofInt (S x0 14) from rfl) (show _ = Int32.ofInt x2 from rfl) (g_rf (j := 14) h t_x0 rfl rfl) r_x2) (fun g1 => ?_) (fun g1 => ?_)
    · replace hv := hv.1 g1
      refine ⟨b01 (show _ = Int32.ofInt x1 from rfl) hv.1, ?_⟩
      replace hv := hv.2
      refine ek_v (P := fun y => post y _) (show _ = Int32.ofInt x1 from rfl) ?_
      exact hp _ _ _ h r_x1 hv
    · replace hv := hv.2 g1
      refine ek_if (c_eq (show _ = Int32.ofInt x1 from rfl) LI_0 r_x1 LI_0r) (fun g2 => ?_) (fun g2 => ?_)
      · replace hv := hv.1 g2
        exact aMo_isSettled_50 hp (fun b0 b1 b2 S9 M9 y0 y1 y2 h9 hv9 => ih _ b0 rfl y0 _ b1 rfl y1 _ b2 rfl y2 S9 M9 h9 hv9) rfl t_x0 (show _ = Int32.ofInt x2 from rfl) r_x2 h hv
      · replace hv := hv.2 g2
        refine g_fA h t_x0 rfl (rv_6_23 t_x0) ?_
        obtain ⟨c3, hv⟩ := hv
        refine g_aJ h (show kt 3 23 by decide) (show alen 23 = 8 by decide) (show _ = Int32.ofInt x2 from rfl) c3 ?_
        refine ek_if (C_eq (show _ = Int64.ofInt (S 23 x2) from rfl) LJ_0 (g_rJ h (show kt 3 23 by decide)) LJ_0r) (fun g4 => ?_) (fun g4 => ?_)
        · replace hv := hv.1 g4
          exact aMo_isSettled_46 hp (fun b0 b1 b2 S9 M9 y0 y1 y2 h9 hv9 => ih _ b0 rfl y0 _ b1 rfl y1 _ b2 rfl y2 S9 M9 h9 hv9) rfl t_x0 (show _ = Int32.ofInt x2 from rfl) r_x2 h hv
        · replace hv := hv.2 g4
          refine ⟨g_ob h t_x0, ?_⟩
          refine apMo_countOf (fun r5 S6 N7 h8 r9 hv => ?_) rfl t_x0 (show _ = Int32.ofInt x2 from rfl) r_x2 h hv
          refine g_fA h8 t_x0 rfl (rv_6_21 t_x0) ?_
          obtain ⟨c10, hv⟩ := hv
          refine g_aJ h8 (show kt 3 21 by decide) (show alen 21 = 8 by decide) (show _ = Int32.ofInt x2 from rfl) c10 ?_
          refine ek_if (C_eq (h_toL (show _ = Int32.ofInt r5 from rfl) r9) (show _ = Int64.ofInt (S6 21 x2) from rfl) (rI_J r9) (g_rJ h8 (show kt 3 21 by decide))) (fun g11 => ?_) (fun g11 => ?_)
          · replace hv := hv.1 g11
            exact aMo_isSettled_46 hp (fun b0 b1 b2 S9 M9 y0 y1 y2 h9 hv9 => ih _ b0 rfl y0 _ b1 rfl y1 _ b2 rfl y2 S9 M9 h9 hv9) rfl t_x0 (show _ = Int32.ofInt x2 from rfl) r_x2 h8 hv
          · replace hv := hv.2 g11
            exact aMo_isSettled_50 hp (fun b0 b1 b2 S9 M9 y0 y1 y2 h9 hv9 => ih _ b0 rfl y0 _ b1 rfl y1 _ b2 rfl y2 S9 M9 h9 hv9) rfl t_x0 (show _ = Int32.ofInt x2 from rfl) r_x2 h8 hv
def vpMo_isSettled (self : Int) (S : St) (Q : Int → St → Prop) : Prop := (vpMo_allHold self S (fun (r1 : Int) (S2 : St) => (∃ n35 : Nat, (vMo_isSettled_7 Q n35 self r1 0 S2))))
theorem apMo_isSettled {ad : Int → Nat} {Q : Int → St → Prop} {post : Int32 → Hp → Prop} (hp : ∀ (r : Int) (S : St) (M : Hp), US ad S M → rI r → Q r S → post (Int32.ofInt r) M) {w_self : Nat} {self : Int} (e_self : w_self = ad self) (t_self : kt (20 + 6) self) {S : St} {M : Hp} (h : US ad S M) (hv : vpMo_isSettled self S Q) : wpMo_isSettled w_self M post := by
  subst e_self
  unfold vpMo_isSettled at hv
  unfold wpMo_isSettled
  refine ⟨g_ob h t_self, ?_⟩
  refine apMo_allHold (fun r1 S2 N3 h4 r5 hv => ?_) rfl t_self h hv
  obtain ⟨n35, hv⟩ := hv
  refine ⟨n35, ?_⟩
  exact aMo_isSettled_7 hp  n35 _ _ rfl t_self _ _ (show _ = Int32.ofInt r1 from rfl) r5 _ _ LI_0 LI_0r _ _ h4 hv
