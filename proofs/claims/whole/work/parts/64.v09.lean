def vLa_fault_18 (Q : Int → St → Prop) (y0 : Int) (y1 : Int) (y2 : Int) (S : St) : Prop := (((0 : Int) ≤ y1 ∧ (y1 : Int) < (alen y2)) ∧ ∀ S2 : St, S2 = up S y2 y1 y0 → (Q 0 S2))
theorem aLa_fault_18 {ad : Int → Nat} {Q : Int → St → Prop} {post : Int32 → Hp → Prop} (hp : ∀ (r : Int) (S : St) (M : Hp), US ad S M → rI r → Q r S → post (Int32.ofInt r) M) {w_y0 : Int64} {y0 : Int} (e_y0 : w_y0 = Int64.ofInt y0) (r_y0 : rJ y0) {w_y1 : Int32} {y1 : Int} (e_y1 : w_y1 = Int32.ofInt y1) (r_y1 : rI y1) {w_y2 : Nat} {y2 : Int} (e_y2 : w_y2 = ad y2) (t_y2 : kt 3 y2) {S : St} {M : Hp} (h : US ad S M) (hv : vLa_fault_18 Q y0 y1 y2 S) : wLa_fault_18 post w_y0 w_y1 w_y2 M := by
  subst e_y0
  subst e_y1
  subst e_y2
  unfold vLa_fault_18 at hv
  unfold wLa_fault_18
  obtain ⟨c1, hv⟩ := hv
  refine g_sJ h t_y2 rfl (show _ = Int32.ofInt y1 from rfl) c1 (show _ = Int64.ofInt y0 from rfl) r_y0 (fun S2 N3 e5 h4 => ?_)
  replace hv := hv S2 e5
  refine ek_v (P := fun y => post y _) LI_0 ?_
  exact hp _ _ _ h4 LI_0r hv
def vpLa_fault (p0 : Int) (p1 : Int) (p2 : Int) (p3 : Int) (p4 : Int) (S : St) (Q : Int → St → Prop) : Prop := (vpBT_fault p0 p1 p2 p3 S (fun (r1 : Int) (S2 : St) => (((r1 = 0 → (vLa_fault_18 Q 0 0 p4 S2)) ∧ (¬ r1 = 0 → (vLa_fault_18 Q 1 0 p4 S2))))) (fun (E9 : String) (S6 : St) => ((E9 = "java/lang/IllegalStateException" → (Q 1 S6)) ∧ ((E9 = "java/lang/IllegalArgumentException" → (Q 2 S6)) ∧ (E9 = "java/lang/IllegalStateException" ∨ E9 = "java/lang/IllegalArgumentException")))))
theorem apLa_fault {ad : Int → Nat} {Q : Int → St → Prop} {post : Int32 → Hp → Prop} (hp : ∀ (r : Int) (S : St) (M : Hp), US ad S M → rI r → Q r S → post (Int32.ofInt r) M) {w_p0 : Nat} {p0 : Int} (e_p0 : w_p0 = ad p0) (t_p0 : kt (20 + 0) p0) {w_p1 : Int32} {p1 : Int} (e_p1 : w_p1 = Int32.ofInt p1) (r_p1 : rI p1) {w_p2 : Int32} {p2 : Int} (e_p2 : w_p2 = Int32.ofInt p2) (r_p2 : rI p2) {w_p3 : Int32} {p3 : Int} (e_p3 : w_p3 = Int32.ofInt p3) (r_p3 : rI p3) {w_p4 : Nat} {p4 : Int} (e_p4 : w_p4 = ad p4) (t_p4 : kt 3 p4) {S : St} {M : Hp} (h : US ad S M) (hv : vpLa_fault p0 p1 p2 p3 p4 S Q) : wpLa_fault w_p0 w_p1 w_p2 w_p3 w_p4 M post := by
  subst e_p0
  subst e_p1
  subst e_p2
  subst e_p3
  subst e_p4
  unfold vpLa_fault at hv
  unfold wpLa_fault
  refine ⟨g_ob h t_p0, ?_⟩
  refine apBT_fault (fun r1 S2 N3 h4 r5 hv => ?_) (fun E9 S6 N7 h8 hv => ?_) rfl t_p0 (show _ = Int32.ofInt p1 from rfl) r_p1 (show _ = Int32.ofInt p2 from rfl) r_p2 (show _ = Int32.ofInt p3 from rfl) r_p3 h hv
  · skip
    refine ek_if (c_eq (show _ = Int32.ofInt r1 from rfl) LI_0 r5 LI_0r) (fun g9 => ?_) (fun g9 => ?_)
    · replace hv := hv.1 g9
      exact aLa_fault_18 hp  LJ_0 LJ_0r LI_0 LI_0r rfl t_p4 h4 hv
    · replace hv := hv.2 g9
      exact aLa_fault_18 hp  LJ_1 LJ_1r LI_0 LI_0r rfl t_p4 h4 hv
  · skip
    refine ⟨?_, ?_⟩
    · replace hv := hv.1
      intro g10 q9
      replace hv := hv g10
      refine ek_v (P := fun y => post y _) LI_1 ?_
      exact hp _ _ _ h8 LI_1r hv
    · replace hv := hv.2
      refine ⟨?_, ?_⟩
      · replace hv := hv.1
        intro g11 q9
        replace hv := hv g11
        refine ek_v (P := fun y => post y _) LI_2 ?_
        exact hp _ _ _ h8 LI_2r hv
      · replace hv := hv.2
        exact hv
def vpLa_stems (p0 : Int) (p1 : Int) (S : St) (Q : Int → St → Prop) : Prop := (vpBT_stems p0 S (fun (r1 : Int) (S2 : St) => (((0 : Int) ≤ 0 ∧ (0 : Int) < (alen p1)) ∧ ∀ S10 : St, S10 = up S2 p1 0 r1 → (Q 0 S10))) (fun (E9 : String) (S6 : St) => ((E9 = "java/lang/IllegalStateException" → (Q 1 S6)) ∧ (E9 = "java/lang/IllegalStateException"))))
theorem apLa_stems {ad : Int → Nat} {Q : Int → St → Prop} {post : Int32 → Hp → Prop} (hp : ∀ (r : Int) (S : St) (M : Hp), US ad S M → rI r → Q r S → post (Int32.ofInt r) M) {w_p0 : Nat} {p0 : Int} (e_p0 : w_p0 = ad p0) (t_p0 : kt (20 + 0) p0) {w_p1 : Nat} {p1 : Int} (e_p1 : w_p1 = ad p1) (t_p1 : kt 3 p1) {S : St} {M : Hp} (h : US ad S M) (hv : vpLa_stems p0 p1 S Q) : wpLa_stems w_p0 w_p1 M post := by
  subst e_p0
  subst e_p1
  unfold vpLa_stems at hv
  unfold wpLa_stems
  refine ⟨g_ob h t_p0, ?_⟩
  refine apBT_stems (fun r1 S2 N3 h4 r5 hv => ?_) (fun E9 S6 N7 h8 hv => ?_) rfl t_p0 h hv
  · skip
    obtain ⟨c9, hv⟩ := hv
    refine g_sJ h4 t_p1 rfl LI_0 c9 (h_toL (show _ = Int32.ofInt r1 from rfl) r5) (rI_J r5) (fun S10 N11 e13 h12 => ?_)
    replace hv := hv S10 e13
    refine ek_v (P := fun y => post y _) LI_0 ?_
    exact hp _ _ _ h12 LI_0r hv
  · skip
    refine ⟨?_, ?_⟩
    · replace hv := hv.1
      intro g14 q9
      replace hv := hv g14
      refine ek_v (P := fun y => post y _) LI_1 ?_
      exact hp _ _ _ h8 LI_1r hv
    · replace hv := hv.2
      exact hv
def vpLa_product (p0 : Int) (p1 : Int) (p2 : Int) (p3 : Int) (p4 : Int) (p5 : Int) (p6 : Int) (S : St) (Q : Int → St → Prop) : Prop := (vpBT_product p0 p1 p2 p3 p4 p5 S (fun (r1 : Int) (S2 : St) => (((0 : Int) ≤ 0 ∧ (0 : Int) < (alen p6)) ∧ ∀ S10 : St, S10 = up S2 p6 0 r1 → (Q 0 S10))) (fun (E9 : String) (S6 : St) => ((E9 = "java/lang/IllegalStateException" → (Q 1 S6)) ∧ ((E9 = "java/lang/IllegalArgumentException" → (Q 2 S6)) ∧ (E9 = "java/lang/IllegalStateException" ∨ E9 = "java/lang/IllegalArgumentException")))))
theorem apLa_product {ad : Int → Nat} {Q : Int → St → Prop} {post : Int32 → Hp → Prop} (hp : ∀ (r : Int) (S : St) (M : Hp), US ad S M → rI r → Q r S → post (Int32.ofInt r) M) {w_p0 : Nat} {p0 : Int} (e_p0 : w_p0 = ad p0) (t_p0 : kt (20 + 0) p0) {w_p1 : Int32} {p1 : Int} (e_p1 : w_p1 = Int32.ofInt p1) (r_p1 : rI p1) {w_p2 : Int32} {p2 : Int} (e_p2 : w_p2 = Int32.ofInt p2) (r_p2 : rI p2) {w_p3 : Int32} {p3 : Int} (e_p3 : w_p3 = Int32.ofInt p3) (r_p3 : rI p3) {w_p4 : Int32} {p4 : Int} (e_p4 : w_p4 = Int32.ofInt p4) (r_p4 : rI p4) {w_p5 : Int64} {p5 : Int} (e_p5 : w_p5 = Int64.ofInt p5) (r_p5 : rJ p5) {w_p6 : Nat} {p6 : Int} (e_p6 : w_p6 = ad p6) (t_p6 : kt 3 p6) {S : St} {M : Hp} (h : US ad S M) (hv : vpLa_product p0 p1 p2 p3 p4 p5 p6 S Q) : wpLa_product w_p0 w_p1 w_p2 w_p3 w_p4 w_p5 w_p6 M post := by
  subst e_p0
  subst e_p1
  subst e_p2
  subst e_p3
  subst e_p4
  subst e_p5
  subst e_p6
  unfold vpLa_product at hv
  unfold wpLa_product
  refine ⟨g_ob h t_p0, ?_⟩
  refine apBT_product (fun r1 S2 N3 h4 r5 hv => ?_) (fun E9 S6 N7 h8 hv => ?_) rfl t_p0 (show _ = Int32.ofInt p1 from rfl) r_p1 (show _ = Int32.ofInt p2 from rfl) r_p2 (show _ = Int32.ofInt p3 from rfl) r_p3 (show _ = Int32.ofInt p4 from rfl) r_p4 (show _ = Int64.ofInt p5 from rfl) r_p5 h hv
  · skip
    obtain ⟨c9, hv⟩ := hv
    refine g_sJ h4 t_p6 rfl LI_0 c9 (h_toL (show _ = Int32.ofInt r1 from rfl) r5) (rI_J r5) (fun S10 N11 e13 h12 => ?_)
    replace hv := hv S10 e13
    refine ek_v (P := fun y => post y _) LI_0 ?_
    exact hp _ _ _ h12 LI_0r hv
  · skip
    refine ⟨?_, ?_⟩
    · replace hv := hv.1
      intro g14 q9
      replace hv := hv g14
      refine ek_v (P := fun y => post y _) LI_1 ?_
      exact hp _ _ _ h8 LI_1r hv
    · replace hv := hv.2
      refine ⟨?_, ?_⟩
      · replace hv := hv.1
        intro g15 q9
        replace hv := hv g15
        refine ek_v (P := fun y => post y _) LI_2 ?_
        exact hp _ _ _ h8 LI_2r hv
      · replace hv := hv.2
        exact hv
def vLa_bars_16 (Q : Int → St → Prop) (y0 : Int) (y1 : Int) (y2 : Int) (S : St) : Prop := (((0 : Int) ≤ y1 ∧ (y1 : Int) < (alen y2)) ∧ ∀ S2 : St, S2 = up S y2 y1 y0 → (Q 0 S2))
theorem aLa_bars_16 {ad : Int → Nat} {Q : Int → St → Prop} {post : Int32 → Hp → Prop} (hp : ∀ (r : Int) (S : St) (M : Hp), US ad S M → rI r → Q r S → post (Int32.ofInt r) M) {w_y0 : Int64} {y0 : Int} (e_y0 : w_y0 = Int64.ofInt y0) (r_y0 : rJ y0) {w_y1 : Int32} {y1 : Int} (e_y1 : w_y1 = Int32.ofInt y1) (r_y1 : rI y1) {w_y2 : Nat} {y2 : Int} (e_y2 : w_y2 = ad y2) (t_y2 : kt 3 y2) {S : St} {M : Hp} (h : US ad S M) (hv : vLa_bars_16 Q y0 y1 y2 S) : wLa_bars_16 post w_y0 w_y1 w_y2 M := by
  subst e_y0
  subst e_y1
  subst e_y2
  unfold vLa_bars_16 at hv
  unfold wLa_bars_16
  obtain ⟨c1, hv⟩ := hv
  refine g_sJ h t_y2 rfl (show _ = Int32.ofInt y1 from rfl) c1 (show _ = Int64.ofInt y0 from rfl) r_y0 (fun S2 N3 e5 h4 => ?_)
  replace hv := hv S2 e5
  refine ek_v (P := fun y => post y _) LI_0 ?_
  exact hp _ _ _ h4 LI_0r hv
def vpLa_bars (p0 : Int) (p1 : Int) (p2 : Int) (p3 : Int) (S : St) (Q : Int → St → Prop) : Prop := (vpBT_bars p0 p1 p2 S (fun (r1 : Int) (S2 : St) => (((r1 = 0 → (vLa_bars_16 Q 0 0 p3 S2)) ∧ (¬ r1 = 0 → (vLa_bars_16 Q 1 0 p3 S2))))) (fun (E9 : String) (S6 : St) => ((E9 = "java/lang/IndexOutOfBoundsException" → (Q 1 S6)) ∧ ((E9 = "java/lang/IllegalArgumentException" → (Q 2 S6)) ∧ (E9 = "java/lang/IndexOutOfBoundsException" ∨ E9 = "java/lang/IllegalArgumentException")))))
theorem apLa_bars {ad : Int → Nat} {Q : Int → St → Prop} {post : Int32 → Hp → Prop} (hp : ∀ (r : Int) (S : St) (M : Hp), US ad S M → rI r → Q r S → post (Int32.ofInt r) M) {w_p0 : Nat} {p0 : Int} (e_p0 : w_p0 = ad p0) (t_p0 : kt (20 + 0) p0) {w_p1 : Int32} {p1 : Int} (e_p1 : w_p1 = Int32.ofInt p1) (r_p1 : rI p1) {w_p2 : Int32} {p2 : Int} (e_p2 : w_p2 = Int32.ofInt p2) (r_p2 : rI p2) {w_p3 : Nat} {p3 : Int} (e_p3 : w_p3 = ad p3) (t_p3 : kt 3 p3) {S : St} {M : Hp} (h : US ad S M) (hv : vpLa_bars p0 p1 p2 p3 S Q) : wpLa_bars w_p0 w_p1 w_p2 w_p3 M post := by
  subst e_p0
  subst e_p1
  subst e_p2
  subst e_p3
  unfold vpLa_bars at hv
  unfold wpLa_bars
  refine ⟨g_ob h t_p0, ?_⟩
  refine apBT_bars (fun r1 S2 N3 h4 r5 hv => ?_) (fun E9 S6 N7 h8 hv => ?_) rfl t_p0 (show _ = Int32.ofInt p1 from rfl) r_p1 (show _ = Int32.ofInt p2 from rfl) r_p2 h hv
  · skip
    refine ek_if (c_eq (show _ = Int32.ofInt r1 from rfl) LI_0 r5 LI_0r) (fun g9 => ?_) (fun g9 => ?_)
    · replace hv := hv.1 g9
      exact aLa_bars_16 hp  LJ_0 LJ_0r LI_0 LI_0r rfl t_p3 h4 hv
    · replace hv := hv.2 g9
      exact aLa_bars_16 hp  LJ_1 LJ_1r LI_0 LI_0r rfl t_p3 h4 hv
  · skip
    refine ⟨?_, ?_⟩
    · replace hv := hv.1
      intro g10 q9
      replace hv := hv g10
      refine ek_v (P := fun y => post y _) LI_1 ?_
      exact hp _ _ _ h8 LI_1r hv
    · replace hv := hv.2
      refine ⟨?_, ?_⟩
      · replace hv := hv.1
        intro g11 q9
        replace hv := hv g11
        refine ek_v (P := fun y => post y _) LI_2 ?_
        exact hp _ _ _ h8 LI_2r hv
      · replace hv := hv.2
        exact hv
def vLa_force_15 (Q : Int → St → Prop) (y0 : Int) (y1 : Int) (y2 : Int) (S : St) : Prop := (((0 : Int) ≤ y1 ∧ (y1 : Int) < (alen y2)) ∧ ∀ S2 : St, S2 = up S y2 y1 y0 → (Q 0 S2))
theorem aLa_force_15 {ad : Int → Nat} {Q : Int → St → Prop} {post : Int32 → Hp → Prop} (hp : ∀ (r : Int) (S : St) (M : Hp), US ad S M → rI r → Q r S → post (Int32.ofInt r) M) {w_y0 : Int64} {y0 : Int} (e_y0 : w_y0 = Int64.ofInt y0) (r_y0 : rJ y0) {w_y1 : Int32} {y1 : Int} (e_y1 : w_y1 = Int32.ofInt y1) (r_y1 : rI y1) {w_y2 : Nat} {y2 : Int} (e_y2 : w_y2 = ad y2) (t_y2 : kt 3 y2) {S : St} {M : Hp} (h : US ad S M) (hv : vLa_force_15 Q y0 y1 y2 S) : wLa_force_15 post w_y0 w_y1 w_y2 M := by
  subst e_y0
  subst e_y1
  subst e_y2
  unfold vLa_force_15 at hv
  unfold wLa_force_15
  obtain ⟨c1, hv⟩ := hv
  refine g_sJ h t_y2 rfl (show _ = Int32.ofInt y1 from rfl) c1 (show _ = Int64.ofInt y0 from rfl) r_y0 (fun S2 N3 e5 h4 => ?_)
  replace hv := hv S2 e5
  refine ek_v (P := fun y => post y _) LI_0 ?_
  exact hp _ _ _ h4 LI_0r hv
def vpLa_force (p0 : Int) (p1 : Int) (p2 : Int) (S : St) (Q : Int → St → Prop) : Prop := (vpBT_force p0 p1 S (fun (r1 : Int) (S2 : St) => (((r1 = 0 → (vLa_force_15 Q 0 0 p2 S2)) ∧ (¬ r1 = 0 → (vLa_force_15 Q 1 0 p2 S2))))) (fun (E9 : String) (S6 : St) => ((E9 = "java/lang/IllegalArgumentException" → (Q 1 S6)) ∧ (E9 = "java/lang/IllegalArgumentException"))))
theorem apLa_force {ad : Int → Nat} {Q : Int → St → Prop} {post : Int32 → Hp → Prop} (hp : ∀ (r : Int) (S : St) (M : Hp), US ad S M → rI r → Q r S → post (Int32.ofInt r) M) {w_p0 : Nat} {p0 : Int} (e_p0 : w_p0 = ad p0) (t_p0 : kt (20 + 0) p0) {w_p1 : Int32} {p1 : Int} (e_p1 : w_p1 = Int32.ofInt p1) (r_p1 : rI p1) {w_p2 : Nat} {p2 : Int} (e_p2 : w_p2 = ad p2) (t_p2 : kt 3 p2) {S : St} {M : Hp} (h : US ad S M) (hv : vpLa_force p0 p1 p2 S Q) : wpLa_force w_p0 w_p1 w_p2 M post := by
  subst e_p0
  subst e_p1
  subst e_p2
  unfold vpLa_force at hv
  unfold wpLa_force
  refine ⟨g_ob h t_p0, ?_⟩
  refine apBT_force (fun r1 S2 N3 h4 r5 hv => ?_) (fun E9 S6 N7 h8 hv => ?_) rfl t_p0 (show _ = Int32.ofInt p1 from rfl) r_p1 h hv
  · skip
    refine ek_if (c_eq (show _ = Int32.ofInt r1 from rfl) LI_0 r5 LI_0r) (fun g9 => ?_) (fun g9 => ?_)
    · replace hv := hv.1 g9
      exact aLa_force_15 hp  LJ_0 LJ_0r LI_0 LI_0r rfl t_p2 h4 hv
    · replace hv := hv.2 g9
      exact aLa_force_15 hp  LJ_1 LJ_1r LI_0 LI_0r rfl t_p2 h4 hv
  · skip
    refine ⟨?_, ?_⟩
    · replace hv := hv.1
      intro g10 q9
      replace hv := hv g10
      refine ek_v (P := fun y => post y _) LI_1 ?_
      exact hp _ _ _ h8 LI_1r hv
    · replace hv := hv.2
      exact hv
def vLa_margin_15 (Q : Int → St → Prop) (y0 : Int) (y1 : Int) (y2 : Int) (S : St) : Prop := (((0 : Int) ≤ y1 ∧ (y1 : Int) < (alen y2)) ∧ ∀ S2 : St, S2 = up S y2 y1 y0 → (Q 0 S2))
theorem aLa_margin_15 {ad : Int → Nat} {Q : Int → St → Prop} {post : Int32 → Hp → Prop} (hp : ∀ (r : Int) (S : St) (M : Hp), US ad S M → rI r → Q r S → post (Int32.ofInt r) M) {w_y0 : Int64} {y0 : Int} (e_y0 : w_y0 = Int64.ofInt y0) (r_y0 : rJ y0) {w_y1 : Int32} {y1 : Int} (e_y1 : w_y1 = Int32.ofInt y1) (r_y1 : rI y1) {w_y2 : Nat} {y2 : Int} (e_y2 : w_y2 = ad y2) (t_y2 : kt 3 y2) {S : St} {M : Hp} (h : US ad S M) (hv : vLa_margin_15 Q y0 y1 y2 S) : wLa_margin_15 post w_y0 w_y1 w_y2 M := by
  subst e_y0
  subst e_y1
  subst e_y2
  unfold vLa_margin_15 at hv
  unfold wLa_margin_15
  obtain ⟨c1, hv⟩ := hv
  refine g_sJ h t_y2 rfl (show _ = Int32.ofInt y1 from rfl) c1 (show _ = Int64.ofInt y0 from rfl) r_y0 (fun S2 N3 e5 h4 => ?_)
  replace hv := hv S2 e5
  refine ek_v (P := fun y => post y _) LI_0 ?_
  exact hp _ _ _ h4 LI_0r hv
def vpLa_margin (p0 : Int) (p1 : Int) (p2 : Int) (S : St) (Q : Int → St → Prop) : Prop := (vpBT_margin p0 p1 S (fun (r1 : Int) (S2 : St) => (((r1 = 0 → (vLa_margin_15 Q 0 0 p2 S2)) ∧ (¬ r1 = 0 → (vLa_margin_15 Q 1 0 p2 S2))))) (fun (E9 : String) (S6 : St) => ((E9 = "java/lang/IllegalArgumentException" → (Q 1 S6)) ∧ (E9 = "java/lang/IllegalArgumentException"))))
theorem apLa_margin {ad : Int → Nat} {Q : Int → St → Prop} {post : Int32 → Hp → Prop} (hp : ∀ (r : Int) (S : St) (M : Hp), US ad S M → rI r → Q r S → post (Int32.ofInt r) M) {w_p0 : Nat} {p0 : Int} (e_p0 : w_p0 = ad p0) (t_p0 : kt (20 + 0) p0) {w_p1 : Int32} {p1 : Int} (e_p1 : w_p1 = Int32.ofInt p1) (r_p1 : rI p1) {w_p2 : Nat} {p2 : Int} (e_p2 : w_p2 = ad p2) (t_p2 : kt 3 p2) {S : St} {M : Hp} (h : US ad S M) (hv : vpLa_margin p0 p1 p2 S Q) : wpLa_margin w_p0 w_p1 w_p2 M post := by
  subst e_p0
  subst e_p1
  subst e_p2
  unfold vpLa_margin at hv
  unfold wpLa_margin
  refine ⟨g_ob h t_p0, ?_⟩
  refine apBT_margin (fun r1 S2 N3 h4 r5 hv => ?_) (fun E9 S6 N7 h8 hv => ?_) rfl t_p0 (show _ = Int32.ofInt p1 from rfl) r_p1 h hv
  · skip
    refine ek_if (c_eq (show _ = Int32.ofInt r1 from rfl) LI_0 r5 LI_0r) (fun g9 => ?_) (fun g9 => ?_)
    · replace hv := hv.1 g9
      exact aLa_margin_15 hp  LJ_0 LJ_0r LI_0 LI_0r rfl t_p2 h4 hv
    · replace hv := hv.2 g9
      exact aLa_margin_15 hp  LJ_1 LJ_1r LI_0 LI_0r rfl t_p2 h4 hv
  · skip
    refine ⟨?_, ?_⟩
    · replace hv := hv.1
      intro g10 q9
      replace hv := hv g10
      refine ek_v (P := fun y => post y _) LI_1 ?_
      exact hp _ _ _ h8 LI_1r hv
    · replace hv := hv.2
      exact hv
def vLa_saw_15 (Q : Int → St → Prop) (y0 : Int) (y1 : Int) (y2 : Int) (S : St) : Prop := (((0 : Int) ≤ y1 ∧ (y1 : Int) < (alen y2)) ∧ ∀ S2 : St, S2 = up S y2 y1 y0 → (Q 0 S2))
theorem aLa_saw_15 {ad : Int → Nat} {Q : Int → St → Prop} {post : Int32 → Hp → Prop} (hp : ∀ (r : Int) (S : St) (M : Hp), US ad S M → rI r → Q r S → post (Int32.ofInt r) M) {w_y0 : Int64} {y0 : Int} (e_y0 : w_y0 = Int64.ofInt y0) (r_y0 : rJ y0) {w_y1 : Int32} {y1 : Int} (e_y1 : w_y1 = Int32.ofInt y1) (r_y1 : rI y1) {w_y2 : Nat} {y2 : Int} (e_y2 : w_y2 = ad y2) (t_y2 : kt 3 y2) {S : St} {M : Hp} (h : US ad S M) (hv : vLa_saw_15 Q y0 y1 y2 S) : wLa_saw_15 post w_y0 w_y1 w_y2 M := by
  subst e_y0
  subst e_y1
  subst e_y2
  unfold vLa_saw_15 at hv
  unfold wLa_saw_15
  obtain ⟨c1, hv⟩ := hv
  refine g_sJ h t_y2 rfl (show _ = Int32.ofInt y1 from rfl) c1 (show _ = Int64.ofInt y0 from rfl) r_y0 (fun S2 N3 e5 h4 => ?_)
  replace hv := hv S2 e5
  refine ek_v (P := fun y => post y _) LI_0 ?_
  exact hp _ _ _ h4 LI_0r hv
def vpLa_saw (p0 : Int) (p1 : Int) (p2 : Int) (S : St) (Q : Int → St → Prop) : Prop := (vpBT_saw p0 p1 S (fun (r1 : Int) (S2 : St) => (((r1 = 0 → (vLa_saw_15 Q 0 0 p2 S2)) ∧ (¬ r1 = 0 → (vLa_saw_15 Q 1 0 p2 S2))))) (fun (E9 : String) (S6 : St) => ((E9 = "java/lang/IllegalArgumentException" → (Q 1 S6)) ∧ (E9 = "java/lang/IllegalArgumentException"))))
theorem apLa_saw {ad : Int → Nat} {Q : Int → St → Prop} {post : Int32 → Hp → Prop} (hp : ∀ (r : Int) (S : St) (M : Hp), US ad S M → rI r → Q r S → post (Int32.ofInt r) M) {w_p0 : Nat} {p0 : Int} (e_p0 : w_p0 = ad p0) (t_p0 : kt (20 + 0) p0) {w_p1 : Int32} {p1 : Int} (e_p1 : w_p1 = Int32.ofInt p1) (r_p1 : rI p1) {w_p2 : Nat} {p2 : Int} (e_p2 : w_p2 = ad p2) (t_p2 : kt 3 p2) {S : St} {M : Hp} (h : US ad S M) (hv : vpLa_saw p0 p1 p2 S Q) : wpLa_saw w_p0 w_p1 w_p2 M post := by
  subst e_p0
  subst e_p1
  subst e_p2
  unfold vpLa_saw at hv
  unfold wpLa_saw
  refine ⟨g_ob h t_p0, ?_⟩
  refine apBT_saw (fun r1 S2 N3 h4 r5 hv => ?_) (fun E9 S6 N7 h8 hv => ?_) rfl t_p0 (show _ = Int32.ofInt p1 from rfl) r_p1 h hv
  · skip
    refine ek_if (c_eq (show _ = Int32.ofInt r1 from rfl) LI_0 r5 LI_0r) (fun g9 => ?_) (fun g9 => ?_)
    · replace hv := hv.1 g9
      exact aLa_saw_15 hp  LJ_0 LJ_0r LI_0 LI_0r rfl t_p2 h4 hv
    · replace hv := hv.2 g9
      exact aLa_saw_15 hp  LJ_1 LJ_1r LI_0 LI_0r rfl t_p2 h4 hv
  · skip
    refine ⟨?_, ?_⟩
    · replace hv := hv.1
      intro g10 q9
      replace hv := hv g10
      refine ek_v (P := fun y => post y _) LI_1 ?_
      exact hp _ _ _ h8 LI_1r hv
    · replace hv := hv.2
      exact hv
def vLa_limit_17 (Q : Int → St → Prop) (y0 : Int) (y1 : Int) (y2 : Int) (S : St) : Prop := (((0 : Int) ≤ y1 ∧ (y1 : Int) < (alen y2)) ∧ ∀ S2 : St, S2 = up S y2 y1 y0 → (Q 0 S2))
theorem aLa_limit_17 {ad : Int → Nat} {Q : Int → St → Prop} {post : Int32 → Hp → Prop} (hp : ∀ (r : Int) (S : St) (M : Hp), US ad S M → rI r → Q r S → post (Int32.ofInt r) M) {w_y0 : Int64} {y0 : Int} (e_y0 : w_y0 = Int64.ofInt y0) (r_y0 : rJ y0) {w_y1 : Int32} {y1 : Int} (e_y1 : w_y1 = Int32.ofInt y1) (r_y1 : rI y1) {w_y2 : Nat} {y2 : Int} (e_y2 : w_y2 = ad y2) (t_y2 : kt 3 y2) {S : St} {M : Hp} (h : US ad S M) (hv : vLa_limit_17 Q y0 y1 y2 S) : wLa_limit_17 post w_y0 w_y1 w_y2 M := by
  subst e_y0
  subst e_y1
  subst e_y2
  unfold vLa_limit_17 at hv
  unfold wLa_limit_17
  obtain ⟨c1, hv⟩ := hv
  refine g_sJ h t_y2 rfl (show _ = Int32.ofInt y1 from rfl) c1 (show _ = Int64.ofInt y0 from rfl) r_y0 (fun S2 N3 e5 h4 => ?_)
  replace hv := hv S2 e5
  refine ek_v (P := fun y => post y _) LI_0 ?_
  exact hp _ _ _ h4 LI_0r hv
def vpLa_limit (p0 : Int) (p1 : Int) (p2 : Int) (p3 : Int) (S : St) (Q : Int → St → Prop) : Prop := (vpBT_limit p0 p1 p2 S (fun (r1 : Int) (S2 : St) => (((r1 = 0 → (vLa_limit_17 Q 0 0 p3 S2)) ∧ (¬ r1 = 0 → (vLa_limit_17 Q 1 0 p3 S2))))) (fun (E9 : String) (S6 : St) => ((E9 = "java/lang/IndexOutOfBoundsException" → (Q 1 S6)) ∧ ((E9 = "java/lang/IllegalArgumentException" → (Q 2 S6)) ∧ (E9 = "java/lang/IndexOutOfBoundsException" ∨ E9 = "java/lang/IllegalArgumentException")))))
theorem apLa_limit {ad : Int → Nat} {Q : Int → St → Prop} {post : Int32 → Hp → Prop} (hp : ∀ (r : Int) (S : St) (M : Hp), US ad S M → rI r → Q r S → post (Int32.ofInt r) M) {w_p0 : Nat} {p0 : Int} (e_p0 : w_p0 = ad p0) (t_p0 : kt (20 + 0) p0) {w_p1 : Int32} {p1 : Int} (e_p1 : w_p1 = Int32.ofInt p1) (r_p1 : rI p1) {w_p2 : Int64} {p2 : Int} (e_p2 : w_p2 = Int64.ofInt p2) (r_p2 : rJ p2) {w_p3 : Nat} {p3 : Int} (e_p3 : w_p3 = ad p3) (t_p3 : kt 3 p3) {S : St} {M : Hp} (h : US ad S M) (hv : vpLa_limit p0 p1 p2 p3 S Q) : wpLa_limit w_p0 w_p1 w_p2 w_p3 M post := by
  subst e_p0
  subst e_p1
  subst e_p2
  subst e_p3
  unfold vpLa_limit at hv
  unfold wpLa_limit
  refine ⟨g_ob h t_p0, ?_⟩
  refine apBT_limit (fun r1 S2 N3 h4 r5 hv => ?_) (fun E9 S6 N7 h8 hv => ?_) rfl t_p0 (show _ = Int32.ofInt p1 from rfl) r_p1 (show _ = Int64.ofInt p2 from rfl) r_p2 h hv
  · skip
    refine ek_if (c_eq (show _ = Int32.ofInt r1 from rfl) LI_0 r5 LI_0r) (fun g9 => ?_) (fun g9 => ?_)
    · replace hv := hv.1 g9
      exact aLa_limit_17 hp  LJ_0 LJ_0r LI_0 LI_0r rfl t_p3 h4 hv
    · replace hv := hv.2 g9
      exact aLa_limit_17 hp  LJ_1 LJ_1r LI_0 LI_0r rfl t_p3 h4 hv
  · skip
    refine ⟨?_, ?_⟩
    · replace hv := hv.1
      intro g10 q9
      replace hv := hv g10
      refine ek_v (P := fun y => post y _) LI_1 ?_
      exact hp _ _ _ h8 LI_1r hv
    · replace hv := hv.2
      refine ⟨?_, ?_⟩
      · replace hv := hv.1
        intro g11 q9
        replace hv := hv g11
        refine ek_v (P := fun y => post y _) LI_2 ?_
        exact hp _ _ _ h8 LI_2r hv
      · replace hv := hv.2
        exact hv
def vLa_wish_18 (Q : Int → St → Prop) (y0 : Int) (y1 : Int) (y2 : Int) (S : St) : Prop := (((0 : Int) ≤ y1 ∧ (y1 : Int) < (alen y2)) ∧ ∀ S2 : St, S2 = up S y2 y1 y0 → (Q 0 S2))
theorem aLa_wish_18 {ad : Int → Nat} {Q : Int → St → Prop} {post : Int32 → Hp → Prop} (hp : ∀ (r : Int) (S : St) (M : Hp), US ad S M → rI r → Q r S → post (Int32.ofInt r) M) {w_y0 : Int64} {y0 : Int} (e_y0 : w_y0 = Int64.ofInt y0) (r_y0 : rJ y0) {w_y1 : Int32} {y1 : Int} (e_y1 : w_y1 = Int32.ofInt y1) (r_y1 : rI y1) {w_y2 : Nat} {y2 : Int} (e_y2 : w_y2 = ad y2) (t_y2 : kt 3 y2) {S : St} {M : Hp} (h : US ad S M) (hv : vLa_wish_18 Q y0 y1 y2 S) : wLa_wish_18 post w_y0 w_y1 w_y2 M := by
  subst e_y0
  subst e_y1
  subst e_y2
  unfold vLa_wish_18 at hv
  unfold wLa_wish_18
  obtain ⟨c1, hv⟩ := hv
  refine g_sJ h t_y2 rfl (show _ = Int32.ofInt y1 from rfl) c1 (show _ = Int64.ofInt y0 from rfl) r_y0 (fun S2 N3 e5 h4 => ?_)
  replace hv := hv S2 e5
  refine ek_v (P := fun y => post y _) LI_0 ?_
  exact hp _ _ _ h4 LI_0r hv
def vpLa_wish (p0 : Int) (p1 : Int) (p2 : Int) (p3 : Int) (p4 : Int) (S : St) (Q : Int → St → Prop) : Prop := (vpBT_wish p0 p1 p2 p3 S (fun (r1 : Int) (S2 : St) => (((r1 = 0 → (vLa_wish_18 Q 0 0 p4 S2)) ∧ (¬ r1 = 0 → (vLa_wish_18 Q 1 0 p4 S2))))) (fun (E9 : String) (S6 : St) => ((E9 = "java/lang/IndexOutOfBoundsException" → (Q 1 S6)) ∧ ((E9 = "java/lang/IllegalArgumentException" → (Q 2 S6)) ∧ (E9 = "java/lang/IndexOutOfBoundsException" ∨ E9 = "java/lang/IllegalArgumentException")))))
theorem apLa_wish {ad : Int → Nat} {Q : Int → St → Prop} {post : Int32 → Hp → Prop} (hp : ∀ (r : Int) (S : St) (M : Hp), US ad S M → rI r → Q r S → post (Int32.ofInt r) M) {w_p0 : Nat} {p0 : Int} (e_p0 : w_p0 = ad p0) (t_p0 : kt (20 + 0) p0) {w_p1 : Int32} {p1 : Int} (e_p1 : w_p1 = Int32.ofInt p1) (r_p1 : rI p1) {w_p2 : Int32} {p2 : Int} (e_p2 : w_p2 = Int32.ofInt p2) (r_p2 : rI p2) {w_p3 : Int64} {p3 : Int} (e_p3 : w_p3 = Int64.ofInt p3) (r_p3 : rJ p3) {w_p4 : Nat} {p4 : Int} (e_p4 : w_p4 = ad p4) (t_p4 : kt 3 p4) {S : St} {M : Hp} (h : US ad S M) (hv : vpLa_wish p0 p1 p2 p3 p4 S Q) : wpLa_wish w_p0 w_p1 w_p2 w_p3 w_p4 M post := by
  subst e_p0
  subst e_p1
  subst e_p2
  subst e_p3
  subst e_p4
  unfold vpLa_wish at hv
  unfold wpLa_wish
  refine ⟨g_ob h t_p0, ?_⟩
  refine apBT_wish (fun r1 S2 N3 h4 r5 hv => ?_) (fun E9 S6 N7 h8 hv => ?_) rfl t_p0 (show _ = Int32.ofInt p1 from rfl) r_p1 (show _ = Int32.ofInt p2 from rfl) r_p2 (show _ = Int64.ofInt p3 from rfl) r_p3 h hv
  · skip
    refine ek_if (c_eq (show _ = Int32.ofInt r1 from rfl) LI_0 r5 LI_0r) (fun g9 => ?_) (fun g9 => ?_)
    · replace hv := hv.1 g9
      exact aLa_wish_18 hp  LJ_0 LJ_0r LI_0 LI_0r rfl t_p4 h4 hv
    · replace hv := hv.2 g9
      exact aLa_wish_18 hp  LJ_1 LJ_1r LI_0 LI_0r rfl t_p4 h4 hv
  · skip
    refine ⟨?_, ?_⟩
    · replace hv := hv.1
      intro g10 q9
      replace hv := hv g10
      refine ek_v (P := fun y => post y _) LI_1 ?_
      exact hp _ _ _ h8 LI_1r hv
    · replace hv := hv.2
      refine ⟨?_, ?_⟩
      · replace hv := hv.1
        intro g11 q9
        replace hv := hv g11
        refine ek_v (P := fun y => post y _) LI_2 ?_
        exact hp _ _ _ h8 LI_2r hv
      · replace hv := hv.2
        exact hv
def vpLa_priced (p0 : Int) (p1 : Int) (p2 : Int) (S : St) (Q : Int → St → Prop) : Prop := (vpBT_priced p0 p1 S (fun (r1 : Int) (S2 : St) => (((0 : Int) ≤ 0 ∧ (0 : Int) < (alen p2)) ∧ ∀ S10 : St, S10 = up S2 p2 0 r1 → (Q 0 S10))) (fun (E9 : String) (S6 : St) => ((E9 = "java/lang/IllegalArgumentException" → (Q 1 S6)) ∧ (E9 = "java/lang/IllegalArgumentException"))))
theorem apLa_priced {ad : Int → Nat} {Q : Int → St → Prop} {post : Int32 → Hp → Prop} (hp : ∀ (r : Int) (S : St) (M : Hp), US ad S M → rI r → Q r S → post (Int32.ofInt r) M) {w_p0 : Nat} {p0 : Int} (e_p0 : w_p0 = ad p0) (t_p0 : kt (20 + 0) p0) {w_p1 : Int32} {p1 : Int} (e_p1 : w_p1 = Int32.ofInt p1) (r_p1 : rI p1) {w_p2 : Nat} {p2 : Int} (e_p2 : w_p2 = ad p2) (t_p2 : kt 3 p2) {S : St} {M : Hp} (h : US ad S M) (hv : vpLa_priced p0 p1 p2 S Q) : wpLa_priced w_p0 w_p1 w_p2 M post := by
  subst e_p0
  subst e_p1
  subst e_p2
  unfold vpLa_priced at hv
  unfold wpLa_priced
  refine ⟨g_ob h t_p0, ?_⟩
  refine apBT_priced (fun r1 S2 N3 h4 r5 hv => ?_) (fun E9 S6 N7 h8 hv => ?_) rfl t_p0 (show _ = Int32.ofInt p1 from rfl) r_p1 h hv
  · skip
    obtain ⟨c9, hv⟩ := hv
    refine g_sJ h4 t_p2 rfl LI_0 c9 (h_toL (show _ = Int32.ofInt r1 from rfl) r5) (rI_J r5) (fun S10 N11 e13 h12 => ?_)
    replace hv := hv S10 e13
    refine ek_v (P := fun y => post y _) LI_0 ?_
    exact hp _ _ _ h12 LI_0r hv
  · skip
    refine ⟨?_, ?_⟩
    · replace hv := hv.1
      intro g14 q9
      replace hv := hv g14
      refine ek_v (P := fun y => post y _) LI_1 ?_
      exact hp _ _ _ h8 LI_1r hv
    · replace hv := hv.2
      exact hv
def vpLa_worth (p0 : Int) (p1 : Int) (S : St) (Q : Int → St → Prop) : Prop := (vpBT_worth p0 S (fun (r1 : Int) (S2 : St) => (((0 : Int) ≤ 0 ∧ (0 : Int) < (alen p1)) ∧ ∀ S10 : St, S10 = up S2 p1 0 r1 → (Q 0 S10))) (fun (E9 : String) (S6 : St) => ((E9 = "java/lang/IllegalStateException" → (Q 1 S6)) ∧ (E9 = "java/lang/IllegalStateException"))))
theorem apLa_worth {ad : Int → Nat} {Q : Int → St → Prop} {post : Int32 → Hp → Prop} (hp : ∀ (r : Int) (S : St) (M : Hp), US ad S M → rI r → Q r S → post (Int32.ofInt r) M) {w_p0 : Nat} {p0 : Int} (e_p0 : w_p0 = ad p0) (t_p0 : kt (20 + 0) p0) {w_p1 : Nat} {p1 : Int} (e_p1 : w_p1 = ad p1) (t_p1 : kt 3 p1) {S : St} {M : Hp} (h : US ad S M) (hv : vpLa_worth p0 p1 S Q) : wpLa_worth w_p0 w_p1 M post := by
  subst e_p0
  subst e_p1
  unfold vpLa_worth at hv
  unfold wpLa_worth
  refine ⟨g_ob h t_p0, ?_⟩
  refine apBT_worth (fun r1 S2 N3 h4 r5 hv => ?_) (fun E9 S6 N7 h8 hv => ?_) rfl t_p0 h hv
  · skip
    obtain ⟨c9, hv⟩ := hv
    refine g_sJ h4 t_p1 rfl LI_0 c9 (show _ = Int64.ofInt r1 from rfl) r5 (fun S10 N11 e13 h12 => ?_)
    replace hv := hv S10 e13
    refine ek_v (P := fun y => post y _) LI_0 ?_
    exact hp _ _ _ h12 LI_0r hv
  · skip
    refine ⟨?_, ?_⟩
    · replace hv := hv.1
      intro g14 q9
      replace hv := hv g14
      refine ek_v (P := fun y => post y _) LI_1 ?_
      exact hp _ _ _ h8 LI_1r hv
    · replace hv := hv.2
      exact hv
def vpLa_log (p0 : Int) (p1 : Int) (p2 : Int) (p3 : Int) (S : St) (Q : Int → St → Prop) : Prop := (vpBT_log p0 p1 p2 S (fun (r1 : Int) (S2 : St) => (((0 : Int) ≤ 0 ∧ (0 : Int) < (alen p3)) ∧ ∀ S10 : St, S10 = up S2 p3 0 r1 → (Q 0 S10))) (fun (E9 : String) (S6 : St) => ((E9 = "java/lang/IllegalStateException" → (Q 1 S6)) ∧ ((E9 = "java/lang/IndexOutOfBoundsException" → (Q 2 S6)) ∧ ((E9 = "java/lang/IllegalArgumentException" → (Q 3 S6)) ∧ (E9 = "java/lang/IllegalStateException" ∨ E9 = "java/lang/IndexOutOfBoundsException" ∨ E9 = "java/lang/IllegalArgumentException"))))))
theorem apLa_log {ad : Int → Nat} {Q : Int → St → Prop} {post : Int32 → Hp → Prop} (hp : ∀ (r : Int) (S : St) (M : Hp), US ad S M → rI r → Q r S → post (Int32.ofInt r) M) {w_p0 : Nat} {p0 : Int} (e_p0 : w_p0 = ad p0) (t_p0 : kt (20 + 0) p0) {w_p1 : Int32} {p1 : Int} (e_p1 : w_p1 = Int32.ofInt p1) (r_p1 : rI p1) {w_p2 : Int32} {p2 : Int} (e_p2 : w_p2 = Int32.ofInt p2) (r_p2 : rI p2) {w_p3 : Nat} {p3 : Int} (e_p3 : w_p3 = ad p3) (t_p3 : kt 3 p3) {S : St} {M : Hp} (h : US ad S M) (hv : vpLa_log p0 p1 p2 p3 S Q) : wpLa_log w_p0 w_p1 w_p2 w_p3 M post := by
  subst e_p0
  subst e_p1
  subst e_p2
  subst e_p3
  unfold vpLa_log at hv
  unfold wpLa_log
  refine ⟨g_ob h t_p0, ?_⟩
  refine apBT_log (fun r1 S2 N3 h4 r5 hv => ?_) (fun E9 S6 N7 h8 hv => ?_) rfl t_p0 (show _ = Int32.ofInt p1 from rfl) r_p1 (show _ = Int32.ofInt p2 from rfl) r_p2 h hv
  · skip
    obtain ⟨c9, hv⟩ := hv
    refine g_sJ h4 t_p3 rfl LI_0 c9 (h_toL (show _ = Int32.ofInt r1 from rfl) r5) (rI_J r5) (fun S10 N11 e13 h12 => ?_)
    replace hv := hv S10 e13
    refine ek_v (P := fun y => post y _) LI_0 ?_
    exact hp _ _ _ h12 LI_0r hv
  · skip
    refine ⟨?_, ?_⟩
    · replace hv := hv.1
      intro g14 q9
      replace hv := hv g14
      refine ek_v (P := fun y => post y _) LI_1 ?_
      exact hp _ _ _ h8 LI_1r hv
    · replace hv := hv.2
      refine ⟨?_, ?_⟩
      · replace hv := hv.1
        intro g15 q9
        replace hv := hv g15
        refine ek_v (P := fun y => post y _) LI_2 ?_
        exact hp _ _ _ h8 LI_2r hv
      · replace hv := hv.2
        refine ⟨?_, ?_⟩
        · replace hv := hv.1
          intro g16 q9
          replace hv := hv g16
          refine ek_v (P := fun y => post y _) LI_3 ?_
          exact hp _ _ _ h8 LI_3r hv
        · replace hv := hv.2
          exact hv
def vpLa_fuel (p0 : Int) (p1 : Int) (p2 : Int) (p3 : Int) (S : St) (Q : Int → St → Prop) : Prop := (vpBT_fuel p0 p1 p2 S (fun (r1 : Int) (S2 : St) => (((0 : Int) ≤ 0 ∧ (0 : Int) < (alen p3)) ∧ ∀ S10 : St, S10 = up S2 p3 0 r1 → (Q 0 S10))) (fun (E9 : String) (S6 : St) => ((E9 = "java/lang/IllegalStateException" → (Q 1 S6)) ∧ ((E9 = "java/lang/IndexOutOfBoundsException" → (Q 2 S6)) ∧ ((E9 = "java/lang/IllegalArgumentException" → (Q 3 S6)) ∧ (E9 = "java/lang/IllegalStateException" ∨ E9 = "java/lang/IndexOutOfBoundsException" ∨ E9 = "java/lang/IllegalArgumentException"))))))
theorem apLa_fuel {ad : Int → Nat} {Q : Int → St → Prop} {post : Int32 → Hp → Prop} (hp : ∀ (r : Int) (S : St) (M : Hp), US ad S M → rI r → Q r S → post (Int32.ofInt r) M) {w_p0 : Nat} {p0 : Int} (e_p0 : w_p0 = ad p0) (t_p0 : kt (20 + 0) p0) {w_p1 : Int32} {p1 : Int} (e_p1 : w_p1 = Int32.ofInt p1) (r_p1 : rI p1) {w_p2 : Int32} {p2 : Int} (e_p2 : w_p2 = Int32.ofInt p2) (r_p2 : rI p2) {w_p3 : Nat} {p3 : Int} (e_p3 : w_p3 = ad p3) (t_p3 : kt 3 p3) {S : St} {M : Hp} (h : US ad S M) (hv : vpLa_fuel p0 p1 p2 p3 S Q) : wpLa_fuel w_p0 w_p1 w_p2 w_p3 M post := by
  subst e_p0
  subst e_p1
  subst e_p2
  subst e_p3
  unfold vpLa_fuel at hv
  unfold wpLa_fuel
  refine ⟨g_ob h t_p0, ?_⟩
  refine apBT_fuel (fun r1 S2 N3 h4 r5 hv => ?_) (fun E9 S6 N7 h8 hv => ?_) rfl t_p0 (show _ = Int32.ofInt p1 from rfl) r_p1 (show _ = Int32.ofInt p2 from rfl) r_p2 h hv
  · skip
    obtain ⟨c9, hv⟩ := hv
    refine g_sJ h4 t_p3 rfl LI_0 c9 (h_toL (show _ = Int32.ofInt r1 from rfl) r5) (rI_J r5) (fun S10 N11 e13 h12 => ?_)
    replace hv := hv S10 e13
    refine ek_v (P := fun y => post y _) LI_0 ?_
    exact hp _ _ _ h12 LI_0r hv
  · skip
    refine ⟨?_, ?_⟩
    · replace hv := hv.1
      intro g14 q9
      replace hv := hv g14
      refine ek_v (P := fun y => post y _) LI_1 ?_
      exact hp _ _ _ h8 LI_1r hv
    · replace hv := hv.2
      refine ⟨?_, ?_⟩
      · replace hv := hv.1
        intro g15 q9
        replace hv := hv g15
        refine ek_v (P := fun y => post y _) LI_2 ?_
        exact hp _ _ _ h8 LI_2r hv
      · replace hv := hv.2
        refine ⟨?_, ?_⟩
        · replace hv := hv.1
          intro g16 q9
          replace hv := hv g16
          refine ek_v (P := fun y => post y _) LI_3 ?_
          exact hp _ _ _ h8 LI_3r hv
        · replace hv := hv.2
          exact hv
def vpLa_bound (p0 : Int) (p1 : Int) (S : St) (Q : Int → St → Prop) : Prop := (vpBT_bound p0 S (fun (r1 : Int) (S2 : St) => (((0 : Int) ≤ 0 ∧ (0 : Int) < (alen p1)) ∧ ∀ S10 : St, S10 = up S2 p1 0 r1 → (Q 0 S10))) (fun (E9 : String) (S6 : St) => ((E9 = "java/lang/IllegalStateException" → (Q 1 S6)) ∧ (E9 = "java/lang/IllegalStateException"))))
theorem apLa_bound {ad : Int → Nat} {Q : Int → St → Prop} {post : Int32 → Hp → Prop} (hp : ∀ (r : Int) (S : St) (M : Hp), US ad S M → rI r → Q r S → post (Int32.ofInt r) M) {w_p0 : Nat} {p0 : Int} (e_p0 : w_p0 = ad p0) (t_p0 : kt (20 + 0) p0) {w_p1 : Nat} {p1 : Int} (e_p1 : w_p1 = ad p1) (t_p1 : kt 3 p1) {S : St} {M : Hp} (h : US ad S M) (hv : vpLa_bound p0 p1 S Q) : wpLa_bound w_p0 w_p1 M post := by
  subst e_p0
  subst e_p1
  unfold vpLa_bound at hv
  unfold wpLa_bound
  refine ⟨g_ob h t_p0, ?_⟩
  refine apBT_bound (fun r1 S2 N3 h4 r5 hv => ?_) (fun E9 S6 N7 h8 hv => ?_) rfl t_p0 h hv
  · skip
    obtain ⟨c9, hv⟩ := hv
    refine g_sJ h4 t_p1 rfl LI_0 c9 (show _ = Int64.ofInt r1 from rfl) r5 (fun S10 N11 e13 h12 => ?_)
    replace hv := hv S10 e13
    refine ek_v (P := fun y => post y _) LI_0 ?_
    exact hp _ _ _ h12 LI_0r hv
  · skip
    refine ⟨?_, ?_⟩
    · replace hv := hv.1
      intro g14 q9
      replace hv := hv g14
      refine ek_v (P := fun y => post y _) LI_1 ?_
      exact hp _ _ _ h8 LI_1r hv
    · replace hv := hv.2
      exact hv
def vpLa_price (p0 : Int) (p1 : Int) (p2 : Int) (p3 : Int) (S : St) (Q : Int → St → Prop) : Prop := (vpBT_price p0 p1 p2 S (fun (r1 : Int) (S2 : St) => (((0 : Int) ≤ 0 ∧ (0 : Int) < (alen p3)) ∧ ∀ S10 : St, S10 = up S2 p3 0 r1 → (Q 0 S10))) (fun (E9 : String) (S6 : St) => ((E9 = "java/lang/IllegalStateException" → (Q 1 S6)) ∧ ((E9 = "java/lang/IndexOutOfBoundsException" → (Q 2 S6)) ∧ (E9 = "java/lang/IllegalStateException" ∨ E9 = "java/lang/IndexOutOfBoundsException")))))
theorem apLa_price {ad : Int → Nat} {Q : Int → St → Prop} {post : Int32 → Hp → Prop} (hp : ∀ (r : Int) (S : St) (M : Hp), US ad S M → rI r → Q r S → post (Int32.ofInt r) M) {w_p0 : Nat} {p0 : Int} (e_p0 : w_p0 = ad p0) (t_p0 : kt (20 + 0) p0) {w_p1 : Int32} {p1 : Int} (e_p1 : w_p1 = Int32.ofInt p1) (r_p1 : rI p1) {w_p2 : Int32} {p2 : Int} (e_p2 : w_p2 = Int32.ofInt p2) (r_p2 : rI p2) {w_p3 : Nat} {p3 : Int} (e_p3 : w_p3 = ad p3) (t_p3 : kt 3 p3) {S : St} {M : Hp} (h : US ad S M) (hv : vpLa_price p0 p1 p2 p3 S Q) : wpLa_price w_p0 w_p1 w_p2 w_p3 M post := by
  subst e_p0
  subst e_p1
  subst e_p2
  subst e_p3
  unfold vpLa_price at hv
  unfold wpLa_price
  refine ⟨g_ob h t_p0, ?_⟩
  refine apBT_price (fun r1 S2 N3 h4 r5 hv => ?_) (fun E9 S6 N7 h8 hv => ?_) rfl t_p0 (show _ = Int32.ofInt p1 from rfl) r_p1 (show _ = Int32.ofInt p2 from rfl) r_p2 h hv
  · skip
    obtain ⟨c9, hv⟩ := hv
    refine g_sJ h4 t_p3 rfl LI_0 c9 (show _ = Int64.ofInt r1 from rfl) r5 (fun S10 N11 e13 h12 => ?_)
    replace hv := hv S10 e13
    refine ek_v (P := fun y => post y _) LI_0 ?_
    exact hp _ _ _ h12 LI_0r hv
  · skip
    refine ⟨?_, ?_⟩
    · replace hv := hv.1
      intro g14 q9
      replace hv := hv g14
      refine ek_v (P := fun y => post y _) LI_1 ?_
      exact hp _ _ _ h8 LI_1r hv
    · replace hv := hv.2
      refine ⟨?_, ?_⟩
      · replace hv := hv.1
        intro g15 q9
        replace hv := hv g15
        refine ek_v (P := fun y => post y _) LI_2 ?_
        exact hp _ _ _ h8 LI_2r hv
      · replace hv := hv.2
        exact hv
def vpLa_override (p0 : Int) (p1 : Int) (p2 : Int) (S : St) (Q : Int → St → Prop) : Prop := (vpBT_override p0 p1 S (fun (r1 : Int) (S2 : St) => (((0 : Int) ≤ 0 ∧ (0 : Int) < (alen p2)) ∧ ∀ S10 : St, S10 = up S2 p2 0 r1 → (Q 0 S10))) (fun (E9 : String) (S6 : St) => ((E9 = "java/lang/IllegalStateException" → (Q 1 S6)) ∧ ((E9 = "java/lang/IllegalArgumentException" → (Q 2 S6)) ∧ (E9 = "java/lang/IllegalStateException" ∨ E9 = "java/lang/IllegalArgumentException")))))
theorem apLa_override {ad : Int → Nat} {Q : Int → St → Prop} {post : Int32 → Hp → Prop} (hp : ∀ (r : Int) (S : St) (M : Hp), US ad S M → rI r → Q r S → post (Int32.ofInt r) M) {w_p0 : Nat} {p0 : Int} (e_p0 : w_p0 = ad p0) (t_p0 : kt (20 + 0) p0) {w_p1 : Int32} {p1 : Int} (e_p1 : w_p1 = Int32.ofInt p1) (r_p1 : rI p1) {w_p2 : Nat} {p2 : Int} (e_p2 : w_p2 = ad p2) (t_p2 : kt 3 p2) {S : St} {M : Hp} (h : US ad S M) (hv : vpLa_override p0 p1 p2 S Q) : wpLa_override w_p0 w_p1 w_p2 M post := by
  subst e_p0
  subst e_p1
  subst e_p2
  unfold vpLa_override at hv
  unfold wpLa_override
  refine ⟨g_ob h t_p0, ?_⟩
  refine apBT_override (fun r1 S2 N3 h4 r5 hv => ?_) (fun E9 S6 N7 h8 hv => ?_) rfl t_p0 (show _ = Int32.ofInt p1 from rfl) r_p1 h hv
  · skip
    obtain ⟨c9, hv⟩ := hv
    refine g_sJ h4 t_p2 rfl LI_0 c9 (h_toL (show _ = Int32.ofInt r1 from rfl) r5) (rI_J r5) (fun S10 N11 e13 h12 => ?_)
    replace hv := hv S10 e13
    refine ek_v (P := fun y => post y _) LI_0 ?_
    exact hp _ _ _ h12 LI_0r hv
  · skip
    refine ⟨?_, ?_⟩
    · replace hv := hv.1
      intro g14 q9
      replace hv := hv g14
      refine ek_v (P := fun y => post y _) LI_1 ?_
      exact hp _ _ _ h8 LI_1r hv
    · replace hv := hv.2
      refine ⟨?_, ?_⟩
      · replace hv := hv.1
        intro g15 q9
        replace hv := hv g15
        refine ek_v (P := fun y => post y _) LI_2 ?_
        exact hp _ _ _ h8 LI_2r hv
      · replace hv := hv.2
        exact hv
def vLa_greatest_14 (Q : Int → St → Prop) (y0 : Int) (y1 : Int) (y2 : Int) (S : St) : Prop := (((0 : Int) ≤ y1 ∧ (y1 : Int) < (alen y2)) ∧ ∀ S2 : St, S2 = up S y2 y1 y0 → (Q 0 S2))
theorem aLa_greatest_14 {ad : Int → Nat} {Q : Int → St → Prop} {post : Int32 → Hp → Prop} (hp : ∀ (r : Int) (S : St) (M : Hp), US ad S M → rI r → Q r S → post (Int32.ofInt r) M) {w_y0 : Int64} {y0 : Int} (e_y0 : w_y0 = Int64.ofInt y0) (r_y0 : rJ y0) {w_y1 : Int32} {y1 : Int} (e_y1 : w_y1 = Int32.ofInt y1) (r_y1 : rI y1) {w_y2 : Nat} {y2 : Int} (e_y2 : w_y2 = ad y2) (t_y2 : kt 3 y2) {S : St} {M : Hp} (h : US ad S M) (hv : vLa_greatest_14 Q y0 y1 y2 S) : wLa_greatest_14 post w_y0 w_y1 w_y2 M := by
  subst e_y0
  subst e_y1
  subst e_y2
  unfold vLa_greatest_14 at hv
  unfold wLa_greatest_14
  obtain ⟨c1, hv⟩ := hv
  refine g_sJ h t_y2 rfl (show _ = Int32.ofInt y1 from rfl) c1 (show _ = Int64.ofInt y0 from rfl) r_y0 (fun S2 N3 e5 h4 => ?_)
  replace hv := hv S2 e5
  refine ek_v (P := fun y => post y _) LI_0 ?_
  exact hp _ _ _ h4 LI_0r hv
def vpLa_greatest (p0 : Int) (p1 : Int) (S : St) (Q : Int → St → Prop) : Prop := (vpBT_greatest p0 S (fun (r1 : Int) (S2 : St) => (((r1 = 0 → (vLa_greatest_14 Q 0 0 p1 S2)) ∧ (¬ r1 = 0 → (vLa_greatest_14 Q 1 0 p1 S2))))) (fun (E9 : String) (S6 : St) => ((E9 = "java/lang/IllegalStateException" → (Q 1 S6)) ∧ (E9 = "java/lang/IllegalStateException"))))
theorem apLa_greatest {ad : Int → Nat} {Q : Int → St → Prop} {post : Int32 → Hp → Prop} (hp : ∀ (r : Int) (S : St) (M : Hp), US ad S M → rI r → Q r S → post (Int32.ofInt r) M) {w_p0 : Nat} {p0 : Int} (e_p0 : w_p0 = ad p0) (t_p0 : kt (20 + 0) p0) {w_p1 : Nat} {p1 : Int} (e_p1 : w_p1 = ad p1) (t_p1 : kt 3 p1) {S : St} {M : Hp} (h : US ad S M) (hv : vpLa_greatest p0 p1 S Q) : wpLa_greatest w_p0 w_p1 M post := by
  subst e_p0
  subst e_p1
  unfold vpLa_greatest at hv
  unfold wpLa_greatest
  refine ⟨g_ob h t_p0, ?_⟩
  refine apBT_greatest (fun r1 S2 N3 h4 r5 hv => ?_) (fun E9 S6 N7 h8 hv => ?_) rfl t_p0 h hv
  · skip
    refine ek_if (c_eq (show _ = Int32.ofInt r1 from rfl) LI_0 r5 LI_0r) (fun g9 => ?_) (fun g9 => ?_)
    · replace hv := hv.1 g9
      exact aLa_greatest_14 hp  LJ_0 LJ_0r LI_0 LI_0r rfl t_p1 h4 hv
    · replace hv := hv.2 g9
      exact aLa_greatest_14 hp  LJ_1 LJ_1r LI_0 LI_0r rfl t_p1 h4 hv
  · skip
    refine ⟨?_, ?_⟩
    · replace hv := hv.1
      intro g10 q9
      replace hv := hv g10
      refine ek_v (P := fun y => post y _) LI_1 ?_
      exact hp _ _ _ h8 LI_1r hv
    · replace hv := hv.2
      exact hv
