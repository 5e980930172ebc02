section RE
variable {S T : St} {most R : Nat} {W L Qs : Nat → Int → Int} {kb bd : Nat → Int} {w l q w' l' q' : Int → Int}
theorem isL_cf (c : cf S T) {i : Int} : isL T w i ↔ isL S w i := by
  unfold isL
  rw [c.n, c.j (j := 4) (by omega)]
theorem inR_cf (c : cf S T) {i : Int} : inR T i ↔ inR S i := by
  unfold inR
  rw [c.n, c.j (j := 4) (by omega)]
theorem remL_cf (c : cf S T) {j : Int} : remL T w q j ↔ remL S w q j := by
  unfold remL fP
  rw [c.k (k := 21) (by omega), lf_cf c]
theorem brn_cf (c : cf S T) (h : brn T w l (remL T w q) w') : brn S w l (remL S w q) w' := by
  intro i hi
  have ec : cov S w l (remL S w q) i ↔ cov T w l (remL T w q) i := ⟨fun ⟨j, a, b, d⟩ => ⟨j, (remL_cf c).mpr a, (isL_cf c).mpr b, d⟩, fun ⟨j, a, b, d⟩ => ⟨j, (remL_cf c).mp a, (isL_cf c).mp b, d⟩⟩
  rw [ec]
  exact h i ((inR_cf c).mpr hi)
theorem s_goRounds {Q : Int → St → Prop} (hm : wfM S) (hq : seqOK S most R W L Qs kb bd) (qq : ∀ T, rfr S T → T 0 0 = S 0 0 → T 0 33 = 1 → T 0 34 = most → (∀ p, 0 ≤ p → p < S 0 14 → T 24 p = prS S W Qs (R - 1) p) → T 0 35 = bd R → finA S R W L Qs kb (T 25) (T 26) (T 27) → Q R T) : vpMo_goRounds 0 most S Q := by
  have h4 := hm.1.2.2.2.1
  have h14 := hm.1.2.2.2.2
  have hR := hq.2.1
  unfold vpMo_goRounds
  refine lp2 (fun n x T => vMo_goRounds_2 Q n 0 most x T) (fun x T => 0 ≤ x ∧ x ≤ 8 ∧ (∀ k, k ≠ 23 → T k = S k) ∧ (∀ p, 0 ≤ p → p < x → T 23 p = 0)) (fun x _ => (8 - x).toNat) (fun n x T hI ih => ?_) 0 S ⟨by omega, by omega, fun _ _ => rfl, fun p p0 p1 => by omega⟩
  obtain ⟨x0, x1, hF, hp⟩ := hI
  unfold vMo_goRounds_2
  refine ⟨fun g => ?_, fun g => ⟨by omega, fun S3 e3 => ⟨by constructor <;> omega, fun z ez => ?_⟩⟩⟩
  · have fin : ∀ (X : St), gfr S X → (∀ p, 0 ≤ p → p < S 0 14 → X 24 p = prS S W Qs (R - 1) p) → X 0 35 = bd R → finA S R W L Qs kb (X 25) (X 26) (X 27) → vMo_goRounds_279 Q 0 most R X := fun X xF x24 x35 xA => by
      unfold vMo_goRounds_279
      intro S1 e1 S5 e5
      have ek : ∀ k, k ≠ 0 → S5 k = X k := fun k hk => by
        rw [e5, e1]
        funext j
        unfold up
        rw [if_neg (by omega), if_neg (by omega)]
      have ej : ∀ j, j ≠ 33 → j ≠ 34 → S5 0 j = X 0 j := fun j j1 j2 => by
        rw [e5, e1]
        unfold up
        rw [if_neg (by omega), if_neg (by omega)]
      refine qq S5 ⟨fun k k0 k1 k2 k3 k4 k5 k6 k7 k8 k9 k10 => by rw [ek k k0]; exact xF.1 k k0 k1 k2 k3 k4 k5 k6 k7 k8 k9 k10, fun j j0 j1 j2 j3 => by rw [ej j j1 j2]; exact xF.2 j j3⟩ ?_ ?_ ?_ (fun p p0 p1 => by rw [ek 24 (by omega)]; exact x24 p p0 p1) ?_ ?_
      · rw [ej 0 (by omega) (by omega)]
        exact xF.2 0 (by omega)
      · rw [e5]; exact up_s
      · rw [e5, e1]
        unfold up
        rw [if_neg (by omega), if_pos ⟨rfl, rfl⟩]
      · rw [ej 35 (by omega) (by omega)]
        exact x35
      · rw [ek 25 (by omega), ek 26 (by omega), ek 27 (by omega)]
        exact xA
    refine s_g31 (r := 0) hm hq (fun x2 x3 x5 X hX => ?_) ⟨⟨fun k k0 k1 _ _ _ _ _ _ _ _ _ => hF k k1, fun j _ => by rw [hF 0 (by omega)]⟩, by omega, fun p p0 p1 => hp p p0 (by omega), fun _ => rfl, fun q => by omega, Or.inl ⟨hq.2.2.1, rfl⟩⟩
    obtain ⟨xF, _, xp, _, x1', xk⟩ := hX
    obtain ⟨x24, x35, xP, _⟩ := x1' (by omega)
    have cX := xF.cf
    have wX := cX.w hm
    unfold vMo_goRounds_212
    refine ⟨fun g1 => ?_, fun g1 => ?_⟩
    · have hkb : kb R = -1 := by
        rcases xk with ⟨a, b⟩ | ⟨a, b, c, d⟩
        · exact a
        · omega
      have oS := plOK_okA hm xP
      have oX : okA X (X 25) (X 26) (X 27) := okA_cf cX oS
      have sX : sepA X (X 25) (X 26) := plOK_sep wX (plOK_cf cX xP)
      have e14 : X 0 14 = S 0 14 := cX.j (by omega)
      refine lp2 (fun n x T => vMo_goRounds_258 Q n 0 most R x T) (fun x T => 0 ≤ x ∧ x ≤ X 0 14 ∧ (∀ k, k ≠ 25 → T k = X k) ∧ brn X (X 25) (X 26) (fun j => remL X (X 25) (X 27) j ∧ X 27 j < x) (T 25)) (fun x _ => (8 - x).toNat) (fun n x T hI ih => ?_) 0 X ⟨by omega, by omega, fun _ _ => rfl, fun i hi => ⟨fun ⟨j, a, b, _⟩ => ?_, fun _ => rfl⟩⟩
      · obtain ⟨y0, y1, yF, yB⟩ := hI
        have e14' : T 0 14 = X 0 14 := by rw [yF 0 (by omega)]
        unfold vMo_goRounds_258
        refine ⟨fun g2 => ?_, fun g2 => ?_⟩
        · refine fin T ⟨fun k k0 k1 k2 k3 k4 k5 k6 k7 k8 k9 k10 => by rw [yF k k3]; exact xF.1 k k0 k1 k2 k3 k4 k5 k6 k7 k8 k9 k10, fun j hj => by rw [yF 0 (by omega)]; exact xF.2 j hj⟩ (fun p p0 p1 => by rw [yF 24 (by omega)]; exact x24 p p0 p1) (by rw [yF 0 (by omega)]; exact x35) (Or.inr ⟨hkb, X 25, ?_, ?_⟩)
          · rw [yF 26 (by omega), yF 27 (by omega)]
            exact xP
          · rw [yF 26 (by omega), yF 27 (by omega)]
            refine brn_cf cX (brn_R (fun j hj => ?_) yB)
            have := (oX j hj).2.2
            constructor
            · intro a
              exact ⟨a, by omega⟩
            · intro a
              exact a.1
        · exact s_giveWay wX oX sX y0 (by omega) yF yB (fun T' f b => ⟨by constructor <;> omega, fun z ez => by
            subst ez
            exact ih _ _ ⟨by omega, by omega, f, b⟩ (by omega)⟩)
      · have := (oX j b).2.1
        have := a.2
        omega
    · rcases xk with ⟨a, b⟩ | ⟨a, b, c, d, e⟩
      · exact absurd b g1
      · refine s_copy (by decide) (by decide) (by decide) (fun X1 f1 g1 => s_copy (by decide) (by decide) (by decide) (fun X2 f2 g2 => s_copy (by decide) (by decide) (by decide) (fun X3 f3 g3 => ?_)))
        have ek : ∀ k, k ≠ 25 → k ≠ 26 → k ≠ 27 → X3 k = X k := fun k k1 k2 k3 => by rw [f3 k k3, f2 k k2, f1 k k1]
        refine fin X3 ⟨fun k k0 k1 k2 k3 k4 k5 k6 k7 k8 k9 k10 => by rw [ek k k3 k4 k5]; exact xF.1 k k0 k1 k2 k3 k4 k5 k6 k7 k8 k9 k10, fun j hj => by rw [ek 0 (by omega) (by omega) (by omega)]; exact xF.2 j hj⟩ (fun p p0 p1 => by rw [ek 24 (by omega) (by omega) (by omega)]; exact x24 p p0 p1) (by rw [ek 0 (by omega) (by omega) (by omega)]; exact x35) (Or.inl ⟨a, fun i i0 i1 i2 => ?_⟩)
        have b25 : X3 25 i = X 28 i := by rw [f3 25 (by omega), f2 25 (by omega), g1 i i0 (by omega)]
        have b26 : X3 26 i = X 29 i := by rw [f3 26 (by omega), g2 i i0 (by omega), f1 29 (by omega)]
        have b27 : X3 27 i = X 30 i := by rw [g3 i i0 (by omega), f2 30 (by omega), f1 30 (by omega)]
        rw [b25, b26, b27]
        exact e i i0 i1 i2
  · subst ez
    refine ih _ _ ⟨by omega, by omega, fun k hk => ?_, fun p p0 p1 => ?_⟩ (by omega)
    · rw [← hF k hk, e3]
      funext j
      exact up_k hk
    · rw [e3]
      by_cases h : p = x
      · rw [h, up_s]
      · rw [up_j h]
        exact hp p p0 (by omega)
/-- two ends of the rounds say the same -/
theorem fin_agr (hm : wfM S) (h : finA S R W L Qs kb w l q) (h' : finA S R W L Qs kb w' l' q') : agr S w l q w' l' q' := by
  have h4 := hm.1.2.2.2.1
  rcases h with ⟨k0, a⟩ | ⟨k0, w0, p0, b0⟩ <;> rcases h' with ⟨k1, a'⟩ | ⟨k1, w1, p1, b1⟩
  · intro i i0 i1 i2
    obtain ⟨x1, x2⟩ := a i i0 i1 i2
    obtain ⟨y1, y2⟩ := a' i i0 i1 i2
    refine ⟨by omega, fun hw => ?_⟩
    obtain ⟨x3, x4⟩ := x2 (by omega)
    obtain ⟨y3, y4⟩ := y2 (by omega)
    omega
  · omega
  · omega
  · have ag := plOK_agr hm p0 p1
    have fe : ∀ p x : Int, 0 ≤ x → x ≤ 81 * S 0 4 → fP S w1 q' p x = fP S w0 q p x := fun p x x0 x1 => by
      unfold fP
      refine lf_agr (l := l) (q := q) ag (fun i hi => ?_) _ (by omega)
      rw [((ag i hi.1 hi.2.1 hi.2.2.1).2 hi.2.2.2).2]
    have le : ∀ j, isL S w1 j ↔ isL S w0 j := fun j => by
      unfold isL
      constructor
      · rintro ⟨z0, z1, z2, z3⟩
        have := (ag j z0 z1 z2).1
        exact ⟨z0, z1, z2, by omega⟩
      · rintro ⟨z0, z1, z2, z3⟩
        have := (ag j z0 z1 z2).1
        exact ⟨z0, z1, z2, by omega⟩
    have re : ∀ j, isL S w0 j → (remL S w1 q' j ↔ remL S w0 q j) := fun j hj => by
      unfold remL
      rw [((ag j hj.1 hj.2.1 hj.2.2.1).2 hj.2.2.2).2, fe _ _ (by have := hj.1; omega) (by have := hj.2.1; omega)]
    intro i i0 i1 i2
    have ec : cov S w1 l' (remL S w1 q') i ↔ cov S w0 l (remL S w0 q) i := by
      constructor
      · rintro ⟨j, a, b, c, d⟩
        have hj := (le j).mp b
        have := ((ag j hj.1 hj.2.1 hj.2.2.1).2 hj.2.2.2).1
        exact ⟨j, (re j hj).mp a, hj, c, by omega⟩
      · rintro ⟨j, a, hj, c, d⟩
        have := ((ag j hj.1 hj.2.1 hj.2.2.1).2 hj.2.2.2).1
        exact ⟨j, (re j hj).mpr a, (le j).mpr hj, c, by omega⟩
    obtain ⟨x1, x2⟩ := b0 i ⟨i0, i1, i2⟩
    obtain ⟨y1, y2⟩ := b1 i ⟨i0, i1, i2⟩
    by_cases hc : cov S w0 l (remL S w0 q) i
    · rw [x1 hc, y1 (ec.mpr hc)]
      exact ⟨rfl, fun z => by omega⟩
    · rw [x2 hc, y2 (fun z => hc (ec.mp z))]
      exact ag i i0 i1 i2
theorem okA_agr (h : agr S w l q w' l' q') (o : okA S w l q) : okA S w' l' q' := by
  intro i ⟨i0, i1, i2, i3⟩
  obtain ⟨x1, x2⟩ := h i i0 i1 i2
  obtain ⟨x3, x4⟩ := x2 (by omega)
  have := o i ⟨i0, i1, i2, by omega⟩
  rw [x3, x4]
  exact this
theorem fin_okA (hm : wfM S) (hq : seqOK S most R W L Qs kb bd) (h : finA S R W L Qs kb w l q) : okA S w l q := by
  rcases h with ⟨k0, a⟩ | ⟨k0, w0, p0, b0⟩
  · have := kb_b hq R (by omega)
    exact okA_agr a (plOK_okA hm (hq.1 (kb R).toNat (by omega)))
  · have o := plOK_okA hm p0
    intro i ⟨i0, i1, i2, i3⟩
    obtain ⟨x1, x2⟩ := b0 i ⟨i0, i1, i2⟩
    by_cases hc : cov S w0 l (remL S w0 q) i
    · have := x1 hc
      omega
    · have := x2 hc
      exact o i ⟨i0, i1, i2, by omega⟩
end RE
