section GV
variable {S T U : St} {s a b p x K e : Int} {w l q g : Int → Int}
noncomputable abbrev wL (S : St) (w l q : Int → Int) : Int → Int := gone S w l (remL S w q)
noncomputable def mx (S : St) (w l q g : Int → Int) (e : Int) : Int := sm (lf S w g) e.toNat + (sm (lf S (wL S w l q) g) (81 * S 0 4).toNat - sm (lf S (wL S w l q) g) e.toNat)
abbrev wvF (S : St) (l q : Int → Int) : Int → Int := fun i => wv S (i / 81) (l i) (q i)
abbrev cF (q : Int → Int) (p : Int) : Int → Int := fun i => if q i = p then 1 else 0
theorem okA_gone (ho : okA S w l q) (hs : sepA S w l) : okA S (wL S w l q) l q := fun i hi => ho i ((gone_L ho hs).1 hi).1
theorem mx_keep {j : Int} (ho : okA S w l q) (hs : sepA S w l) (hj : isL S w j) (je : j < e) (e1 : e ≤ 81 * S 0 4) (h : ∀ i, j < i → i < e → ¬ isL S w i) (hr : ¬ remL S w q j) : mx S w l q g j = mx S w l q g e := by
  unfold mx
  rw [sm_one hj je e1 h, sm_one (w := wL S w l q) ((gone_L ho hs).2 ⟨hj, hr⟩) je e1 (fun i h1 h2 hi => h i h1 h2 ((gone_L ho hs).1 hi).1)]
  omega
theorem mx_drop {j : Int} (ho : okA S w l q) (hs : sepA S w l) (hj : isL S w j) (je : j < e) (e1 : e ≤ 81 * S 0 4) (h : ∀ i, j < i → i < e → ¬ isL S w i) (hr : remL S w q j) : mx S w l q g j = mx S w l q g e - g j := by
  unfold mx
  rw [sm_one hj je e1 h, sm_noL (w := wL S w l q) (a := j) hj.1 (by omega) e1 (fun i h1 h2 hi => by
    have hh := (gone_L ho hs).1 hi
    by_cases hij : i = j
    · rw [hij] at hh
      exact hh.2 hr
    · exact h i (by omega) h2 hh.1)]
  omega
theorem mx_N : mx S w l q g (81 * S 0 4) = sm (lf S w g) (81 * S 0 4).toNat := by
  unfold mx
  omega
theorem mx_0 (ho : okA S w l q) (hs : sepA S w l) (e0 : 0 ≤ e) (e1 : e ≤ 81 * S 0 4) (h : ∀ i, 0 ≤ i → i < e → ¬ isL S w i) : mx S w l q g e = sm (lf S (wL S w l q) g) (81 * S 0 4).toNat := by
  unfold mx
  rw [sm_noL (a := 0) (by omega) e0 e1 h, sm_noL (w := wL S w l q) (a := 0) (by omega) e0 e1 (fun i h1 h2 hi => h i h1 h2 ((gone_L ho hs).1 hi).1)]
  show (0 : Int) + (_ - 0) = _
  omega
def rowX (S T : St) (K : Int) (l q : Int → Int) (j c : Int) : Prop := T (K + 1) (5 * c) = j / 81 ∧ T (K + 1) (5 * c + 1) = j % 81 ∧ T (K + 1) (5 * c + 2) = l j ∧ T (K + 1) (5 * c + 4) = wv S (j / 81) (l j) (q j)
def bgI (S T U : St) (K : Int) (w l q : Int → Int) (e : Int) : Prop :=
  plf T U K ∧ U K 3 = nL1 S w (81 * S 0 4) ∧ U K 4 = mx S w l q (wvF S l q) e ∧ (∀ p, 0 ≤ p → p < 8 → U (K + 3) p = mx S w l q (cF q p) e) ∧
  (∀ j, isL S w j → rowX S U K l q j (nL1 S w j) ∧ (remL S w q j ∧ e ≤ j → U (K + 1) (5 * nL1 S w j + 3) = -1) ∧ (¬ (remL S w q j ∧ e ≤ j) → U (K + 1) (5 * nL1 S w j + 3) = q j)) ∧
  (∀ t k, 0 ≤ t → t < 6 → 0 ≤ k → k < 80 → (U (K + 2) (80 * t + k) = 0 ∨ U (K + 2) (80 * t + k) = 1) ∧ (U (K + 2) (80 * t + k) = 1 ↔ t < S 0 4 ∧ k < stN S t ∧ (w (81 * t + k) = 2 ∨ cov S w l (fun i => remL S w q i ∧ e ≤ i) (81 * t + k))))
theorem s_tellLog {k f : Int} {Q : Int → St → Prop} (k0 : 0 ≤ k) (k1 : k < 480) (f0 : 0 ≤ f) (f5 : f < 5) (qq : Q (S (K + 1) (5 * k + f)) S) : vpPl_tellLog K k f S Q := by
  unfold vpPl_tellLog
  rw [show k * 5 + f = 5 * k + f by omega]
  exact ⟨by omega, qq⟩
theorem s_bg7 {k : Int} {Q : St → Prop} (c : cR S) (hF : kf S T) (hK : K = 130 ∨ K = 134) (ho : okA S w l q) (hs : sepA S w l) (hI : bgI S T U K w l q e) (e0 : 0 ≤ e) (e1 : e ≤ 81 * S 0 4) (ek : nL1 S w e = k + 1)
    (qq : ∀ V e', bgI S T V K w l q e' → 0 ≤ e' → e' ≤ 81 * S 0 4 → (∀ i, 0 ≤ i → i < e' → ¬ isL S w i) → vpPl_closeGaps K V (fun (S3 : St) => (Q S3))) : ∃ n, vPl_burnBeyondLimits_7 Q n K 102 k U := by
  have hm := c.1
  have hA4 := hm.1.2.2.2.1
  have hA14 := hm.1.2.2.2.2
  refine lp2 (fun n k U => vPl_burnBeyondLimits_7 Q n K 102 k U) (fun k U => ∃ e, bgI S T U K w l q e ∧ 0 ≤ e ∧ e ≤ 81 * S 0 4 ∧ nL1 S w e = k + 1) (fun k _ => (k + 1).toNat) (fun n k U hI ih => ?_) k U ⟨e, hI, e0, e1, ek⟩
  obtain ⟨e, hI, e0, e1, ek⟩ := hI
  obtain ⟨i1, i2, i3, i4, i5, i6⟩ := hI
  have hk0 := nL_0 (S := S) (w := w) e0
  unfold vPl_burnBeyondLimits_7
  refine ⟨fun hc => qq U e ⟨i1, i2, i3, i4, i5, i6⟩ e0 e1 (fun i h1 h2 hi => ?_), fun hc => ?_⟩
  · have := nL_lt hi h2
    have := nL_0 (S := S) (w := w) h1
    omega
  · obtain ⟨j, hj, je, jn⟩ := prevL (S := S) (w := w) e.toNat (by omega) (by rw [show ((e.toNat : Nat) : Int) = e by omega]; omega)
    rw [show ((e.toNat : Nat) : Int) = e by omega] at je jn
    have enj : nL1 S w e = nL1 S w j + 1 := sm_one hj je e1 jn
    have ej : nL1 S w j = k := by omega
    have oj := ho j hj
    have hj1 := hj.1
    have hj2 := hj.2.1
    have hj3 := hj.2.2.1
    have hjs := hm.2.1 (j / 81) (by omega) (by omega)
    have n80 := hjs.2.2.2.2.2.1
    have k480 : k < 480 := by
      have h1 := nL_in (w := w) hm (show 0 ≤ j / 81 by omega) (show j / 81 < 6 by omega) (show 0 ≤ j % 81 by omega)
      rw [show 81 * (j / 81) + j % 81 = j by omega] at h1
      omega
    obtain ⟨⟨r0, r1, r2, r4⟩, r5, r6⟩ := i5 j hj
    rw [ej] at r0 r1 r2 r4 r5 r6
    have r3 := r6 (fun h => by omega)
    have uk : kf S U := fun k j hk => by rw [i1 k (by omega)]; exact hF k j hk
    refine s_tellLog (by omega) k480 (by omega) (by omega) ?_
    rw [r3]
    refine ⟨⟨oj.2.1, by show q j < 8; omega⟩, by omega, ?_⟩
    have cb := cnp_b (w := w) (q := q) (p := q j) (n := e.toNat) hm (by omega)
    have cb2 := cnp_b (w := w) (q := q) (p := q j) (n := (81 * S 0 4).toNat) hm (by omega)
    have cb3 := cnp_b (w := wL S w l q) (q := q) (p := q j) (n := e.toNat) hm (by omega)
    have cb4 := cnp_b (w := wL S w l q) (q := q) (p := q j) (n := (81 * S 0 4).toNat) hm (by omega)
    have hfp : fP S w q (q j) (j + 1) = sm (lf S w (fun i => if q i = q j then 1 else 0)) e.toNat := by
      unfold fP
      exact (sm_noL (a := j + 1) (by omega) (by omega) e1 (fun i h1 h2 => jn i (by omega) h2)).symm
    have mono : sm (lf S w (fun i => if q i = q j then 1 else 0)) e.toNat ≤ sm (lf S w (fun i => if q i = q j then 1 else 0)) (81 * S 0 4).toNat := by
      have h1 := sm_app (f := lf S w (fun i => if q i = q j then 1 else 0)) e0 (81 * S 0 4 - e).toNat
      rw [show e + ((81 * S 0 4 - e).toNat : Int) = 81 * S 0 4 by omega] at h1
      have h2 := sm_b (f := fun k => lf S w (fun i => if q i = q j then 1 else 0) (e + k)) 1 (81 * S 0 4 - e).toNat (fun i _ _ => by
        show 0 ≤ lf S w (fun i => if q i = q j then 1 else 0) (e + i) ∧ lf S w (fun i => if q i = q j then 1 else 0) (e + i) ≤ 1
        unfold lf
        split
        · show 0 ≤ (if q (e + i) = q j then (1 : Int) else 0) ∧ (if q (e + i) = q j then (1 : Int) else 0) ≤ 1
          split <;> omega
        · omega)
      omega
    have uv : U (K + 3) (q j) = sm (lf S w (fun i => if q i = q j then 1 else 0)) e.toNat + (sm (lf S (wL S w l q) (fun i => if q i = q j then 1 else 0)) (81 * S 0 4).toNat - sm (lf S (wL S w l q) (fun i => if q i = q j then 1 else 0)) e.toNat) := i4 (q j) oj.2.1 (by omega)
    have nxt : ∀ V, bgI S T V K w l q j → vPl_burnBeyondLimits_92 Q (vPl_burnBeyondLimits_7 Q n) K 102 k V := by
      intro V hV
      unfold vPl_burnBeyondLimits_92
      refine ⟨by constructor <;> omega, fun z ez => ih z V ⟨j, hV, hj1, by omega, by omega⟩ (by show (z + 1).toNat < (k + 1).toNat; omega)⟩
    refine s_isBeyond c uk oj.2.1 (by omega) (fun g1 g2 => ⟨fun h => by omega, fun _ => ?_⟩) (fun g => ⟨fun _ => nxt U ?_, fun h => absurd rfl h⟩)
    · have c1 : sm (lf S (wL S w l q) (fun i => if q i = q j then 1 else 0)) e.toNat = _ := cn_left (p := q j) ho hs g1 e.toNat (by omega)
      have c2 : sm (lf S (wL S w l q) (fun i => if q i = q j then 1 else 0)) (81 * S 0 4).toNat = _ := cn_left (p := q j) ho hs g1 (81 * S 0 4).toNat (by omega)
      have hr : remL S w q j := ⟨g1, by rw [hfp]; show S 21 (q j) < _; omega⟩
      refine s_tellLog (by omega) k480 (by omega) (by omega) ?_
      refine s_tellLog (by omega) k480 (by omega) (by omega) ?_
      refine s_tellLog (by omega) k480 (by omega) (by omega) ?_
      rw [show 5 * k + 0 = 5 * k by omega, r0, r1, r2]
      refine s_burn (by omega) (by omega) (by omega) (by omega) (by omega) (fun V vF v1 => ⟨by omega, by omega, ?_⟩)
      have v3 : ∀ p, V (K + 3) p = U (K + 3) p := fun p => vF _ _ (by omega)
      rw [v3, uv]
      refine ⟨by constructor <;> omega, fun S43 e43 => ?_⟩
      have o43 : ∀ k j, ¬ (k = K + 3) → S43 k j = V k j := fun k j h => by rw [e43, up_k h]
      refine s_tellLog (by omega) k480 (by omega) (by omega) ?_
      have e4r : S43 (K + 1) (5 * k + 4) = wv S (j / 81) (l j) (q j) := by rw [o43 _ _ (by omega), vF _ _ (by omega)]; exact r4
      have e4w : S43 K 4 = mx S w l q (wvF S l q) e := by rw [o43 _ _ (by omega), vF _ _ (by omega)]; exact i3
      rw [e4r, e4w]
      have wb1 := wtp_b (n := e.toNat) hm ho (by omega)
      have wb2 := wtp_b (n := (81 * S 0 4).toNat) hm (okA_gone ho hs) (by omega)
      have wb3 := wtp_b (n := e.toNat) hm (okA_gone ho hs) (by omega)
      have vb := wv_b (S := S) (s := j / 81) (a := l j) (hm.2.2 _ oj.2.1 (by omega)) oj.2.2 (by omega) (by omega) (by omega) (by omega)
      have emx : mx S w l q (wvF S l q) e = sm (lf S w (fun i => wv S (i / 81) (l i) (q i))) e.toNat + (sm (lf S (wL S w l q) (fun i => wv S (i / 81) (l i) (q i))) (81 * S 0 4).toNat - sm (lf S (wL S w l q) (fun i => wv S (i / 81) (l i) (q i))) e.toNat) := rfl
      refine ⟨by constructor <;> omega, fun S52 e52 => ⟨by omega, fun S58 e58 => nxt S58 ?_⟩⟩
      have o58 : ∀ k' j', ¬ (k' = K + 3) → ¬ (k' = K ∧ j' = 4) → ¬ (k' = K + 1 ∧ j' = 5 * k + 3) → S58 k' j' = V k' j' := fun k' j' h1 h2 h3 => by
        rw [e58]; unfold up; rw [if_neg (by omega), e52]; unfold up; rw [if_neg h2]; exact o43 k' j' h1
      refine ⟨fun k' hk' => funext fun j' => ?_, ?_, ?_, fun p p0 p8 => ?_, fun j' hj' => ?_, fun t k' t0 t6 k0 k8 => ?_⟩
      · rw [o58 k' j' (by omega) (by omega) (by omega), vF _ _ (by omega), i1 k' hk']
      · rw [o58 _ _ (by omega) (by omega) (by omega), vF _ _ (by omega)]
        exact i2
      · rw [e58, up_k (by omega), e52, up_s]
        rw [mx_drop ho hs hj je e1 jn hr]
      · rw [e58, up_k (by omega), e52, up_k (by omega), e43, mx_drop ho hs hj je e1 jn hr]
        by_cases hp : p = q j
        · subst hp
          rw [up_s]
          show _ = mx S w l q (cF q (q j)) e - (if q j = q j then 1 else 0)
          rw [if_pos rfl]
          unfold mx
          rfl
        · rw [up_j hp, v3, i4 p p0 p8]
          show _ = mx S w l q (cF q p) e - (if q j = p then 1 else 0)
          rw [if_neg (fun h => hp h.symm)]
          omega
      · obtain ⟨⟨d0, d1, d2, d4⟩, d5, d6⟩ := i5 j' hj'
        have en : j' ≠ j → nL1 S w j' ≠ k := fun hne h => by
          by_cases hlt : j' < j
          · have := nL_lt hj' hlt
            omega
          · have := nL_lt hj (show j < j' by omega)
            omega
        have o : ∀ f, ¬ (5 * nL1 S w j' + f = 5 * k + 3) → S58 (K + 1) (5 * nL1 S w j' + f) = U (K + 1) (5 * nL1 S w j' + f) := fun f hf => by
          rw [o58 _ _ (by omega) (by omega) (by omega), vF _ _ (by omega)]
        have o0 := o 0 (by omega)
        rw [show 5 * nL1 S w j' + 0 = 5 * nL1 S w j' by omega] at o0
        refine ⟨⟨o0.trans d0, (o 1 (by omega)).trans d1, (o 2 (by omega)).trans d2, (o 4 (by omega)).trans d4⟩, ?_⟩
        by_cases hjj : j' = j
        · subst hjj
          rw [ej]
          refine ⟨fun _ => ?_, fun h => absurd ⟨hr, Int.le_refl _⟩ h⟩
          rw [e58, show k * 5 + 3 = 5 * k + 3 by omega, up_s]
        · rw [o 3 (by have := en hjj; omega)]
          have : (e ≤ j') ↔ (j ≤ j') := by
            constructor
            · intro h; omega
            · intro h
              by_cases h2 : j' < e
              · exact absurd hj' (jn j' (by omega) h2)
              · omega
          rw [← this]
          exact ⟨d5, d6⟩
      · rw [o58 _ _ (by omega) (by omega) (by omega)]
        have f6 := i6 t k' t0 t6 k0 k8
        have cv : cov S w l (fun i => remL S w q i ∧ j ≤ i) (81 * t + k') ↔ (cov S w l (fun i => remL S w q i ∧ e ≤ i) (81 * t + k') ∨ (j ≤ 81 * t + k' ∧ 81 * t + k' < j + l j)) := by
          constructor
          · rintro ⟨i, ⟨h1, h2⟩, h3, h4, h5⟩
            by_cases hij : i = j
            · rw [hij] at h4 h5
              exact Or.inr ⟨h4, h5⟩
            · refine Or.inl ⟨i, ⟨h1, ?_⟩, h3, h4, h5⟩
              by_cases h6 : i < e
              · exact absurd h3 (jn i (by omega) h6)
              · omega
          · rintro (⟨i, ⟨h1, h2⟩, h3, h4, h5⟩ | ⟨h1, h2⟩)
            · exact ⟨i, ⟨h1, by omega⟩, h3, h4, h5⟩
            · exact ⟨j, ⟨hr, Int.le_refl _⟩, hj, h1, h2⟩
        by_cases hin : 80 * (j / 81) + j % 81 ≤ 80 * t + k' ∧ 80 * t + k' < 80 * (j / 81) + j % 81 + l j
        · rw [v1 _ hin.1 hin.2]
          refine ⟨Or.inr rfl, fun _ => ?_, fun _ => rfl⟩
          have et : t = j / 81 := by omega
          refine ⟨by omega, by rw [et]; omega, Or.inr (cv.2 (Or.inr (by omega)))⟩
        · rw [vF _ _ (by omega)]
          refine ⟨f6.1, ?_⟩
          rw [f6.2, cv]
          constructor
          · rintro ⟨h1, h2, h3⟩
            exact ⟨h1, h2, h3.elim Or.inl (fun h => Or.inr (Or.inl h))⟩
          · rintro ⟨h1, h2, h3⟩
            refine ⟨h1, h2, ?_⟩
            rcases h3 with h3 | h3 | h3
            · exact Or.inl h3
            · exact Or.inr h3
            · exfalso
              have : t = j / 81 := by omega
              subst this
              omega
    · have hr : ¬ remL S w q j := by
        rintro ⟨h1, h2⟩
        have c1 := cn_left (p := q j) ho hs h1 e.toNat (by omega)
        have c2 := cn_left (p := q j) ho hs h1 (81 * S 0 4).toNat (by omega)
        rw [hfp] at h2
        have h2' : S 21 (q j) < sm (lf S w (fun i => if q i = q j then 1 else 0)) e.toNat := h2
        rw [uv] at g
        have g' : S 21 (q j) < 0 ∨ sm (lf S w (fun i => if q i = q j then 1 else 0)) e.toNat + (sm (lf S (wL S w l q) (fun i => if q i = q j then 1 else 0)) (81 * S 0 4).toNat - sm (lf S (wL S w l q) (fun i => if q i = q j then 1 else 0)) e.toNat) ≤ S 21 (q j) := g
        have c1' : sm (lf S (wL S w l q) (fun i => if q i = q j then 1 else 0)) e.toNat = _ := c1
        have c2' : sm (lf S (wL S w l q) (fun i => if q i = q j then 1 else 0)) (81 * S 0 4).toNat = _ := c2
        rw [c1', c2'] at g'
        omega
      have le_iff : ∀ i, isL S w i → remL S w q i → (e ≤ i ↔ j ≤ i) := fun i hi hri => by
        constructor
        · intro h; omega
        · intro h
          by_cases hij : i = j
          · rw [hij] at hri
            exact absurd hri hr
          · by_cases h2 : i < e
            · exact absurd hi (jn i (by omega) h2)
            · omega
      refine ⟨i1, i2, by rw [i3]; exact (mx_keep ho hs hj je e1 jn hr).symm, fun p p0 p8 => by rw [i4 p p0 p8]; exact (mx_keep ho hs hj je e1 jn hr).symm, fun j' hj' => ?_, fun t k' t0 t6 k0 k8 => ?_⟩
      · obtain ⟨d, d5, d6⟩ := i5 j' hj'
        refine ⟨d, fun h => d5 ⟨h.1, (le_iff j' hj' h.1).2 h.2⟩, fun h => d6 (fun h2 => h ⟨h2.1, (le_iff j' hj' h2.1).1 h2.2⟩)⟩
      · have f6 := i6 t k' t0 t6 k0 k8
        refine ⟨f6.1, ?_⟩
        rw [f6.2]
        have cv : cov S w l (fun i => remL S w q i ∧ j ≤ i) (81 * t + k') ↔ cov S w l (fun i => remL S w q i ∧ e ≤ i) (81 * t + k') := by
          constructor
          · rintro ⟨i, ⟨h1, h2⟩, h3, h4, h5⟩
            exact ⟨i, ⟨h1, (le_iff i h3 h1).2 h2⟩, h3, h4, h5⟩
          · rintro ⟨i, ⟨h1, h2⟩, h3, h4, h5⟩
            exact ⟨i, ⟨h1, (le_iff i h3 h1).1 h2⟩, h3, h4, h5⟩
        rw [cv]
end GV
