section CG
variable {S T U V : St} {s a b p x K e : Int} {w l q g : Int → Int}
theorem s_closeGaps {Q : St → Prop} (c : cR S) (hK : K = 130 ∨ K = 134) (ho : okA S w l q) (hs : sepA S w l) (hV : bgI S T V K w l q e) (e0 : 0 ≤ e) (e1 : e ≤ 81 * S 0 4) (en : ∀ i, 0 ≤ i → i < e → ¬ isL S w i) (qq : ∀ U, plf T U K → pRel S U K (wL S w l q) l q → Q U) : vpPl_closeGaps K V (fun (S3 : St) => (Q S3)) := by
  have hm := c.1
  have hA4 := hm.1.2.2.2.1
  obtain ⟨v1, v2, v3, v4, v5, v6⟩ := hV
  have eL : ∀ j, isL S w j → e ≤ j := fun j hj => by
    by_cases h : j < e
    · exact absurd hj (en j hj.1 h)
    · omega
  have vr : ∀ j, isL S w j → rowX S V K l q j (nL1 S w j) ∧ (remL S w q j → V (K + 1) (5 * nL1 S w j + 3) = -1) ∧ (¬ remL S w q j → V (K + 1) (5 * nL1 S w j + 3) = q j) := fun j hj => by
    obtain ⟨h1, h2, h3⟩ := v5 j hj
    exact ⟨h1, fun h => h2 ⟨h, eL j hj⟩, fun h => h3 (fun g => h g.1)⟩
  unfold vpPl_closeGaps
  refine lp3 (fun n d k U => vPl_closeGaps_4 (fun S3 => Q S3) n K d k U) (fun d k U => ∃ f, (0 ≤ f ∧ f ≤ 81 * S 0 4) ∧ nL1 S w f = k ∧ nL1 S (wL S w l q) f = d ∧ d ≤ k ∧ (∀ k' j', k' ≠ K + 1 → U k' j' = V k' j') ∧ (∀ j, 5 * k ≤ j → U (K + 1) j = V (K + 1) j) ∧ ∀ j, isL S (wL S w l q) j → j < f → rowOK S U K l q j (nL1 S (wL S w l q) j)) (fun _ k _ => (nL1 S w (81 * S 0 4) - k).toNat) (fun n d k U hI ih => ?_) 0 0 V ⟨0, by omega, rfl, rfl, by omega, fun _ _ _ => rfl, fun _ _ => rfl, fun j hj h => by have := hj.1; omega⟩
  obtain ⟨f, hf, fk, fd, dk, uF, uR, uO⟩ := hI
  have k0 := nL_0 (S := S) (w := w) hf.1
  have d0 := nL_0 (S := S) (w := wL S w l q) hf.1
  unfold vPl_closeGaps_4
  rw [uF K 3 (by omega), v2]
  refine ⟨fun hc => fun S2 e2 => ?_, fun hc => ?_⟩
  · have no : ∀ i, f ≤ i → i < 81 * S 0 4 → ¬ isL S w i := fun i h1 h2 hi => by
      have m1 := nL_mono (S := S) (w := w) hf.1 h1
      have m2 := nL_lt hi h2
      omega
    have ed : nL1 S (wL S w l q) (81 * S 0 4) = d := by
      rw [← fd]
      exact sm_noL hf.1 hf.2 (Int.le_refl _) (fun i h1 h2 hi => no i h1 h2 ((gone_L ho hs).1 hi).1)
    have ek : ∀ k' j', ¬ (k' = K ∧ j' = 3) → S2 k' j' = U k' j' := fun k' j' h => by rw [e2]; unfold up; rw [if_neg h]
    refine qq S2 (fun k' hk' => funext fun j' => ?_) ⟨?_, ?_, fun p p0 p8 => ?_, fun j hj jl => ?_, fun t k' t0 t6 k0' k8 => ?_⟩
    · rw [ek _ _ (by omega), uF _ _ (by omega), v1 k' hk']
    · rw [e2, up_s, ed]
    · rw [ek _ _ (by omega), uF _ _ (by omega), v3]
      exact mx_0 ho hs e0 e1 en
    · rw [ek _ _ (by omega), uF _ _ (by omega), v4 p p0 p8]
      exact mx_0 ho hs e0 e1 en
    · have jf : j < f := by
        by_cases h : j < f
        · exact h
        · exact absurd ((gone_L ho hs).1 hj).1 (no j (by omega) jl)
      have := uO j hj jf
      unfold rowOK at this ⊢
      rw [ek _ _ (by omega), ek _ _ (by omega), ek _ _ (by omega), ek _ _ (by omega), ek _ _ (by omega)]
      exact this
    · rw [ek _ _ (by omega), uF _ _ (by omega)]
      have f6 := v6 t k' t0 t6 k0' k8
      refine ⟨f6.1, ?_⟩
      rw [f6.2]
      have cv : cov S w l (fun i => remL S w q i ∧ e ≤ i) (81 * t + k') ↔ cov S w l (remL S w q) (81 * t + k') := by
        constructor
        · rintro ⟨i, ⟨h1, h2⟩, h3, h4, h5⟩
          exact ⟨i, h1, h3, h4, h5⟩
        · rintro ⟨i, h1, h3, h4, h5⟩
          exact ⟨i, ⟨h1, eL i h3⟩, h3, h4, h5⟩
      rw [cv]
      constructor
      · rintro ⟨h1, h2, h3⟩
        refine ⟨?_, h1, h2, ?_⟩
        · have := (hm.2.1 t t0 t6).2.2.2.2.2.1
          omega
        · by_cases hc2 : cov S w l (remL S w q) (81 * t + k')
          · exact gone_y hc2
          · rw [show wL S w l q (81 * t + k') = w (81 * t + k') from gone_n hc2]
            exact h3.elim id (fun h => absurd h hc2)
      · rintro ⟨_, h1, h2, h3⟩
        refine ⟨h1, h2, ?_⟩
        by_cases hc2 : cov S w l (remL S w q) (81 * t + k')
        · exact Or.inr hc2
        · rw [show wL S w l q (81 * t + k') = w (81 * t + k') from gone_n hc2] at h3
          exact Or.inl h3
  · obtain ⟨j, hj, fj, jn, no⟩ := nextL (S := S) (w := w) hf.1 (81 * S 0 4 - f).toNat (by omega) (by rw [show f + ((81 * S 0 4 - f).toNat : Int) = 81 * S 0 4 by omega]; omega)
    have hj1 := hj.1
    have hj2 := hj.2.1
    have ejk : nL1 S w j = k := by rw [← fk]; exact sm_noL hf.1 fj (by omega) no
    have ejd : nL1 S (wL S w l q) j = d := by rw [← fd]; exact sm_noL hf.1 fj (by omega) (fun i h1 h2 hi => no i h1 h2 ((gone_L ho hs).1 hi).1)
    have ej1 : nL1 S w (j + 1) = k + 1 := by
      rw [← ejk]
      exact sm_one hj (by omega) (by omega) (fun i h1 h2 => by omega)
    have k480 : k < 480 := by
      have h1 := nL_in (w := w) hm (show 0 ≤ j / 81 by omega) (show j / 81 < 6 by omega) (show 0 ≤ j % 81 by omega)
      rw [show 81 * (j / 81) + j % 81 = j by omega] at h1
      have := hj.2.2.1
      have := (hm.2.1 (j / 81) (by omega) (by omega)).2.2.2.2.2.1
      omega
    have le1 := nL_lt hj (show j < 81 * S 0 4 by omega)
    obtain ⟨⟨r0, r1, r2, r4⟩, r5, r6⟩ := vr j hj
    rw [ejk] at r0 r1 r2 r4 r5 r6
    refine s_tellLog (by omega) k480 (by omega) (by omega) ?_
    rw [uR _ (by omega)]
    have oj := ho j hj
    by_cases hr : remL S w q j
    · have ed1 : nL1 S (wL S w l q) (j + 1) = d := by
        rw [← ejd]
        exact sm_noL hj1 (by omega) (by omega) (fun i h1 h2 hi => by
          have : i = j := by omega
          rw [this] at hi
          exact ((gone_L ho hs).1 hi).2 hr)
      refine ⟨fun _ => ?_, fun h => absurd (r5 hr) h⟩
      unfold vPl_closeGaps_43
      refine ⟨by constructor <;> omega, fun z ez => ih d z U ⟨j + 1, by omega, by omega, ed1, by omega, uF, fun j' h => uR j' (by omega), fun j' hj' h => ?_⟩ (by show (nL1 S w (81 * S 0 4) - z).toNat < (nL1 S w (81 * S 0 4) - k).toNat; omega)⟩
      refine uO j' hj' ?_
      have hh := (gone_L ho hs).1 hj'
      by_cases h2 : j' = j
      · rw [h2] at hh
        exact absurd hr hh.2
      · by_cases h3 : j' < f
        · exact h3
        · exact absurd hh.1 (no j' (by omega) (by omega))
    · have hjw : isL S (wL S w l q) j := (gone_L ho hs).2 ⟨hj, hr⟩
      have ed1 : nL1 S (wL S w l q) (j + 1) = d + 1 := by
        rw [← ejd]
        exact sm_one hjw (by omega) (by omega) (fun i h1 h2 => by omega)
      refine ⟨fun h => by rw [r6 hr] at h; omega, fun _ => ⟨by omega, by omega, fun S14 e14 => ⟨by constructor <;> omega, fun z ez => ?_⟩⟩⟩
      have cp : ∀ f', 0 ≤ f' → f' < 5 → S14 (K + 1) (5 * d + f') = V (K + 1) (5 * k + f') := fun f' h1 h2 => by
        rw [e14]
        unfold cpy
        rw [if_pos ⟨rfl, by omega, by omega⟩, show k * 5 + (5 * d + f' - d * 5) = 5 * k + f' by omega]
        exact uR _ (by omega)
      have co : ∀ j', ¬ (5 * d ≤ j' ∧ j' < 5 * d + 5) → S14 (K + 1) j' = U (K + 1) j' := fun j' h => by
        rw [e14]
        unfold cpy
        rw [if_neg (by omega)]
      have ck : ∀ k' j', k' ≠ K + 1 → S14 k' j' = U k' j' := fun k' j' h => by
        rw [e14]
        unfold cpy
        rw [if_neg (by omega)]
      unfold vPl_closeGaps_43
      refine ⟨by constructor <;> omega, fun z2 ez2 => ih z z2 S14 ⟨j + 1, by omega, by omega, by omega, by omega, fun k' j' h => by rw [ck k' j' h]; exact uF k' j' h, fun j' h => by rw [co j' (by omega)]; exact uR j' (by omega), fun j' hj' h => ?_⟩ (by show (nL1 S w (81 * S 0 4) - z2).toNat < (nL1 S w (81 * S 0 4) - k).toNat; omega)⟩
      by_cases h2 : j' = j
      · subst h2
        rw [ejd]
        have c0 := cp 0 (by omega) (by omega)
        rw [show 5 * d + 0 = 5 * d by omega, show 5 * k + 0 = 5 * k by omega] at c0
        exact ⟨c0.trans r0, (cp 1 (by omega) (by omega)).trans r1, (cp 2 (by omega) (by omega)).trans r2, (cp 3 (by omega) (by omega)).trans (r6 hr), (cp 4 (by omega) (by omega)).trans r4⟩
      · have h3 : j' < f := by
          by_cases h3 : j' < f
          · exact h3
          · exact absurd ((gone_L ho hs).1 hj').1 (no j' (by omega) (by omega))
        have lt := nL_lt hj' (show j' < j by omega)
        have := uO j' hj' h3
        unfold rowOK at this ⊢
        rw [co _ (by omega), co _ (by omega), co _ (by omega), co _ (by omega), co _ (by omega)]
        exact this
theorem s_burnBeyond {Q : St → Prop} (c : cR S) (hF : kf S T) (hK : K = 130 ∨ K = 134) (ho : okA S w l q) (hs : sepA S w l) (hT : pRel S T K w l q) (qq : ∀ U, plf T U K → pRel S U K (wL S w l q) l q → Q U) : vpPl_burnBeyondLimits K 102 T Q := by
  have hm := c.1
  have hA4 := hm.1.2.2.2.1
  have lb := lc_b (w := w) hm
  obtain ⟨h1, h2, h3, h4, h5⟩ := hT
  have h1' : T K 3 = lc S w := h1
  unfold vpPl_burnBeyondLimits
  refine ⟨by rw [h1']; constructor <;> omega, fun z ez => ?_⟩
  refine s_bg7 (e := 81 * S 0 4) c hF hK ho hs ⟨plf.rf, h1, by rw [h2]; exact mx_N.symm, fun p p0 p8 => by rw [h3 p p0 p8]; exact mx_N.symm, fun j hj => ?_, fun t k t0 t6 k0 k8 => ⟨(h5 t k t0 t6 k0 k8).1, ?_⟩⟩ (by omega) (by omega) (by omega) (fun V e' hV e0 e1 en => s_closeGaps c hK ho hs hV e0 e1 en qq)
  · obtain ⟨r0, r1, r2, r3, r4⟩ := h4 j hj hj.2.1
    exact ⟨⟨r0, r1, r2, r4⟩, fun h => by have := hj.2.1; omega, fun _ => r3⟩
  · rw [(h5 t k t0 t6 k0 k8).2]
    constructor
    · rintro ⟨g1, g2, g3, g4⟩
      exact ⟨g2, g3, Or.inl g4⟩
    · rintro ⟨g1, g2, g3⟩
      have := (hm.2.1 t t0 t6).2.2.2.2.2.1
      refine ⟨by omega, g1, g2, ?_⟩
      rcases g3 with g3 | ⟨i, ⟨_, i2⟩, i3, _, _⟩
      · exact g3
      · have := i3.2.1
        omega
end CG
