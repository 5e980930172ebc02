section PN
variable {S T U : St} {s a b p x K : Int} {pr pr' κ : Int → Int} {w l q w' l' q' : Int → Int}
/-- what the making of plans leaves as it is, in the class: what is told -/
def kf (S T : St) : Prop := ∀ k j, (k < 100 ∨ (k = 100 ∧ j ≤ 6) ∨ (140 ≤ k ∧ ¬ (k < 172 ∧ k % 4 = 0 ∧ j = 9) ∧ ¬ (200 ≤ k ∧ k < 320 ∧ 10 ≤ k % 20))) → T k j = S k j
theorem kf.rf : kf S S := fun _ _ _ => rfl
theorem kf.tr (h : kf S T) (g : kf T U) : kf S U := fun k j a => (g k j a).trans (h k j a)
theorem kf.cf (h : kf S T) : cf S T := fun k j hk => h k j (by omega)
theorem kf.c (h : kf S T) (c : cR S) : cR T := by
  obtain ⟨c1, c2, c3, c4⟩ := c
  have e : ∀ k, k < 100 → T k = S k := fun k hk => funext fun j => h k j (by omega)
  refine ⟨h.cf.w c1, ?_, fun s s0 s6 => ?_, fun p p0 p8 => ?_⟩
  · rw [h 100 3 (by omega), h 100 4 (by omega), h 100 5 (by omega), h 100 6 (by omega), e 0 (by omega)]
    exact c2
  · have g : ∀ k, 200 + 20 * s ≤ k → k ≤ 200 + 20 * s + 8 → T k = S k := fun k h1 h2 => funext fun j => h k j (by omega)
    unfold crS
    rw [h.cf.n, e 0 (by omega), e 5 (by omega), e 6 (by omega), e 7 (by omega), e 8 (by omega), e 9 (by omega), e 10 (by omega), e 11 (by omega), e 12 (by omega), e 13 (by omega), g (200 + 20 * s) (by omega) (by omega), g (200 + 20 * s + 2) (by omega) (by omega), g (200 + 20 * s + 3) (by omega) (by omega), g (200 + 20 * s + 4) (by omega) (by omega), g (200 + 20 * s + 5) (by omega) (by omega), g (200 + 20 * s + 6) (by omega) (by omega), g (200 + 20 * s + 7) (by omega) (by omega), g (200 + 20 * s + 8) (by omega) (by omega)]
    exact c3 s s0 s6
  · have g : ∀ j, j ≠ 9 → T (140 + 4 * p) j = S (140 + 4 * p) j := fun j hj => h _ j (by omega)
    obtain ⟨d1, d2, d3, d4⟩ := c4 p p0 p8
    unfold crP
    rw [e 0 (by omega), e 15 (by omega), e 16 (by omega), e 17 (by omega), e 18 (by omega), e 19 (by omega), e 20 (by omega), e 21 (by omega), e 22 (by omega), g 0 (by omega), g 8 (by omega), g 3 (by omega), g 4 (by omega), g 5 (by omega), g 6 (by omega), g 7 (by omega)]
    refine ⟨d1, fun k k0 k8 => ?_, fun d d0 d7 => ?_, d4⟩
    · rw [h _ k (by omega)]
      exact d2 k k0 k8
    · rw [h _ d (by omega)]
      exact d3 d d0 d7
theorem caf.kf (h : caf S T K) (hK : K = 130 ∨ K = 134) : kf S T := fun k j hk => by rw [h k (by omega) (by omega) (by omega)]
/-- the frame of startPlans -/
def spf (S T : St) : Prop := ∀ k j, ¬ (140 ≤ k ∧ k < 172 ∧ k % 4 = 0 ∧ j = 9) → ¬ (200 ≤ k ∧ k < 320 ∧ 10 ≤ k % 20) → T k j = S k j
theorem spf.kf (h : spf S T) : kf S T := fun k j hk => h k j (by omega) (by omega)
theorem s_startPlans {Q : St → Prop} (c : cR S) (qq : ∀ T, spf S T → (∀ p, 0 ≤ p → p < S 0 14 → prC T p = 0) → (∀ s p, 0 ≤ s → s < T 0 4 → 0 ≤ p → p < T 0 14 → rcOK T T s p) → Q T) : vpBT_startPlans 100 S Q := by
  have hm := c.1
  have cB := c.2.1
  have hA := hm.1
  have hA4 := hA.2.2.2.1
  have hA14 := hA.2.2.2.2
  unfold vpBT_startPlans
  refine lp2 (fun n y U => vBT_startPlans_2 Q n 100 y U) (fun y U => (0 ≤ y ∧ y ≤ S 0 14) ∧ (∀ k j, ¬ (140 ≤ k ∧ k < 172 ∧ k % 4 = 0 ∧ j = 9) → U k j = S k j) ∧ ∀ p, 0 ≤ p → p < y → prC U p = 0) (fun y _ => (S 0 14 - y).toNat) (fun n y U hI ih => ?_) 0 S ⟨by omega, fun _ _ _ => rfl, fun _ _ _ => by omega⟩
  obtain ⟨hy, uF, u0⟩ := hI
  unfold vBT_startPlans_2
  rw [uF 100 4 (by omega), cB.2.1]
  refine ⟨fun hc => ?_, fun hc => ⟨by omega, fun S3 e3 => ⟨by constructor <;> omega, fun z ez => ?_⟩⟩⟩
  · have uk : kf S U := fun k j hk => uF k j (by omega)
    have uc := uk.c c
    refine lp2 (fun n s V => vBT_startPlans_28 Q n 100 s V) (fun s V => (0 ≤ s ∧ s ≤ S 0 4) ∧ (∀ k j, ¬ (200 ≤ k ∧ k < 320 ∧ 10 ≤ k % 20) → V k j = U k j) ∧ ∀ t p, 0 ≤ t → t < s → 0 ≤ p → p < S 0 14 → rcOK V U t p) (fun s _ => (S 0 4 - s).toNat) (fun n s V hJ jh => ?_) 0 U ⟨by omega, fun _ _ _ => rfl, fun _ _ _ _ => by omega⟩
    obtain ⟨hs, vF, vR⟩ := hJ
    unfold vBT_startPlans_28
    rw [vF 100 3 (by omega), uF 100 3 (by omega), cB.1]
    refine ⟨fun hd => ?_, fun hd => ?_⟩
    · have vk : kf U V := fun k j hk => vF k j (by omega)
      have k04 : V 0 4 = S 0 4 := by rw [vF 0 4 (by omega), uF 0 4 (by omega)]
      have k014 : V 0 14 = S 0 14 := by rw [vF 0 14 (by omega), uF 0 14 (by omega)]
      refine qq V (fun k j h1 h2 => by rw [vF k j h2]; exact uF k j h1) (fun p p0 p8 => ?_) (fun t p t0 t4 p0 p14 => ?_)
      · unfold prC
        rw [vF _ _ (by omega)]
        exact u0 p p0 (by omega)
      · have g := vR t p t0 (by omega) p0 (by omega)
        unfold rcOK rcP at *
        rw [vk.cf.n]
        refine ⟨g.1, fun a b a0 ab bn => ?_⟩
        show b ≤ V (kR t p) a ↔ okP V t a b p
        rw [vk.cf.o]
        exact g.2 a b a0 ab bn
    · refine lp2 (fun m y W => vBT_startPlans_38 Q (vBT_startPlans_28 Q n) m 100 s y W) (fun y W => (0 ≤ y ∧ y ≤ S 0 14) ∧ (∀ k j, ¬ (200 ≤ k ∧ k < 320 ∧ 10 ≤ k % 20) → W k j = U k j) ∧ (∀ t p, 0 ≤ t → t < s → 0 ≤ p → p < S 0 14 → rcOK W U t p) ∧ ∀ p, 0 ≤ p → p < y → rcOK W U s p) (fun y _ => (S 0 14 - y).toNat) (fun m y W hH hh => ?_) 0 V ⟨by omega, vF, vR, fun _ _ _ => by omega⟩
      obtain ⟨hy', wF, wR, wS⟩ := hH
      unfold vBT_startPlans_38
      rw [wF 100 4 (by omega), uF 100 4 (by omega), cB.2.1]
      refine ⟨fun he => ⟨by constructor <;> omega, fun z ez => ?_⟩, fun he => ⟨by omega, by omega, ?_⟩⟩
      · subst ez
        refine jh (s + 1) W ⟨by omega, wF, fun t p t0 ts p0 p8 => ?_⟩ (by show (S 0 4 - (s + 1)).toNat < (S 0 4 - s).toNat; omega)
        by_cases hts : t = s
        · subst hts
          exact wS p p0 (by omega)
        · exact wR t p t0 (by omega) p0 p8
      · have wk : kf U W := fun k j hk => wF k j (by omega)
        have wc := wk.c uc
        have k014 : W 0 14 = S 0 14 := by rw [wF 0 14 (by omega), uF 0 14 (by omega)]
        have e5 : W 100 5 = W 0 2 := wc.2.1.2.2.1
        rw [e5]
        refine s_findReach wc.1 (wc.2.2.1 s hs.1 (by omega)) (wc.2.2.2 y hy'.1 (by omega)) hs.1 (by omega) hy'.1 (by omega) (fun X xF xR => ⟨by constructor <;> omega, fun z ez => ?_⟩)
        subst ez
        have tr : ∀ t p, 0 ≤ t → t < 6 → 0 ≤ p → p < 8 → ¬ (t = s ∧ p = y) → rcOK W U t p → rcOK X U t p := by
          intro t p t0 t6 p0 p8 hn g
          unfold rcOK rcP at *
          rw [xF (kR t p) (by unfold kR; omega)]
          exact g
        refine hh (y + 1) X ⟨by omega, fun k j hk => ?_, fun t p t0 ts p0 p8 => tr t p t0 (by omega) p0 (by omega) (by omega) (wR t p t0 ts p0 p8), fun p p0 py => ?_⟩ (by show (S 0 14 - (y + 1)).toNat < (S 0 14 - y).toNat; omega)
        · rw [xF k (by unfold kR; omega)]
          exact wF k j hk
        · by_cases hpy : p = y
          · rw [hpy]
            unfold rcOK rcP at *
            rw [wk.cf.n] at xR
            refine ⟨xR.1, fun a b a0 ab bn => ?_⟩
            show b ≤ X (kR s y) a ↔ okP U s a b y
            rw [← wk.cf.o]
            exact xR.2 a b a0 ab bn
          · exact tr s p hs.1 (by omega) p0 (by omega) (by omega) (wS p p0 (by omega))
  · subst ez
    refine ih (y + 1) S3 ⟨by omega, fun k j hk => ?_, fun p p0 py => ?_⟩ (by show (S 0 14 - (y + 1)).toNat < (S 0 14 - y).toNat; omega)
    · rw [e3]
      unfold up
      rw [if_neg (by omega)]
      exact uF k j hk
    · by_cases hp : p = y
      · rw [hp]
        unfold prC
        rw [e3, up_s]
      · unfold prC
        rw [e3, up_k (by omega)]
        exact u0 p p0 (by omega)
theorem s_makePlain {Q : St → Prop} (c : cR S) (k7 : S 100 7 = 130 ∨ S 100 7 = 134) (qq : ∀ T w l q, kf S T → T 100 7 = S 100 7 → T 100 8 = S 100 8 → T 100 9 = 1 → T 100 10 = 0 → T 100 11 = wt S w l q → (∀ p, 0 ≤ p → p < S 0 14 → prC T p = 0) → plOK S (fun _ => 0) w l q → pRel S T (S 100 7) w l q → Q T) : vpBT_makePlain 100 S Q := by
  unfold vpBT_makePlain
  refine s_startPlans c (fun U uF u0 uR => ?_)
  have uc := uF.kf.c c
  have e14 : U 0 14 = S 0 14 := uF 0 14 (by omega) (by omega)
  have e04 : U 0 4 = S 0 4 := uF 0 4 (by omega) (by omega)
  have e7 : U 100 7 = S 100 7 := uF 100 7 (by omega) (by omega)
  have e8 : U 100 8 = S 100 8 := uF 100 8 (by omega) (by omega)
  rw [e7]
  refine s_cutAll uc uR (fun p p0 p8 => by rw [u0 p p0 (by omega)]; omega) k7 (fun V w l q vF vP vR => ?_)
  intro S11 e11 S15 e15 S19 e19
  have v100 : V 100 = U 100 := vF 100 (by omega) (by omega) (by omega)
  have ek : ∀ k j, ¬ (k = 100 ∧ 9 ≤ j ∧ j ≤ 11) → S19 k j = V k j := fun k j h => by
    rw [e19]; unfold up; rw [if_neg (by omega), e15]; unfold up; rw [if_neg (by omega), e11]; unfold up; rw [if_neg (by omega)]
  have ekk : ∀ k, k ≠ 100 → S19 k = V k := fun k h => funext fun j => ek k j (by omega)
  have c' := uF.kf.cf
  refine qq S19 w l q (fun k j h => ?_) ?_ ?_ ?_ ?_ ?_ (fun p p0 p8 => ?_) (plOK_pr (fun p p0 p8 => ?_) (plOK_cf c'.sy vP)) ?_
  · rw [ek k j (by omega), vF.kf k7 k j h]
    exact uF.kf k j h
  · rw [ek _ _ (by omega), v100, e7]
  · rw [ek _ _ (by omega), v100, e8]
  · rw [e19, up_s]
  · rw [e19, up_j (by omega), e15, up_s]
  · rw [e19, up_j (by omega), e15, up_j (by omega), e11, up_s, v100, e7]
    rw [← wt_cf c', vR.2.1]
    rfl
  · unfold prC
    rw [ekk _ (by omega), vF _ (by omega) (by omega) (by omega)]
    exact u0 p p0 p8
  · exact (u0 p p0 p8).symm
  · have := pTo_cf (U := S) c'.sy vR
    rw [e04] at this
    refine pTo_eq (by have := c.1.1.2.2.2.1; omega) (by omega) (fun k h1 h2 => ekk k (by omega)) (fun _ _ _ => ⟨rfl, rfl, rfl⟩) this
end PN
