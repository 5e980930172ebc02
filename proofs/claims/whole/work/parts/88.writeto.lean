section WT
variable {S T U : St} {s a b p x K : Int} {pr κ : Int → Int} {w l q : Int → Int}
theorem pTo_skip {i i' : Int} (i0 : 0 ≤ i) (ii : i ≤ i') (hn : ∀ j, i ≤ j → j < i' → ¬ (j % 81 < stN S (j / 81) ∧ (w j = 1 ∨ w j = 2))) (h : pTo S T K w l q i) : pTo S T K w l q i' := by
  have z : ∀ g : Int → Int, sm (lf S w g) i'.toNat = sm (lf S w g) i.toNat := fun g => sm_gap i0 ii (fun j j1 j2 => by
    have := hn j j1 j2
    unfold lf
    rw [if_neg (by omega)])
  obtain ⟨h1, h2, h3, h4, h5⟩ := h
  refine ⟨h1.trans (z _).symm, h2.trans (z _).symm, fun p p0 p8 => (h3 p p0 p8).trans (z _).symm, fun j hj ji => ?_, fun t k t0 t6 k0 k8 => ⟨(h5 t k t0 t6 k0 k8).1, ?_⟩⟩
  · by_cases hji : j < i
    · exact h4 j hj hji
    · exact absurd ⟨hj.2.2.1, Or.inl hj.2.2.2⟩ (hn j (by omega) ji)
  · rw [(h5 t k t0 t6 k0 k8).2]
    constructor
    · intro g
      exact ⟨by omega, g.2⟩
    · intro g
      by_cases hji : 81 * t + k < i
      · exact ⟨hji, g.2⟩
      · have h81 := hn (81 * t + k) (by omega) g.1
        rw [show (81 * t + k) % 81 = k by omega, show (81 * t + k) / 81 = t by omega] at h81
        exact absurd ⟨g.2.2.1, Or.inr g.2.2.2⟩ h81
theorem pTo_fuel (s0 : 0 ≤ s) (s6 : s < S 0 4) (h6 : S 0 4 ≤ 6) (a0 : 0 ≤ a) (an : a < stN S s) (n80 : stN S s ≤ 80) (wa : w (81 * s + a) = 2) (hF : ∀ k j, ¬ (k = K + 2 ∧ 80 * s + a ≤ j ∧ j < 80 * s + a + 1) → U k j = T k j) (h1 : ∀ j, 80 * s + a ≤ j → j < 80 * s + a + 1 → U (K + 2) j = 1) (h : pTo S T K w l q (81 * s + a)) : pTo S U K w l q (81 * s + a + 1) := by
  have z : ∀ g : Int → Int, sm (lf S w g) (81 * s + a + 1).toNat = sm (lf S w g) (81 * s + a).toNat := fun g => by
    have e : lf S w g (81 * s + a) = 0 := by rw [lf_in a0 an (by omega), if_neg (by omega)]
    have := sm_s (f := lf S w g) (a := 81 * s + a) (by omega)
    omega
  obtain ⟨g1, g2, g3, g4, g5⟩ := h
  refine ⟨by rw [hF K 3 (by omega)]; exact g1.trans (z _).symm, by rw [hF K 4 (by omega)]; exact g2.trans (z _).symm, fun p p0 p8 => by rw [hF (K + 3) p (by omega)]; exact (g3 p p0 p8).trans (z _).symm, fun j hj ji => ?_, fun t k t0 t6 k0 k8 => ?_⟩
  · have e : ∀ j, U (K + 1) j = T (K + 1) j := fun j => hF _ _ (by omega)
    have jn : j ≠ 81 * s + a := fun e => by
      have := hj.2.2.2
      rw [e] at this
      omega
    unfold rowOK
    rw [e, e, e, e, e]
    exact g4 j hj (by omega)
  · by_cases ht : 80 * t + k = 80 * s + a
    · have e1 : t = s := by omega
      have e2 : k = a := by omega
      subst e1 e2
      rw [h1 _ (by omega) (by omega)]
      exact ⟨Or.inr rfl, fun _ => ⟨by omega, s6, an, wa⟩, fun _ => rfl⟩
    · rw [hF _ _ (by omega)]
      refine ⟨(g5 t k t0 t6 k0 k8).1, ?_⟩
      rw [(g5 t k t0 t6 k0 k8).2]
      constructor
      · exact fun g => ⟨by omega, g.2⟩
      · exact fun g => ⟨by omega, g.2⟩
theorem pTo_log {c : Int} (hm : wfM S) (s0 : 0 ≤ s) (s6 : s < S 0 4) (a0 : 0 ≤ a) (an : a < stN S s) (n80 : stN S s ≤ 80) (wa : w (81 * s + a) = 1) (q0 : 0 ≤ q (81 * s + a)) (q8 : q (81 * s + a) < 8) (ec : c = T K 3)
    (t3 : U K 3 = T K 3 + 1) (t4 : U K 4 = T K 4 + wv S s (l (81 * s + a)) (q (81 * s + a))) (tp : ∀ p, U (K + 3) p = if p = q (81 * s + a) then T (K + 3) p + 1 else T (K + 3) p) (tf : ∀ j, U (K + 2) j = T (K + 2) j) (tr : ∀ j, ¬ (5 * c ≤ j ∧ j < 5 * c + 5) → U (K + 1) j = T (K + 1) j) (tn : U (K + 1) (5 * c) = s ∧ U (K + 1) (5 * c + 1) = a ∧ U (K + 1) (5 * c + 2) = l (81 * s + a) ∧ U (K + 1) (5 * c + 3) = q (81 * s + a) ∧ U (K + 1) (5 * c + 4) = wv S s (l (81 * s + a)) (q (81 * s + a))) (h : pTo S T K w l q (81 * s + a)) : pTo S U K w l q (81 * s + a + 1) := by
  have d1 : (81 * s + a) / 81 = s := by omega
  have d2 : (81 * s + a) % 81 = a := by omega
  have z : ∀ g : Int → Int, sm (lf S w g) (81 * s + a + 1).toNat = sm (lf S w g) (81 * s + a).toNat + g (81 * s + a) := fun g => by
    have e : lf S w g (81 * s + a) = g (81 * s + a) := by rw [lf_in a0 an (by omega), if_pos wa]
    have := sm_s (f := lf S w g) (a := 81 * s + a) (by omega)
    omega
  obtain ⟨g1, g2, g3, g4, g5⟩ := h
  subst ec
  refine ⟨?_, ?_, fun p p0 p8 => ?_, fun j hj ji => ?_, fun t k t0 t6 k0 k8 => ?_⟩
  · rw [t3, g1]
    exact (z _).symm
  · rw [t4, g2]
    have := z (fun i => wv S (i / 81) (l i) (q i))
    simp only [d1] at this
    rw [this]
  · rw [tp p, g3 p p0 p8, z]
    show _ = _ + (if q (81 * s + a) = p then 1 else 0)
    by_cases hp : p = q (81 * s + a)
    · rw [if_pos hp, if_pos hp.symm]
    · rw [if_neg hp, if_neg (fun e => hp e.symm)]
      omega
  · by_cases hji : j = 81 * s + a
    · subst hji
      unfold rowOK
      rw [d1, d2, ← g1]
      exact tn
    · have lt := nL_lt hj (show j < 81 * s + a by omega)
      have g := g4 j hj (by omega)
      have n0 := nL_0 (S := S) (w := w) hj.1
      rw [← g1] at lt
      unfold rowOK at g ⊢
      rw [tr _ (by omega), tr _ (by omega), tr _ (by omega), tr _ (by omega), tr _ (by omega)]
      exact g
  · rw [tf]
    refine ⟨(g5 t k t0 t6 k0 k8).1, ?_⟩
    rw [(g5 t k t0 t6 k0 k8).2]
    constructor
    · exact fun g => ⟨by omega, g.2⟩
    · intro g
      refine ⟨?_, g.2⟩
      by_cases e : 81 * t + k = 81 * s + a
      · have := g.2.2.2
        rw [e] at this
        omega
      · omega
theorem s_writeTo {Q : St → Prop} (hm : wfM S) (ho : okA S w l q) (s0 : 0 ≤ s) (s6 : s < S 0 4) (hK : K = 130 ∨ K = 134) (hF : tf S U) (hS : crS S s) (hP : ∀ p, 0 ≤ p → p < S 0 14 → crP S p) (hpl : isPl S pr κ s (fun k => w (81 * s + k)) (fun k => l (81 * s + k)) (fun k => q (81 * s + k)))
    (hch : ∀ y, 0 ≤ y → y < stN S s → (U 106 y = -1 ∧ noC S pr κ s y) ∨ ch S pr κ s y (U 105 y) (U 106 y)) (hT : pTo S U K w l q (81 * s)) (qq : ∀ T, plf U T K → pTo S T K w l q (81 * (s + 1)) → Q T) : vpCu_writeTo 103 K (200 + 20 * s) s 102 (S 0 3) U Q := by
  have hA := hm.1
  have hA4 := hA.2.2.2.1
  have hA14 := hA.2.2.2.2
  have hA3 := hA.2.2.1
  have hs := hm.2.1 s s0 (by omega)
  have n80 := hs.2.2.2.2.2.1
  have n0 := stN_0 hA hs
  obtain ⟨hp0, hpc⟩ := hpl
  unfold vpCu_writeTo
  refine lp3 (fun n f x T => vCu_writeTo_6 Q n 103 K (200 + 20 * s) s 102 (S 0 3) f x T) (fun f x T => (0 ≤ x ∧ x ≤ stN S s) ∧ (0 ≤ f ∧ f ≤ 90) ∧ plf U T K ∧ (max x (min f (stN S s)) < stN S s → w (81 * s + max x (min f (stN S s))) = 1 ∨ w (81 * s + max x (min f (stN S s))) = 2) ∧ pTo S T K w l q (81 * s + max x (min f (stN S s)))) (fun _ x _ => (stN S s - x).toNat) (fun n f x T hI ih => ?_) 0 0 U ⟨by omega, by omega, plf.rf, fun h => ?_, ?_⟩
  · obtain ⟨hx, hf, tF, hst, hto⟩ := hI
    have eU : ∀ k j, ¬ (130 ≤ k ∧ k < 138) → T k j = U k j := fun k j h => by rw [tF k (by omega)]
    have e11 : T (200 + 20 * s) 11 = stN S s := by rw [eU _ _ (by omega), hF _ _ (by omega) (by omega)]; exact hS.1.2.2.2
    have nx : ∀ f' T', (0 ≤ f' ∧ f' ≤ 90) → plf U T' K → x < stN S s → (max (x + 1) (min f' (stN S s)) < stN S s → w (81 * s + max (x + 1) (min f' (stN S s))) = 1 ∨ w (81 * s + max (x + 1) (min f' (stN S s))) = 2) → pTo S T' K w l q (81 * s + max (x + 1) (min f' (stN S s))) → vCu_writeTo_107 Q (vCu_writeTo_6 Q n) 103 K (200 + 20 * s) s 102 (S 0 3) f' x T' := by
      intro f' T' g1 g2 g3 g4 g5
      unfold vCu_writeTo_107
      refine ⟨by constructor <;> omega, fun z ez => ?_⟩
      subst ez
      exact ih f' (x + 1) T' ⟨by omega, g1, g2, g4, g5⟩ (by show (stN S s - (x + 1)).toNat < (stN S s - x).toNat; omega)
    unfold vCu_writeTo_6
    rw [e11]
    refine ⟨fun hc => ?_, fun hc => ⟨fun hlt => ?_, fun hlt => ⟨by omega, ?_⟩⟩⟩
    · rw [show max x (min f (stN S s)) = stN S s by omega] at hto
      refine qq T tF (pTo_skip (by omega) (by omega) (fun j j1 j2 => ?_) hto)
      have : j / 81 = s := by omega
      rw [this]
      omega
    · unfold vCu_writeTo_44
      refine ⟨fun _ => ?_, fun h => absurd hlt h⟩
      have e : max (x + 1) (min f (stN S s)) = max x (min f (stN S s)) := by omega
      refine nx f T hf tF (by omega) ?_ ?_
      · rw [e]; exact hst
      · rw [e]; exact hto
    · have eA : max x (min f (stN S s)) = x := by omega
      rw [eA] at hst hto
      have hcx := hpc x (by omega) (by omega)
      have wx := hst (by omega)
      have e106 : T 106 x = U 106 x := eU _ _ (by omega)
      have e105 : T 105 x = U 105 x := eU _ _ (by omega)
      rw [e106]
      have cases : (w (81 * s + x) = 2 ∧ U 106 x = -1) ∨ (w (81 * s + x) = 1 ∧ U 105 x = x + l (81 * s + x) ∧ U 106 x = q (81 * s + x)) := by
        rcases wx with g | g
        · have c1 := (hcx.2.2 g).1
          rcases hch x (by omega) (by omega) with c2 | c2
          · exact absurd c1.2.1 (c2.2 _ _ c1.1)
          · have u := ch_uniq c1 c2
            exact Or.inr ⟨g, u.1.symm, u.2.symm⟩
        · have c1 := (hcx.2.1 g).1
          rcases hch x (by omega) (by omega) with c2 | c2
          · exact Or.inl ⟨g, c2.1⟩
          · exact absurd c2.2.1 (c1 _ _ c2.1)
      rcases cases with ⟨g1, g2⟩ | ⟨g1, g2, g3⟩
      · refine ⟨fun _ => ?_, fun h => absurd g2 h⟩
        refine s_burn s0 (by omega) (by omega) (by omega) (by omega) (fun T' h1 h2 => ?_)
        have e : max (x + 1) (min f (stN S s)) = x + 1 := by omega
        have := pTo_fuel s0 s6 (by omega) (by omega) (by omega) n80 g1 h1 h2 hto
        refine nx f T' hf (fun k hk => ?_) (by omega) (fun h => ?_) ?_
        · rw [← tF k hk]
          exact funext fun j => h1 k j (by omega)
        · rw [e] at h ⊢
          have := (hcx.2.1 g1).2 h
          simp only [] at this
          exact this
        · rw [e, ← Int.add_assoc]
          exact this
      · have isl : isL S w (81 * s + x) := ⟨by omega, by omega, by rw [show (81 * s + x) % 81 = x by omega, show (81 * s + x) / 81 = s by omega]; omega, g1⟩
        obtain ⟨o1, o2⟩ := ho _ isl
        rw [show (81 * s + x) % 81 = x by omega, show (81 * s + x) / 81 = s by omega] at o1
        have hq0 : ¬ U 106 x = -1 := by omega
        refine ⟨fun h => absurd h hq0, fun _ => ?_⟩
        unfold vCu_writeTo_44
        refine ⟨fun h => absurd h hlt, fun _ => ⟨by omega, ?_⟩⟩
        rw [e105, e106, g2, g3]
        refine ⟨by constructor <;> omega, fun z ez => ?_⟩
        have ez' : z = l (81 * s + x) := by omega
        subst ez'
        refine ⟨by omega, by omega, ⟨by omega, by show q (81 * s + x) < 8; omega⟩, ?_⟩
        unfold vpPr_trueWorth
        have cP := hP _ o2.1 o2.2
        have e7 : T (140 + 4 * q (81 * s + x)) 7 = S 19 (q (81 * s + x)) := by
          rw [eU _ _ (by omega), hF _ _ (by omega) (by omega)]
          exact (cP.2.2.2 o2.2).2.2.2.2
        have ew : T (140 + 4 * q (81 * s + x) + 3) s = S 22 (7 * q (81 * s + x) + s) := by
          rw [eU _ _ (by omega), hF _ _ (by omega) (by omega)]
          exact cP.2.2.1 s s0 (by omega)
        have ev : T (140 + 4 * q (81 * s + x)) 7 * l (81 * s + x) + T (140 + 4 * q (81 * s + x) + 3) s = wv S s (l (81 * s + x)) (q (81 * s + x)) := by rw [e7, ew]; rfl
        have vb := wv_b (S := S) (s := s) (a := l (81 * s + x)) (hm.2.2 _ o2.1 (by omega)) o2.2 s0 (by omega) (by omega) (by omega)
        rw [ev]
        refine ⟨by omega, by constructor <;> omega, ?_⟩
        have c1 := hto.1
        have c2 := hto.2.1
        have c3 := hto.2.2.1 _ o2.1 (show q (81 * s + x) < 8 by omega)
        have l80 := nL_in (w := w) hm s0 (show s < 6 by omega) (show 0 ≤ x by omega)
        have l0 := nL_0 (S := S) (w := w) (show 0 ≤ 81 * s + x by omega)
        have wb := wtp_b (n := (81 * s + x).toNat) hm ho (by omega)
        have cb := cnp_b (w := w) (q := q) (p := q (81 * s + x)) (n := (81 * s + x).toNat) hm (by omega)
        refine s_addLog (by rw [c1]; omega) (by constructor <;> omega) ⟨o2.1, by omega⟩ (by rw [c3]; omega) (by rw [c2]; constructor <;> omega) (fun T' h1 h2 h3 h4 h5 h6 h7 => ⟨by omega, ?_⟩)
        have lgp := pTo_log hm s0 s6 (show 0 ≤ x by omega) (by omega) n80 g1 o2.1 (by omega) rfl h2 h3 h4 h5 h6 h7 hto
        have e105' : T' 105 x = x + l (81 * s + x) := by rw [h1 105 (by omega), e105, g2]
        rw [e105']
        refine ⟨by constructor <;> omega, fun z ez => ?_⟩
        subst ez
        have eT : max (x + 1) (min (x + l (81 * s + x) + S 0 3) (stN S s)) = toE S s (x + l (81 * s + x)) := by unfold toE; omega
        have t := toE_b hA (show x + l (81 * s + x) ≤ stN S s by omega)
        obtain ⟨k1, k2, k3, k4, k5⟩ := hcx.2.2 g1
        simp only [] at k2 k3 k4 k5
        refine nx _ T' (by omega) (tF.tr h1) (by omega) ?_ ?_
        · rw [eT]
          exact k5
        · rw [eT]
          refine pTo_skip (by omega) (by omega) (fun j j1 j2 => ?_) lgp
          rintro ⟨_, hj⟩
          have e : j = 81 * s + (j - 81 * s) := by omega
          by_cases hjl : j - 81 * s < x + l (81 * s + x)
          · have := k2 (j - 81 * s) (by omega) hjl
            rw [← e] at this
            omega
          · have := k3 (j - 81 * s) (by omega) (by omega)
            rw [← e] at this
            omega
  · have e : max 0 (min 0 (stN S s)) = 0 := by omega
    rw [e] at h ⊢
    have := hp0 h
    simp only [] at this
    exact this
  · rw [show max 0 (min 0 (stN S s)) = 0 by omega, Int.add_zero]
    exact hT
end WT
