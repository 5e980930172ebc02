/-! THE REFERENCE, OVER NUMBERS -/
section MY
variable {S : St} {s a b p : Int} {Q : Int → St → Prop}
theorem s_stepsOf (h : wfA S) (hs : wfS S s) (s0 : 0 ≤ s) (s6 : s < 6) (q : Q (stN S s) S) : vpMo_stepsOf 0 s S Q := by
  have hn := stN_0 h hs
  have h80 := hs.2.2.2.2.2.1
  have h1 := h.1
  have h5 := hs.1
  unfold stN at q hn h80
  unfold vpMo_stepsOf vMo_stepsOf_36
  refine ⟨⟨s0, s6⟩, fun h0 => ?_, fun h0 => ?_⟩
  · rw [if_pos h0] at q
    exact q
  · rw [if_neg h0] at q hn h80
    have h6 := (hs.2.2.1 (S 5 s - 1) (by omega) (by omega)).1
    rw [show 60 * s + (S 5 s - 1) = 60 * s + S 5 s - 1 by omega] at h6
    exact ⟨⟨s0, s6⟩, by omega, by omega, by omega, by omega, by constructor <;> omega, q⟩
theorem s_mark {s f t how : Int} {Q : St → Prop} (s0 : 0 ≤ s) (s6 : s < 6) (f0 : 0 ≤ f) (t81 : t ≤ 81) (hw : rI how) (q : ∀ S', (∀ k j, ¬ (k = 25 ∧ 81 * s + f ≤ j ∧ j < 81 * s + t) → S' k j = S k j) → (∀ k, f ≤ k → k < t → S' 25 (81 * s + k) = how) → Q S') : vpMo_mark 0 s f t how S Q := by
  unfold vpMo_mark
  refine lp2 (fun n x S' => vMo_mark_3 Q n 0 s t how x S') (fun x S' => f ≤ x ∧ (x ≤ t ∨ x = f) ∧ (∀ k j, ¬ (k = 25 ∧ 81 * s + f ≤ j ∧ j < 81 * s + x) → S' k j = S k j) ∧ (∀ k, f ≤ k → k < x → S' 25 (81 * s + k) = how)) (fun x _ => (t - x).toNat) (fun n x S' hI ih => ?_) f S ⟨by omega, by omega, fun _ _ _ => rfl, fun k h1 h2 => by omega⟩
  obtain ⟨h1, h2, h3, h4⟩ := hI
  unfold vMo_mark_3
  refine ⟨fun hx => ?_, fun hx => ⟨by constructor <;> omega, fun S3 e3 => ⟨by constructor <;> omega, fun z ez => ?_⟩⟩⟩
  · exact q S' (fun k j hk => h3 k j (by omega)) (fun k k1 k2 => h4 k k1 (by omega))
  · subst ez
    subst e3
    refine ih _ _ ⟨by omega, by omega, fun k j hk => ?_, fun k k1 k2 => ?_⟩ (by omega)
    · unfold up
      rw [if_neg (by omega)]
      exact h3 k j (by omega)
    · unfold up
      by_cases hkx : k = x
      · rw [if_pos ⟨rfl, by omega⟩]
      · rw [if_neg (by omega)]
        exact h4 k k1 (by omega)
theorem s_may_210 {l f : Int} (h : wfA S) (hs : wfS S s) (hp : wfP S p) (s0 : 0 ≤ s) (s6 : s < 6) (p0 : 0 ≤ p) (p8 : p < S 0 14) (f0 : 60 * s ≤ f) (fl : f ≤ l) (l1 : l < 60 * s + S 5 s) (q1 : S 17 p ≤ S 7 l - S 0 2 → (∀ k, f ≤ k → k ≤ l → S 8 k + S 0 2 ≤ S 18 p) → Q 1 S) (q0 : ¬ (S 17 p ≤ S 7 l - S 0 2 ∧ ∀ k, f ≤ k → k ≤ l → S 8 k + S 0 2 ≤ S 18 p) → Q 0 S) : ∃ n, vMo_may_210 Q n 0 p l 0 f S := by
  obtain ⟨_, m1, _, _, w14⟩ := h
  obtain ⟨w5, _, h3, _⟩ := hs
  obtain ⟨_, w17, w18, _⟩ := hp.2.2.2 p8
  have rg : ∀ k, 60 * s ≤ k → k < 60 * s + S 5 s → (0 ≤ S 7 k ∧ S 7 k ≤ 100000) ∧ (0 ≤ S 8 k ∧ S 8 k ≤ 100000) := fun k k0 k1 => by
    have := (h3 (k - 60 * s) (by omega) (by omega)).2
    rw [show 60 * s + (k - 60 * s) = k by omega] at this
    exact this
  refine lp2 (fun n y x => vMo_may_210 Q n 0 p l y x S) (fun y x => f ≤ x ∧ x ≤ l + 1 ∧ (0 ≤ y ∧ y ≤ 100000) ∧ (∀ k, f ≤ k → k < x → S 8 k ≤ y) ∧ (y = 0 ∨ ∃ k, f ≤ k ∧ k < x ∧ y = S 8 k)) (fun _ x => (l + 1 - x).toNat) (fun n y x hI ih => ?_) 0 f ⟨by omega, by omega, by omega, fun k h1 h2 => by omega, Or.inl rfl⟩
  obtain ⟨h1, h2, hy, h4, h5⟩ := hI
  unfold vMo_may_210 vMo_may_241 vMo_may_292 vMo_may_293
  refine ⟨fun hx => ?_, fun hx => ?_⟩
  · have r7 := rg l (by omega) l1
    have r8 := rg f (by omega) (by omega)
    have hf := h4 f (by omega) (by omega)
    refine ⟨by omega, by omega, by constructor <;> omega, fun hc => ⟨Or.inl rfl, q0 (fun z => by omega)⟩, fun hc => ⟨by omega, by constructor <;> omega, fun hd => ⟨Or.inl rfl, q0 (fun z => ?_)⟩, fun hd => ⟨Or.inr rfl, q1 (by omega) (fun k k0 k1 => ?_)⟩⟩⟩
    · rcases h5 with h5 | ⟨k, k0, k1, k2⟩
      · have := z.2 f (by omega) (by omega)
        omega
      · have := z.2 k k0 (by omega)
        omega
    · have := h4 k k0 (by omega)
      omega
  · have r8 := rg x (by omega) (by omega)
    refine ⟨by omega, fun hc => ⟨by constructor <;> omega, fun z ez => ?_⟩, fun hc => ⟨by omega, by constructor <;> omega, fun z ez => ?_⟩⟩
    · subst ez
      refine ih _ _ ⟨by omega, by omega, hy, fun k k0 k1 => ?_, ?_⟩ (by omega)
      · by_cases hk : k = x
        · rw [hk]; exact hc
        · exact h4 k k0 (by omega)
      · rcases h5 with h5 | ⟨k, k0, k1, k2⟩
        · exact Or.inl h5
        · exact Or.inr ⟨k, k0, by omega, k2⟩
    · subst ez
      refine ih _ _ ⟨by omega, by omega, by omega, fun k k0 k1 => ?_, Or.inr ⟨x, by omega, by omega, rfl⟩⟩ (by omega)
      by_cases hk : k = x
      · rw [hk]; omega
      · have := h4 k k0 (by omega)
        omega
theorem s_may_185 {l A : Int} (s0 : 0 ≤ s) (s6 : s < 6) (w5 : S 5 s ≤ 60) (hA : S 6 (60 * s) ≤ A) (l0 : 60 * s ≤ l) (l1 : l < 60 * s + S 5 s) (q : ∀ f, 60 * s ≤ f → f ≤ l → S 6 f ≤ A → (∀ k, f < k → k ≤ l → A < S 6 k) → ∃ n, vMo_may_210 Q n 0 p l 0 f S) : ∃ n, vMo_may_185 Q n 0 p A l l S := by
  refine lp1 (fun n x => vMo_may_185 Q n 0 p A l x S) (fun x => 60 * s ≤ x ∧ x ≤ l ∧ ∀ k, x < k → k ≤ l → A < S 6 k) (fun x => x.toNat) (fun n x hI ih => ?_) l ⟨by omega, by omega, fun k h1 h2 => by omega⟩
  obtain ⟨h1, h2, h3⟩ := hI
  unfold vMo_may_185
  refine ⟨by omega, fun hc => q x h1 h2 hc h3, fun hc => ⟨by constructor <;> omega, fun z ez => ?_⟩⟩
  have hx : x ≠ 60 * s := fun e => by rw [e] at hc; exact hc hA
  subst ez
  refine ih _ ⟨by omega, by omega, fun k k0 k1 => ?_⟩ (by omega)
  by_cases hk : k = x
  · rw [hk]; omega
  · exact h3 k (by omega) k1
theorem s_may_163 {A B : Int} (s0 : 0 ≤ s) (s6 : s < 6) (w5 : 0 < S 5 s ∧ S 5 s ≤ 60) (hB : B ≤ S 6 (60 * s + (S 5 s - 1))) (q : ∀ l, 60 * s ≤ l → l < 60 * s + S 5 s → B ≤ S 6 l → (∀ k, 60 * s ≤ k → k < l → S 6 k < B) → ∃ n, vMo_may_185 Q n 0 p A l l S) : ∃ n, vMo_may_163 Q n 0 p A B (60 * s) S := by
  refine lp1 (fun n x => vMo_may_163 Q n 0 p A B x S) (fun x => 60 * s ≤ x ∧ x < 60 * s + S 5 s ∧ ∀ k, 60 * s ≤ k → k < x → S 6 k < B) (fun x => (400 - x).toNat) (fun n x hI ih => ?_) (60 * s) ⟨by omega, by omega, fun k h1 h2 => by omega⟩
  obtain ⟨h1, h2, h3⟩ := hI
  unfold vMo_may_163
  refine ⟨by omega, fun hc => q x h1 h2 hc h3, fun hc => ⟨by constructor <;> omega, fun z ez => ?_⟩⟩
  have hx : x ≠ 60 * s + (S 5 s - 1) := fun e => by rw [e] at hc; exact hc hB
  subst ez
  refine ih _ ⟨by omega, by omega, fun k k0 k1 => ?_⟩ (by omega)
  by_cases hk : k = x
  · rw [hk]; omega
  · exact h3 k k0 (by omega)
theorem s_may_88 {A B : Int} (hs : wfS S s) (s0 : 0 ≤ s) (s6 : s < 6) (p0 : 0 ≤ p) (p8 : p < 8) (q0 : ¬ (∀ k, 0 ≤ k → k < S 9 s → S 20 (8 * p + S 12 (20 * s + k)) = 0 ∨ B ≤ S 10 (20 * s + k) ∨ S 11 (20 * s + k) ≤ A) → Q 0 S) (q : (∀ k, 0 ≤ k → k < S 9 s → S 20 (8 * p + S 12 (20 * s + k)) = 0 ∨ B ≤ S 10 (20 * s + k) ∨ S 11 (20 * s + k) ≤ A) → ∃ n, vMo_may_163 Q n 0 p A B (60 * s) S) : ∃ n, vMo_may_88 Q n 0 s p A B (20 * s) S := by
  obtain ⟨_, w9, _, _, _, _, h7, _⟩ := hs
  refine lp1 (fun n x => vMo_may_88 Q n 0 s p A B x S) (fun x => 20 * s ≤ x ∧ x ≤ 20 * s + S 9 s ∧ ∀ k, 0 ≤ k → 20 * s + k < x → S 20 (8 * p + S 12 (20 * s + k)) = 0 ∨ B ≤ S 10 (20 * s + k) ∨ S 11 (20 * s + k) ≤ A) (fun x => (20 * s + S 9 s - x).toNat) (fun n x hI ih => ?_) (20 * s) ⟨by omega, by omega, fun k h1 h2 => by omega⟩
  obtain ⟨h1, h2, h3⟩ := hI
  unfold vMo_may_88 vMo_may_151
  refine ⟨by omega, by constructor <;> omega, fun hc => ⟨by constructor <;> omega, fun z ez => ?_⟩, fun hc => ?_⟩
  · subst ez
    exact q (fun k k0 k1 => h3 k k0 (by omega))
  · have e : 20 * s + (x - 20 * s) = x := by omega
    have h9 := (h7 (x - 20 * s) (by omega) (by omega)).2
    rw [e] at h9
    have nx : ∀ z, z = x + 1 → (S 20 (8 * p + S 12 x) = 0 ∨ B ≤ S 10 x ∨ S 11 x ≤ A) → vMo_may_88 Q n 0 s p A B z S := fun z ez hz => by
      subst ez
      refine ih _ ⟨by omega, by omega, fun k k0 k1 => ?_⟩ (by omega)
      by_cases hk : 20 * s + k = x
      · rw [hk]; exact hz
      · exact h3 k k0 (by omega)
    refine ⟨by omega, by omega, fun g1 => ⟨by constructor <;> omega, fun z ez => nx z ez (Or.inl g1)⟩, fun g1 => ⟨by omega, fun g2 => ⟨by constructor <;> omega, fun z ez => nx z ez (Or.inr (Or.inl g2))⟩, fun g2 => ⟨by omega, fun g3 => ⟨by constructor <;> omega, fun z ez => nx z ez (Or.inr (Or.inr g3))⟩, fun g3 => q0 (fun z => ?_)⟩⟩⟩
    have := z (x - 20 * s) (by omega) (by omega)
    rw [e] at this
    rcases this with q | q | q
    · exact g1 q
    · exact g2 q
    · exact g3 q
theorem s_may_53 {A B : Int} (s0 : 0 ≤ s) (s6 : s < 6) (a0 : 0 ≤ a) (ab : a < b) (b80 : b ≤ 80) (q0 : ¬ (∀ c, a < c → c < b → S 13 (81 * s + c) = 0) → Q 0 S) (q : (∀ c, a < c → c < b → S 13 (81 * s + c) = 0) → ∃ n, vMo_may_88 Q n 0 s p A B (20 * s) S) : ∃ n, vMo_may_53 Q n 0 s b p A B (a + 1) S := by
  refine lp1 (fun n x => vMo_may_53 Q n 0 s b p A B x S) (fun x => a + 1 ≤ x ∧ x ≤ b ∧ ∀ c, a < c → c < x → S 13 (81 * s + c) = 0) (fun x => (b - x).toNat) (fun n x hI ih => ?_) (a + 1) ⟨by omega, by omega, fun k h1 h2 => by omega⟩
  obtain ⟨h1, h2, h3⟩ := hI
  unfold vMo_may_53
  refine ⟨fun hc => ⟨by constructor <;> omega, fun z ez => ?_⟩, fun hc => ⟨by omega, fun g => ⟨by constructor <;> omega, fun z ez => ?_⟩, fun g => q0 (fun z => g (z x (by omega) (by omega)))⟩⟩
  · subst ez
    exact q (fun c c0 c1 => h3 c c0 (by omega))
  · subst ez
    refine ih _ ⟨by omega, by omega, fun c c0 c1 => ?_⟩ (by omega)
    by_cases hk : c = x
    · rw [hk]; exact g
    · exact h3 c c0 (by omega)
theorem pts_iff {f l : Int} (hs : wfS S s) (ab : a * S 0 1 < b * S 0 1) (f0 : 60 * s ≤ f) (fl : f ≤ l) (l1 : l < 60 * s + S 5 s) (hl : b * S 0 1 ≤ S 6 l) (hl2 : ∀ k, 60 * s ≤ k → k < l → S 6 k < b * S 0 1) (hf : S 6 f ≤ a * S 0 1) (hf2 : ∀ k, f < k → k ≤ l → a * S 0 1 < S 6 k) : ptsOK S s a b p ↔ (S 17 p ≤ S 7 l - S 0 2 ∧ ∀ k, f ≤ k → k ≤ l → S 8 k + S 0 2 ≤ S 18 p) := by
  constructor
  · intro hp
    have g : ∀ k, f ≤ k → k ≤ l → S 17 p ≤ S 7 k - S 0 2 ∧ S 8 k + S 0 2 ≤ S 18 p := fun k k0 k1 => by
      have := hp (k - 60 * s) (by omega) (by omega) ?_ ?_
      · rw [show 60 * s + (k - 60 * s) = k by omega] at this
        exact this
      · by_cases hk : k - 60 * s = 0
        · exact Or.inl hk
        · exact Or.inr (hl2 _ (by omega) (by omega))
      · by_cases hk : k - 60 * s + 1 = S 5 s
        · exact Or.inl hk
        · refine Or.inr ?_
          by_cases hkl : k = l
          · have := pl_mono hs (j := l - 60 * s) (k := k - 60 * s + 1) (by omega) (by omega) (by omega)
            rw [show 60 * s + (l - 60 * s) = l by omega] at this
            omega
          · exact hf2 _ (by omega) (by omega)
    exact ⟨(g l fl (by omega)).1, fun k k0 k1 => (g k k0 k1).2⟩
  · intro ⟨g1, g2⟩ k k0 k1 k2 k3
    have kl : 60 * s + k ≤ l := by
      rcases k2 with k2 | k2
      · omega
      · have h1 : ¬ l < 60 * s + k := fun hlt => by
          by_cases he : l = 60 * s + (k - 1)
          · rw [← he] at k2; omega
          · have := pl_mono hs (j := l - 60 * s) (k := k - 1) (by omega) (by omega) (by omega)
            rw [show 60 * s + (l - 60 * s) = l by omega] at this
            omega
        omega
    have fk : f ≤ 60 * s + k := by
      rcases k3 with k3 | k3
      · omega
      · have h1 : ¬ 60 * s + k < f := fun hlt => by
          by_cases he : f = 60 * s + (k + 1)
          · rw [← he] at k3; omega
          · have := pl_mono hs (j := k + 1) (k := f - 60 * s) (by omega) (by omega) (by omega)
            rw [show 60 * s + (f - 60 * s) = f by omega] at this
            omega
        omega
    refine ⟨?_, g2 _ fk kl⟩
    have := tp_mono hs (j := k) (k := l - 60 * s) k0 (by omega) (by omega)
    rw [show 60 * s + (l - 60 * s) = l by omega] at this
    omega
theorem s_may (hm : wfM S) (s0 : 0 ≤ s) (s6 : s < 6) (a0 : 0 ≤ a) (ab : a < b) (bn : b ≤ stN S s) (p0 : 0 ≤ p) (p8 : p < S 0 14) (q1 : mayP S s a b p → Q 1 S) (q0 : ¬ mayP S s a b p → Q 0 S) : vpMo_may 0 s a b p S Q := by
  obtain ⟨h, hs, hp⟩ := hm
  replace hs := hs s s0 s6
  have h14 := h.2.2.2.2
  replace hp := hp p p0 (by omega)
  have hA := mul_0 h a0
  have hAB := mul_lt h ab
  obtain ⟨h5, hB⟩ := stN_mul h hs (by omega) bn
  have h6 := (hs.2.2.1 (S 5 s - 1) (by omega) (by omega)).1
  have h80 := hs.2.2.2.2.2.1
  have w5 := hs.1
  have w60 := hs.2.2.2.1 h5
  unfold vpMo_may vMo_may_46
  refine ⟨by constructor <;> omega, fun A eA => ⟨by constructor <;> omega, fun B eB => ?_⟩⟩
  rw [← eA] at hA
  rw [← eA, ← eB] at hAB
  rw [← eB] at hB
  refine ⟨by omega, by constructor <;> omega, fun g1 => q0 (fun z => ?_), fun g1 => ⟨by omega, by constructor <;> omega, fun g2 => ⟨by constructor <;> omega, fun z ez => ?_⟩, fun g2 => q0 (fun z => ?_)⟩⟩
  · have := z.1
    omega
  · subst ez
    refine s_may_53 s0 s6 a0 ab (by omega) (fun z => q0 (fun y => z y.2.2.1)) (fun hf => ?_)
    refine s_may_88 hs s0 s6 p0 (by omega) (fun z => q0 (fun y => z (by rw [eA, eB]; exact y.2.2.2.1))) (fun hb => ?_)
    refine s_may_163 s0 s6 ⟨h5, w5.2⟩ hB (fun l l0 l1 l2 l3 => ?_)
    refine s_may_185 s0 s6 w5.2 (by omega) l0 l1 (fun f f0 fl f1 f2 => ?_)
    have hi := pts_iff (a := a) (b := b) (p := p) hs (by rw [← eA, ← eB]; exact hAB) f0 fl l1 (by rw [← eB]; exact l2) (by rw [← eB]; exact l3) (by rw [← eA]; exact f1) (by rw [← eA]; exact f2)
    refine s_may_210 h hs hp s0 s6 p0 p8 f0 fl l1 (fun y1 y2 => q1 ⟨by omega, by omega, hf, ?_, hi.mpr ⟨y1, y2⟩⟩) (fun y => q0 (fun z => y (hi.mp z.2.2.2.2)))
    rw [eA, eB] at hb
    exact hb
  · have := z.2.1
    omega
end MY
