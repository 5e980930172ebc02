/-! WHAT HOLDS BETWEEN TWO CALLS -/
section IV
variable {S T U : St} {s p K : Int} {w l q w' l' q' : Int → Int}
/-- the told cells, of both -/
def tof (S T : St) : Prop := ∀ k j, (k = 0 ∧ 1 ≤ j ∧ j ≤ 14) ∨ (5 ≤ k ∧ k ≤ 22) ∨ (k = 100 ∧ 3 ≤ j ∧ j ≤ 6) ∨ (140 ≤ k ∧ k < 172 ∧ (j ≠ 9 ∨ k % 4 ≠ 0)) ∨ (200 ≤ k ∧ k < 320 ∧ k % 20 < 10) → T k j = S k j
theorem tof.cf (h : tof S T) : cf S T := fun k j hk => h k j (by omega)
theorem tof.c (h : tof S T) (c : cR S) : cR T := by
  obtain ⟨c1, c2, c3, c4⟩ := c
  have e : ∀ k, 5 ≤ k → k ≤ 22 → T k = S k := fun k h1 h2 => funext fun j => h k j (by omega)
  refine ⟨h.cf.w c1, ?_, fun s s0 s6 => ?_, fun p p0 p8 => ?_⟩
  · rw [h 100 3 (by omega), h 100 4 (by omega), h 100 5 (by omega), h 100 6 (by omega), h 0 4 (by omega), h 0 14 (by omega), h 0 2 (by omega), h 0 3 (by omega)]
    exact c2
  · have g : ∀ k, 200 + 20 * s ≤ k → k ≤ 200 + 20 * s + 8 → T k = S k := fun k h1 h2 => funext fun j => h k j (by omega)
    unfold crS
    rw [h.cf.n, h 0 1 (by omega), e 5 (by omega) (by omega), e 6 (by omega) (by omega), e 7 (by omega) (by omega), e 8 (by omega) (by omega), e 9 (by omega) (by omega), e 10 (by omega) (by omega), e 11 (by omega) (by omega), e 12 (by omega) (by omega), e 13 (by omega) (by omega), g (200 + 20 * s) (by omega) (by omega), g (200 + 20 * s + 2) (by omega) (by omega), g (200 + 20 * s + 3) (by omega) (by omega), g (200 + 20 * s + 4) (by omega) (by omega), g (200 + 20 * s + 5) (by omega) (by omega), g (200 + 20 * s + 6) (by omega) (by omega), g (200 + 20 * s + 7) (by omega) (by omega), g (200 + 20 * s + 8) (by omega) (by omega)]
    exact c3 s s0 s6
  · have g : ∀ j, j ≠ 9 → T (140 + 4 * p) j = S (140 + 4 * p) j := fun j hj => h _ j (by omega)
    obtain ⟨d1, d2, d3, d4⟩ := c4 p p0 p8
    unfold crP
    rw [h 0 1 (by omega), h 0 14 (by omega), e 15 (by omega) (by omega), e 16 (by omega) (by omega), e 17 (by omega) (by omega), e 18 (by omega) (by omega), e 19 (by omega) (by omega), e 20 (by omega) (by omega), e 21 (by omega) (by omega), e 22 (by omega) (by omega), g 0 (by omega), g 8 (by omega), g 3 (by omega), g 4 (by omega), g 5 (by omega), g 6 (by omega), g 7 (by omega)]
    refine ⟨d1, fun k k0 k8 => ?_, fun d d0 d7 => ?_, d4⟩
    · rw [h _ k (by omega)]
      exact d2 k k0 k8
    · rw [h _ d (by omega)]
      exact d3 d d0 d7
theorem pTo_agr {x : Int} (x0 : 0 ≤ x) (x1 : x ≤ 81 * S 0 4) (h6 : S 0 4 ≤ 6) (a : agr S w l q w' l' q') (h : pTo S T K w l q x) : pTo S T K w' l' q' x := by
  have z : ∀ (g g' : Int → Int) (y : Int), y ≤ x → (∀ i, isL S w i → g' i = g i) → sm (lf S w' g') y.toNat = sm (lf S w g) y.toNat := fun g g' y yx hg => lf_agr a hg y.toNat (by omega)
  have iL : ∀ j, isL S w' j → isL S w j := fun j hj => ⟨hj.1, hj.2.1, hj.2.2.1, by rw [← (a j hj.1 hj.2.1 hj.2.2.1).1]; exact hj.2.2.2⟩
  have lq : ∀ j, isL S w j → l' j = l j ∧ q' j = q j := fun j hj => (a j hj.1 hj.2.1 hj.2.2.1).2 hj.2.2.2
  obtain ⟨h1, h2, h3, h4, h5⟩ := h
  refine ⟨?_, ?_, fun p p0 p8 => ?_, fun j hj jx => ?_, fun t k t0 t6 k0 k8 => ⟨(h5 t k t0 t6 k0 k8).1, ?_⟩⟩
  · rw [h1]
    exact (z _ _ x (by omega) (fun _ _ => rfl)).symm
  · rw [h2]
    refine (z _ _ x (by omega) (fun i hi => ?_)).symm
    show wv S (i / 81) (l' i) (q' i) = wv S (i / 81) (l i) (q i)
    rw [(lq i hi).1, (lq i hi).2]
  · rw [h3 p p0 p8]
    refine (z _ _ x (by omega) (fun i hi => ?_)).symm
    show (if q' i = p then (1 : Int) else 0) = if q i = p then 1 else 0
    rw [(lq i hi).2]
  · have hj' := iL j hj
    have n : nL1 S w' j = nL1 S w j := z _ _ j (by omega) (fun _ _ => rfl)
    have := h4 j hj' jx
    unfold rowOK at this ⊢
    rw [n, (lq j hj').1, (lq j hj').2]
    exact this
  · rw [(h5 t k t0 t6 k0 k8).2]
    have d1 : (81 * t + k) / 81 = t := by omega
    have d2 : (81 * t + k) % 81 = k := by omega
    constructor
    · rintro ⟨g1, g2, g3, g4⟩
      exact ⟨g1, g2, g3, by rw [(a (81 * t + k) (by omega) (by omega) (by rw [d1, d2]; exact g3)).1]; exact g4⟩
    · rintro ⟨g1, g2, g3, g4⟩
      exact ⟨g1, g2, g3, by rw [← (a (81 * t + k) (by omega) (by omega) (by rw [d1, d2]; exact g3)).1]; exact g4⟩
theorem sepA_agr (hm : wfM S) (a : agr S w l q w' l' q') (ho : okA S w l q) (h : sepA S w l) : sepA S w' l' := by
  intro i j hi ij jl
  have e := a i hi.1 hi.2.1 hi.2.2.1
  have hi' : isL S w i := ⟨hi.1, hi.2.1, hi.2.2.1, by rw [← e.1]; exact hi.2.2.2⟩
  have el := (e.2 hi'.2.2.2).1
  have o := ho i hi'
  have h1 := hi.1
  have h2 := hi.2.1
  have h4 := hm.1.2.2.2.1
  have n80 := (hm.2.1 (i / 81) (by omega) (by omega)).2.2.2.2.2.1
  rw [el] at jl
  have o1 := o.1.2
  have d : j / 81 = i / 81 := by omega
  rw [(a j (by omega) (by omega) (by rw [d]; omega)).1]
  exact h i j hi' ij jl
theorem sepA_brn {R : Int → Prop} (hm : wfM S) (b : brn S w l R w') (ho : okA S w l q) (h : sepA S w l) : sepA S w' l := by
  have one : ∀ i, inR S i → w' i = 1 → w i = 1 := fun i hi h1 => by
    by_cases hc : cov S w l R i
    · rw [(b i hi).1 hc] at h1
      omega
    · rw [(b i hi).2 hc] at h1
      exact h1
  intro i j hi ij jl hw
  have hi' : isL S w i := ⟨hi.1, hi.2.1, hi.2.2.1, one i ⟨hi.1, hi.2.1, hi.2.2.1⟩ hi.2.2.2⟩
  have o := ho i hi'
  have h1 := hi.1
  have h2 := hi.2.1
  have h4 := hm.1.2.2.2.1
  have n80 := (hm.2.1 (i / 81) (by omega) (by omega)).2.2.2.2.2.1
  have o1 := o.1.2
  have d : j / 81 = i / 81 := by omega
  exact h i j hi' ij jl (one j ⟨by omega, by omega, by rw [d]; omega⟩ hw)
theorem fin_sep {most R : Nat} {W L Qs : Nat → Int → Int} {kb bd : Nat → Int} (hm : wfM S) (hq : seqOK S most R W L Qs kb bd) (h : finA S R W L Qs kb w l q) : sepA S w l := by
  rcases h with ⟨h1, h2⟩ | ⟨h1, w0, h2, h3⟩
  · have := kb_b hq R (Nat.le_refl _)
    have pl := hq.1 (kb R).toNat (by omega)
    exact sepA_agr hm h2 (plOK_okA hm pl) (plOK_sep hm pl)
  · exact sepA_brn hm h3 (plOK_okA hm h2) (plOK_sep hm h2)
/-- logs of a stem don't overlap, so they are not longer than the stem -/
theorem len_b (hm : wfM S) (ho : okA S w l q) (hs : sepA S w l) (s0 : 0 ≤ s) (s4 : s < S 0 4) : ∀ a : Nat, (a : Int) ≤ stN S s → ∃ e, sm (fun k => if w (81 * s + k) = 1 then l (81 * s + k) else 0) a ≤ e ∧ 0 ≤ e ∧ e ≤ stN S s ∧ ∀ k, (a : Int) ≤ k → k < stN S s → w (81 * s + k) = 1 → e ≤ k := by
  have h4 := hm.1.2.2.2.1
  have hsw := hm.2.1 s s0 (by omega)
  have n80 := hsw.2.2.2.2.2.1
  have n0 := stN_0 hm.1 hsw
  intro a
  induction a with
  | zero => intro _; exact ⟨0, Int.le_refl 0, by omega, by omega, fun k h1 _ _ => by omega⟩
  | succ a ih =>
    intro ha
    obtain ⟨e, e1, e2, e3, e4⟩ := ih (by omega)
    have es : sm (fun k => if w (81 * s + k) = 1 then l (81 * s + k) else 0) (a + 1) = sm (fun k => if w (81 * s + k) = 1 then l (81 * s + k) else 0) a + (if w (81 * s + a) = 1 then l (81 * s + a) else 0) := rfl
    rw [es]
    by_cases hw : w (81 * s + a) = 1
    · have d1 : (81 * s + (a : Int)) / 81 = s := by omega
      have d2 : (81 * s + (a : Int)) % 81 = a := by omega
      have isl : isL S w (81 * s + a) := ⟨by omega, by omega, by rw [d1, d2]; omega, hw⟩
      have o := (ho _ isl).1
      rw [d1, d2] at o
      have g := e4 a (by omega) (by omega) hw
      rw [if_pos hw]
      refine ⟨a + l (81 * s + a), by omega, by omega, by omega, fun k k1 k2 k3 => ?_⟩
      by_cases hk : k < a + l (81 * s + a)
      · exact absurd k3 (hs (81 * s + a) (81 * s + k) isl (by omega) (by omega))
      · omega
    · rw [if_neg hw]
      exact ⟨e, by omega, e2, e3, fun k k1 k2 k3 => e4 k (by omega) k2 k3⟩
theorem wt_96 (hm : wfM S) (ho : okA S w l q) (hs : sepA S w l) : wt S w l q ≤ 96000000 := by
  have h4 := hm.1.2.2.2.1
  have step : ∀ t : Nat, (t : Int) ≤ S 0 4 → sm (lf S w (fun i => wv S (i / 81) (l i) (q i))) (81 * (t : Int)).toNat ≤ 16000000 * t := by
    intro t
    induction t with
    | zero => intro _; exact Int.le_refl 0
    | succ t ih =>
      intro ht
      have hsw := hm.2.1 t (by omega) (by omega)
      have n80 := hsw.2.2.2.2.2.1
      have n0 := stN_0 hm.1 hsw
      have e := lf_stem (S := S) (s := t) (w := w) (g := fun i => wv S (i / 81) (l i) (q i)) (by omega) n0 n80
      have lb := len_b (s := t) hm ho hs (by omega) (by omega) (stN S t).toNat (by omega)
      obtain ⟨e', e1, e2, e3, _⟩ := lb
      have cmp : ∀ n : Nat, (n : Int) ≤ stN S t → sm (fun k => if w (81 * (t : Int) + k) = 1 then wv S ((81 * (t : Int) + k) / 81) (l (81 * (t : Int) + k)) (q (81 * (t : Int) + k)) else 0) n ≤ 200000 * sm (fun k => if w (81 * (t : Int) + k) = 1 then l (81 * (t : Int) + k) else 0) n := by
        intro n
        induction n with
        | zero => intro _; exact Int.le_refl 0
        | succ n ihn =>
          intro hn
          have g := ihn (by omega)
          have s1 : ∀ f : Int → Int, sm f (n + 1) = sm f n + f n := fun f => rfl
          rw [s1, s1]
          have d1 : (81 * (t : Int) + (n : Int)) / 81 = t := by omega
          have d2 : (81 * (t : Int) + (n : Int)) % 81 = n := by omega
          by_cases hw : w (81 * (t : Int) + n) = 1
          · have isl : isL S w (81 * (t : Int) + n) := ⟨by omega, by omega, by rw [d1, d2]; omega, hw⟩
            have o := ho _ isl
            rw [d1, d2] at o
            have vb := wv_b (S := S) (s := t) (a := l (81 * (t : Int) + n)) (hm.2.2 _ o.2.1 (by have := hm.1.2.2.2.2; omega)) o.2.2 (by omega) (by omega) (by omega) (by omega)
            simp only [if_pos hw, d1]
            omega
          · simp only [if_neg hw]
            omega
      have c2 := cmp (stN S t).toNat (by omega)
      have i2 := ih (by omega)
      rw [show ((t + 1 : Nat) : Int) = (t : Int) + 1 by omega, e]
      omega
  have := step (S 0 4).toNat (by omega)
  rw [show (((S 0 4).toNat : Nat) : Int) = S 0 4 by omega] at this
  unfold wt
  omega
def InvS (S : St) : Prop := cR S ∧ ((S 100 7 = 130 ∧ S 100 8 = 134) ∨ (S 100 7 = 134 ∧ S 100 8 = 130)) ∧ (S 0 33 = 0 ∨ S 0 33 = 1) ∧ S 100 9 = S 0 33 ∧ (0 ≤ S 0 34 ∧ S 0 34 ≤ 10) ∧ (S 0 33 = 1 → S 100 10 = S 0 34 ∧ S 100 11 = S 0 35 ∧ (∀ p, 0 ≤ p → p < S 0 14 → prC S p = S 24 p) ∧ okA S (S 25) (S 26) (S 27) ∧ sepA S (S 25) (S 26) ∧ pRel S S (S 100 7) (S 25) (S 26) (S 27))
theorem InvS.fr (h : InvS S) (f : ∀ k j, ¬ (k = 0 ∧ j = 0) → k ≠ 330 → T k j = S k j) : InvS T := by
  obtain ⟨c, h1, h2, h3, h4, h5⟩ := h
  have tf : tof S T := fun k j hk => f k j (by omega) (by omega)
  have ek : ∀ k, k ≠ 0 → k ≠ 330 → T k = S k := fun k k1 k2 => funext fun j => f k j (by omega) k2
  refine ⟨tf.c c, ?_, ?_, ?_, ?_, fun g => ?_⟩
  · rw [ek 100 (by omega) (by omega)]; exact h1
  · rw [f 0 33 (by omega) (by omega)]; exact h2
  · rw [f 0 33 (by omega) (by omega), ek 100 (by omega) (by omega)]; exact h3
  · rw [f 0 34 (by omega) (by omega)]; exact h4
  · rw [f 0 33 (by omega) (by omega)] at g
    obtain ⟨g1, g2, g3, g4, g5, g6⟩ := h5 g
    rw [f 0 34 (by omega) (by omega), f 0 35 (by omega) (by omega), f 0 14 (by omega) (by omega), ek 100 (by omega) (by omega), ek 24 (by omega) (by omega), ek 25 (by omega) (by omega), ek 26 (by omega) (by omega), ek 27 (by omega) (by omega)]
    refine ⟨g1, g2, fun p p0 p8 => ?_, okA_cf tf.cf g4, ?_, ?_⟩
    · unfold prC
      rw [ek _ (by omega) (by omega)]
      exact g3 p p0 p8
    · intro i j hi
      exact g5 i j ((isL_cf tf.cf).1 hi)
    · have e4 : T 0 4 = S 0 4 := f 0 4 (by omega) (by omega)
      have := pTo_cf (U := T) tf.cf g6
      rw [← e4] at this
      exact pTo_eq (by have := c.1.1.2.2.2.1; omega) (by omega) (fun k k1 k2 => ek k (by omega) (by omega)) (fun _ _ _ => ⟨rfl, rfl, rfl⟩) this
/-- after something was told -/
theorem InvS.told (c : cR T) (h : InvS S) (e7 : T 100 7 = S 100 7) (e8 : T 100 8 = S 100 8) (e9 : T 100 9 = 0) (e33 : T 0 33 = 0) (e34 : T 0 34 = S 0 34) : InvS T := by
  obtain ⟨_, h1, h2, h3, h4, h5⟩ := h
  exact ⟨c, by rw [e7, e8]; exact h1, Or.inl e33, by rw [e9, e33], by rw [e34]; exact h4, fun g => by omega⟩
end IV
