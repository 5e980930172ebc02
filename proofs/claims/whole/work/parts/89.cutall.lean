section CA
variable {S T U : St} {s a b p x K : Int} {pr pr' κ : Int → Int} {w l q w' l' q' : Int → Int}
theorem pTo_cf (c : cf S U) (h : pTo S T K w l q x) : pTo U T K w l q x := by
  have e4 : U 0 4 = S 0 4 := c.j (by omega)
  have ev : ∀ s a p, wv U s a p = wv S s a p := fun s a p => c.v
  have en : ∀ s, stN U s = stN S s := fun s => c.n
  have el : ∀ g, lf U w g = lf S w g := fun g => lf_cf c
  unfold pTo nL1 rowOK at *
  simp only [el, ev, en, e4]
  obtain ⟨h1, h2, h3, h4, h5⟩ := h
  exact ⟨h1, h2, h3, fun j hj => h4 j ((isL_cf c).1 hj), h5⟩
theorem pTo_eq (x0 : 0 ≤ x) (x1 : x ≤ 81 * S 0 4) (ek : ∀ k, K ≤ k → k ≤ K + 3 → U k = T k) (e : ∀ i, 0 ≤ i → i < x → w' i = w i ∧ l' i = l i ∧ q' i = q i) (h : pTo S T K w l q x) : pTo S U K w' l' q' x := by
  have z : ∀ (g g' : Int → Int) (y : Int), 0 ≤ y → y ≤ x → (∀ i, 0 ≤ i → i < x → g' i = g i) → sm (lf S w' g') y.toNat = sm (lf S w g) y.toNat := fun g g' y y0 yx hg => sm_eq _ (fun i i0 i1 => by
    unfold lf
    rw [(e i i0 (by omega)).1, hg i i0 (by omega)])
  obtain ⟨h1, h2, h3, h4, h5⟩ := h
  have k0 := ek K (by omega) (by omega)
  have k1 := ek (K + 1) (by omega) (by omega)
  have k2 := ek (K + 2) (by omega) (by omega)
  have k3 := ek (K + 3) (by omega) (by omega)
  refine ⟨?_, ?_, fun p p0 p8 => ?_, fun j hj jx => ?_, fun t k t0 t6 k0' k8 => ?_⟩
  · rw [k0, h1]
    exact (z _ _ x x0 (by omega) (fun _ _ _ => rfl)).symm
  · rw [k0, h2]
    refine (z _ _ x x0 (by omega) (fun i i0 ix => ?_)).symm
    show wv S (i / 81) (l' i) (q' i) = wv S (i / 81) (l i) (q i)
    rw [(e i i0 ix).2.1, (e i i0 ix).2.2]
  · rw [k3, h3 p p0 p8]
    refine (z _ _ x x0 (by omega) (fun i i0 ix => ?_)).symm
    show (if q' i = p then (1 : Int) else 0) = if q i = p then 1 else 0
    rw [(e i i0 ix).2.2]
  · have ee := e j hj.1 jx
    have hj' : isL S w j := ⟨hj.1, hj.2.1, hj.2.2.1, by rw [← ee.1]; exact hj.2.2.2⟩
    have n : nL1 S w' j = nL1 S w j := z _ _ j hj.1 (by omega) (fun _ _ _ => rfl)
    unfold rowOK
    rw [n, k1, ee.2.1, ee.2.2]
    exact h4 j hj' jx
  · rw [k2]
    refine ⟨(h5 t k t0 t6 k0' k8).1, ?_⟩
    rw [(h5 t k t0 t6 k0' k8).2]
    constructor
    · exact fun g => ⟨g.1, g.2.1, g.2.2.1, by rw [(e _ (by omega) g.1).1]; exact g.2.2.2⟩
    · exact fun g => ⟨g.1, g.2.1, g.2.2.1, by rw [← (e _ (by omega) g.1).1]; exact g.2.2.2⟩
theorem noC_pr (e : ∀ p, 0 ≤ p → p < S 0 14 → pr' p = pr p) (h : noC S pr κ s a) : noC S pr' κ s a := fun b p hl => by
  rw [vl_pr (e p hl.2.2.1 hl.2.2.2.1)]
  exact h b p hl
theorem ch_pr (e : ∀ p, 0 ≤ p → p < S 0 14 → pr' p = pr p) (h : ch S pr κ s a b p) : ch S pr' κ s a b p := by
  obtain ⟨h1, h2, h3⟩ := h
  refine ⟨h1, by rw [vl_pr (e p h1.2.2.1 h1.2.2.2.1)]; exact h2, fun b' p' hl he => h3 b' p' hl ?_⟩
  rw [vl_pr (e p' hl.2.2.1 hl.2.2.2.1)] at he
  exact he
/-- the class's cells say what the reference's do -/
def cR (S : St) : Prop := wfM S ∧ (S 100 3 = S 0 4 ∧ S 100 4 = S 0 14 ∧ S 100 5 = S 0 2 ∧ S 100 6 = S 0 3) ∧ (∀ s, 0 ≤ s → s < 6 → crS S s) ∧ (∀ p, 0 ≤ p → p < 8 → crP S p)
def caf (S T : St) (K : Int) : Prop := ∀ k, ¬ (104 ≤ k ∧ k ≤ 106) → ¬ (110 ≤ k ∧ k < 126) → ¬ (K ≤ k ∧ k ≤ K + 3) → T k = S k
theorem caf.tf (h : caf S T K) (hK : K = 130 ∨ K = 134) : tf S T := fun k j h1 h2 => by rw [h k (by omega) (by omega) (by omega)]
theorem caf.c (h : caf S T K) (hK : K = 130 ∨ K = 134) (c : cR S) : cR T := by
  obtain ⟨c1, c2, c3, c4⟩ := c
  have t := h.tf hK
  refine ⟨t.cf.w c1, ?_, fun s s0 s6 => t.cS s0 (c3 s s0 s6), fun p p0 p8 => t.cP p0 (c4 p p0 p8)⟩
  rw [h 100 (by omega) (by omega) (by omega), h 0 (by omega) (by omega) (by omega)]
  exact c2
theorem s_cutAll {Q : St → Prop} (c : cR S) (hR : ∀ s p, 0 ≤ s → s < S 0 4 → 0 ≤ p → p < S 0 14 → rcOK S S s p) (hpr : prCB S) (hK : K = 130 ∨ K = 134) (qq : ∀ T w l q, caf S T K → plOK S (prC S) w l q → pRel S T K w l q → Q T) : vpBT_cutAll 100 K S Q := by
  obtain ⟨hm, cB, cS, cP⟩ := c
  have hA := hm.1
  have hA4 := hA.2.2.2.1
  have hA14 := hA.2.2.2.2
  unfold vpBT_cutAll
  refine s_clear (w := fun _ => 0) (l := fun _ => 0) (q := fun _ => 0) (fun U0 f0 t0 => ?_)
  refine lp2 (fun n s T => vBT_cutAll_6 Q n 100 K s T) (fun s T => (0 ≤ s ∧ s ≤ S 0 4) ∧ caf S T K ∧ ∃ w l q, (∀ t, 0 ≤ t → t < s → ∃ κ, isK S (prC S) κ t ∧ isPl S (prC S) κ t (fun k => w (81 * t + k)) (fun k => l (81 * t + k)) (fun k => q (81 * t + k))) ∧ (∀ i, 81 * s ≤ i → w i = 0) ∧ okA S w l q ∧ pTo S T K w l q (81 * s)) (fun s _ => (S 0 4 - s).toNat) (fun n s T hI ih => ?_) 0 U0 ⟨by omega, fun k h1 h2 h3 => f0 k h3, _, _, _, fun t h1 h2 => by omega, fun _ _ => rfl, fun i hi => absurd hi.2.2.2 (fun h => absurd (show (0 : Int) = 1 from h) (by decide)), t0⟩
  obtain ⟨hs, tF, w, l, q, hpl, hw0, ho, hto⟩ := hI
  have tt := tF.tf hK
  have tc := tF.c hK ⟨hm, cB, cS, cP⟩
  have e0 : T 0 = S 0 := tF 0 (by omega) (by omega) (by omega)
  have e100 : T 100 = S 100 := tF 100 (by omega) (by omega) (by omega)
  unfold vBT_cutAll_6
  rw [e100, cB.1, cB.2.1, cB.2.2.2]
  refine ⟨fun hc => ?_, fun hc => ⟨by omega, ?_⟩⟩
  · have : s = S 0 4 := by omega
    subst this
    exact qq T w l q tF hpl hto
  · have ep : ∀ p, 0 ≤ p → p < S 0 14 → prC T p = prC S p := fun p p0 p8 => by
      unfold prC
      rw [tF _ (by omega) (by omega) (by omega)]
    have go := s_workOut (S := T) (s := s) (Q := fun V => (0 ≤ s ∧ s < 6) ∧ (vpCu_writeTo 103 K (200 + 20 * s) s 102 (V 100 6) V (fun (S10 : St) => ((rI (s + 1)) ∧ ∀ z58 : Int, z58 = (s + 1) → (vBT_cutAll_6 Q n 100 K z58 S10))))) tc.1 (tc.2.2.1 s hs.1 (by omega)) (fun p p0 p8 => ⟨tc.2.2.2 p p0 (by rw [e0] at p8; omega), tt.cR hs.1 p0 (hR s p hs.1 (by omega) p0 (by rw [e0] at p8; exact p8))⟩) (fun p p0 p8 => by rw [e0] at p8; rw [ep p p0 p8]; exact hpr p p0 p8) hs.1 (by omega) (fun V vF vK vC => ⟨by omega, ?_⟩)
    · rw [e0] at go
      exact go
    · have vT : caf S V K := fun k h1 h2 h3 => by rw [vF k h1 h2]; exact tF k h1 h2 h3
      have vc := vT.tf hK
      have v6 : V 100 6 = S 0 3 := by rw [vT 100 (by omega) (by omega) (by omega)]; exact cB.2.2.2
      rw [v6]
      have hsw := hm.2.1 s hs.1 (by omega)
      have n80 := hsw.2.2.2.2.2.1
      have n0 := stN_0 hA hsw
      have vn : stN T s = stN S s := tt.cf.n
      have K' : isK S (prC S) (V 104) s := isK_pr (fun p p0 p8 => (ep p p0 p8).symm) (tt.cf.sy.i vK)
      have C' : ∀ y, 0 ≤ y → y < stN S s → (V 106 y = -1 ∧ noC S (prC S) (V 104) s y) ∨ ch S (prC S) (V 104) s y (V 105 y) (V 106 y) := by
        intro y y0 yn
        rcases vC y y0 (by rw [vn]; exact yn) with g | g
        · exact Or.inl ⟨g.1, noC_pr (fun p p0 p8 => (ep p p0 p8).symm) ((noC_cf tt.cf).1 g.2)⟩
        · exact Or.inr (ch_pr (fun p p0 p8 => (ep p p0 p8).symm) (ch_cf tt.cf g))
      obtain ⟨ws, ls, qs, hws⟩ := ex_plan hA n0 (fun y y0 yn => (C' y y0 yn).elim (fun g => Or.inl g.2) (fun g => Or.inr ⟨_, _, g⟩))
      have f1 : ∀ (f g : Int → Int) k, 0 ≤ k → k < 81 → (fun i => if 81 * s ≤ i ∧ i < 81 * s + 81 then f (i - 81 * s) else g i) (81 * s + k) = f k := fun f g k k0 k8 => by
        show (if 81 * s ≤ 81 * s + k ∧ 81 * s + k < 81 * s + 81 then f (81 * s + k - 81 * s) else g (81 * s + k)) = f k
        rw [if_pos (by omega), show 81 * s + k - 81 * s = k by omega]
      have f2 : ∀ (f g : Int → Int) i, ¬ (81 * s ≤ i ∧ i < 81 * s + 81) → (fun i => if 81 * s ≤ i ∧ i < 81 * s + 81 then f (i - 81 * s) else g i) i = g i := fun f g i h => if_neg h
      have oA : okA S (fun i => if 81 * s ≤ i ∧ i < 81 * s + 81 then ws (i - 81 * s) else w i) (fun i => if 81 * s ≤ i ∧ i < 81 * s + 81 then ls (i - 81 * s) else l i) (fun i => if 81 * s ≤ i ∧ i < 81 * s + 81 then qs (i - 81 * s) else q i) := by
        intro i hi
        obtain ⟨i1, i2, i3, i4⟩ := hi
        by_cases hin : 81 * s ≤ i ∧ i < 81 * s + 81
        · have ei : i = 81 * s + (i - 81 * s) := by omega
          have d1 : i / 81 = s := by omega
          have d2 : i % 81 = i - 81 * s := by omega
          rw [ei, f1 _ _ _ (by omega) (by omega)] at i4
          rw [d1, d2] at i3
          have g := ((hws.2 (i - 81 * s) (by omega) i3).2.2 i4).1.1
          simp only [if_pos hin, d1, d2]
          exact ⟨⟨by have := g.1; omega, by have := g.2.1; omega⟩, g.2.2.1, g.2.2.2.1⟩
        · rw [f2 _ _ _ hin] at i4
          simp only [if_neg hin]
          exact ho i ⟨i1, i2, i3, i4⟩
      have pn : isPl S (prC S) (V 104) s (fun k => (fun i => if 81 * s ≤ i ∧ i < 81 * s + 81 then ws (i - 81 * s) else w i) (81 * s + k)) (fun k => (fun i => if 81 * s ≤ i ∧ i < 81 * s + 81 then ls (i - 81 * s) else l i) (81 * s + k)) (fun k => (fun i => if 81 * s ≤ i ∧ i < 81 * s + 81 then qs (i - 81 * s) else q i) (81 * s + k)) :=
        plTo_congr hA hws (fun k k0 kn => ⟨f1 _ _ k k0 (by omega), f1 _ _ k k0 (by omega), f1 _ _ k k0 (by omega)⟩)
      refine s_writeTo hm oA hs.1 (by omega) hK vc (cS s hs.1 (by omega)) (fun p p0 p8 => cP p p0 (by omega)) pn C' (pTo_eq (by omega) (by omega) (fun k h1 h2 => vF k (by omega) (by omega)) (fun i i0 i1 => ⟨f2 _ _ i (by omega), f2 _ _ i (by omega), f2 _ _ i (by omega)⟩) hto) (fun T' t'F t'P => ⟨by constructor <;> omega, fun z ez => ?_⟩)
      subst ez
      refine ih (s + 1) T' ⟨by omega, fun k h1 h2 h3 => by rw [t'F k h3]; exact vT k h1 h2 h3, _, _, _, fun t t0 ts => ?_, fun i hi => ?_, oA, t'P⟩ (by show (S 0 4 - (s + 1)).toNat < (S 0 4 - s).toNat; omega)
      · by_cases hts : t = s
        · subst hts
          exact ⟨V 104, K', pn⟩
        · obtain ⟨κ, g1, g2⟩ := hpl t t0 (by omega)
          have htw := (hm.2.1 t t0 (by omega)).2.2.2.2.2.1
          exact ⟨κ, g1, plTo_congr hA g2 (fun k k0 kn => ⟨f2 _ _ _ (by omega), f2 _ _ _ (by omega), f2 _ _ _ (by omega)⟩)⟩
      · exact (f2 ws w i (by omega)).trans (hw0 i (by omega))
end CA
