section PC
variable {S T U : St} {s a b p x K r : Int} {pr pr' κ : Int → Int} {w l q w' l' q' : Int → Int}
def hlp (S T : St) (K : Int) (w l q pr : Int → Int) : Prop := kf S T ∧ (∀ p, 0 ≤ p → p < 8 → T (K + 3) p = cn S w q p) ∧ T K 4 = wt S w l q ∧ ∀ p, 0 ≤ p → p < S 0 14 → prC T p = pr p
theorem hlp.of (h : kf S T) (r : pRel S T K w l q) (e : ∀ p, 0 ≤ p → p < S 0 14 → prC T p = pr p) : hlp S T K w l q pr := ⟨h, r.2.2.1, r.2.1, e⟩
theorem s_hasLimit {Q : Int → St → Prop} (c : cR S) (h : kf S T) (p0 : 0 ≤ p) (p8 : p < 8) (q1 : 0 ≤ S 21 p → Q 1 T) (q0 : S 21 p < 0 → Q 0 T) : vpPr_hasLimit (140 + 4 * p) T Q := by
  have w := (c.1.2.2 p p0 p8).1
  have e : T (140 + 4 * p) 8 = S 21 p := by rw [h _ _ (by omega)]; exact (c.2.2.2 p p0 p8).1.2
  unfold vpPr_hasLimit vPr_hasLimit_16
  rw [e]
  exact ⟨fun g => ⟨Or.inl rfl, q0 (by omega)⟩, fun g => ⟨Or.inr rfl, q1 (by omega)⟩⟩
theorem s_isBeyond {v : Int} {Q : Int → St → Prop} (c : cR S) (h : kf S T) (p0 : 0 ≤ p) (p8 : p < 8) (q1 : 0 ≤ S 21 p → S 21 p < v → Q 1 T) (q0 : S 21 p < 0 ∨ v ≤ S 21 p → Q 0 T) : vpPr_isBeyond (140 + 4 * p) v T Q := by
  have e : T (140 + 4 * p) 8 = S 21 p := by rw [h _ _ (by omega)]; exact (c.2.2.2 p p0 p8).1.2
  unfold vpPr_isBeyond vPr_isBeyond_21 vPr_isBeyond_22
  refine s_hasLimit c h p0 p8 (fun g => ⟨fun g2 => by omega, fun _ => ?_⟩) (fun g => ⟨fun _ => ⟨Or.inl rfl, q0 (Or.inl g)⟩, fun g2 => by omega⟩)
  rw [e]
  exact ⟨fun g2 => ⟨Or.inl rfl, q0 (Or.inr g2)⟩, fun g2 => ⟨Or.inr rfl, q1 g (by omega)⟩⟩
theorem s_valueOf {Q : Int → St → Prop} (c : cR S) (h : hlp S T K w l q pr) (ho : okA S w l q) (hb : ∀ p, 0 ≤ p → p < S 0 14 → 0 ≤ pr p ∧ pr p ≤ 10000000) (qq : Q (pvl S pr w l q) T) : vpBT_valueOf 100 K T Q := by
  obtain ⟨hF, h3, h4, h9⟩ := h
  have hm := c.1
  have hA14 := hm.1.2.2.2.2
  have wb := wt_b hm ho
  have e4 : T 100 4 = S 0 14 := by rw [hF _ _ (by omega)]; exact c.2.1.2.1
  unfold vpBT_valueOf
  rw [h4]
  refine lp2 (fun n v y => vBT_valueOf_8 Q n 100 K v y T) (fun v y => (0 ≤ y ∧ y ≤ S 0 14) ∧ v = wt S w l q + sm (fun p => if S 21 p < 0 then 0 else pr p * (S 21 p - cn S w q p)) y.toNat ∧ (-10000000000 * y - 1 ≤ v ∧ v ≤ 4860000000 + 10000000000 * y)) (fun _ y => (S 0 14 - y).toNat) (fun n v y hI ih => ?_) (wt S w l q) 0 ⟨by omega, by show _ = _ + (0 : Int); omega, by omega⟩
  obtain ⟨hy, ev, hv⟩ := hI
  unfold vBT_valueOf_8
  rw [e4]
  refine ⟨fun hc => ?_, fun hc => ⟨by omega, ?_⟩⟩
  · have : y = S 0 14 := by omega
    subst this
    rw [ev]
    exact qq
  · have es := sm_s (f := fun p => if S 21 p < 0 then 0 else pr p * (S 21 p - cn S w q p)) hy.1
    have nx : ∀ v', v' = v + (if S 21 y < 0 then 0 else pr y * (S 21 y - cn S w q y)) → (-10000000000 * (y + 1) - 1 ≤ v' ∧ v' ≤ 4860000000 + 10000000000 * (y + 1)) → vBT_valueOf_57 Q (vBT_valueOf_8 Q n) 100 K v' y T := by
      intro v' e' b'
      unfold vBT_valueOf_57
      refine ⟨by constructor <;> omega, fun z ez => ?_⟩
      subst ez
      refine ih v' (y + 1) ⟨by omega, ?_, b'⟩ (by show (S 0 14 - (y + 1)).toNat < (S 0 14 - y).toNat; omega)
      rw [es, e', ev]
      show _ = _ + (_ + (if S 21 y < 0 then 0 else pr y * (S 21 y - cn S w q y)))
      omega
    refine s_hasLimit c hF hy.1 (by omega) (fun g => ⟨fun g2 => by omega, fun _ => ⟨by omega, ?_⟩⟩) (fun g => ⟨fun _ => nx v (by rw [if_pos g]; omega) (by omega), fun g2 => by omega⟩)
    have e8 : T (140 + 4 * y) 8 = S 21 y := by rw [hF _ _ (by omega)]; exact (c.2.2.2 y hy.1 (by omega)).1.2
    have e9 : T (140 + 4 * y) 9 = pr y := h9 y hy.1 (by omega)
    rw [e8, e9, h3 y hy.1 (by omega)]
    have pb := hb y hy.1 (by omega)
    have cb := cn_b (w := w) (q := q) (p := y) hm
    have lb := (hm.2.2 y hy.1 (by omega)).1
    have m1 := mul_bd pb.1 pb.2 (show 0 ≤ S 21 y by omega) (show S 21 y ≤ 1000 by omega)
    have m2 := mul_bd pb.1 pb.2 cb.1 cb.2
    have em : pr y * (S 21 y - cn S w q y) = pr y * S 21 y - pr y * cn S w q y := Int.mul_sub ..
    rw [em]
    refine ⟨by constructor <;> omega, fun z ez => ?_⟩
    exact nx z (by rw [if_neg (by omega), em]; exact ez) (by omega)
theorem s_limitsHold {Q : Int → St → Prop} (c : cR S) (h : hlp S T K w l q pr) (q1 : hld S w q → Q 1 T) (q0 : ¬ hld S w q → Q 0 T) : vpBT_limitsHold 100 K T Q := by
  obtain ⟨hF, h3, h4, h9⟩ := h
  have hm := c.1
  have hA14 := hm.1.2.2.2.2
  have e4 : T 100 4 = S 0 14 := by rw [hF _ _ (by omega)]; exact c.2.1.2.1
  unfold vpBT_limitsHold
  refine lp1 (fun n y => vBT_limitsHold_2 Q n 100 K y T) (fun y => (0 ≤ y ∧ y ≤ S 0 14) ∧ ∀ p, 0 ≤ p → p < y → S 21 p < 0 ∨ cn S w q p ≤ S 21 p) (fun y => (S 0 14 - y).toNat) (fun n y hI ih => ?_) 0 ⟨by omega, fun _ _ _ => by omega⟩
  obtain ⟨hy, hh⟩ := hI
  unfold vBT_limitsHold_2
  rw [e4]
  refine ⟨fun hc => q1 (fun p p0 p8 => hh p p0 (by omega)), fun hc => ⟨by omega, by omega, ?_⟩⟩
  rw [h3 y hy.1 (by omega)]
  refine s_isBeyond c hF hy.1 (by omega) (fun g1 g2 => ⟨fun g => by omega, fun _ => q0 (fun hl => ?_)⟩) (fun g => ⟨fun _ => ⟨by constructor <;> omega, fun z ez => ?_⟩, fun g2 => absurd rfl g2⟩)
  · have := hl y hy.1 (by omega)
    omega
  · subst ez
    refine ih (y + 1) ⟨by omega, fun p p0 py => ?_⟩ (by show (S 0 14 - (y + 1)).toNat < (S 0 14 - y).toNat; omega)
    by_cases hp : p = y
    · rw [hp]; exact g
    · exact hh p p0 (by omega)
theorem s_pricesAreUsed {Q : Int → St → Prop} (c : cR S) (h : hlp S T K w l q pr) (hb : ∀ p, 0 ≤ p → p < S 0 14 → 0 ≤ pr p ∧ pr p ≤ 10000000) (hl : hld S w q) (q1 : stl S pr w q → Q 1 T) (q0 : ¬ stl S pr w q → Q 0 T) : vpBT_pricesAreUsed 100 K T Q := by
  obtain ⟨hF, h3, h4, h9⟩ := h
  have hm := c.1
  have hA14 := hm.1.2.2.2.2
  have e4 : T 100 4 = S 0 14 := by rw [hF _ _ (by omega)]; exact c.2.1.2.1
  unfold vpBT_pricesAreUsed
  refine lp1 (fun n y => vBT_pricesAreUsed_2 Q n 100 K y T) (fun y => (0 ≤ y ∧ y ≤ S 0 14) ∧ ∀ p, 0 ≤ p → p < y → pr p = 0 ∨ cn S w q p = S 21 p) (fun y => (S 0 14 - y).toNat) (fun n y hI ih => ?_) 0 ⟨by omega, fun _ _ _ => by omega⟩
  obtain ⟨hy, hh⟩ := hI
  have nx : (pr y = 0 ∨ cn S w q y = S 21 y) → y < S 0 14 → vBT_pricesAreUsed_43 Q (vBT_pricesAreUsed_2 Q n) 100 K y T := by
    intro g yl
    unfold vBT_pricesAreUsed_43
    refine ⟨by constructor <;> omega, fun z ez => ?_⟩
    subst ez
    refine ih (y + 1) ⟨by omega, fun p p0 py => ?_⟩ (by show (S 0 14 - (y + 1)).toNat < (S 0 14 - y).toNat; omega)
    by_cases hp : p = y
    · rw [hp]; exact g
    · exact hh p p0 (by omega)
  unfold vBT_pricesAreUsed_2
  rw [e4]
  refine ⟨fun hc => q1 ⟨hl, fun p p0 p8 => hh p p0 (by omega)⟩, fun hc => ⟨by omega, ?_⟩⟩
  have e9 : T (140 + 4 * y) 9 = pr y := h9 y hy.1 (by omega)
  have e8 : T (140 + 4 * y) 8 = S 21 y := by rw [hF _ _ (by omega)]; exact (c.2.2.2 y hy.1 (by omega)).1.2
  have pb := hb y hy.1 (by omega)
  rw [e9, e8, h3 y hy.1 (by omega)]
  refine ⟨fun g => nx (by omega) (by omega), fun g => ⟨by omega, fun g2 => nx (Or.inr g2) (by omega), fun g2 => q0 (fun hs => ?_)⟩⟩
  have := hs.2 y hy.1 (by omega)
  omega
theorem s_changePrices {Q : St → Prop} (c : cR S) (h : hlp S T K w l q pr) (hK : K = 130 ∨ K = 134) (hb : ∀ p, 0 ≤ p → p < S 0 14 → 0 ≤ pr p ∧ pr p ≤ 10000000 ∧ (S 21 p < 0 → pr p = 0)) (r0 : 0 < r) (r10 : r ≤ 10) (qq : ∀ U, (∀ k j, ¬ (140 ≤ k ∧ k < 172 ∧ k % 4 = 0 ∧ j = 9) → U k j = T k j) → (∀ p, 0 ≤ p → p < S 0 14 → prC U p = nxp S pr (fun p => cn S w q p) r p) → Q U) : vpBT_changePrices 100 K r T Q := by
  obtain ⟨hF, h3, h4, h9⟩ := h
  have hm := c.1
  have hA14 := hm.1.2.2.2.2
  have e4 : T 100 4 = S 0 14 := by rw [hF _ _ (by omega)]; exact c.2.1.2.1
  have er : max 1 r = r := by omega
  have pl := pull_b r0
  unfold vpBT_changePrices
  rw [er]
  refine ⟨by constructor <;> omega, by omega, by omega, by omega, by constructor <;> omega, by constructor <;> omega, fun z ez => ?_⟩
  refine lp2 (fun n y U => vBT_changePrices_18 Q n 100 K z y U) (fun y U => (0 ≤ y ∧ y ≤ S 0 14) ∧ (∀ k j, ¬ (140 ≤ k ∧ k < 172 ∧ k % 4 = 0 ∧ j = 9) → U k j = T k j) ∧ (∀ p, 0 ≤ p → p < y → prC U p = nxp S pr (fun p => cn S w q p) r p) ∧ ∀ p, y ≤ p → p < S 0 14 → prC U p = pr p) (fun y _ => (S 0 14 - y).toNat) (fun n y U hI ih => ?_) 0 T ⟨by omega, fun _ _ _ => rfl, fun _ _ _ => by omega, fun p p0 p8 => h9 p p0 p8⟩
  obtain ⟨hy, uF, u1, u2⟩ := hI
  have uk : kf S U := fun k j hk => by rw [uF k j (by omega)]; exact hF k j hk
  have nx : ∀ V : St, (∀ k j, ¬ (k = 140 + 4 * y ∧ j = 9) → V k j = U k j) → y < S 0 14 → prC V y = nxp S pr (fun p => cn S w q p) r y → vBT_changePrices_79 Q (vBT_changePrices_18 Q n) 100 K z y V := by
    intro V vF yl ve
    unfold vBT_changePrices_79
    refine ⟨by constructor <;> omega, fun z' ez' => ?_⟩
    subst ez'
    refine ih (y + 1) V ⟨by omega, fun k j hk => by rw [vF k j (by omega)]; exact uF k j hk, fun p p0 py => ?_, fun p p0 p8 => ?_⟩ (by show (S 0 14 - (y + 1)).toNat < (S 0 14 - y).toNat; omega)
    · by_cases hp : p = y
      · rw [hp]; exact ve
      · unfold prC
        rw [vF _ _ (by omega)]
        exact u1 p p0 (by omega)
    · unfold prC
      rw [vF _ _ (by omega)]
      exact u2 p (by omega) p8
  unfold vBT_changePrices_18
  rw [show U 100 4 = S 0 14 by rw [uF _ _ (by omega)]; exact e4]
  refine ⟨fun hc => qq U uF (fun p p0 p8 => u1 p p0 (by omega)), fun hc => ⟨by omega, ?_⟩⟩
  have e9 : U (140 + 4 * y) 9 = pr y := u2 y (by omega) (by omega)
  have bb := hb y hy.1 (by omega)
  refine s_hasLimit c uk hy.1 (by omega) (fun g => ⟨fun g2 => by omega, fun _ => ⟨by omega, ?_⟩⟩) (fun g => ⟨fun _ => nx U (fun _ _ _ => rfl) (by omega) ?_, fun g2 => absurd rfl g2⟩)
  · have e8 : U (140 + 4 * y) 8 = S 21 y := by rw [uk _ _ (by omega)]; exact (c.2.2.2 y hy.1 (by omega)).1.2
    have e3 : U (K + 3) y = cn S w q y := by rw [uF _ _ (by omega)]; exact h3 y hy.1 (by omega)
    rw [e8, e9, e3]
    have cb := cn_b (w := w) (q := q) (p := y) hm
    have lb := (hm.2.2 y hy.1 (by omega)).1
    have mb := mul_bs (x := cn S w q y - S 21 y) (y := z) (by omega) (by omega) (by omega) (by omega)
    refine ⟨by constructor <;> omega, fun z' ez' => ⟨by constructor <;> omega, fun S13 e13 => ?_⟩⟩
    refine nx S13 (fun k j hk => by rw [e13]; unfold up; rw [if_neg hk]) (by omega) ?_
    unfold prC nxp
    rw [e13, up_s, if_neg (by omega), ez', ez]
    show max (pr y + (cn S w q y - S 21 y) * max 1 (1024 / r)) 0 = max 0 (pr y + (cn S w q y - S 21 y) * max 1 (1024 / r))
    exact Int.max_comm ..
  · unfold nxp
    rw [if_pos g]
    have := bb.2.2 g
    show U (140 + 4 * y) 9 = 0
    omega
end PC
