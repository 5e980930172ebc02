section MQ
variable {S T U V : St} {K : Int} {w l q : Int → Int} {W L Qs W' L' Qs' : Nat → Int → Int} {kb bd kb' bd' : Nat → Int} {r most : Nat}
theorem sm_bs {f : Int → Int} (d : Int) : ∀ n : Nat, (∀ i : Int, 0 ≤ i → i < n → -d ≤ f i ∧ f i ≤ d) → -(d * n) ≤ sm f n ∧ sm f n ≤ d * n := by
  intro n
  induction n with
  | zero => intro _; show -(d * 0) ≤ 0 ∧ (0 : Int) ≤ d * 0; omega
  | succ n ih =>
    intro h
    have h1 := ih (fun i i0 i1 => h i i0 (by omega))
    have h2 := h n (by omega) (by omega)
    show -(d * ((n + 1 : Nat) : Int)) ≤ sm f n + f n ∧ sm f n + f n ≤ d * ((n + 1 : Nat) : Int)
    rw [show d * ((n + 1 : Nat) : Int) = d * n + d by rw [show ((n + 1 : Nat) : Int) = (n : Int) + 1 by omega, Int.mul_add, Int.mul_one]]
    omega
theorem pvl_b {pr : Int → Int} (hm : wfM S) (ho : okA S w l q) (hb : ∀ p, 0 ≤ p → p < S 0 14 → 0 ≤ pr p ∧ pr p ≤ 10000000) : -100000000000 ≤ pvl S pr w l q ∧ pvl S pr w l q ≤ 100000000000 := by
  have hA14 := hm.1.2.2.2.2
  have wb := wt_b hm ho
  have h := sm_bs (f := fun p => if S 21 p < 0 then 0 else pr p * (S 21 p - cn S w q p)) 10000000000 (S 0 14).toNat (fun p p0 p8 => by
    show -10000000000 ≤ (if S 21 p < 0 then 0 else pr p * (S 21 p - cn S w q p)) ∧ (if S 21 p < 0 then 0 else pr p * (S 21 p - cn S w q p)) ≤ 10000000000
    have pb := hb p p0 (by omega)
    have cb := cn_b (w := w) (q := q) (p := p) hm
    have lb := (hm.2.2 p p0 (by omega)).1
    split
    · omega
    · have m1 := mul_bd pb.1 pb.2 (show 0 ≤ S 21 p by omega) (show S 21 p ≤ 1000 by omega)
      have m2 := mul_bd pb.1 pb.2 cb.1 cb.2
      rw [Int.mul_sub]
      omega)
  unfold pvl
  omega
theorem bd_b (hm : wfM S) (hr : r ≤ 10) (hs : seqP S r W L Qs kb bd) : ∀ i : Nat, 1 ≤ i → i ≤ r → -100000000000 ≤ bd i ∧ bd i ≤ 100000000000 := by
  have pv : ∀ i : Nat, i < r → -100000000000 ≤ pvl S (prS S W Qs i) (W i) (L i) (Qs i) ∧ pvl S (prS S W Qs i) (W i) (L i) (Qs i) ≤ 100000000000 := fun i hi => pvl_b hm (plOK_okA hm (hs.1 i hi)) (fun p p0 p8 => by
    have := prS_b (W := W) (Qs := Qs) hm i p p0 p8
    omega)
  intro i
  induction i with
  | zero => intro h; omega
  | succ i ih =>
    intro _ hi
    have e := hs.2.2.2.1 i (by omega)
    have p := pv i (by omega)
    rw [e]
    split
    · exact p
    · have := ih (by omega) (by omega)
      omega
theorem s_mp40 {x3 : Int} {Q : Int → St → Prop} {K17 : Int → Int → Int → Int → Int → Int → St → Prop} (c : cR S) (hs : seqP S r W L Qs kb bd) (hn : ∀ i, i < r → ¬ stl S (prS S W Qs i) (W i) (Qs i)) (hr : r < most) (hm10 : most ≤ 10) (hF : kf S T) (hR : ∀ s p, 0 ≤ s → s < T 0 4 → 0 ≤ p → p < T 0 14 → rcOK T T s p) (hk : (T 100 7 = 130 ∧ T 100 8 = 134) ∨ (T 100 7 = 134 ∧ T 100 8 = 130)) (hp : ∀ p, 0 ≤ p → p < S 0 14 → prC T p = prS S W Qs r p) (hb : 1 ≤ r → T 100 11 = bd r)
    (hf : (kb r = -1 ∧ x3 = 0) ∨ (0 ≤ kb r ∧ kb r < r ∧ x3 = 1 ∧ pRel S T (T 100 7) (W (kb r).toNat) (L (kb r).toNat) (Qs (kb r).toNat)))
    (hK : ∀ W' L' Qs' kb' bd' x2 x3 x4 T', mpI S most (r + 1) W' L' Qs' kb' bd' x2 x3 x4 T' → K17 100 most x2 x3 x4 ((r + 1 : Nat) : Int) T') : vBT_makePriced_40 Q K17 100 most x3 r T := by
  have hm := c.1
  have tc := hF.c c
  have t14 : T 0 14 = S 0 14 := hF 0 14 (by omega)
  have t04 : T 0 4 = S 0 4 := hF 0 4 (by omega)
  have hA4 := hm.1.2.2.2.1
  have pb : ∀ p, 0 ≤ p → p < S 0 14 → 0 ≤ prS S W Qs r p ∧ prS S W Qs r p ≤ 10000000 := fun p p0 p8 => by
    have := prS_b (W := W) (Qs := Qs) hm r p p0 p8
    omega
  unfold vBT_makePriced_40
  refine ⟨by constructor <;> omega, fun z ez => ?_⟩
  have hK8 : T 100 8 = 130 ∨ T 100 8 = 134 := by omega
  refine s_cutAll tc hR (fun p p0 p8 => by rw [hp p p0 (by omega)]; exact pb p p0 (by omega)) hK8 (fun U w l q uF uP uR => ?_)
  have uk : kf S U := hF.tr (uF.kf hK8)
  have uP' : plOK S (prS S W Qs r) w l q := plOK_pr (fun p p0 p8 => (hp p p0 p8).symm) (plOK_cf hF.cf.sy uP)
  have uR' : pRel S U (T 100 8) w l q := by
    have := pTo_cf (U := S) hF.cf.sy uR
    rw [t04] at this
    exact this
  have u100 : U 100 = T 100 := uF 100 (by omega) (by omega) (by omega)
  have upr : ∀ p, 0 ≤ p → p < S 0 14 → prC U p = prS S W Qs r p := fun p p0 p8 => by
    have := hp p p0 p8
    unfold prC at this ⊢
    rw [uF _ (by omega) (by omega) (by omega)]
    exact this
  have ho := plOK_okA hm uP'
  have hl : hlp S U (T 100 8) w l q (prS S W Qs r) := hlp.of uk uR' upr
  obtain ⟨W', L', Qs', kb', bd', lo, at', klo, pe, hs'⟩ := seq_ext hs uP'
  have lo' : ∀ i : Nat, (i : Int) < r → W' i = W i ∧ L' i = L i ∧ Qs' i = Qs i := fun i hi => lo i (by omega)
  have bdv := hs'.2.2.2.1 r (by omega)
  rw [pe r (by omega), at'.1, at'.2.1, at'.2.2, (klo r (by omega)).2] at bdv
  -- after the bound is set
  have main : ∀ V : St, (∀ k j, ¬ (k = 100 ∧ j = 11) → V k j = U k j) → V 100 11 = bd' (r + 1) → ((vpBT_limitsHold 100 (T 100 8) V (fun (r5 : Int) (S6 : St) => (((r5 = 0 → (vBT_makePriced_108 Q K17 100 most (T 100 8) x3 z r5 S6)) ∧ (¬ r5 = 0 → (vpBT_pricesAreUsed 100 (T 100 8) S6 (fun (r11 : Int) (S12 : St) => (((r11 = 0 → (vBT_makePriced_108 Q K17 100 most (T 100 8) x3 z r5 S12)) ∧ (¬ r11 = 0 → (vBT_makePriced_109 Q K17 100 most (T 100 8) x3 z r5 1 S12)))))))))))) := by
    intro V vF vb
    have vkk : ∀ k, k ≠ 100 → V k = U k := fun k h => funext fun j => vF k j (by omega)
    have vk : kf S V := uk.tr (fun k j h => vF k j (by omega))
    have vR : pRel S V (T 100 8) w l q := pRel_k c (fun k h1 h2 => vkk k (by omega)) uR'
    have vp : ∀ p, 0 ≤ p → p < S 0 14 → prC V p = prS S W Qs r p := fun p p0 p8 => by
      have := upr p p0 p8
      unfold prC at this ⊢
      rw [vkk _ (by omega)]
      exact this
    have v7 : V 100 7 = T 100 7 := by rw [vF _ _ (by omega), u100]
    have v8 : V 100 8 = T 100 8 := by rw [vF _ _ (by omega), u100]
    have hl' : hlp S V (T 100 8) w l q (prS S W Qs r) := hlp.of vk vR vp
    have vrc : ∀ s p, 0 ≤ s → s < V 0 4 → 0 ≤ p → p < V 0 14 → rcOK V V s p := rc_k (T := T) (fun k j h => by rw [vF k j (by omega)]; exact uF.kf hK8 k j h) (fun k h => by rw [vkk k (by omega), uF k (by omega) (by omega) (by omega)]) hR
    have kb1 := hs'.2.2.1 r (by omega)
    have btr_iff : btr S W' L' Qs' kb' r ↔ hld S w q ∧ (kb r = -1 ∨ (0 ≤ kb r ∧ wt S (W (kb r).toNat) (L (kb r).toNat) (Qs (kb r).toNat) < wt S w l q)) := by
      unfold btr
      rw [at'.1, at'.2.1, at'.2.2, (klo r (by omega)).1]
      rcases hs.2.2.2.2 r (by omega) with e | e
      · rw [e]
        simp
      · have g := lo (kb r).toNat (by omega)
        rw [g.1, g.2.1, g.2.2]
        constructor
        · rintro ⟨h1, h2⟩
          exact ⟨h1, h2.elim Or.inl (fun h => Or.inr ⟨e.1, h⟩)⟩
        · rintro ⟨h1, h2⟩
          exact ⟨h1, h2.elim Or.inl (fun h => Or.inr h.2)⟩
    -- the end of a round: the trial is not kept
    have no : ∀ x4, ((x4 = 1 ∧ stl S (prS S W Qs r) w q) ∨ (x4 = 0 ∧ ¬ stl S (prS S W Qs r) w q)) → ¬ btr S W' L' Qs' kb' r → vBT_makePriced_141 Q K17 100 most (T 100 8) x3 x4 z V := by
      intro x4 h4 hnb
      unfold vBT_makePriced_141
      rw [show z = ((r + 1 : Nat) : Int) by omega]
      have ekb := kb1.2 hnb
      rw [(klo r (by omega)).1] at ekb
      refine hK W' L' Qs' kb' bd' _ _ _ V ⟨hs', fun i hi => ?_, by omega, vk, vrc, by rw [v7, v8]; exact hk, hK8, fun p p0 p8 => ?_, fun h => by omega, fun _ => ⟨vb, ?_, ?_⟩, ?_⟩
      · rw [pe i (by omega), (lo i (by omega)).1, (lo i (by omega)).2.2]
        exact hn i (by omega)
      · rw [show r + 1 - 1 = r by omega, pe r (by omega)]
        exact vp p p0 p8
      · rw [show r + 1 - 1 = r by omega, at'.1, at'.2.1, at'.2.2]
        exact vR
      · rw [show r + 1 - 1 = r by omega, pe r (by omega), at'.1, at'.2.2]
        exact h4
      · rw [ekb]
        rcases hf with ⟨g1, g2⟩ | ⟨g1, g2, g3, g4⟩
        · exact Or.inl ⟨g1, g2, v8.symm⟩
        · refine Or.inr ⟨g1, by omega, g3, ?_⟩
          have g := lo (kb r).toNat (by omega)
          rw [g.1, g.2.1, g.2.2, v7]
          exact pRel_k c (fun k h1 h2 => by rw [vkk k (by omega), uF k (by omega) (by omega) (by omega)]) g4
    -- the trial is kept
    have yes : ∀ x4, ((x4 = 1 ∧ stl S (prS S W Qs r) w q) ∨ (x4 = 0 ∧ ¬ stl S (prS S W Qs r) w q)) → btr S W' L' Qs' kb' r → vBT_makePriced_135 Q K17 100 most (T 100 8) x4 z V := by
      intro x4 h4 hnb
      unfold vBT_makePriced_135 vpBT_keepTrial vBT_makePriced_141
      intro S1 e1 S5 e5
      rw [show z = ((r + 1 : Nat) : Int) by omega]
      have ekb := kb1.1 hnb
      have s7 : S5 100 7 = T 100 8 := by rw [e5, up_j (by omega), e1, up_s]; exact v8
      have s8 : S5 100 8 = T 100 7 := by rw [e5, up_s]; exact v7
      have so : ∀ k j, ¬ (k = 100 ∧ 7 ≤ j ∧ j ≤ 8) → S5 k j = V k j := fun k j h => by
        rw [e5]; unfold up; rw [if_neg (by omega), e1]; unfold up; rw [if_neg (by omega)]
      have sk : ∀ k, k ≠ 100 → S5 k = V k := fun k h => funext fun j => so k j (by omega)
      have sR : pRel S S5 (T 100 8) w l q := pRel_k c (fun k h1 h2 => sk k (by omega)) vR
      refine hK W' L' Qs' kb' bd' _ _ _ S5 ⟨hs', fun i hi => ?_, by omega, vk.tr (fun k j h => so k j (by omega)), rc_k (fun k j h => so k j (by omega)) (fun k h => sk k (by omega)) vrc, by omega, hK8, fun p p0 p8 => ?_, fun h => by omega, fun _ => ⟨by rw [so _ _ (by omega)]; exact vb, ?_, ?_⟩, Or.inr ?_⟩
      · rw [pe i (by omega), (lo i (by omega)).1, (lo i (by omega)).2.2]
        exact hn i (by omega)
      · rw [show r + 1 - 1 = r by omega, pe r (by omega)]
        have := vp p p0 p8
        unfold prC at this ⊢
        rw [sk _ (by omega)]
        exact this
      · rw [show r + 1 - 1 = r by omega, at'.1, at'.2.1, at'.2.2]
        exact sR
      · rw [show r + 1 - 1 = r by omega, pe r (by omega), at'.1, at'.2.2]
        exact h4
      · rw [ekb, s7, show ((r : Int)).toNat = r by omega, at'.1, at'.2.1, at'.2.2]
        exact ⟨by omega, by omega, rfl, sR⟩
    have m109 : ∀ y0, ((y0 = 1 ∧ stl S (prS S W Qs r) w q) ∨ (y0 = 0 ∧ ¬ stl S (prS S W Qs r) w q)) → hld S w q → vBT_makePriced_109 Q K17 100 most (T 100 8) x3 z 1 y0 V := by
      intro y0 h4 hh
      unfold vBT_makePriced_109
      refine ⟨fun h => by omega, fun _ => ⟨fun h3 => ?_, fun h3 => ?_⟩⟩
      · refine yes y0 h4 (btr_iff.2 ⟨hh, Or.inl ?_⟩)
        rcases hf with g | g
        · exact g.1
        · have := g.2.2.1
          omega
      · rcases hf with g | ⟨g1, g2, g3, g4⟩
        · exact absurd g.2 h3
        · have e1 : V (T 100 8) 4 = wt S w l q := vR.2.1
          have e2 : V (V 100 7) 4 = wt S (W (kb r).toNat) (L (kb r).toNat) (Qs (kb r).toNat) := by
            rw [v7, vkk _ (by omega), uF _ (by omega) (by omega) (by omega)]
            exact g4.2.1
          rw [e1, e2]
          refine ⟨fun h => no y0 h4 (fun hb => ?_), fun h => yes y0 h4 (btr_iff.2 ⟨hh, Or.inr ⟨g1, by omega⟩⟩)⟩
          have := (btr_iff.1 hb).2
          omega
    refine s_limitsHold c hl' (fun hh => ⟨fun h => by omega, fun _ => ?_⟩) (fun hh => ⟨fun _ => ?_, fun h => absurd rfl h⟩)
    · refine s_pricesAreUsed c hl' pb hh (fun hst => ⟨fun h => by omega, fun _ => m109 1 (Or.inl ⟨rfl, hst⟩) hh⟩) (fun hst => ⟨fun _ => ?_, fun h => absurd rfl h⟩)
      unfold vBT_makePriced_108
      exact m109 0 (Or.inr ⟨rfl, hst⟩) hh
    · unfold vBT_makePriced_108 vBT_makePriced_109
      exact ⟨fun _ => no 0 (Or.inr ⟨rfl, fun h => hh h.1⟩) (fun h => hh (btr_iff.1 h).1), fun h => absurd rfl h⟩
  refine s_valueOf c hl ho pb ⟨fun h1 => ?_, fun h1 => ⟨?_, ?_⟩⟩
  · unfold vBT_makePriced_81
    intro S1 e1
    refine main S1 (fun k j h => by rw [e1]; unfold up; rw [if_neg h]) ?_
    rw [e1, up_s, bdv, if_pos (by omega)]
  · have b1 := pvl_b hm ho pb
    have b2 := bd_b hm (by omega) hs r (by omega) (Nat.le_refl _)
    rw [u100, hb (by omega)]
    constructor <;> omega
  · unfold vBT_makePriced_81
    intro S1 e1
    refine main S1 (fun k j h => by rw [e1]; unfold up; rw [if_neg h]) ?_
    rw [e1, up_s, bdv, if_neg (by omega), u100, hb (by omega)]
    exact Int.min_comm ..
theorem s_makePriced {Q : Int → St → Prop} (c : cR S) (hk : (S 100 7 = 130 ∧ S 100 8 = 134) ∨ (S 100 7 = 134 ∧ S 100 8 = 130)) (m1 : 1 ≤ most) (m10 : most ≤ 10) (qq : ∀ (T : St) (R : Nat) W L Qs kb bd w l q, kf S T → ((T 100 7 = 130 ∧ T 100 8 = 134) ∨ (T 100 7 = 134 ∧ T 100 8 = 130)) → T 100 9 = 1 → T 100 10 = most → T 100 11 = bd R → seqOK S most R W L Qs kb bd → (∀ p, 0 ≤ p → p < S 0 14 → prC T p = prS S W Qs (R - 1) p) → finA S R W L Qs kb w l q → pRel S T (T 100 7) w l q → Q R T) : vpBT_makePriced 100 most S Q := by
  have hm := c.1
  unfold vpBT_makePriced
  refine s_startPlans c (fun U uF u0 uR => ?_)
  have u7 : U 100 7 = S 100 7 := uF 100 7 (by omega) (by omega)
  have u8 : U 100 8 = S 100 8 := uF 100 8 (by omega) (by omega)
  have hk' : (U 100 7 = 130 ∧ U 100 8 = 134) ∨ (U 100 7 = 134 ∧ U 100 8 = 130) := by rw [u7, u8]; exact hk
  have hx' : U 100 8 = 130 ∨ U 100 8 = 134 := by omega
  have key := lp4 (fun n x2 x3 x4 (y : Nat × St) => vBT_makePriced_17 Q n 100 most x2 x3 x4 y.1 y.2) (fun x2 x3 x4 y => ∃ W L Qs kb bd, mpI S most y.1 W L Qs kb bd x2 x3 x4 y.2) (fun _ _ _ y => most - y.1) (fun n x2 x3 x4 y hI ih => ?_) (U 100 8) 0 0 (0, U) ⟨fun _ _ => 0, fun _ _ => 0, fun _ _ => 0, fun _ => -1, fun _ => 0, ⟨fun i hi => by omega, rfl, fun i hi => by omega, fun i hi => by omega, fun i _ => Or.inl rfl⟩, fun i hi => by omega, by omega, uF.kf, uR, hk', hx', fun p p0 p8 => u0 p p0 p8, fun _ => rfl, fun h => by omega, Or.inl ⟨rfl, rfl, rfl⟩⟩
  · exact key
  · obtain ⟨r, T⟩ := y
    obtain ⟨W, L, Qs, kb, bd, hs, hn, hr, hF, hR, hkk, hx2, hp, h40, h1, hf⟩ := hI
    simp only [] at hs hn hr hF hR hkk hx2 hp h40 h1 hf
    show vBT_makePriced_17 Q (n + 1) 100 most x2 x3 x4 r T
    have exit : 1 ≤ r → (r = most ∨ stl S (prS S W Qs (r - 1)) (W (r - 1)) (Qs (r - 1))) → vBT_makePriced_144 Q 100 most x2 x3 r T := by
      intro r1 hst
      have sq : seqOK S most r W L Qs kb bd := ⟨hs.1, ⟨r1, hr, m10⟩, hs.2.1, hs.2.2.1, hn, hst, hs.2.2.2.1⟩
      obtain ⟨b1, b2, b3⟩ := h1 r1
      have fin : ∀ (V : St) w l q, kf S V → ((V 100 7 = 130 ∧ V 100 8 = 134) ∨ (V 100 7 = 134 ∧ V 100 8 = 130)) → V 100 11 = bd r → (∀ p, 0 ≤ p → p < S 0 14 → prC V p = prS S W Qs (r - 1) p) → finA S r W L Qs kb w l q → pRel S V (V 100 7) w l q → vBT_makePriced_160 Q 100 most r V := by
        intro V w l q vF vk vb vp vA vR
        unfold vBT_makePriced_160
        intro S1 e1 S5 e5
        have so : ∀ k j, ¬ (k = 100 ∧ 9 ≤ j ∧ j ≤ 10) → S5 k j = V k j := fun k j h => by
          rw [e5]; unfold up; rw [if_neg (by omega), e1]; unfold up; rw [if_neg (by omega)]
        have sk : ∀ k, k ≠ 100 → S5 k = V k := fun k h => funext fun j => so k j (by omega)
        have s7 := so 100 7 (by omega)
        have s8 := so 100 8 (by omega)
        refine qq S5 r W L Qs kb bd w l q (vF.tr (fun k j h => so k j (by omega))) (by rw [s7, s8]; exact vk) (by rw [e5, up_s]) (by rw [e5, up_j (by omega), e1, up_s]) (by rw [so _ _ (by omega)]; exact vb) sq (fun p p0 p8 => ?_) vA ?_
        · have := vp p p0 p8
          unfold prC at this ⊢
          rw [sk _ (by omega)]
          exact this
        · rw [s7]
          exact pRel_k c (fun k h1 h2 => sk k (by omega)) vR
      unfold vBT_makePriced_144
      refine ⟨fun h3 => ?_, fun h3 => ?_⟩
      · rcases hf with ⟨g1, g2, g3⟩ | g
        · have pl := hs.1 (r - 1) (by omega)
          refine s_burnBeyond c hF hx2 (plOK_okA hm pl) (plOK_sep hm pl) b2 (fun V vF vR => ?_)
          unfold vpBT_keepTrial
          intro S1 e1 S5 e5
          have v100 : V 100 = T 100 := vF 100 (by omega)
          have vk : kf S V := hF.tr (fun k j h => by rw [vF k (by omega)])
          have so : ∀ k j, ¬ (k = 100 ∧ 7 ≤ j ∧ j ≤ 8) → S5 k j = V k j := fun k j h => by
            rw [e5]; unfold up; rw [if_neg (by omega), e1]; unfold up; rw [if_neg (by omega)]
          have sk : ∀ k, k ≠ 100 → S5 k = V k := fun k h => funext fun j => so k j (by omega)
          have s7 : S5 100 7 = T 100 8 := by rw [e5, up_j (by omega), e1, up_s, v100]
          have s8 : S5 100 8 = T 100 7 := by rw [e5, up_s, v100]
          refine fin S5 _ _ _ (vk.tr (fun k j h => so k j (by omega))) (by rw [s7, s8]; omega) (by rw [so _ _ (by omega), v100]; exact b1) (fun p p0 p8 => ?_) (Or.inr ⟨g1, _, pl, gone_brn⟩) ?_
          · have := hp p p0 p8
            unfold prC at this ⊢
            rw [sk _ (by omega), vF _ (by omega)]
            exact this
          · rw [s7, ← g3]
            exact pRel_k c (fun k h1 h2 => sk k (by omega)) vR
        · have := g.2.2.1
          omega
      · rcases hf with g | ⟨g1, g2, g3, g4⟩
        · exact absurd g.2.1 h3
        · exact fin T _ _ _ hF hkk b1 hp (Or.inl ⟨g1, agr_rf⟩) g4
    unfold vBT_makePriced_17
    refine ⟨fun hc => exit (by omega) (Or.inl (by omega)), fun hc => ⟨fun h4 => ?_, fun h4 => ?_⟩⟩
    · have nst : ∀ i, i < r → ¬ stl S (prS S W Qs i) (W i) (Qs i) := fun i hi => by
        by_cases he : i + 1 = r
        · rcases (h1 (by omega)).2.2 with g | g
          · omega
          · rw [show r - 1 = i by omega] at g
            exact g.2
        · exact hn i (by omega)
      have hf' : (kb r = -1 ∧ x3 = 0) ∨ (0 ≤ kb r ∧ kb r < r ∧ x3 = 1 ∧ pRel S T (T 100 7) (W (kb r).toNat) (L (kb r).toNat) (Qs (kb r).toNat)) := hf.elim (fun g => Or.inl ⟨g.1, g.2.1⟩) Or.inr
      have go : ∀ W' L' Qs' kb' bd' y2 y3 y4 T', mpI S most (r + 1) W' L' Qs' kb' bd' y2 y3 y4 T' → vBT_makePriced_17 Q n 100 most y2 y3 y4 ((r + 1 : Nat) : Int) T' := fun W' L' Qs' kb' bd' y2 y3 y4 T' h => ih y2 y3 y4 (r + 1, T') ⟨W', L', Qs', kb', bd', h⟩ (by show most - (r + 1) < most - r; omega)
      refine ⟨fun h0 => ?_, fun h0 => ?_⟩
      · have r0 : r = 0 := by omega
        subst r0
        exact s_mp40 c hs nst (by omega) m10 hF hR hkk hp (fun h => by omega) hf' go
      · obtain ⟨b1, b2, b3⟩ := h1 (by omega)
        have pb := fun p p0 p8 => prS_b (W := W) (Qs := Qs) hm (r - 1) p p0 p8
        refine s_changePrices c (hlp.of hF b2 hp) hx2 (fun p p0 p8 => by have := pb p p0 p8; exact ⟨this.1, by omega, this.2.2⟩) (by omega) (by omega) (fun V vF vp => ?_)
        have vk : kf T V := fun k j h => vF k j (by omega)
        have v100 : V 100 = T 100 := funext fun j => vF 100 j (by omega)
        refine s_mp40 c hs nst (by omega) m10 (hF.tr vk) (rc_k vk (fun k h => funext fun j => vF k j (by omega)) hR) (by rw [v100]; exact hkk) (fun p p0 p8 => ?_) (fun _ => by rw [v100]; exact b1) ?_ go
        · rw [vp p p0 p8]
          have e : prS S W Qs r = nxp S (prS S W Qs (r - 1)) (fun p => cn S (W (r - 1)) (Qs (r - 1)) p) (((r - 1 : Nat) : Int) + 1) := by
            have : r = (r - 1) + 1 := by omega
            rw [this]
            rfl
          rw [e, show ((r - 1 : Nat) : Int) + 1 = r by omega]
        · rw [v100]
          rcases hf' with g | ⟨g1, g2, g3, g4⟩
          · exact Or.inl g
          · exact Or.inr ⟨g1, g2, g3, pRel_k c (fun k h1 h2 => funext fun j => vF k j (by omega)) g4⟩
    · have r1 : 1 ≤ r := by
        by_cases h : r = 0
        · exact absurd (h40 h) h4
        · omega
      refine exit r1 (Or.inr ?_)
      rcases (h1 r1).2.2 with g | g
      · exact g.2
      · exact absurd g.1 h4
end MQ
