section WP
variable {S T U : St} {s a b p x : Int}
theorem lg_iff (hm : wfM S) (hP : crP S p) (hR : rcOK S S s p) (p0 : 0 ≤ p) (p8 : p < S 0 14) (a0 : 0 ≤ a) : lg S s a b p ↔ (a + lst S p ≤ b ∧ b ≤ stN S s ∧ okP S s a b p) := by
  obtain ⟨li, l1, l2⟩ := lst_iff (a := a) (b := b) hm hP p0 p8
  unfold lg mayP
  constructor
  · rintro ⟨h1, h2, h3, h4, h5, h6⟩
    exact ⟨by omega, h2, h6⟩
  · rintro ⟨h1, h2, h3⟩
    exact ⟨by omega, h2, p0, p8, by omega, h3⟩
/-- a rank in a window, for a begin, is the value and the end -/
theorem rk_vl (hm : wfM S) (hP : crP S p) (p8 : p < S 0 14) (s0 : 0 ≤ s) (s6 : s < 6) {κ : Int → Int} : rkW S κ s p b + ((S (140 + 4 * p + 3) s - prC S p - S (140 + 4 * p) 7 * a) * 128 - 1) * 128 = vl S (prC S) κ s a b p * 128 + b := by
  have e3 := hP.2.2.1 s s0 (by omega)
  have e7 := (hP.2.2.2 p8).2.2.2.2
  rw [e3, e7]
  unfold rkW vl wv
  have : S 19 p * (b - a) = S 19 p * b - S 19 p * a := Int.mul_sub ..
  rw [this]
  omega
theorem s_rankOfBest {Q : Int → St → Prop} (hm : wfM S) (hP : crP S p) (hR : rcOK S S s p) (hpr : prCB S) (p0 : 0 ≤ p) (p8 : p < S 0 14) (n80 : stN S s ≤ 80) (s0 : 0 ≤ s) (s6 : s < 6) (hF : wof S T) (a0 : 0 ≤ a) (an : a < stN S s) (hk : kbd S T s a) (hW : wI S T s p a) (hl : T (110 + 2 * p) 1 < T (110 + 2 * p) 2 → T (110 + 2 * p + 1) (T (110 + 2 * p) 1) % 128 ≤ S (kR s p) a)
    (q0 : (∀ b, ¬ lg S s a b p) → Q (-1) T) (q1 : ∀ b, lg S s a b p → (∀ b', lg S s a b' p → vl S (prC S) (T 104) s a b' p * 128 + b' ≤ vl S (prC S) (T 104) s a b p * 128 + b) → Q (vl S (prC S) (T 104) s a b p * 128 + b) T) : vpCu_rankOfBest (110 + 2 * p) (140 + 4 * p) a s T Q := by
  obtain ⟨_, l1, l2⟩ := lst_iff (a := 0) (b := 0) hm hP p0 p8
  obtain ⟨h1, h2, h3, h4⟩ := hW
  have w := hm.2.2 p p0 (by have := hm.1.2.2.2.2; omega)
  have wp := w.2.2.2 p8
  have L : ∀ b, lg S s a b p ↔ _ := fun b => lg_iff hm hP hR p0 p8 a0
  have e1 : T (140 + 4 * p) = S (140 + 4 * p) := hF _ (by omega) (by omega)
  have e3 : T (140 + 4 * p + 3) = S (140 + 4 * p + 3) := hF _ (by omega) (by omega)
  have V := fun b => rk_vl (b := b) (a := a) hm hP p8 s0 s6 (κ := T 104)
  unfold vpCu_rankOfBest
  rw [e1, e3]
  refine ⟨fun h => ⟨by omega, ?_, fun z ez => ⟨by omega, ?_⟩⟩, fun h => ?_⟩
  · have e3' := hP.2.2.1 s s0 (by omega)
    have e7 := (hP.2.2.2 p8).2.2.2.2
    have wd := w.2.1 s s0 (by omega)
    have m := mul_bd wp.2.2.2.1 wp.2.2.2.2 a0 (show a ≤ 80 by omega)
    have pb : 0 ≤ S (140 + 4 * p) 9 ∧ S (140 + 4 * p) 9 ≤ 10000000 := hpr p p0 p8
    rw [e3', e7]
    constructor <;> omega
  · have pb : 0 ≤ S (140 + 4 * p) 9 ∧ S (140 + 4 * p) 9 ≤ 10000000 := hpr p p0 p8
    have wd := w.2.1 s s0 (by omega)
    have e7 := (hP.2.2.2 p8).2.2.2.2
    have e3' := hP.2.2.1 s s0 (by omega)
    have m := mul_bd wp.2.2.2.1 wp.2.2.2.2 a0 (show a ≤ 80 by omega)
    obtain ⟨g1, g2, g3⟩ := h2 _ (Int.le_refl _) h
    have rb := rkW_b (b := T (110 + 2 * p + 1) (T (110 + 2 * p) 1) % 128) hm p0 p8 hk a0 n80 (by omega) g2
    have hh := hl h
    have vb := V (T (110 + 2 * p + 1) (T (110 + 2 * p) 1) % 128)
    rw [← g3, ← ez] at vb
    rw [vb]
    have lb : lg S s a (T (110 + 2 * p + 1) (T (110 + 2 * p) 1) % 128) p := (L _).2 ⟨g1, g2, (hR.2 a _ a0 (by omega) g2).1 hh⟩
    refine ⟨?_, q1 _ lb (fun b' hb' => ?_)⟩
    · rw [← vb, g3, ez, e7, e3']
      constructor <;> omega
    · obtain ⟨f1, f2, f3⟩ := (L b').1 hb'
      obtain ⟨i, i1, i2, i3, i4⟩ := h4 b' f1 f2 f3
      have v2 := V b'
      rw [← ez] at v2
      rw [← v2, ← vb]
      have : T (110 + 2 * p + 1) i ≤ T (110 + 2 * p + 1) (T (110 + 2 * p) 1) := by
        by_cases hi : i = T (110 + 2 * p) 1
        · rw [hi]
          omega
        · exact (h3 _ i (Int.le_refl _) (by omega) i2).2
      omega
  · refine q0 (fun b hb => ?_)
    obtain ⟨f1, f2, f3⟩ := (L b).1 hb
    obtain ⟨i, i1, i2, i3, i4⟩ := h4 b f1 f2 f3
    omega
/-- the choice in the tables -/
def cho (S T : St) (s y : Int) : Prop := (T 106 y = -1 ∧ noC S (prC S) (T 104) s y) ∨ ch S (prC S) (T 104) s y (T 105 y) (T 106 y)
def woI (S T : St) (s x : Int) : Prop := wof S T ∧ T 104 (stN S s) = 0 ∧ kbd S T s x ∧ (∀ y, x < y → y < stN S s → atK S (prC S) (T 104) s y (fun _ _ => True) ∧ cho S T s y) ∧ ∀ p, 0 ≤ p → p < S 0 14 → wI S T s p (x + 1)
/-- the best so far, of the products below y -/
def bsf (S T : St) (s a y v : Int) : Prop := (T 106 a = -1 ∧ v = T 104 (a + 1) * 128 + a ∨ 0 ≤ T 106 a ∧ T 106 a < y ∧ T 104 (a + 1) * 128 + a < v ∧ ∃ b, lg S s a b (T 106 a) ∧ v = vl S (prC S) (T 104) s a b (T 106 a) * 128 + b) ∧ (∀ b p, lg S s a b p → p < y → vl S (prC S) (T 104) s a b p * 128 + b ≤ v ∧ (p < T 106 a → vl S (prC S) (T 104) s a b p * 128 + b < v))
theorem vl_b (hm : wfM S) (hpr : prCB S) (s0 : 0 ≤ s) (s6 : s < 6) (n80 : stN S s ≤ 80) (a0 : 0 ≤ a) (hk : kbd S T s a) (h : lg S s a b p) : vl S (prC S) (T 104) s a b p ≤ 25600000 * (stN S s - a) ∧ -2000000000 ≤ vl S (prC S) (T 104) s a b p := by
  obtain ⟨h1, h2, h3, h4, _⟩ := h
  have w := hm.2.2 p h3 (by have := hm.1.2.2.2.2; omega)
  have v := wv_b (a := b - a) w h4 s0 (by omega) (by omega) (by omega)
  have t := toE_b hm.1 h2
  have k := hk (toE S s b) (by omega) t.2
  have pb := hpr p h3 h4
  unfold vl
  omega
theorem s_wo79 {v : Int} {Q : St → Prop} {K44 : Int → Int → Int → Int → Int → Int → Int → St → Prop} (hm : wfM S) (hS : crS S s) (hP : ∀ p, 0 ≤ p → p < S 0 14 → crP S p ∧ rcOK S S s p) (hpr : prCB S) (n80 : stN S s ≤ 80) (s0 : 0 ≤ s) (s6 : s < 6) (a0 : 0 ≤ a) (an : a < stN S s) (hI : woI S T s a) (hb : bsf S T s a 0 v) (hK : ∀ U, woI S U s (a - 1) → K44 103 (200 + 20 * s) s 102 (S 0 14) (S 0 3) (a - 1) U) : ∃ n, vCu_workOut_79 Q K44 n 103 (200 + 20 * s) s 102 (S 0 14) (S 0 3) a v 0 T := by
  have hA := hm.1
  have hA14 := hA.2.2.2.2
  refine lp3 (fun n v y U => vCu_workOut_79 Q K44 n 103 (200 + 20 * s) s 102 (S 0 14) (S 0 3) a v y U) (fun v y U => (0 ≤ y ∧ y ≤ S 0 14) ∧ (wof S U ∧ U 104 = T 104 ∧ (∀ z, a < z → z < stN S s → U 105 z = T 105 z ∧ U 106 z = T 106 z)) ∧ (∀ p, 0 ≤ p → p < S 0 14 → (p < y → wI S U s p a) ∧ (y ≤ p → wI S U s p (a + 1))) ∧ bsf S U s a y v) (fun _ y _ => (S 0 14 - y).toNat) (fun n v y U hJ ih => ?_) v 0 T ⟨⟨by omega, by omega⟩, ⟨hI.1, rfl, fun _ _ _ => ⟨rfl, rfl⟩⟩, fun p p0 p8 => ⟨fun h => by omega, fun _ => hI.2.2.2.2 p p0 p8⟩, hb⟩
  obtain ⟨hy, ⟨uF, u104, uo⟩, uW, ub⟩ := hJ
  obtain ⟨iF, i0, ik, ic, iw⟩ := hI
  have uk : kbd S U s a := by
    unfold kbd
    rw [u104]
    exact ik
  have k1 := ik (a + 1) (by omega) (by omega)
  have v0 : 0 ≤ v := by
    rcases ub.1 with h | h
    · rw [h.2, u104]
      omega
    · have := h.2.2.1
      rw [u104] at this
      omega
  unfold vCu_workOut_79
  refine ⟨fun hc => ?_, fun hc => ?_⟩
  · have ye : y = S 0 14 := by omega
    unfold vpMa_floorDiv
    refine ⟨⟨v0, rfl⟩, by omega, fun S8 e8 => ?_⟩
    unfold vpCu_endOf vpMa_floorMod
    refine ⟨⟨v0, rfl⟩, by constructor <;> omega, by omega, fun S18 e18 => ⟨by constructor <;> omega, fun z ez => ?_⟩⟩
    rw [show z = a - 1 by omega]
    have ek : ∀ k, k ≠ 104 → k ≠ 105 → S18 k = U k := fun k g1 g2 => funext fun j => by rw [e18, up_k g2, e8, up_k g1]
    have e4 : S18 104 a = v / 128 := by rw [e18, up_k (by omega), e8, up_s]
    have e4o : ∀ y, y ≠ a → S18 104 y = T 104 y := fun y hy => by rw [e18, up_k (by omega), e8, up_j hy, u104]
    have e5 : S18 105 a = v % 128 := by rw [e18, up_s]
    have e5o : ∀ y, y ≠ a → S18 105 y = U 105 y := fun y hy => by rw [e18, up_j hy, e8, up_k (by omega)]
    have e6 : S18 106 = U 106 := ek _ (by omega) (by omega)
    have vle : ∀ b p, lg S s a b p → vl S (prC S) (S18 104) s a b p = vl S (prC S) (U 104) s a b p := by
      intro b p hl
      have t := toE_b hA hl.2.1
      have := hl.1
      unfold vl
      rw [e4o _ (by omega), u104]
    have hcho : atK S (prC S) (S18 104) s a (fun _ _ => True) ∧ cho S S18 s a ∧ (0 ≤ v / 128 ∧ v / 128 ≤ 25600000 * (stN S s - a)) := by
      have hle : ∀ b p, lg S s a b p → vl S (prC S) (S18 104) s a b p * 128 + b ≤ v ∧ (p < U 106 a → vl S (prC S) (S18 104) s a b p * 128 + b < v) := fun b p hl => by
        rw [vle b p hl]
        exact ub.2 b p hl (by have := hl.2.2.2.1; omega)
      have e41 : S18 104 (a + 1) = U 104 (a + 1) := by rw [e4o _ (by omega), u104]
      rw [← u104] at k1
      rcases ub.1 with ⟨g1, g2⟩ | ⟨g1, g2, g3, b, g4, g5⟩
      · have ev : v / 128 = U 104 (a + 1) := by omega
        refine ⟨⟨by rw [e4, e41]; omega, fun b p hl _ => ?_, Or.inl (by rw [e4, e41]; omega)⟩, Or.inl ⟨by rw [e6]; exact g1, fun b p hl => ?_⟩, by omega, by omega⟩
        · rw [e4]
          have := (hle b p hl).1
          have := hl.1
          have := hl.2.1
          omega
        · rw [e4]
          have := (hle b p hl).1
          have := hl.1
          have := hl.2.1
          omega
      · have hb1 := g4.1
        have hb2 := g4.2.1
        have vb := vl_b hm hpr s0 s6 n80 a0 uk g4
        rw [← vle _ _ g4] at g5 vb
        have ev : v / 128 = vl S (prC S) (S18 104) s a b (U 106 a) := by omega
        have em : v % 128 = b := by omega
        refine ⟨⟨by rw [e4, e41]; omega, fun b' p' hl _ => ?_, Or.inr ⟨b, U 106 a, g4, by rw [e4]; exact ev⟩⟩, Or.inr ?_, by omega, by omega⟩
        · rw [e4]
          have := (hle b' p' hl).1
          have := hl.1
          have := hl.2.1
          omega
        · rw [e5, e6, em]
          refine ⟨g4, by rw [e4]; exact ev, fun b' p' hl he => ?_⟩
          rw [e4] at he
          have h3 := hle b' p' hl
          have := hl.1
          have := hl.2.1
          by_cases hbb : b' = b
          · right
            refine ⟨hbb, ?_⟩
            by_cases hp : p' < U 106 a
            · have := h3.2 hp
              omega
            · omega
          · left
            omega
    refine hK S18 ⟨fun k g1 g2 => ?_, ?_, fun y y1 y2 => ?_, fun y y1 y2 => ?_, fun p p0 p8 => ?_⟩
    · rw [ek k (by omega) (by omega)]
      exact uF k g1 g2
    · rw [e4o _ (by omega)]
      exact i0
    · by_cases hya : y = a
      · subst hya
        rw [e4]
        exact hcho.2.2
      · rw [e4o y hya]
        exact ik y (by omega) y2
    · by_cases hya : y = a
      · subst hya
        exact ⟨hcho.1, hcho.2.1⟩
      · obtain ⟨g1, g2⟩ := ic y (by omega) y2
        have ee : ∀ z, y ≤ z → S18 104 z = T 104 z := fun z hz => e4o z (by omega)
        refine ⟨atK_eq hA ee g1, ?_⟩
        have o := uo y (by omega) y2
        unfold cho at g2 ⊢
        rw [e5o y hya, e6, o.1, o.2]
        rcases g2 with g2 | g2
        · exact Or.inl ⟨g2.1, noC_eq hA (by omega) (fun z h1 _ => ee z h1) g2.2⟩
        · exact Or.inr (ch_eq hA (fun z h1 _ => ee z h1) g2)
    · rw [show a - 1 + 1 = a by omega]
      have l1 := (lst_iff (a := 0) (b := 0) hm (hP p p0 p8).1 p0 p8).2.1
      refine wI_eq ((uW p p0 p8).1 (by omega)) l1 hA (fun y y1 y2 => ?_) (ek _ (by omega) (by omega)) (ek _ (by omega) (by omega))
      rw [e4o _ (by omega), u104]
  · have y8 : y < S 0 14 := by omega
    obtain ⟨cP, cR⟩ := hP y hy.1 y8
    refine ⟨by omega, ⟨hy.1, by show y < 8; omega⟩, ?_⟩
    refine s_letEndIn hm hS cP hy.1 y8 n80 s0 s6 uF a0 an uk ((uW y hy.1 y8).2 (by omega)) (fun U1 f1 w1 => ?_)
    have u1F : wof S U1 := fun k g1 g2 => by rw [f1 k (by omega) (by omega)]; exact uF k g1 g2
    have u1k : kbd S U1 s a := by
      unfold kbd
      rw [f1 104 (by omega) (by omega)]
      exact uk
    have eR : U1 (200 + 20 * s + 9 + (1 + y)) a = S (kR s y) a := by rw [u1F _ (by omega) (by omega)]
    rw [eR]
    refine ⟨by omega, by omega, by omega, ?_⟩
    refine s_leaveW hm cP hy.1 y8 n80 a0 u1k (fun b b1 b2 => cR.2 a b a0 b1 b2) w1 (fun U2 f2 w2 hl => ?_)
    have u2F : wof S U2 := fun k g1 g2 => by rw [f2 k (by omega)]; exact u1F k g1 g2
    have u2k : kbd S U2 s a := by
      unfold kbd
      rw [f2 104 (by omega)]
      exact u1k
    have f12 : ∀ k, k ≠ 110 + 2 * y → k ≠ 110 + 2 * y + 1 → U2 k = U k := fun k g1 g2 => by rw [f2 k g1, f1 k g1 g2]
    have e104 : U2 104 = U 104 := f12 _ (by omega) (by omega)
    have e106 : U2 106 = U 106 := f12 _ (by omega) (by omega)
    refine ⟨by omega, ⟨hy.1, by show y < 8; omega⟩, ?_⟩
    have Wn : ∀ U3 : St, (∀ k, k ≠ 106 → U3 k = U2 k) → ∀ p, 0 ≤ p → p < S 0 14 → (p < y + 1 → wI S U3 s p a) ∧ (y + 1 ≤ p → wI S U3 s p (a + 1)) := by
      intro U3 f3 p p0 p8
      have l1 := (lst_iff (a := 0) (b := 0) hm (hP p p0 p8).1 p0 p8).2.1
      by_cases hpy : p = y
      · subst hpy
        refine ⟨fun _ => wI_eq w2 l1 hA (fun _ _ _ => by rw [f3 104 (by omega)]) (f3 _ (by omega)) (f3 _ (by omega)), fun h => by omega⟩
      · refine ⟨fun h => wI_eq ((uW p p0 p8).1 (by omega)) l1 hA (fun _ _ _ => by rw [f3 104 (by omega), e104]) ?_ ?_, fun h => wI_eq ((uW p p0 p8).2 (by omega)) l1 hA (fun _ _ _ => by rw [f3 104 (by omega), e104]) ?_ ?_⟩
        all_goals rw [f3 _ (by omega), f12 _ (by omega) (by omega)]
    have nxt : ∀ v' U3, (∀ k, k ≠ 106 → U3 k = U2 k) → (∀ z, a ≠ z → U3 106 z = U2 106 z) → bsf S U3 s a (y + 1) v' → vCu_workOut_166 Q K44 (vCu_workOut_79 Q K44 n) 103 (200 + 20 * s) s 102 (S 0 14) (S 0 3) a v' y U3 := by
      intro v' U3 f3 f3o b3
      unfold vCu_workOut_166
      refine ⟨by constructor <;> omega, fun z ez => ?_⟩
      subst ez
      refine ih v' (y + 1) U3 ⟨by omega, ⟨fun k g1 g2 => by rw [f3 k (by omega)]; exact u2F k g1 g2, by rw [f3 _ (by omega), e104, u104], fun z z1 z2 => ?_⟩, Wn U3 f3, b3⟩ (by show (S 0 14 - (y + 1)).toNat < (S 0 14 - y).toNat; omega)
      rw [f3 105 (by omega), f3o z (by omega), f12 105 (by omega) (by omega), e106]
      exact uo z z1 z2
    have bs : ∀ U3 : St, U3 104 = U 104 → U3 106 a = U 106 a → (∀ b, lg S s a b y → vl S (prC S) (U 104) s a b y * 128 + b ≤ v) → bsf S U3 s a (y + 1) v := by
      intro U3 g1 g2 g3
      unfold bsf
      rw [g1, g2]
      refine ⟨?_, fun b p hlg hp => ?_⟩
      · rcases ub.1 with h | h
        · exact Or.inl h
        · exact Or.inr ⟨h.1, by omega, h.2.2⟩
      · by_cases hpy : p = y
        · rw [hpy] at hlg ⊢
          refine ⟨g3 b hlg, fun h => ?_⟩
          rcases ub.1 with h' | h' <;> omega
        · exact ub.2 b p hlg (by omega)
    refine s_rankOfBest hm cP cR hpr hy.1 y8 n80 s0 s6 u2F a0 an u2k w2 hl (fun hn => ?_) (fun b hb hmx => ?_)
    · refine ⟨fun _ => nxt v U2 (fun _ _ => rfl) (fun _ _ => rfl) (bs U2 e104 (by rw [e106]) (fun b hb => absurd hb (hn b))), fun h => by omega⟩
    · rw [e104] at hmx ⊢
      refine ⟨fun h => nxt v U2 (fun _ _ => rfl) (fun _ _ => rfl) (bs U2 e104 (by rw [e106]) (fun b' hb' => by have := hmx b' hb'; omega)), fun h => ⟨by omega, fun S49 e49 => ?_⟩⟩
      have g6 : S49 106 a = y := by rw [e49, up_s]
      have g4 : S49 104 = U 104 := by rw [← e104]; funext j; rw [e49, up_k (by omega)]
      refine nxt _ S49 (fun k hk => funext fun j => by rw [e49, up_k hk]) (fun z hz => by rw [e49, up_j (by omega)]) ?_
      unfold bsf
      rw [g6, g4]
      refine ⟨Or.inr ⟨hy.1, by omega, ?_, b, hb, rfl⟩, fun b' p' hl' hp' => ?_⟩
      · rcases ub.1 with h' | h' <;> omega
      · by_cases hpy : p' = y
        · subst hpy
          exact ⟨hmx b' hl', fun h' => by omega⟩
        · have := (ub.2 b' p' hl' (by omega)).1
          exact ⟨by omega, fun _ => by omega⟩
theorem s_workOut {Q : St → Prop} (hm : wfM S) (hS : crS S s) (hP : ∀ p, 0 ≤ p → p < S 0 14 → crP S p ∧ rcOK S S s p) (hpr : prCB S) (s0 : 0 ≤ s) (s6 : s < 6) (qq : ∀ T, wof S T → isK S (prC S) (T 104) s → (∀ y, 0 ≤ y → y < stN S s → cho S T s y) → Q T) : vpCu_workOut 103 (200 + 20 * s) s 102 (S 0 14) (S 0 3) S Q := by
  have hA := hm.1
  have hA14 := hA.2.2.2.2
  have hs := hm.2.1 s s0 s6
  have n80 := hs.2.2.2.2.2.1
  have n0 := stN_0 hA hs
  unfold vpCu_workOut
  refine lp2 (fun n y U => vCu_workOut_3 Q n 103 (200 + 20 * s) s 102 (S 0 14) (S 0 3) y U) (fun y U => (0 ≤ y ∧ y ≤ S 0 14) ∧ wof S U ∧ ∀ p, 0 ≤ p → p < y → U (110 + 2 * p) 1 = 0 ∧ U (110 + 2 * p) 2 = 0) (fun y _ => (S 0 14 - y).toNat) (fun n y U hJ ih => ?_) 0 S ⟨⟨by omega, by omega⟩, wof.rf, fun p h1 h2 => by omega⟩
  obtain ⟨hy, uF, uW⟩ := hJ
  unfold vCu_workOut_3
  refine ⟨fun hc => ?_, fun hc => ⟨by omega, ?_⟩⟩
  · have e11 : U (200 + 20 * s) 11 = stN S s := by rw [uF (200 + 20 * s) (by omega) (by omega)]; exact hS.1.2.2.2
    rw [e11]
    refine ⟨by omega, fun S3 e3 => ?_⟩
    have e11' : S3 (200 + 20 * s) 11 = stN S s := by rw [e3, up_k (by omega)]; exact e11
    rw [e11']
    refine ⟨by constructor <;> omega, fun z ez => ?_⟩
    subst ez
    have e4 : S3 104 (stN S s) = 0 := by rw [e3, up_s]
    refine lp2 (fun n a U => vCu_workOut_44 Q n 103 (200 + 20 * s) s 102 (S 0 14) (S 0 3) a U) (fun a U => (-1 ≤ a ∧ a < stN S s) ∧ woI S U s a) (fun a _ => (a + 1).toNat) (fun n a U hJ ih => ?_) (stN S s - 1) S3 ⟨by omega, fun k g1 g2 => ?_, e4, fun y y1 y2 => ?_, fun y y1 y2 => by omega, fun p p0 p8 => ?_⟩
    · obtain ⟨ha, hI⟩ := hJ
      unfold vCu_workOut_44
      refine ⟨fun hc => ?_, fun hc => ?_⟩
      · have ea : a = -1 := by omega
        subst ea
        exact qq U hI.1 ⟨hI.2.1, fun x x0 xn => (hI.2.2.2.1 x (by omega) xn).1⟩ (fun y y0 yn => (hI.2.2.2.1 y (by omega) yn).2)
      · have k1 := hI.2.2.1 (a + 1) (by omega) (by omega)
        refine ⟨by omega, by constructor <;> omega, fun z ez => ⟨by omega, fun S7 e7 => ?_⟩⟩
        have ek : ∀ k, k ≠ 106 → S7 k = U k := fun k g => funext fun j => by rw [e7, up_k g]
        have e6 : S7 106 a = -1 := by rw [e7, up_s]
        have e6o : ∀ y, y ≠ a → S7 106 y = U 106 y := fun y hy => by rw [e7, up_j hy]
        have e4 := ek 104 (by omega)
        have e5 := ek 105 (by omega)
        refine s_wo79 hm hS hP hpr n80 s0 s6 (by omega) (by omega) ⟨fun k g1 g2 => ?_, ?_, ?_, fun y y1 y2 => ?_, fun p p0 p8 => ?_⟩ ⟨Or.inl ⟨e6, ?_⟩, fun b p hl hp => ?_⟩ (fun U' hU' => ?_)
        · rw [ek k (by omega)]
          exact hI.1 k g1 g2
        · rw [e4]
          exact hI.2.1
        · unfold kbd
          rw [e4]
          exact hI.2.2.1
        · have g := hI.2.2.2.1 y y1 y2
          unfold cho
          rw [e4, e5, e6o y (by omega)]
          exact g
        · have l1 := (lst_iff (a := 0) (b := 0) hm (hP p p0 p8).1 p0 p8).2.1
          exact wI_eq (hI.2.2.2.2 p p0 p8) l1 hA (fun _ _ _ => by rw [e4]) (ek _ (by omega)) (ek _ (by omega))
        · rw [e4]
          exact ez
        · have := hl.2.2.1
          omega
        · exact ih (a - 1) U' ⟨by omega, hU'⟩ (by show (a - 1 + 1).toNat < (a + 1).toNat; omega)
    · funext j
      rw [e3, up_k (by omega), uF k g1 g2]
    · have : y = stN S s := by omega
      subst this
      rw [e4]
      omega
    · have l1 := (lst_iff (a := 0) (b := 0) hm (hP p p0 p8).1 p0 p8).2.1
      obtain ⟨g1, g2⟩ := uW p p0 (by omega)
      have f1 : S3 (110 + 2 * p) 1 = 0 := by rw [e3, up_k (by omega)]; exact g1
      have f2 : S3 (110 + 2 * p) 2 = 0 := by rw [e3, up_k (by omega)]; exact g2
      refine ⟨⟨by omega, by omega, by omega⟩, fun i i1 i2 => by omega, fun i j i1 ij j2 => by omega, fun b b1 b2 => by omega⟩
  · unfold vpWi_clear
    intro S1 e1 S5 e5
    refine ⟨by constructor <;> omega, fun z ez => ?_⟩
    subst ez
    refine ih (y + 1) S5 ⟨by omega, fun k g1 g2 => ?_, fun p p0 p8 => ?_⟩ (by show (S 0 14 - (y + 1)).toNat < (S 0 14 - y).toNat; omega)
    · funext j
      rw [e5, up_k (by omega), e1, up_k (by omega), uF k g1 g2]
    · by_cases hp : p = y
      · subst hp
        refine ⟨?_, ?_⟩
        · rw [e5, up_j (by omega), e1, up_s]
        · rw [e5, up_s]
      · rw [e5, up_k (by omega), up_k (by omega), e1, up_k (by omega), up_k (by omega)]
        exact uW p p0 (by omega)
end WP
