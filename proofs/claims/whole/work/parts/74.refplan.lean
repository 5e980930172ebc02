/-! the reference goes on, walks, plans -/
section GO
variable {S T : St} {s a b p : Int}
theorem same_iff (hm : wfM S) (s0 : 0 ≤ s) (s6 : s < 6) (hbl : ∀ y, 0 ≤ y → y ≤ stN S s → blK S S s y) (a0 : 0 ≤ a) (ab : a < b) (bn : b ≤ stN S s) : (S 32 (toE S s b) + 1 = S 32 a ∧ S 31 (toE S s b) + wv S s (b - a) p - S 23 p = S 31 a) ↔ kap S a = vl S (S 23) (kap S) s a b p := by
  have h80 := (hm.2.1 s s0 s6).2.2.2.2.2.1
  have ht := toE_b hm.1 bn
  have h1 := hbl a a0 (by omega)
  have h2 := hbl (toE S s b) (by omega) ht.2
  unfold blK at h1 h2
  have e1 : kap S a = 128 * S 31 a - S 32 a := rfl
  have e2 : vl S (S 23) (kap S) s a b p = 128 * S 31 (toE S s b) - S 32 (toE S s b) + 128 * (wv S s (b - a) p - S 23 p) - 1 := rfl
  rw [e1, e2]
  omega
theorem s_go12 {Q : Int → St → Prop} (hm : wfM S) (s0 : 0 ≤ s) (s6 : s < 6) (hbl : ∀ y, 0 ≤ y → y ≤ stN S s → blK S S s y) (hpr : prB S) (a0 : 0 ≤ a) (ab : a < b) (bn : b ≤ stN S s) {K3 : Int → Int → Int → Int → Int → St → Prop}
    (hK : (∀ p, lg S s a b p → kap S a ≠ vl S (S 23) (kap S) s a b p) → K3 0 s a (stN S s) (b - 1) S) (hQ : ∀ p, lg S s a b p → kap S a = vl S (S 23) (kap S) s a b p → (∀ p', p' < p → lg S s a b p' → kap S a ≠ vl S (S 23) (kap S) s a b p') → Q (8 * (b - a) + p) S) : ∃ n, vMo_goOn_12 Q K3 n 0 s a (stN S s) b 0 S := by
  have h80 := (hm.2.1 s s0 s6).2.2.2.2.2.1
  have h14 := hm.1.2.2.2.2
  have ht := toE_b hm.1 bn
  have hba := hbl a a0 (by omega)
  have hbt := hbl (toE S s b) (by omega) ht.2
  unfold blK at hba hbt
  refine lp1 (fun n y => vMo_goOn_12 Q K3 n 0 s a (stN S s) b y S) (fun y => 0 ≤ y ∧ y ≤ S 0 14 ∧ ∀ p', p' < y → lg S s a b p' → kap S a ≠ vl S (S 23) (kap S) s a b p') (fun y => (8 - y).toNat) (fun n y hI ih => ?_) 0 ⟨by omega, by omega, fun p' h1 hl => by have := hl.2.2.1; omega⟩
  obtain ⟨y0, y1, hn⟩ := hI
  have hsm := same_iff (p := y) hm s0 s6 hbl a0 ab bn
  unfold vMo_goOn_12 vMo_goOn_89 vMo_goOn_90 vMo_goOn_121
  refine ⟨fun g => ⟨by constructor <;> omega, fun z ez => ?_⟩, fun g => ?_⟩
  · rw [ez, show b + (-1) = b - 1 by omega]
    exact hK (fun p' hl => hn p' (by have := hl.2.2.2.1; omega) hl)
  · have nx : ∀ z, z = y + 1 → (lg S s a b y → kap S a ≠ vl S (S 23) (kap S) s a b y) → vMo_goOn_12 Q K3 n 0 s a (stN S s) b z S := fun z ez hz => by
      subst ez
      refine ih _ ⟨by omega, by omega, fun p' h1 hl => ?_⟩ (by omega)
      by_cases he : p' = y
      · rw [he] at hl ⊢
        exact hz hl
      · exact hn p' (by omega) hl
    have hw := wv_b (hm.2.2 y y0 (by omega)) (show y < S 0 14 by omega) s0 (by omega) (show 0 ≤ b - a by omega) (by omega)
    have hpy := hpr y y0 (by omega)
    refine s_behind hm.1 bn (by omega) h80 ⟨by omega, by omega, by constructor <;> omega, fun g1 => ⟨by omega, by constructor <;> omega, s_worthOf hm y0 (by omega) s0 s6 (by omega) (by omega) ⟨by omega, by omega, by constructor <;> omega, fun g2 => ⟨fun z => absurd z (by decide), fun _ => ?_⟩, fun g2 => ⟨fun _ => ⟨by constructor <;> omega, fun z ez => nx z ez (fun _ he => g2 (hsm.mpr he).2)⟩, fun z => absurd rfl z⟩⟩⟩, fun g1 => ⟨fun _ => ⟨by constructor <;> omega, fun z ez => nx z ez (fun _ he => g1 (hsm.mpr he).1)⟩, fun z => absurd rfl z⟩⟩
    refine s_may hm s0 s6 a0 ab bn y0 (by omega) (fun hmay => ⟨fun z => absurd z (by decide), fun _ => ⟨by constructor <;> omega, ?_⟩⟩) (fun hmay => ⟨fun _ => ⟨by constructor <;> omega, fun z ez => nx z ez (fun hl => absurd hl.2.2.2.2 hmay)⟩, fun z => absurd rfl z⟩)
    exact hQ y ⟨ab, bn, y0, by omega, hmay⟩ (hsm.mp ⟨g1, g2⟩) hn
theorem s_goOn {Q : Int → St → Prop} (hm : wfM S) (s0 : 0 ≤ s) (s6 : s < 6) (hbl : ∀ y, 0 ≤ y → y ≤ stN S s → blK S S s y) (hpr : prB S) (a0 : 0 ≤ a) (an : a < stN S s) (q0 : noC S (S 23) (kap S) s a → Q 0 S) (q1 : ∀ b p, ch S (S 23) (kap S) s a b p → Q (8 * (b - a) + p) S) : vpMo_goOn 0 s a (stN S s) S Q := by
  unfold vpMo_goOn
  refine lp1 (fun n b => vMo_goOn_3 Q n 0 s a (stN S s) b S) (fun b => a ≤ b ∧ b ≤ stN S s ∧ ∀ b' p', b < b' → lg S s a b' p' → kap S a ≠ vl S (S 23) (kap S) s a b' p') (fun b => (b - a).toNat) (fun n b hI ih => ?_) (stN S s) ⟨by omega, by omega, fun b' p' h1 hl => by have := hl.2.1; omega⟩
  obtain ⟨b0, b1, hn⟩ := hI
  unfold vMo_goOn_3
  refine ⟨fun g => q0 (fun b' p' hl => hn b' p' (by have := hl.1; omega) hl), fun g => ?_⟩
  refine s_go12 hm s0 s6 hbl hpr a0 (by omega) b1 (fun h1 => ih _ ⟨by omega, by omega, fun b' p' h2 hl => ?_⟩ (by omega)) (fun p hl he hp => q1 b p ⟨hl, he, fun b' p' hl' he' => ?_⟩)
  · by_cases hb : b' = b
    · rw [hb] at hl ⊢
      exact h1 p' hl
    · exact hn b' p' (by omega) hl
  · by_cases hb : b < b'
    · exact absurd he' (hn b' p' hb hl')
    · by_cases hb2 : b' = b
      · by_cases hpp : p' < p
        · rw [hb2] at hl' he'
          exact absurd he' (hp p' hpp hl')
        · omega
      · omega
/-- the worth, less its price, of the log that begins at step k, if one does -/
def gf (S : St) (pr : Int → Int) (s : Int) (w l q : Int → Int) : Int → Int := fun k => if w k = 1 then wv S s (l k) (q k) - pr (q k) else 0
def cfn (w : Int → Int) : Int → Int := fun k => if w k = 1 then 1 else 0
abbrev rw25 (T : St) (s : Int) : Int → Int := fun k => T 25 (81 * s + k)
abbrev rw26 (T : St) (s : Int) : Int → Int := fun k => T 26 (81 * s + k)
abbrev rw27 (T : St) (s : Int) : Int → Int := fun k => T 27 (81 * s + k)
def wkF (S T : St) (s a : Int) : Prop := ∀ k j, ¬ ((k = 25 ∨ k = 26 ∨ k = 27) ∧ 81 * s ≤ j ∧ j < 81 * s + a) → T k j = S k j
theorem wkF.cf (h : wkF S T s a) : cf S T := fun k j hk => h k j (by omega)
theorem wkF.k (h : wkF S T s a) {k : Int} (hk : k ≠ 25 ∧ k ≠ 26 ∧ k ≠ 27) : T k = S k := funext fun j => h k j (by omega)
theorem s_walk {Q : St → Prop} (hm : wfM S) (s0 : 0 ≤ s) (s6 : s < 6) (hbl : ∀ y, 0 ≤ y → y ≤ stN S s → blK S S s y) (hpr : prB S) (hK : isK S (S 23) (kap S) s) (q : ∀ T, wkF S T s (stN S s) → isPl S (S 23) (kap S) s (rw25 T s) (rw26 T s) (rw27 T s) → S 31 0 = sm (gf S (S 23) s (rw25 T s) (rw26 T s) (rw27 T s)) (stN S s).toNat → Q T) : vpMo_walk 0 s S Q := by
  have hn := stN_0 hm.1 (hm.2.1 s s0 s6)
  have h80 := (hm.2.1 s s0 s6).2.2.2.2.2.1
  have h14 := hm.1.2.2.2.2
  unfold vpMo_walk
  refine s_stepsOf hm.1 (hm.2.1 s s0 s6) s0 s6 ?_
  refine lp2 (fun n a T => vMo_walk_8 Q n 0 s (stN S s) a T) (fun a T => 0 ≤ a ∧ a ≤ stN S s ∧ wkF S T s a ∧ plTo S (S 23) (kap S) s (rw25 T s) (rw26 T s) (rw27 T s) a ∧ kap S 0 = 128 * sm (gf S (S 23) s (rw25 T s) (rw26 T s) (rw27 T s)) a.toNat - sm (cfn (rw25 T s)) a.toNat + kap S a) (fun a _ => (80 - a).toNat) (fun n a T hI ih => ?_) 0 S ⟨by omega, by omega, fun _ _ _ => rfl, plTo_0, ?_⟩
  · obtain ⟨a0, a1, hF, hP, hsum⟩ := hI
    have c := hF.cf
    have wT := c.w hm
    have e23 : T 23 = S 23 := hF.k (by omega)
    have e31 : T 31 = S 31 := hF.k (by omega)
    have e32 : T 32 = S 32 := hF.k (by omega)
    have eka : kap T = kap S := by unfold kap; rw [e31, e32]
    have hblT : ∀ y, 0 ≤ y → y ≤ stN T s → blK T T s y := fun y y0 y1 => by
      rw [c.n] at y1
      have := hbl y y0 y1
      unfold blK at this ⊢
      rw [c.n, e31, e32]
      exact this
    have prT : prB T := fun p p0 p1 => by
      rw [e23]
      exact hpr p p0 (by rw [← c.j (j := 14) (by omega)]; exact p1)
    unfold vMo_walk_8 vMo_walk_128
    refine ⟨fun g => ?_, fun g => ?_⟩
    · have ha : a = stN S s := by omega
      subst ha
      refine q T hF hP ?_
      have hc := sm_b (f := cfn (rw25 T s)) 1 (stN S s).toNat (fun i _ _ => by unfold cfn; split <;> omega)
      rw [hK.1] at hsum
      have hb0 := hbl 0 (by omega) hn
      unfold blK at hb0
      have hk0 : kap S 0 = 128 * S 31 0 - S 32 0 := rfl
      omega
    · rw [show stN S s = stN T s from c.n.symm]
      refine s_goOn wT s0 s6 hblT prT a0 (by rw [c.n]; omega) (fun hno => ⟨fun _ => ⟨by constructor <;> omega, ?_⟩, fun z => absurd rfl z⟩) (fun b p hch => ?_)
      · have hno : noC S (S 23) (kap S) s a := fun b p hl => by
          have := hno b p (c.g.mpr hl)
          rw [c.l, e23, eka] at this
          exact this
        refine s_mark s0 s6 a0 (by omega) (by decide) (fun U uF uV => ⟨by constructor <;> omega, fun z ez => ?_⟩)
        subst ez
        have ua : U 25 (81 * s + a) = 2 := uV a (by omega) (by omega)
        have uw : ∀ k, 0 ≤ k → k < a → rw25 U s k = rw25 T s k ∧ rw26 U s k = rw26 T s k ∧ rw27 U s k = rw27 T s k := fun k k0 k1 => ⟨uF 25 _ (by omega), uF 26 _ (by omega), uF 27 _ (by omega)⟩
        rw [c.n]
        refine ih _ _ ⟨by omega, by omega, fun k j hk => ?_, plTo_ext hP a0 uw (by omega) (Or.inr ua) (fun k k0 k1 => ?_) (fun k hl => (toE_b hm.1 hl.2.1).1), ?_⟩ (by omega)
        · rw [uF k j (by omega)]
          exact hF k j (by omega)
        · have hk : k = a := by omega
          subst hk
          refine ⟨Or.inr (Or.inl ua), fun _ => ⟨hno, fun z => by omega⟩, fun z => ?_⟩
          have : U 25 (81 * s + k) = 1 := z
          omega
        · rw [sm_s a0, sm_s a0]
          have y1 : sm (gf S (S 23) s (rw25 U s) (rw26 U s) (rw27 U s)) a.toNat = sm (gf S (S 23) s (rw25 T s) (rw26 T s) (rw27 T s)) a.toNat := sm_eq _ (fun i i0 i1 => by
            obtain ⟨z1, z2, z3⟩ := uw i i0 (by omega)
            unfold gf
            rw [z1, z2, z3])
          have y2 : sm (cfn (rw25 U s)) a.toNat = sm (cfn (rw25 T s)) a.toNat := sm_eq _ (fun i i0 i1 => by
            obtain ⟨z1, z2, z3⟩ := uw i i0 (by omega)
            unfold cfn
            rw [z1])
          have y3 : gf S (S 23) s (rw25 U s) (rw26 U s) (rw27 U s) a = 0 := if_neg (by show ¬ U 25 (81 * s + a) = 1; omega)
          have y4 : cfn (rw25 U s) a = 0 := if_neg (by show ¬ U 25 (81 * s + a) = 1; omega)
          rw [y1, y2, y3, y4]
          have := (hK.2 a a0 (by omega)).2.2
          rcases this with this | ⟨b, p, x1, x2⟩
          · omega
          · exact absurd x2 (hno b p x1)
      · have hch : ch S (S 23) (kap S) s a b p := by
          obtain ⟨x1, x2, x3⟩ := hch
          rw [c.l, e23, eka] at x2
          refine ⟨c.g.mp x1, x2, fun b' p' hl he => x3 b' p' (c.g.mpr hl) ?_⟩
          rw [c.l, e23, eka]
          exact he
        obtain ⟨ab, bn, p0, p1, _⟩ := hch.1
        have ht := toE_b hm.1 bn
        have r1 : (8 * (b - a) + p) / 8 = b - a := by omega
        have r2 : (8 * (b - a) + p) % 8 = p := by omega
        rw [r1, r2]
        refine ⟨fun z => by omega, fun _ => ⟨by omega, by omega, by constructor <;> omega, fun z ez => ?_⟩⟩
        have ez : z = b := by omega
        rw [ez]
        refine s_mark s0 s6 a0 (by omega) (by decide) (fun U1 uF uV => ⟨by omega, fun U2 e2 => ⟨by omega, by omega, by omega, by constructor <;> omega, fun U3 e3 => ⟨by omega, by omega, by omega, by constructor <;> omega, fun U4 e4 => ?_⟩⟩⟩)
        have hU4 : ∀ k j, ¬ ((k = 25 ∨ k = 26 ∨ k = 27) ∧ 81 * s + a ≤ j ∧ j < 81 * s + b) → U4 k j = T k j := fun k j hk => by
          subst e4 e3 e2
          unfold up
          rw [if_neg (by omega), if_neg (by omega), if_neg (by omega)]
          exact uF k j (by omega)
        have v1 : U4 25 (81 * s + a) = 1 := by
          subst e4 e3 e2
          unfold up
          rw [if_neg (by omega), if_neg (by omega), if_pos ⟨rfl, rfl⟩]
        have v2 : U4 26 (81 * s + a) = b - a := by
          subst e4 e3 e2
          unfold up
          rw [if_neg (by omega), if_pos ⟨rfl, rfl⟩]
        have v3 : U4 27 (81 * s + a) = p := by
          subst e4
          exact up_s
        have v4 : ∀ k, a < k → k < b → U4 25 (81 * s + k) = 4 := fun k k0 k1 => by
          subst e4 e3 e2
          unfold up
          rw [if_neg (by omega), if_neg (by omega), if_neg (by omega)]
          exact uV k (by omega) k1
        have c4 : cf T U4 := fun k j hk => hU4 k j (by omega)
        rw [show stN T s = stN U4 s from c4.n.symm]
        have w4 := c4.w wT
        refine s_behind w4.1 (by rw [c4.n, c.n]; exact bn) (by omega) (by rw [c4.n, c.n]; exact h80) ?_
        rw [c4.t, c.t]
        refine s_mark s0 s6 (by omega) (by omega) (by decide) (fun U5 uF5 uV5 => ?_)
        have c5 : cf T U5 := fun k j hk => (uF5 k j (by omega)).trans (c4 k j hk)
        rw [show stN U4 s = stN U5 s by rw [c4.n, c5.n]]
        have w5 := c5.w wT
        refine s_behind w5.1 (by rw [c5.n, c.n]; exact bn) (by omega) (by rw [c5.n, c.n]; exact h80) ?_
        rw [c5.t, c.t, c5.n, c.n]
        have x1 : U5 25 (81 * s + a) = 1 := by rw [uF5 25 _ (by omega)]; exact v1
        have x2 : U5 26 (81 * s + a) = b - a := by rw [uF5 26 _ (by omega)]; exact v2
        have x3 : U5 27 (81 * s + a) = p := by rw [uF5 27 _ (by omega)]; exact v3
        have x4 : ∀ k, a < k → k < b → U5 25 (81 * s + k) = 4 := fun k k0 k1 => by rw [uF5 25 _ (by omega)]; exact v4 k k0 k1
        have x5 : ∀ k, b ≤ k → k < toE S s b → U5 25 (81 * s + k) = 3 := fun k k0 k1 => uV5 k k0 k1
        have uw : ∀ k, 0 ≤ k → k < a → rw25 U5 s k = rw25 T s k ∧ rw26 U5 s k = rw26 T s k ∧ rw27 U5 s k = rw27 T s k := fun k k0 k1 => ⟨by show U5 25 _ = T 25 _; rw [uF5 25 _ (by omega), hU4 25 _ (by omega)], by show U5 26 _ = T 26 _; rw [uF5 26 _ (by omega), hU4 26 _ (by omega)], by show U5 27 _ = T 27 _; rw [uF5 27 _ (by omega), hU4 27 _ (by omega)]⟩
        have eb : a + U5 26 (81 * s + a) = b := by omega
        refine ih _ _ ⟨by omega, by omega, fun k j hk => ?_, plTo_ext hP a0 uw (by omega) (Or.inl x1) (fun k k0 k1 => ?_) (fun k hl => (toE_b hm.1 hl.2.1).1), ?_⟩ (by omega)
        · rw [uF5 k j (by omega), hU4 k j (by omega)]
          exact hF k j (by omega)
        · unfold plC
          by_cases hk : k = a
          · subst hk
            refine ⟨Or.inl x1, fun z => ?_, fun _ => ?_⟩
            · have : U5 25 (81 * s + k) = 2 := z
              omega
            · show ch S (S 23) (kap S) s k (k + U5 26 (81 * s + k)) (U5 27 (81 * s + k)) ∧ _
              rw [x3]
              show _ ∧ (∀ j, k < j → j < k + U5 26 (81 * s + k) → _) ∧ (∀ j, k + U5 26 (81 * s + k) ≤ j → j < toE S s (k + U5 26 (81 * s + k)) → _) ∧ toE S s (k + U5 26 (81 * s + k)) ≤ _ ∧ (toE S s (k + U5 26 (81 * s + k)) < _ → _)
              rw [eb]
              exact ⟨hch, x4, x5, by omega, fun z => by omega⟩
          · by_cases hkb : k < b
            · have := x4 k (by omega) hkb
              refine ⟨Or.inr (Or.inr (Or.inr this)), fun z => ?_, fun z => ?_⟩
              · have : U5 25 (81 * s + k) = 2 := z
                omega
              · have : U5 25 (81 * s + k) = 1 := z
                omega
            · have := x5 k (by omega) k1
              refine ⟨Or.inr (Or.inr (Or.inl this)), fun z => ?_, fun z => ?_⟩
              · have : U5 25 (81 * s + k) = 2 := z
                omega
              · have : U5 25 (81 * s + k) = 1 := z
                omega
        · have y1 : sm (gf S (S 23) s (rw25 U5 s) (rw26 U5 s) (rw27 U5 s)) a.toNat = sm (gf S (S 23) s (rw25 T s) (rw26 T s) (rw27 T s)) a.toNat := sm_eq _ (fun i i0 i1 => by
            obtain ⟨z1, z2, z3⟩ := uw i i0 (by omega)
            unfold gf
            rw [z1, z2, z3])
          have y2 : sm (cfn (rw25 U5 s)) a.toNat = sm (cfn (rw25 T s)) a.toNat := sm_eq _ (fun i i0 i1 => by
            obtain ⟨z1, z2, z3⟩ := uw i i0 (by omega)
            unfold cfn
            rw [z1])
          have no1 : ∀ i, a + 1 ≤ i → i < toE S s b → ¬ U5 25 (81 * s + i) = 1 := fun i i0 i1 => by
            by_cases hib : i < b
            · have := x4 i (by omega) hib
              omega
            · have := x5 i (by omega) i1
              omega
          rw [sm_gap (f := gf S (S 23) s (rw25 U5 s) (rw26 U5 s) (rw27 U5 s)) (a := a + 1) (by omega) (by omega) (fun i i0 i1 => if_neg (no1 i i0 i1)), sm_gap (f := cfn (rw25 U5 s)) (a := a + 1) (by omega) (by omega) (fun i i0 i1 => if_neg (no1 i i0 i1)), sm_s a0, sm_s a0, y1, y2]
          have y3 : gf S (S 23) s (rw25 U5 s) (rw26 U5 s) (rw27 U5 s) a = wv S s (b - a) p - S 23 p := by
            unfold gf
            rw [if_pos x1]
            show wv S s (U5 26 (81 * s + a)) (U5 27 (81 * s + a)) - S 23 (U5 27 (81 * s + a)) = _
            rw [x2, x3]
          have y4 : cfn (rw25 U5 s) a = 1 := if_pos x1
          rw [y3, y4]
          have := hch.2.1
          unfold vl at this
          omega
  · show kap S 0 = 128 * 0 - 0 + kap S 0
    omega
end GO
