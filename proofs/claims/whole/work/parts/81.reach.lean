/-! THE CLASS: its cells hold what the reference's hold -/
def crS (S : St) (s : Int) : Prop := (S (200 + 20 * s) 0 = S 0 1 ∧ S (200 + 20 * s) 9 = S 5 s ∧ S (200 + 20 * s) 10 = S 9 s ∧ S (200 + 20 * s) 11 = stN S s) ∧ (∀ k, 0 ≤ k → k < 60 → S (200 + 20 * s + 2) k = S 6 (60 * s + k) ∧ S (200 + 20 * s + 3) k = S 7 (60 * s + k) ∧ S (200 + 20 * s + 4) k = S 8 (60 * s + k)) ∧ (∀ k, 0 ≤ k → k < 20 → S (200 + 20 * s + 5) k = S 10 (20 * s + k) ∧ S (200 + 20 * s + 6) k = S 11 (20 * s + k) ∧ S (200 + 20 * s + 7) k = S 12 (20 * s + k)) ∧ (∀ k, 0 ≤ k → k < 81 → S (200 + 20 * s + 8) k = S 13 (81 * s + k))
def crP (S : St) (p : Int) : Prop := (S (140 + 4 * p) 0 = S 0 1 ∧ S (140 + 4 * p) 8 = S 21 p) ∧ (∀ k, 0 ≤ k → k < 8 → S (140 + 4 * p + 2) k = S 20 (8 * p + k)) ∧ (∀ d, 0 ≤ d → d < 7 → S (140 + 4 * p + 3) d = S 22 (7 * p + d)) ∧ (p < S 0 14 → S (140 + 4 * p) 3 = (S 15 p + S 0 1 - 1) / S 0 1 ∧ S (140 + 4 * p) 4 = S 16 p / S 0 1 ∧ S (140 + 4 * p) 5 = S 17 p ∧ S (140 + 4 * p) 6 = S 18 p ∧ S (140 + 4 * p) 7 = S 19 p)
/-- how far logs may go: what the class keeps for product p of stem s -/
def rcP (T : St) (k n : Int) (P : Int → Int → Prop) : Prop := (∀ a, 0 ≤ a → a < n → 0 ≤ T k a ∧ T k a ≤ 80) ∧ ∀ a b, 0 ≤ a → a < b → b ≤ n → (b ≤ T k a ↔ P a b)
abbrev kR (s p : Int) : Int := 200 + 20 * s + 9 + (1 + p)
abbrev rcOK (T S : St) (s p : Int) : Prop := rcP T (kR s p) (stN S s) (fun a b => okP S s a b p)
section RC
variable {S T : St} {s p : Int} {Q : St → Prop}
theorem al_R (s0 : 0 ≤ s) (s6 : s < 6) (p0 : 0 ≤ p) (p8 : p < 8) : alen (kR s p) = 80 := aA_6 (kt_1_8 (kA_3 ⟨s0, s6⟩)) ⟨p0, p8⟩
def fcP (S : St) (s a b : Int) : Prop := ∀ c, a < c → c < b → S 13 (81 * s + c) = 0
theorem le_div {a b c : Int} (hc : 0 < c) : a ≤ b / c ↔ a * c ≤ b := Int.le_ediv_iff_mul_le hc
theorem s_reach1 (hm : wfM S) (hS : crS S s) (hP : crP S p) (s0 : 0 ≤ s) (s6 : s < 6) (p0 : 0 ≤ p) (p8 : p < S 0 14) (qq : ∀ T, (∀ k, k ≠ kR s p → T k = S k) → rcP T (kR s p) (stN S s) (fun a b => b * S 0 1 - a * S 0 1 ≤ S 16 p ∧ fcP S s a b) → Q T) : vpSt_reachByLengthAndCuts (200 + 20 * s) (kR s p) (140 + 4 * p) S Q := by
  have h14 := hm.1.2.2.2.2
  have h1 := hm.1.1
  have ws := hm.2.1 s s0 s6
  have hn := stN_0 hm.1 ws
  have n80 := ws.2.2.2.2.2.1
  have al := al_R s0 s6 p0 (show p < 8 by omega)
  obtain ⟨⟨_, _, _, e11⟩, _, _, e8⟩ := hS
  have e4 := (hP.2.2.2 p8).2.1
  have h16 := ((hm.2.2 p p0 (by omega)).2.2.2 p8).1
  have d0 : 0 ≤ S 16 p / S 0 1 := Int.ediv_nonneg (by omega) (by omega)
  have d1 : S 16 p / S 0 1 ≤ S 16 p := Int.ediv_le_self _ (by omega)
  unfold vpSt_reachByLengthAndCuts
  rw [e11]
  refine ⟨by constructor <;> omega, fun z ez => ?_⟩
  refine lp3 (fun n c a T => vSt_reachByLengthAndCuts_13 Q n (200 + 20 * s) (kR s p) (140 + 4 * p) c a T) (fun c a T => -1 ≤ a ∧ a < stN S s ∧ (∀ k, k ≠ kR s p → T k = S k) ∧ ((a + 1 = stN S s ∧ c = stN S s) ∨ (a + 1 < c ∧ c ≤ stN S s ∧ (∀ j, a + 1 < j → j < c → S 13 (81 * s + j) = 0) ∧ (c = stN S s ∨ S 13 (81 * s + c) ≠ 0))) ∧ (∀ x, a < x → x < stN S s → (0 ≤ T (kR s p) x ∧ T (kR s p) x ≤ 80) ∧ ∀ b, x < b → b ≤ stN S s → (b ≤ T (kR s p) x ↔ (b * S 0 1 - x * S 0 1 ≤ S 16 p ∧ fcP S s x b)))) (fun _ a _ => (a + 1).toNat) (fun n c a T hI ih => ?_) (stN S s) z S ⟨by omega, by omega, fun _ _ => rfl, Or.inl ⟨by omega, rfl⟩, fun x x0 x1 => by omega⟩
  obtain ⟨a0, a1, hF, hc, hx⟩ := hI
  have f8 : T (200 + 20 * s + 8) = S (200 + 20 * s + 8) := hF _ (by unfold kR; omega)
  have f4 : T (140 + 4 * p) = S (140 + 4 * p) := hF _ (by unfold kR; omega)
  unfold vSt_reachByLengthAndCuts_13 vSt_reachByLengthAndCuts_35
  refine ⟨fun g => qq T hF ⟨fun x x0 x1 => (hx x (by omega) x1).1, fun x b x0 xb bn => (hx x (by omega) (by omega)).2 b xb bn⟩, fun g => ?_⟩
  rw [f8, f4, e8 (a + 1) (by omega) (by omega), e4]
  have step : ∀ c', (a < c' ∧ c' ≤ stN S s ∧ (∀ j, a < j → j < c' → S 13 (81 * s + j) = 0) ∧ (c' = stN S s ∨ S 13 (81 * s + c') ≠ 0)) → rI (a + S 16 p / S 0 1) ∧ ((0 : Int) ≤ a ∧ a < alen (kR s p)) ∧ rI (min (a + S 16 p / S 0 1) c') ∧ ∀ S4, S4 = up T (kR s p) a (min (a + S 16 p / S 0 1) c') → rI (a + (-1)) ∧ ∀ z10, z10 = a + (-1) → vSt_reachByLengthAndCuts_13 Q n (200 + 20 * s) (kR s p) (140 + 4 * p) c' z10 S4 := fun c' hc' => by
    obtain ⟨c0, c1, c2, c3⟩ := hc'
    clear hc
    refine ⟨by constructor <;> omega, by omega, by constructor <;> omega, fun S4 e => ⟨by constructor <;> omega, fun y ey => ?_⟩⟩
    subst ey
    refine ih _ _ _ ⟨by omega, by omega, fun k hk => ?_, Or.inr ⟨by omega, by omega, fun j j0 j1 => c2 j (by omega) j1, c3⟩, fun x x0 x1 => ?_⟩ (by omega)
    · rw [← hF k hk, e]
      funext j
      exact up_k hk
    · by_cases hxa : x = a
      · subst hxa
        rw [e, up_s]
        refine ⟨by omega, fun b xb bn => ?_⟩
        have hd : b - x ≤ S 16 p / S 0 1 ↔ b * S 0 1 - x * S 0 1 ≤ S 16 p := by rw [le_div (by omega), Int.sub_mul]
        rw [← hd]
        constructor
        · intro hb
          refine ⟨by omega, fun j j0 j1 => c2 j j0 (by omega)⟩
        · rintro ⟨q1, q2⟩
          have : b ≤ c' := by
            rcases c3 with c3 | c3
            · omega
            · rcases Int.lt_or_le c' b with q | q
              · exact absurd (q2 c' c0 q) c3
              · exact q
          omega
      · rw [e, up_j hxa]
        exact hx x (by omega) x1
  refine ⟨by omega, fun g1 => step c ?_, fun g1 => ⟨by constructor <;> omega, fun z ez => ?_⟩⟩
  · rcases hc with ⟨q1, q2⟩ | ⟨q1, q2, q3, q4⟩
    · exact ⟨by omega, by omega, fun j j0 j1 => by omega, Or.inl q2⟩
    · refine ⟨by omega, q2, fun j j0 j1 => ?_, q4⟩
      by_cases hj : j = a + 1
      · rw [hj]; exact g1
      · exact q3 j (by omega) j1
  · subst ez
    exact step (a + 1) ⟨by omega, by omega, fun j j0 j1 => by omega, Or.inr g1⟩
/-- a point that no log of the product may hold -/
def tb (S : St) (s p k : Int) : Prop := S 7 (60 * s + k) - S 0 2 < S 17 p ∨ S 18 p < S 8 (60 * s + k) + S 0 2
theorem s_isTooBad {k : Int} {Q : Int → St → Prop} (hm : wfM S) (hS : crS S s) (hP : crP S p) (s0 : 0 ≤ s) (s6 : s < 6) (p0 : 0 ≤ p) (p8 : p < S 0 14) (hF : ∀ k, k ≠ kR s p → T k = S k) (k0 : 0 ≤ k) (k1 : k < S 5 s) (q1 : tb S s p k → Q 1 T) (q0 : ¬ tb S s p k → Q 0 T) : vpSt_isTooBad (200 + 20 * s) k (140 + 4 * p) (S 0 2) T Q := by
  have h14 := hm.1.2.2.2.2
  have h2 := hm.1.2.1
  have ws := hm.2.1 s s0 s6
  have w5 := ws.1
  have h7 := (ws.2.2.1 k k0 k1).2
  have hp := (hm.2.2 p p0 (by omega)).2.2.2 p8
  obtain ⟨_, e2, _, _⟩ := hS
  obtain ⟨_, e3, e4⟩ := e2 k k0 (by omega)
  obtain ⟨_, _, e5, e6, _⟩ := hP.2.2.2 p8
  unfold vpSt_isTooBad vSt_isTooBad_30 vSt_isTooBad_35
  rw [hF (200 + 20 * s + 3) (by unfold kR; omega), hF (200 + 20 * s + 4) (by unfold kR; omega), hF (140 + 4 * p) (by unfold kR; omega), e3, e4, e5, e6]
  unfold tb at q1 q0
  exact ⟨by omega, by constructor <;> omega, fun g => ⟨Or.inr rfl, q1 (Or.inl g)⟩, fun g => ⟨by omega, by constructor <;> omega, fun g2 => ⟨Or.inl rfl, q0 (by omega)⟩, fun g2 => ⟨Or.inr rfl, q1 (by omega)⟩⟩⟩
theorem pts_tb {a b pt bad : Int} (hm : wfM S) (s0 : 0 ≤ s) (s6 : s < 6) (ab : a < b) (pt0 : 0 ≤ pt) (ptn : pt < S 5 s) (hp1 : S 6 (60 * s + pt) ≤ a * S 0 1) (hp2 : ∀ k, pt < k → k < S 5 s → a * S 0 1 < S 6 (60 * s + k)) (b1 : pt ≤ bad) (b2 : bad ≤ S 5 s) (b3 : ∀ k, pt ≤ k → k < bad → ¬ tb S s p k) (b4 : bad < S 5 s → tb S s p bad) : ptsOK S s a b p ↔ (bad = S 5 s ∨ (pt < bad ∧ b * S 0 1 ≤ S 6 (60 * s + (bad - 1)))) := by
  have ws := hm.2.1 s s0 s6
  have hAB := mul_lt hm.1 ab
  constructor
  · intro h
    by_cases hb : bad = S 5 s
    · exact Or.inl hb
    · refine Or.inr ?_
      have ht := b4 (by omega)
      have hno : ¬ ((bad = 0 ∨ S 6 (60 * s + (bad - 1)) < b * S 0 1) ∧ (bad + 1 = S 5 s ∨ a * S 0 1 < S 6 (60 * s + (bad + 1)))) := fun ⟨x1, x2⟩ => by
        have := h bad (by omega) (by omega) x1 x2
        unfold tb at ht
        omega
      have y2 : bad + 1 = S 5 s ∨ a * S 0 1 < S 6 (60 * s + (bad + 1)) := by
        by_cases q : bad + 1 = S 5 s
        · exact Or.inl q
        · exact Or.inr (hp2 _ (by omega) (by omega))
      have y1 : ¬ (bad = 0 ∨ S 6 (60 * s + (bad - 1)) < b * S 0 1) := fun q => hno ⟨q, y2⟩
      have y3 : bad ≠ pt := fun q => by
        subst q
        refine y1 ?_
        by_cases hz : bad = 0
        · exact Or.inl hz
        · have := pl_mono ws (j := bad - 1) (k := bad) (by omega) (by omega) (by omega)
          omega
      exact ⟨by omega, by omega⟩
  · intro h k k0 k1 k2 k3
    have hk : pt ≤ k := by
      rcases k3 with k3 | k3
      · omega
      · rcases Int.lt_or_le k pt with q | q
        · exfalso
          by_cases hz : k + 1 = pt
          · rw [hz] at k3; omega
          · have := pl_mono ws (j := k + 1) (k := pt) (by omega) (by omega) ptn
            omega
        · exact q
    have hkb : k < bad := by
      rcases h with h | ⟨h0, h⟩
      · omega
      · rcases k2 with k2 | k2
        · omega
        · rcases Int.lt_or_le k bad with q | q
          · exact q
          · exfalso
            by_cases hz : k = bad
            · rw [hz] at k2; omega
            · have := pl_mono ws (j := bad - 1) (k := k - 1) (by omega) (by omega) (by omega)
              omega
    have := b3 k hk hkb
    unfold tb at this
    omega
theorem s_reach2 {P : Int → Int → Prop} (hm : wfM S) (hS : crS S s) (hP : crP S p) (s0 : 0 ≤ s) (s6 : s < 6) (p0 : 0 ≤ p) (p8 : p < S 0 14) (hF : ∀ k, k ≠ kR s p → T k = S k) (hR : rcP T (kR s p) (stN S s) P) (qq : ∀ U, (∀ k, k ≠ kR s p → U k = S k) → rcP U (kR s p) (stN S s) (fun a b => P a b ∧ ptsOK S s a b p) → Q U) : vpSt_narrowByPoints (200 + 20 * s) (kR s p) (140 + 4 * p) (S 0 2) T Q := by
  have h14 := hm.1.2.2.2.2
  have h1 := hm.1.1
  have ws := hm.2.1 s s0 s6
  have hn := stN_0 hm.1 ws
  have n80 := ws.2.2.2.2.2.1
  have w5 := ws.1
  have al := al_R s0 s6 p0 (show p < 8 by omega)
  obtain ⟨⟨e0, e9, _, e11⟩, e2, _, _⟩ := id hS
  have fT : T (200 + 20 * s) = S (200 + 20 * s) := hF _ (by unfold kR; omega)
  unfold vpSt_narrowByPoints
  rw [fT, e11, e9]
  refine ⟨by constructor <;> omega, fun z ez => ?_⟩
  refine lp4 (fun n pt bad a T => vSt_narrowByPoints_20 Q n (200 + 20 * s) (kR s p) (140 + 4 * p) (S 0 2) pt bad a T) (fun pt bad a U => -1 ≤ a ∧ a < stN S s ∧ (∀ k, k ≠ kR s p → U k = S k) ∧ (0 ≤ pt ∧ pt ≤ S 5 s) ∧ (∀ k, pt < k → k < S 5 s → (a + 1) * S 0 1 < S 6 (60 * s + k)) ∧ (pt ≤ bad ∧ bad ≤ S 5 s ∧ (∀ k, pt ≤ k → k < bad → ¬ tb S s p k) ∧ (bad < S 5 s → tb S s p bad)) ∧ (∀ x, 0 ≤ x → x < stN S s → (0 ≤ U (kR s p) x ∧ U (kR s p) x ≤ 80) ∧ ∀ b, x < b → b ≤ stN S s → (b ≤ U (kR s p) x ↔ (P x b ∧ (a < x → ptsOK S s x b p))))) (fun _ _ a _ => (a + 1).toNat) (fun n pt bad a U hI ih => ?_) (S 5 s) (S 5 s) z T ⟨by omega, by omega, hF, by omega, fun k k0 k1 => by omega, ⟨by omega, by omega, fun k k0 k1 => by omega, fun q => by omega⟩, fun x x0 x1 => ⟨hR.1 x x0 x1, fun b xb bn => ?_⟩⟩
  · obtain ⟨a0, a1, uF, hpt, hp2, hbad, hx⟩ := hI
    unfold vSt_narrowByPoints_20
    refine ⟨fun g => qq U uF ⟨fun x x0 x1 => (hx x x0 x1).1, fun x b x0 xb bn => ?_⟩, fun g => ?_⟩
    · rw [(hx x x0 (by omega)).2 b xb bn]
      constructor
      · rintro ⟨q1, q2⟩
        exact ⟨q1, q2 (by omega)⟩
      · rintro ⟨q1, q2⟩
        exact ⟨q1, fun _ => q2⟩
    · have hA := mul_0 hm.1 (a := a) (by omega)
      have hA1 := mul_lt hm.1 (a := a) (b := a + 1) (by omega)
      obtain ⟨h5, hB⟩ := stN_mul hm.1 ws (b := a + 1) (by omega) (by omega)
      have hlast := (ws.2.2.1 (S 5 s - 1) (by omega) (by omega)).1
      have w60 := ws.2.2.2.1 h5
      have uS : U (200 + 20 * s) = S (200 + 20 * s) := uF _ (by unfold kR; omega)
      have uS2 : U (200 + 20 * s + 2) = S (200 + 20 * s + 2) := uF _ (by unfold kR; omega)
      -- the point is found: narrow, and go on
      have goon : ∀ pt bad, (0 ≤ pt ∧ pt < S 5 s) → S 6 (60 * s + pt) ≤ a * S 0 1 → (∀ k, pt < k → k < S 5 s → a * S 0 1 < S 6 (60 * s + k)) → (pt ≤ bad ∧ bad ≤ S 5 s ∧ (∀ k, pt ≤ k → k < bad → ¬ tb S s p k) ∧ (bad < S 5 s → tb S s p bad)) → vSt_narrowByPoints_77 Q (vSt_narrowByPoints_20 Q n) (200 + 20 * s) (kR s p) (140 + 4 * p) (S 0 2) pt bad a U := fun pt bad g1 g2 g3 g4 => by
        have hpi : ∀ b, a < b → b ≤ stN S s → (ptsOK S s a b p ↔ (bad = S 5 s ∨ (pt < bad ∧ b * S 0 1 ≤ S 6 (60 * s + (bad - 1))))) := fun b ab bn => pts_tb hm s0 s6 ab g1.1 g1.2 g2 g3 g4.1 g4.2.1 g4.2.2.1 g4.2.2.2
        have nx : ∀ (U' : St), (∀ k, k ≠ kR s p → U' k = U k) → (∀ x, x ≠ a → U' (kR s p) x = U (kR s p) x) → (0 ≤ U' (kR s p) a ∧ U' (kR s p) a ≤ 80) → (∀ b, a < b → b ≤ stN S s → (b ≤ U' (kR s p) a ↔ (b ≤ U (kR s p) a ∧ ptsOK S s a b p))) → vSt_narrowByPoints_134 Q (vSt_narrowByPoints_20 Q n) (200 + 20 * s) (kR s p) (140 + 4 * p) (S 0 2) pt bad a U' := fun U' f1 f2 f3 f4 => by
          unfold vSt_narrowByPoints_134
          refine ⟨by constructor <;> omega, fun z ez => ?_⟩
          subst ez
          refine ih _ _ _ _ ⟨by omega, by omega, fun k hk => by rw [f1 k hk, uF k hk], by omega, fun k k0 k1 => ?_, g4, fun x x0 x1 => ?_⟩ (by omega)
          · rw [show a + (-1) + 1 = a by omega]
            exact g3 k k0 k1
          · by_cases hxa : x = a
            · subst hxa
              refine ⟨f3, fun b xb bn => ?_⟩
              rw [f4 b xb bn, (hx x x0 x1).2 b xb bn]
              constructor
              · rintro ⟨⟨q1, _⟩, q2⟩
                exact ⟨q1, fun _ => q2⟩
              · rintro ⟨q1, q2⟩
                exact ⟨⟨q1, fun q => by omega⟩, q2 (by omega)⟩
            · rw [f2 x hxa]
              refine ⟨(hx x x0 x1).1, fun b xb bn => ?_⟩
              rw [(hx x x0 x1).2 b xb bn]
              constructor
              · rintro ⟨q1, q2⟩
                exact ⟨q1, fun q => q2 (by omega)⟩
              · rintro ⟨q1, q2⟩
                exact ⟨q1, fun q => q2 (by omega)⟩
        have hxa := (hx a (by omega) a1).1
        unfold vSt_narrowByPoints_77
        refine ⟨fun q => ⟨by omega, by omega, by constructor <;> omega, fun S5 e5 => ?_⟩, fun q => ⟨fun q2 => ?_, fun q2 => ?_⟩⟩
        · refine nx S5 (fun k hk => by rw [e5]; funext j; exact up_k hk) (fun x hxx => by rw [e5]; exact up_j hxx) (by rw [e5, up_s]; omega) (fun b ab bn => ?_)
          rw [e5, up_s, hpi b ab bn]
          constructor
          · intro z; omega
          · rintro ⟨z1, z2⟩; omega
        · rw [uS, e9] at q2
          refine nx U (fun _ _ => rfl) (fun _ _ => rfl) hxa (fun b ab bn => ?_)
          rw [hpi b ab bn]
          constructor
          · intro z; exact ⟨z, Or.inl (by omega)⟩
          · rintro ⟨z1, z2⟩; exact z1
        · rw [uS, e9] at q2
          have hb1 := (ws.2.2.1 (bad - 1) (by omega) (by omega)).1
          have eb := (e2 (bad - 1) (by omega) (by omega)).1
          have db : S 6 (60 * s + (bad - 1)) / S 0 1 ≤ S 6 (60 * s + (bad - 1)) := Int.ediv_le_self _ (by omega)
          have d0 : 0 ≤ S 6 (60 * s + (bad - 1)) / S 0 1 := Int.ediv_nonneg (by omega) (by omega)
          rw [uS, uS2, eb, e0]
          refine ⟨by omega, by omega, by omega, by omega, by omega, by constructor <;> omega, by omega, by constructor <;> omega, fun S5 e5 => ?_⟩
          refine nx S5 (fun k hk => by rw [e5]; funext j; exact up_k hk) (fun x hxx => by rw [e5]; exact up_j hxx) (by rw [e5, up_s]; omega) (fun b ab bn => ?_)
          have hd : b ≤ S 6 (60 * s + (bad - 1)) / S 0 1 ↔ b * S 0 1 ≤ S 6 (60 * s + (bad - 1)) := le_div (by omega)
          rw [e5, up_s, hpi b ab bn]
          constructor
          · intro z; exact ⟨by omega, Or.inr ⟨by omega, hd.mp (by omega)⟩⟩
          · rintro ⟨z1, z2⟩
            have := hd.mpr (by omega)
            omega
      refine lp2 (fun m pt bad => vSt_narrowByPoints_25 Q (vSt_narrowByPoints_20 Q n) m (200 + 20 * s) (kR s p) (140 + 4 * p) (S 0 2) pt bad a U) (fun pt bad => (0 ≤ pt ∧ pt ≤ S 5 s) ∧ (∀ k, pt < k → k < S 5 s → a * S 0 1 < S 6 (60 * s + k)) ∧ (pt ≤ bad ∧ bad ≤ S 5 s ∧ (∀ k, pt ≤ k → k < bad → ¬ tb S s p k) ∧ (bad < S 5 s → tb S s p bad))) (fun pt _ => pt.toNat) (fun m pt bad hJ jh => ?_) pt bad ⟨hpt, fun k k0 k1 => by have := hp2 k k0 k1; omega, hbad⟩
      obtain ⟨j1, j2, j3⟩ := hJ
      unfold vSt_narrowByPoints_25 vSt_narrowByPoints_56
      rw [uS, uS2, e9, e0]
      have down : 0 < pt → (pt = S 5 s ∨ a * S 0 1 < S 6 (60 * s + pt)) → rI (pt + (-1)) ∧ ∀ z42, z42 = pt + (-1) → vpSt_isTooBad (200 + 20 * s) z42 (140 + 4 * p) (S 0 2) U (fun r4 S5 => (r4 = 0 → vSt_narrowByPoints_25 Q (vSt_narrowByPoints_20 Q n) m (200 + 20 * s) (kR s p) (140 + 4 * p) (S 0 2) z42 bad a S5) ∧ (¬ r4 = 0 → vSt_narrowByPoints_25 Q (vSt_narrowByPoints_20 Q n) m (200 + 20 * s) (kR s p) (140 + 4 * p) (S 0 2) z42 z42 a S5)) := fun q1 q2 => by
        refine ⟨by constructor <;> omega, fun y ey => ?_⟩
        have k2 : ∀ k, y < k → k < S 5 s → a * S 0 1 < S 6 (60 * s + k) := fun k k0 k1 => by
          by_cases hk : k = pt
          · subst hk
            rcases q2 with q2 | q2
            · omega
            · exact q2
          · exact j2 k (by omega) k1
        refine s_isTooBad hm hS hP s0 s6 p0 p8 uF (by omega) (by omega) (fun ht => ⟨fun q => absurd q (by decide), fun _ => ?_⟩) (fun ht => ⟨fun _ => ?_, fun q => absurd rfl q⟩)
        · exact jh _ _ ⟨by omega, k2, by omega, by omega, fun k k0 k1 => by omega, fun _ => ht⟩ (by omega)
        · refine jh _ _ ⟨by omega, k2, by omega, j3.2.1, fun k k0 k1 => ?_, j3.2.2.2⟩ (by omega)
          by_cases hk : k = y
          · rw [hk]; exact ht
          · exact j3.2.2.1 k (by omega) k1
      refine ⟨fun q => ?_, fun q => ⟨fun q2 => down (by omega) (Or.inl q2), fun q2 => ?_⟩⟩
      · have hz : pt = 0 := by omega
        subst hz
        exact goon 0 bad ⟨by omega, h5⟩ (by rw [show 60 * s + 0 = 60 * s by omega, w60]; exact hA) j2 j3
      · rw [(e2 pt (by omega) (by omega)).1]
        refine ⟨by omega, by constructor <;> omega, fun q3 => goon pt bad ⟨by omega, by omega⟩ q3 j2 j3, fun q3 => down (by omega) (Or.inr (by omega))⟩
  · rw [hR.2 x b x0 xb bn]
    constructor
    · intro q; exact ⟨q, fun z => by omega⟩
    · intro q; exact q.1
end RC
