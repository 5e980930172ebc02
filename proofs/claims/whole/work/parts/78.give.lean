/-! GIVING WAY: of each limited product the logs beyond the first ones that its limit lets be are burned -/
def inR (S : St) (i : Int) : Prop := 0 ≤ i ∧ i < 81 * S 0 4 ∧ i % 81 < stN S (i / 81)
def fP (S : St) (w q : Int → Int) (p x : Int) : Int := sm (lf S w (fun i => if q i = p then 1 else 0)) x.toNat
def remL (S : St) (w q : Int → Int) (j : Int) : Prop := 0 ≤ S 21 (q j) ∧ S 21 (q j) < fP S w q (q j) (j + 1)
def cov (S : St) (w l : Int → Int) (R : Int → Prop) (i : Int) : Prop := ∃ j, R j ∧ isL S w j ∧ j ≤ i ∧ i < j + l j
def brn (S : St) (w l : Int → Int) (R : Int → Prop) (w' : Int → Int) : Prop := ∀ i, inR S i → (cov S w l R i → w' i = 2) ∧ (¬ cov S w l R i → w' i = w i)
def sepA (S : St) (w l : Int → Int) : Prop := ∀ i j, isL S w i → i < j → j < i + l i → w j ≠ 1
section GW
variable {S B T : St} {s p x : Int} {w l q w' : Int → Int} {R R' : Int → Prop}
theorem brn_R (e : ∀ j, isL S w j → (R' j ↔ R j)) (h : brn S w l R w') : brn S w l R' w' := by
  intro i hi
  have ec : cov S w l R' i ↔ cov S w l R i := ⟨fun ⟨j, a, b, c⟩ => ⟨j, (e j b).mp a, b, c⟩, fun ⟨j, a, b, c⟩ => ⟨j, (e j b).mpr a, b, c⟩⟩
  rw [ec]
  exact h i hi
theorem plOK_sep {pr : Int → Int} (hm : wfM S) (h : plOK S pr w l q) : sepA S w l := by
  intro i j ⟨i0, i1, i2, i3⟩ hij hj
  have hw4 := hm.1.2.2.2.1
  obtain ⟨κ, k1, k2⟩ := h (i / 81) (by omega) (by omega)
  have e : 81 * (i / 81) + i % 81 = i := by omega
  have := (k2.2 (i % 81) (by omega) i2).2.2 (by show w (81 * (i / 81) + i % 81) = 1; rw [e]; exact i3)
  have h4 := this.2.1 (j - 81 * (i / 81)) (by omega) (by show _ < _ + l (81 * (i / 81) + i % 81); rw [e]; omega)
  have h5 : w (81 * (i / 81) + (j - 81 * (i / 81))) = 4 := h4
  rw [show 81 * (i / 81) + (j - 81 * (i / 81)) = j by omega] at h5
  omega
/-- a log that isn't burned itself isn't in a burned one -/
theorem cov_self (hs : sepA S w l) {i : Int} (hi : isL S w i) : cov S w l R i ↔ (R i ∧ i < i + l i) := by
  constructor
  · rintro ⟨j, a, b, c, d⟩
    by_cases hj : j = i
    · rw [hj] at a d
      exact ⟨a, d⟩
    · exact absurd hi.2.2.2 (hs j i b (by omega) d)
  · rintro ⟨a, b⟩
    exact ⟨i, a, hi, by omega, b⟩
theorem lf_brn {p : Int} (hs : sepA S w l) (h : brn S w l R w') (hR : ∀ j, isL S w j → R j → q j ≠ p) : ∀ n : Nat, (n : Int) ≤ 81 * S 0 4 → sm (lf S w' (fun i => if q i = p then 1 else 0)) n = sm (lf S w (fun i => if q i = p then 1 else 0)) n := by
  intro n hn
  refine sm_eq _ (fun i i0 i1 => ?_)
  show (if i % 81 < stN S (i / 81) ∧ w' i = 1 then if q i = p then (1 : Int) else 0 else 0) = (if i % 81 < stN S (i / 81) ∧ w i = 1 then if q i = p then 1 else 0 else 0)
  by_cases hi : i % 81 < stN S (i / 81)
  · obtain ⟨b1, b2⟩ := h i ⟨i0, by omega, hi⟩
    by_cases hc : cov S w l R i
    · rw [b1 hc, if_neg (by omega)]
      by_cases hw : w i = 1
      · have hl : isL S w i := ⟨i0, by omega, hi, hw⟩
        have := hR i hl ((cov_self hs hl).mp hc).1
        rw [if_pos ⟨hi, hw⟩, if_neg this]
      · rw [if_neg (fun z => hw z.2)]
    · rw [b2 hc]
  · rw [if_neg (fun z => hi z.1), if_neg (fun z => hi z.1)]
def ovr (S : St) (w q : Int → Int) (p c x : Int) : Prop := (0 ≤ S 21 p ∧ ((0 < c ∧ c = fP S w q p x - S 21 p) ∨ (c ≤ 0 ∧ fP S w q p x ≤ S 21 p))) ∨ (S 21 p < 0 ∧ c ≤ 0)
def rwX (S : St) (w q : Int → Int) (p x : Int) : Int → Prop := fun j => remL S w q j ∧ (q j < p ∨ (q j = p ∧ x ≤ j))
def gwI (B T : St) (p x : Int) : Prop := (∀ k, k ≠ 25 → T k = B k) ∧ brn B (B 25) (B 26) (rwX B (B 25) (B 27) p x) (T 25)
theorem fP_s {i : Int} (i0 : 0 ≤ i) : fP S w q p (i + 1) = fP S w q p i + (if i % 81 < stN S (i / 81) ∧ w i = 1 then if q i = p then 1 else 0 else 0) := sm_s i0
theorem s_gw49 {c : Int} {Q : St → Prop} (hm : wfM B) (ho : okA B (B 25) (B 26) (B 27)) (hs : sepA B (B 25) (B 26)) (p0 : 0 ≤ p) (p8 : p < B 0 14) (s0 : 0 ≤ s) (s6 : s < B 0 4) {K36 : Int → Int → Int → Int → St → Prop} (hK : ∀ c' T', gwI B T' p (81 * s) → ovr B (B 25) (B 27) p c' (81 * s) → (c' ≤ 487 ∧ -1000 ≤ c') → K36 0 p c' (s - 1) T')
    (hI : gwI B T p (81 * s + stN B s)) (hv : ovr B (B 25) (B 27) p c (81 * s + stN B s)) (hc : c ≤ 487 ∧ -1000 ≤ c) : ∃ n, vMo_giveWay_49 Q K36 n 0 p c s (stN B s - 1) T := by
  have h4 := hm.1.2.2.2.1
  have h14 := hm.1.2.2.2.2
  have hn := stN_0 hm.1 (hm.2.1 s s0 (by omega))
  have n80 := (hm.2.1 s s0 (by omega)).2.2.2.2.2.1
  refine lp3 (fun n c k T => vMo_giveWay_49 Q K36 n 0 p c s k T) (fun c k T => -1 ≤ k ∧ k < stN B s ∧ (c ≤ 487 ∧ -1000 ≤ c) ∧ gwI B T p (81 * s + (k + 1)) ∧ ovr B (B 25) (B 27) p c (81 * s + (k + 1))) (fun _ k _ => (k + 1).toNat) (fun n c k T hJ ih => ?_) c (stN B s - 1) T ⟨by omega, by omega, hc, by rw [show stN B s - 1 + 1 = stN B s by omega]; exact hI, by rw [show stN B s - 1 + 1 = stN B s by omega]; exact hv⟩
  obtain ⟨k0, k1, hc, ⟨hF, hB⟩, hv⟩ := hJ
  unfold vMo_giveWay_49 vMo_giveWay_110
  refine ⟨fun g => ⟨by constructor <;> omega, fun z ez => ?_⟩, fun g => ⟨by constructor <;> omega, fun i ei => ?_⟩⟩
  · have hk : k = -1 := by omega
    subst hk
    rw [ez, show s + (-1) = s - 1 by omega]
    rw [show 81 * s + (-1 + 1) = 81 * s by omega] at hB hv
    exact hK c T ⟨hF, hB⟩ hv hc
  · rw [show 81 * s + (k + 1) = i + 1 by omega] at hB hv
    have e26 : T 26 = B 26 := hF 26 (by omega)
    have e27 : T 27 = B 27 := hF 27 (by omega)
    have iR : inR B i := ⟨by omega, by omega, by rw [show i / 81 = s by omega]; omega⟩
    have hfs := fP_s (S := B) (w := B 25) (q := B 27) (p := p) (i := i) (by omega)
    have nx : ∀ (c' : Int) (T' : St) (z : Int), z = k + (-1) → (c' ≤ 487 ∧ -1000 ≤ c') → gwI B T' p i → ovr B (B 25) (B 27) p c' i → vMo_giveWay_49 Q K36 n 0 p c' s z T' := fun c' T' z ez hc' hg hv' => by
      subst ez
      refine ih _ _ _ ⟨by omega, by omega, hc', ?_, ?_⟩ (by omega)
      · rw [show 81 * s + (k + (-1) + 1) = i by omega]; exact hg
      · rw [show 81 * s + (k + (-1) + 1) = i by omega]; exact hv'
    have same : ¬ (isL B (B 25) i ∧ B 27 i = p ∧ remL B (B 25) (B 27) i) → gwI B T p i := fun hno => by
      refine ⟨hF, brn_R (fun j hj => ?_) hB⟩
      unfold rwX
      constructor
      · rintro ⟨a, b⟩
        refine ⟨a, ?_⟩
        rcases b with b | ⟨b1, b2⟩
        · exact Or.inl b
        · refine Or.inr ⟨b1, ?_⟩
          by_cases hji : j = i
          · rw [hji] at hj b1 a
            exact absurd ⟨hj, b1, a⟩ hno
          · omega
      · rintro ⟨a, b⟩
        exact ⟨a, by omega⟩
    have noL : ¬ (isL B (B 25) i ∧ B 27 i = p) → fP B (B 25) (B 27) p (i + 1) = fP B (B 25) (B 27) p i := fun hno => by
      rw [hfs]
      by_cases h1 : i % 81 < stN B (i / 81) ∧ B 25 i = 1
      · rw [if_pos h1, if_neg (fun h2 => hno ⟨⟨iR.1, iR.2.1, h1.1, h1.2⟩, h2⟩)]
        omega
      · rw [if_neg h1]
        omega
    have own : isL B (B 25) i → B 27 i = p → T 25 i = 1 := fun h1 h2 => by
      rw [(hB i iR).2 (fun hcv => ?_)]
      · exact h1.2.2.2
      · have := ((cov_self hs h1).mp hcv).1.2
        omega
    refine ⟨fun g1 => ⟨by constructor <;> omega, fun z ez => nx c T z ez hc (same ?_) ?_⟩, fun g1 => ⟨by omega, fun g2 => ⟨by omega, fun g3 => ⟨by omega, ?_⟩, fun g3 => ⟨by constructor <;> omega, fun z ez => nx c T z ez hc (same ?_) ?_⟩⟩, fun g2 => ⟨by constructor <;> omega, fun z ez => nx c T z ez hc (same ?_) ?_⟩⟩⟩
    · rintro ⟨a, b, d⟩
      unfold remL at d
      rw [b] at d
      unfold ovr at hv
      omega
    · unfold ovr at hv ⊢
      have : fP B (B 25) (B 27) p i ≤ fP B (B 25) (B 27) p (i + 1) := by
        rw [hfs]
        split
        · split <;> omega
        · omega
      omega
    · -- the log gives way
      have hnc : ¬ cov B (B 25) (B 26) (rwX B (B 25) (B 27) p (i + 1)) i := fun hcv => by
        have := (hB i iR).1 hcv
        omega
      have h25 : B 25 i = 1 := by rw [← (hB i iR).2 hnc]; exact g2
      have hL : isL B (B 25) i := ⟨iR.1, iR.2.1, iR.2.2, h25⟩
      rw [e27] at g3
      obtain ⟨o1, o2⟩ := ho i hL
      rw [show i / 81 = s by omega] at o1
      have hf1 : fP B (B 25) (B 27) p (i + 1) = fP B (B 25) (B 27) p i + 1 := by
        rw [hfs, if_pos ⟨iR.2.2, h25⟩, if_pos g3]
      have hrem : remL B (B 25) (B 27) i := by
        unfold remL
        rw [g3]
        unfold ovr at hv
        omega
      rw [e26]
      refine ⟨by constructor <;> omega, s_mark s0 (by omega) (by omega) (by omega) (by decide) (fun U uF uV => ⟨by constructor <;> omega, fun c' ec => ⟨by constructor <;> omega, fun z ez => nx c' U z ez (by omega) ⟨fun k hk => ?_, fun y hy => ?_⟩ ?_⟩⟩)⟩
      · rw [← hF k hk]
        funext j
        exact uF k j (by omega)
      · by_cases hin : i ≤ y ∧ y < i + B 26 i
        · refine ⟨fun _ => ?_, fun hno => absurd ⟨i, ⟨hrem, Or.inr ⟨g3, by omega⟩⟩, hL, hin.1, hin.2⟩ hno⟩
          have := uV (y - 81 * s) (by omega) (by omega)
          rw [show 81 * s + (y - 81 * s) = y by omega] at this
          exact this
        · have eU : U 25 y = T 25 y := uF 25 y (by omega)
          have ec : cov B (B 25) (B 26) (rwX B (B 25) (B 27) p i) y ↔ cov B (B 25) (B 26) (rwX B (B 25) (B 27) p (i + 1)) y := by
            constructor
            · rintro ⟨j, ⟨a, b⟩, c1, c2, c3⟩
              refine ⟨j, ⟨a, ?_⟩, c1, c2, c3⟩
              rcases b with b | ⟨b1, b2⟩
              · exact Or.inl b
              · refine Or.inr ⟨b1, ?_⟩
                by_cases hji : j = i
                · rw [hji] at c2 c3
                  exact absurd ⟨c2, c3⟩ hin
                · omega
            · rintro ⟨j, ⟨a, b⟩, c1, c2, c3⟩
              exact ⟨j, ⟨a, by omega⟩, c1, c2, c3⟩
          rw [ec, eU]
          exact hB y hy
      · unfold ovr at hv ⊢
        omega
    · rintro ⟨a, b, d⟩
      rw [e27] at g3
      exact g3 b
    · rw [e27] at g3
      unfold ovr at hv ⊢
      rw [noL (fun z => g3 z.2)] at hv
      exact hv
    · rintro ⟨a, b, d⟩
      exact g2 (own a b)
    · unfold ovr at hv ⊢
      rw [noL (fun z => g2 (own z.1 z.2))] at hv
      exact hv
theorem s_giveWay {Q : St → Prop} (hm : wfM B) (ho : okA B (B 25) (B 26) (B 27)) (hs : sepA B (B 25) (B 26)) (p0 : 0 ≤ p) (p8 : p < B 0 14) (hF : ∀ k, k ≠ 25 → T k = B k) (hB : brn B (B 25) (B 26) (fun j => remL B (B 25) (B 27) j ∧ B 27 j < p) (T 25)) (qq : ∀ T', (∀ k, k ≠ 25 → T' k = B k) → brn B (B 25) (B 26) (fun j => remL B (B 25) (B 27) j ∧ B 27 j < p + 1) (T' 25) → Q T') : vpMo_giveWay 0 p T Q := by
  have h4 := hm.1.2.2.2.1
  have h14 := hm.1.2.2.2.2
  have cT : cf B T := fun k j hk => by rw [hF k (by omega)]
  have wT := cT.w hm
  have e4 : T 0 4 = B 0 4 := cT.j (by omega)
  have e21 : T 21 = B 21 := hF 21 (by omega)
  have hlim := (hm.2.2 p p0 (by omega)).1
  have hcb := cn_b (S := B) (w := B 25) (q := B 27) (p := p) hm
  have efp : fP B (B 25) (B 27) p (81 * B 0 4) = cn B (B 25) (B 27) p := rfl
  have ecn : cn T (T 25) (T 27) p = cn B (B 25) (B 27) p := by
    rw [cn_cf cT, hF 27 (by omega)]
    exact lf_brn hs hB (fun j _ hj => by have := hj.2; omega) _ (by omega)
  have lo : ∀ c, (c ≤ 487 ∧ -1000 ≤ c) → ovr B (B 25) (B 27) p c (81 * B 0 4) → vMo_giveWay_28 Q 0 p c T := fun c hc hv => by
    unfold vMo_giveWay_28
    rw [e4]
    refine ⟨by constructor <;> omega, fun z ez => ?_⟩
    refine lp3 (fun n c x T => vMo_giveWay_36 Q n 0 p c x T) (fun c x T => -1 ≤ x ∧ x < B 0 4 ∧ (c ≤ 487 ∧ -1000 ≤ c) ∧ gwI B T p (81 * (x + 1)) ∧ ovr B (B 25) (B 27) p c (81 * (x + 1))) (fun _ x _ => (x + 1).toNat) (fun n c x T hJ ih => ?_) c z T ⟨by omega, by omega, hc, ⟨hF, ?_⟩, by rw [ez, show B 0 4 - 1 + 1 = B 0 4 by omega]; exact hv⟩
    · obtain ⟨x0, x1, hc, hg, hv⟩ := hJ
      have cT : cf B T := fun k j hk => by rw [hg.1 k (by omega)]
      unfold vMo_giveWay_36
      refine ⟨fun g => qq T hg.1 (brn_R (fun j hj => ?_) hg.2), fun g => ?_⟩
      · have hx : x = -1 := by omega
        subst hx
        have := hj.1
        unfold rwX
        constructor
        · rintro ⟨a, b⟩
          exact ⟨a, by omega⟩
        · rintro ⟨a, b⟩
          exact ⟨a, by omega⟩
      · have hn := stN_0 hm.1 (hm.2.1 x (by omega) (by omega))
        have n80 := (hm.2.1 x (by omega) (by omega)).2.2.2.2.2.1
        refine s_stepsOf (cT.w hm).1 ((cT.w hm).2.1 x (by omega) (by omega)) (by omega) (by omega) ?_
        rw [cT.n]
        refine ⟨by constructor <;> omega, fun y ey => ?_⟩
        rw [ey]
        refine s_gw49 hm ho hs p0 p8 (by omega) x1 (fun c' T' g1 g2 g3 => ih _ _ _ ⟨by omega, by omega, g3, by rw [show x - 1 + 1 = x by omega]; exact g1, by rw [show x - 1 + 1 = x by omega]; exact g2⟩ (by omega)) ⟨hg.1, brn_R (fun j hj => ?_) hg.2⟩ ?_ hc
        · have h3 := hj.2.2.1
          unfold rwX
          constructor
          · rintro ⟨a, b⟩
            refine ⟨a, ?_⟩
            rcases b with b | ⟨b1, b2⟩
            · exact Or.inl b
            · refine Or.inr ⟨b1, ?_⟩
              by_cases hj2 : j / 81 = x
              · rw [hj2] at h3
                omega
              · omega
          · rintro ⟨a, b⟩
            exact ⟨a, by omega⟩
        · have e : fP B (B 25) (B 27) p (81 * (x + 1)) = fP B (B 25) (B 27) p (81 * x + stN B x) := lf_gap (by omega) hn n80
          unfold ovr at hv ⊢
          rw [← e]
          exact hv
    · rw [ez]
      refine brn_R (fun j hj => ?_) hB
      have := hj.2.1
      unfold rwX
      constructor
      · rintro ⟨a, b⟩
        exact ⟨a, by omega⟩
      · rintro ⟨a, b⟩
        exact ⟨a, by omega⟩
  unfold vpMo_giveWay
  rw [e21]
  refine ⟨by omega, fun g => ?_, fun g => lo 0 (by omega) (Or.inr ⟨by omega, by omega⟩)⟩
  refine s_countOf wT ?_
  rw [ecn, e21]
  refine ⟨by omega, by constructor <;> omega, lo _ (by omega) (Or.inl ⟨g, ?_⟩)⟩
  rw [efp]
  omega
end GW
