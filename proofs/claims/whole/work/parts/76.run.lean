/-! the reference plans, and runs -/
section RU
variable {S T : St} {pr pr' : Int → Int} {s p : Int} {w l q g : Int → Int}
theorem sm_0 : ∀ n : Nat, sm (fun _ => 0) n = 0 := by
  intro n
  induction n with
  | zero => rfl
  | succ n ih => show sm (fun _ => 0) n + 0 = 0; rw [ih]; rfl
theorem sm_d0 {x : Int} : ∀ n : Nat, (n : Int) ≤ x → sm (fun p => if x = p then 1 else 0) n = 0 := by
  intro n
  induction n with
  | zero => intro _; rfl
  | succ n ih =>
    intro h
    show sm _ n + (if x = (n : Int) then 1 else 0) = 0
    rw [ih (by omega), if_neg (by omega)]
    rfl
theorem sm_d1 {x : Int} (x0 : 0 ≤ x) : ∀ n : Nat, x < n → sm (fun p => if x = p then 1 else 0) n = 1 := by
  intro n
  induction n with
  | zero => intro h; omega
  | succ n ih =>
    intro h
    show sm _ n + (if x = (n : Int) then 1 else 0) = 1
    by_cases hx : x = n
    · rw [if_pos hx, sm_d0 n (by omega)]
      rfl
    · rw [if_neg hx, ih (by omega)]
      rfl
theorem cn_sum (P : Nat) (hq : ∀ i, isL S w i → 0 ≤ q i ∧ q i < P) : ∀ n : Nat, (n : Int) ≤ 81 * S 0 4 → sm (fun p => sm (lf S w (fun i => if q i = p then 1 else 0)) n) P = sm (lf S w (fun _ => 1)) n := by
  intro n
  induction n with
  | zero => intro _; exact sm_0 P
  | succ n ih =>
    intro h
    show sm (fun p => sm (lf S w (fun i => if q i = p then 1 else 0)) n + lf S w (fun i => if q i = p then 1 else 0) n) P = sm (lf S w (fun _ => 1)) n + lf S w (fun _ => 1) n
    rw [sm_add (f := fun p => sm (lf S w (fun i => if q i = p then 1 else 0)) n) (g := fun p => lf S w (fun i => if q i = p then 1 else 0) n), ih (by omega)]
    congr 1
    unfold lf
    by_cases hi : (n : Int) % 81 < stN S ((n : Int) / 81) ∧ w n = 1
    · rw [if_pos hi, sm_eq (g := fun p => if q n = p then 1 else 0) P (fun p _ _ => by rw [if_pos hi])]
      have := hq n ⟨by omega, by omega, hi.1, hi.2⟩
      exact sm_d1 this.1 P this.2
    · rw [if_neg hi, sm_eq (g := fun _ => 0) P (fun p _ _ => by rw [if_neg hi])]
      exact sm_0 P
theorem lc_b (hm : wfM S) : 0 ≤ lc S w ∧ lc S w ≤ 486 := by
  have h4 := hm.1.2.2.2.1
  have := lf_b (S := S) (w := w) (g := fun _ => 1) 1 (by omega) (81 * S 0 4).toNat (by omega) (fun i _ => by decide)
  unfold lc
  omega
theorem s_logCount {Q : Int → St → Prop} (hm : wfM S) (ho : okA S (S 25) (S 26) (S 27)) (qq : Q (lc S (S 25)) S) : vpMo_logCount 0 S Q := by
  have h4 := hm.1.2.2.2.1
  have h14 := hm.1.2.2.2.2
  unfold vpMo_logCount
  refine lp2 (fun n c x => vMo_logCount_4 Q n 0 c x S) (fun c x => 0 ≤ x ∧ x ≤ S 0 14 ∧ c = sm (fun p => cn S (S 25) (S 27) p) x.toNat) (fun _ x => (8 - x).toNat) (fun n c x hI ih => ?_) 0 0 ⟨by omega, by omega, rfl⟩
  obtain ⟨x0, x1, hc⟩ := hI
  unfold vMo_logCount_4
  refine ⟨fun g => ?_, fun g => ?_⟩
  · have e := cn_sum (S := S) (w := S 25) (q := S 27) (S 0 14).toNat (fun i hi => by have := (ho i hi).2; omega) (81 * S 0 4).toNat (by omega)
    have e2 : c = lc S (S 25) := by
      rw [hc, show x = S 0 14 by omega]
      exact e
    rw [e2]
    exact qq
  · have hb := sm_b (f := fun p => cn S (S 25) (S 27) p) 486 (x + 1).toNat (fun i _ _ => cn_b hm)
    have st := sm_s (f := fun p => cn S (S 25) (S 27) p) x0
    rw [← hc] at st
    refine s_countOf hm ⟨by constructor <;> omega, fun z ez => ⟨by constructor <;> omega, fun y ey => ?_⟩⟩
    subst ey
    refine ih _ _ ⟨by omega, by omega, ?_⟩ (by omega)
    rw [ez, st]
/-- prices that are the same for the products told -/
theorem vl_pr {κ : Int → Int} {a b : Int} (e : pr' p = pr p) : vl S pr' κ s a b p = vl S pr κ s a b p := by
  unfold vl
  rw [e]
theorem isK_pr {κ : Int → Int} (e : ∀ p, 0 ≤ p → p < S 0 14 → pr' p = pr p) (k : isK S pr κ s) : isK S pr' κ s := by
  refine ⟨k.1, fun x x0 x1 => ?_⟩
  obtain ⟨k1, k2, k3⟩ := k.2 x x0 x1
  refine ⟨k1, fun b p hl r => ?_, ?_⟩
  · rw [vl_pr (e p hl.2.2.1 hl.2.2.2.1)]
    exact k2 b p hl r
  · rcases k3 with k3 | ⟨b, p, y1, y2⟩
    · exact Or.inl k3
    · exact Or.inr ⟨b, p, y1, by rw [vl_pr (e p y1.2.2.1 y1.2.2.2.1)]; exact y2⟩
theorem isPl_pr {κ : Int → Int} (e : ∀ p, 0 ≤ p → p < S 0 14 → pr' p = pr p) (h : isPl S pr κ s w l q) : isPl S pr' κ s w l q := by
  refine ⟨h.1, fun k k0 k1 => ?_⟩
  obtain ⟨c1, c2, c3⟩ := h.2 k k0 k1
  refine ⟨c1, fun hq => ⟨fun b p hl => ?_, (c2 hq).2⟩, fun hq => ?_⟩
  · rw [vl_pr (e p hl.2.2.1 hl.2.2.2.1)]
    exact (c2 hq).1 b p hl
  · obtain ⟨⟨d0, d1, d1'⟩, d2⟩ := c3 hq
    refine ⟨⟨d0, by rw [vl_pr (e _ d0.2.2.1 d0.2.2.2.1)]; exact d1, fun b' p' hl he => d1' b' p' hl ?_⟩, d2⟩
    rw [vl_pr (e _ hl.2.2.1 hl.2.2.2.1)] at he
    exact he
theorem plOK_pr (e : ∀ p, 0 ≤ p → p < S 0 14 → pr' p = pr p) (h : plOK S pr w l q) : plOK S pr' w l q := fun s s0 s1 => by
  obtain ⟨κ, k1, k2⟩ := h s s0 s1
  exact ⟨κ, isK_pr e k1, isPl_pr e k2⟩
def pfr (S T : St) : Prop := ∀ k, k ≠ 25 → k ≠ 26 → k ≠ 27 → k ≠ 31 → k ≠ 32 → T k = S k
theorem pfr.cf (h : pfr S T) : cf S T := fun k j hk => by rw [h k (by omega) (by omega) (by omega) (by omega) (by omega)]
theorem s_plan {Q : Int → St → Prop} (hm : wfM S) (hpr : prB S) (qq : ∀ T, pfr S T → plOK S (S 23) (T 25) (T 26) (T 27) → Q (sm (lf S (T 25) (fun i => wv S (i / 81) (T 26 i) (T 27 i) - S 23 (T 27 i))) (81 * S 0 4).toNat) T) : vpMo_plan 0 S Q := by
  have h4 := hm.1.2.2.2.1
  have h14 := hm.1.2.2.2.2
  unfold vpMo_plan
  refine lp3 (fun n c x T => vMo_plan_4 Q n 0 c x T) (fun c x T => 0 ≤ x ∧ x ≤ S 0 4 ∧ pfr S T ∧ (0 ≤ c ∧ c ≤ 20000000 * x) ∧ (∀ s, 0 ≤ s → s < x → ∃ κ, isK S (S 23) κ s ∧ isPl S (S 23) κ s (rw25 T s) (rw26 T s) (rw27 T s)) ∧ c = sm (lf S (T 25) (fun i => wv S (i / 81) (T 26 i) (T 27 i) - S 23 (T 27 i))) (81 * x).toNat) (fun _ x _ => (6 - x).toNat) (fun n c x T hI ih => ?_) 0 0 S ⟨by omega, by omega, fun _ _ _ _ _ _ => rfl, by omega, fun s s0 s1 => by omega, rfl⟩
  obtain ⟨x0, x1, hF, hcb, hP, hc⟩ := hI
  have e4 : T 0 4 = S 0 4 := by rw [hF 0 (by omega) (by omega) (by omega) (by omega) (by omega)]
  unfold vMo_plan_4
  refine ⟨fun g => ?_, fun g => ?_⟩
  · have hx : x = S 0 4 := by omega
    subst hx
    rw [hc]
    exact qq T hF hP
  · have c0 := hF.cf
    have wT := c0.w hm
    have e23 : T 23 = S 23 := hF 23 (by omega) (by omega) (by omega) (by omega) (by omega)
    have prT : prB T := fun p p0 p1 => by
      rw [e23]
      exact hpr p p0 (by rw [← c0.j (j := 14) (by omega)]; exact p1)
    have hn := stN_0 hm.1 (hm.2.1 x x0 (by omega))
    have n80 := (hm.2.1 x x0 (by omega)).2.2.2.2.2.1
    refine s_reckon wT x0 (by omega) prT (fun T1 f1 b1 k1 => ?_)
    have c1 := f1.cf
    have w1 := c1.w wT
    have b1' : ∀ y, 0 ≤ y → y ≤ stN T1 x → blK T1 T1 x y := fun y y0 y1 => by
      rw [c1.n] at y1
      have := b1 y y0 y1
      unfold blK at this ⊢
      rw [c1.n]
      exact this
    have e23' : T1 23 = T 23 := f1 23 (by omega) (by omega)
    have pr1 : prB T1 := fun p p0 p1 => by
      rw [e23']
      exact prT p p0 (by rw [← c1.j (j := 14) (by omega)]; exact p1)
    have bl0 := b1 0 (by omega) (by rw [c0.n]; exact hn)
    unfold blK at bl0
    rw [c0.n] at bl0
    refine ⟨by omega, by constructor <;> omega, fun z ez => ?_⟩
    refine s_walk w1 x0 (by omega) b1' pr1 (by rw [e23']; exact c1.i k1) (fun T2 f2 p2 s2 => ⟨by constructor <;> omega, fun y ey => ?_⟩)
    subst ey
    have c2 := f2.cf
    have cS : cf S T1 := c0.tr c1
    have pfr2 : pfr S T2 := fun k k1 k2 k3 k4 k5 => by rw [f2.k ⟨k1, k2, k3⟩, f1 k k4 k5, hF k k1 k2 k3 k4 k5]
    have sameA : ∀ k j, ¬ (81 * x ≤ j ∧ j < 81 * x + stN S x) → (k = 25 ∨ k = 26 ∨ k = 27) → T2 k j = T k j := fun k j hj hk => by
      rw [f2 k j (by rw [cS.n]; omega), f1 k (by omega) (by omega)]
    refine ih _ _ _ ⟨by omega, by omega, pfr2, by omega, fun s s0 s1 => ?_, ?_⟩ (by omega)
    · by_cases hs : s = x
      · subst hs
        refine ⟨kap T1, ?_, ?_⟩
        · have := c0.sy.i k1
          rw [e23] at this
          exact this
        · have := isPl_cf cS.sy p2
          rw [e23', e23] at this
          exact this
      · obtain ⟨κ, y1, y2⟩ := hP s s0 (by omega)
        have ns := (hm.2.1 s s0 (by omega)).2.2.2.2.2.1
        refine ⟨κ, y1, plTo_congr hm.1 y2 (fun k k0 k1 => ⟨?_, ?_, ?_⟩)⟩
        · exact sameA 25 _ (by omega) (by omega)
        · exact sameA 26 _ (by omega) (by omega)
        · exact sameA 27 _ (by omega) (by omega)
    · rw [lf_stem x0 hn n80, ez, hc]
      have u1 : sm (lf S (T2 25) (fun i => wv S (i / 81) (T2 26 i) (T2 27 i) - S 23 (T2 27 i))) (81 * x).toNat = sm (lf S (T 25) (fun i => wv S (i / 81) (T 26 i) (T 27 i) - S 23 (T 27 i))) (81 * x).toNat := sm_eq _ (fun i i0 i1 => by
        show (if i % 81 < stN S (i / 81) ∧ T2 25 i = 1 then wv S (i / 81) (T2 26 i) (T2 27 i) - S 23 (T2 27 i) else 0) = (if i % 81 < stN S (i / 81) ∧ T 25 i = 1 then wv S (i / 81) (T 26 i) (T 27 i) - S 23 (T 27 i) else 0)
        rw [sameA 25 i (by omega) (by omega), sameA 26 i (by omega) (by omega), sameA 27 i (by omega) (by omega)])
      rw [u1]
      congr 1
      rw [s2, cS.n]
      refine sm_eq _ (fun k k0 k1 => ?_)
      unfold gf
      rw [cS.v, e23', e23, show (81 * x + k) / 81 = x by omega]
def rfr (S T : St) : Prop := (∀ k, k ≠ 0 → k ≠ 23 → k ≠ 24 → k ≠ 25 → k ≠ 26 → k ≠ 27 → k ≠ 28 → k ≠ 29 → k ≠ 30 → k ≠ 31 → k ≠ 32 → T k = S k) ∧ ∀ j, j ≠ 0 → j ≠ 33 → j ≠ 34 → j ≠ 35 → T 0 j = S 0 j
theorem rfr.cf (h : rfr S T) : cf S T := fun k j hk => by
  rcases hk with ⟨rfl, hk⟩ | hk
  · exact h.2 j (by omega) (by omega) (by omega) (by omega)
  · rw [h.1 k (by omega) (by omega) (by omega) (by omega) (by omega) (by omega) (by omega) (by omega) (by omega) (by omega) (by omega)]
theorem s_run {Q : Int → St → Prop} (hm : wfM S) (qq : ∀ T, rfr S T → T 0 0 = 0 → T 0 33 = 1 → T 0 34 = 0 → (∀ p, 0 ≤ p → p < 8 → T 24 p = 0) → plOK S (fun _ => 0) (T 25) (T 26) (T 27) → T 0 35 = wt S (T 25) (T 26) (T 27) → Q (lc S (T 25)) T) : vpMo_run 0 S Q := by
  have h4 := hm.1.2.2.2.1
  have h14 := hm.1.2.2.2.2
  unfold vpMo_run
  intro S1 e1
  refine lp2 (fun n x T => vMo_run_7 Q n 0 x T) (fun x T => 0 ≤ x ∧ x ≤ 8 ∧ rfr S T ∧ T 0 0 = 0 ∧ (∀ p, 0 ≤ p → p < x → T 23 p = 0 ∧ T 24 p = 0)) (fun x _ => (8 - x).toNat) (fun n x T hI ih => ?_) 0 S1 ⟨by omega, by omega, ?_, by rw [e1]; exact up_s, fun p p0 p1 => by omega⟩
  · obtain ⟨x0, x1, hF, hz, hp⟩ := hI
    have c := hF.cf
    have wT := c.w hm
    unfold vMo_run_7
    refine ⟨fun g => ?_, fun g => ⟨by omega, fun S2 e2 => ⟨by omega, fun S3 e3 => ⟨by constructor <;> omega, fun z ez => ?_⟩⟩⟩⟩
    · have hx : x = 8 := by omega
      subst hx
      have e14 : T 0 14 = S 0 14 := c.j (by omega)
      have e4 : T 0 4 = S 0 4 := c.j (by omega)
      refine s_plan wT (fun p p0 p1 => by rw [(hp p p0 (by omega)).1]; omega) (fun U uF uP S7 e7 S11 e11 S15 e15 => ?_)
      have eo : ∀ j, j ≠ 33 → j ≠ 34 → j ≠ 35 → S15 0 j = U 0 j := fun j j1 j2 j3 => by
        subst e15 e11 e7
        unfold up
        rw [if_neg (by omega), if_neg (by omega), if_neg (by omega)]
      have ek : ∀ k, k ≠ 0 → S15 k = U k := fun k k0 => by
        subst e15 e11 e7
        funext j
        unfold up
        rw [if_neg (by omega), if_neg (by omega), if_neg (by omega)]
      have v33 : S15 0 33 = 1 := by subst e15; exact up_s
      have v34 : S15 0 34 = 0 := by subst e15 e11; unfold up; rw [if_neg (by omega), if_pos ⟨rfl, rfl⟩]
      have v35 : S15 0 35 = sm (lf T (U 25) (fun i => wv T (i / 81) (U 26 i) (U 27 i) - T 23 (U 27 i))) (81 * T 0 4).toNat := by
        subst e15 e11 e7
        unfold up
        rw [if_neg (by omega), if_neg (by omega), if_pos ⟨rfl, rfl⟩]
      have eU : ∀ j, U 0 j = T 0 j := fun j => by rw [uF 0 (by omega) (by omega) (by omega) (by omega) (by omega)]
      have rf : rfr S S15 := ⟨fun k k0 k1 k2 k3 k4 k5 k6 k7 k8 k9 k10 => by rw [ek k k0, uF k k3 k4 k5 k9 k10, hF.1 k k0 k1 k2 k3 k4 k5 k6 k7 k8 k9 k10], fun j j0 j1 j2 j3 => by rw [eo j j1 j2 j3, eU, hF.2 j j0 j1 j2 j3]⟩
      have cc := rf.cf
      have uP2 : plOK S (fun _ => 0) (U 25) (U 26) (U 27) := plOK_pr (fun p p0 p1 => by rw [(hp p p0 (by omega)).1]) (plOK_cf c.sy uP)
      have ok := plOK_okA hm uP2
      have ew : sm (lf T (U 25) (fun i => wv T (i / 81) (U 26 i) (U 27 i) - T 23 (U 27 i))) (81 * T 0 4).toNat = wt S (U 25) (U 26) (U 27) := by
        rw [lf_cf c, e4]
        unfold wt
        refine lf_agr (l := U 26) (q := U 27) agr_rf (fun i hi => ?_) _ (by omega)
        have := (ok i hi).2
        rw [c.v, (hp _ this.1 (by omega)).1]
        omega
      have w15 := cc.w hm
      have okT : okA S15 (S15 25) (S15 26) (S15 27) := by
        rw [ek 25 (by omega), ek 26 (by omega), ek 27 (by omega)]
        exact okA_cf cc ok
      refine s_logCount w15 okT ?_
      rw [lc_cf cc]
      refine qq S15 rf (by rw [eo 0 (by omega) (by omega) (by omega), eU, hz]) v33 v34 (fun p p0 p1 => ?_) ?_ ?_
      · rw [ek 24 (by omega), uF 24 (by omega) (by omega) (by omega) (by omega) (by omega)]
        exact (hp p p0 p1).2
      · rw [ek 25 (by omega), ek 26 (by omega), ek 27 (by omega)]
        exact uP2
      · rw [ek 25 (by omega), ek 26 (by omega), ek 27 (by omega), v35, ew]
    · subst ez
      refine ih _ _ ⟨by omega, by omega, ⟨fun k k0 k1 k2 k3 k4 k5 k6 k7 k8 k9 k10 => ?_, fun j j0 j1 j2 j3 => ?_⟩, ?_, fun p p0 p1 => ?_⟩ (by omega)
      · rw [← hF.1 k k0 k1 k2 k3 k4 k5 k6 k7 k8 k9 k10]
        subst e3 e2
        funext j
        unfold up
        rw [if_neg (by omega), if_neg (by omega)]
      · rw [← hF.2 j j0 j1 j2 j3]
        subst e3 e2
        unfold up
        rw [if_neg (by omega), if_neg (by omega)]
      · subst e3 e2
        unfold up
        rw [if_neg (by omega), if_neg (by omega)]
        exact hz
      · subst e3 e2
        unfold up
        by_cases hpx : p = x
        · subst hpx
          rw [if_neg (by omega), if_pos ⟨rfl, rfl⟩, if_pos ⟨rfl, rfl⟩]
          exact ⟨rfl, rfl⟩
        · rw [if_neg (by omega), if_neg (by omega), if_neg (by omega), if_neg (by omega)]
          exact hp p p0 (by omega)
  · subst e1
    refine ⟨fun k k0 _ _ _ _ _ _ _ _ _ _ => ?_, fun j j0 _ _ _ => ?_⟩
    · funext j
      unfold up
      rw [if_neg (by omega)]
    · unfold up
      rw [if_neg (by omega)]
end RU
