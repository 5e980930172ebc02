/-! ALL STEMS, step k of stem s at place 81 s + k: sums over the logs of a plan -/
def lf (S : St) (w g : Int → Int) : Int → Int := fun i => if i % 81 < stN S (i / 81) ∧ w i = 1 then g i else 0
def cn (S : St) (w q : Int → Int) (p : Int) : Int := sm (lf S w (fun i => if q i = p then 1 else 0)) (81 * S 0 4).toNat
def wt (S : St) (w l q : Int → Int) : Int := sm (lf S w (fun i => wv S (i / 81) (l i) (q i))) (81 * S 0 4).toNat
def lc (S : St) (w : Int → Int) : Int := sm (lf S w (fun _ => 1)) (81 * S 0 4).toNat
def isL (S : St) (w : Int → Int) (i : Int) : Prop := 0 ≤ i ∧ i < 81 * S 0 4 ∧ i % 81 < stN S (i / 81) ∧ w i = 1
def okA (S : St) (w l q : Int → Int) : Prop := ∀ i, isL S w i → (1 ≤ l i ∧ i % 81 + l i ≤ stN S (i / 81)) ∧ (0 ≤ q i ∧ q i < S 0 14)
def plOK (S : St) (pr : Int → Int) (w l q : Int → Int) : Prop := ∀ s, 0 ≤ s → s < S 0 4 → ∃ κ, isK S pr κ s ∧ isPl S pr κ s (fun k => w (81 * s + k)) (fun k => l (81 * s + k)) (fun k => q (81 * s + k))
/-- two plans that say the same -/
def agr (S : St) (w l q w' l' q' : Int → Int) : Prop := ∀ i, 0 ≤ i → i < 81 * S 0 4 → i % 81 < stN S (i / 81) → w' i = w i ∧ (w i = 1 → l' i = l i ∧ q' i = q i)
section FL
variable {S T : St} {pr κ κ' : Int → Int} {s a : Int} {w l q w' l' q' g g' : Int → Int}
theorem lf_in {k : Int} (k0 : 0 ≤ k) (kn : k < stN S s) (k80 : k < 81) : lf S w g (81 * s + k) = if w (81 * s + k) = 1 then g (81 * s + k) else 0 := by
  unfold lf
  rw [show (81 * s + k) % 81 = k by omega, show (81 * s + k) / 81 = s by omega]
  by_cases h : w (81 * s + k) = 1
  · rw [if_pos ⟨kn, h⟩, if_pos h]
  · rw [if_neg (fun z => h z.2), if_neg h]
theorem lf_gap (s0 : 0 ≤ s) (n0 : 0 ≤ stN S s) (n80 : stN S s ≤ 80) : sm (lf S w g) (81 * (s + 1)).toNat = sm (lf S w g) (81 * s + stN S s).toNat := by
  refine sm_gap (by omega) (by omega) (fun i i0 i1 => ?_)
  unfold lf
  rw [if_neg]
  rintro ⟨h, _⟩
  rw [show i / 81 = s by omega] at h
  omega
theorem sm_app {f : Int → Int} {a : Int} (a0 : 0 ≤ a) : ∀ d : Nat, sm f (a + d).toNat = sm f a.toNat + sm (fun k => f (a + k)) d := by
  intro d
  induction d with
  | zero => rw [show a + ((0 : Nat) : Int) = a by omega]; show _ = _ + 0; omega
  | succ d ih =>
    rw [show a + ((d + 1 : Nat) : Int) = a + d + 1 by omega, sm_s (by omega), ih]
    show _ = sm f a.toNat + (sm (fun k => f (a + k)) d + f (a + d))
    omega
theorem lf_stem (s0 : 0 ≤ s) (n0 : 0 ≤ stN S s) (n80 : stN S s ≤ 80) : sm (lf S w g) (81 * (s + 1)).toNat = sm (lf S w g) (81 * s).toNat + sm (fun k => if w (81 * s + k) = 1 then g (81 * s + k) else 0) (stN S s).toNat := by
  rw [lf_gap s0 n0 n80]
  have := sm_app (f := lf S w g) (a := 81 * s) (by omega) (stN S s).toNat
  rw [show 81 * s + ((stN S s).toNat : Int) = 81 * s + stN S s by omega] at this
  rw [this]
  congr 1
  exact sm_eq _ (fun k k0 k1 => lf_in k0 (by omega) (by omega))
theorem lf_cf (c : cf S T) : lf T w g = lf S w g := by
  funext i
  unfold lf
  rw [c.n]
theorem lf_agr (h : agr S w l q w' l' q') (e : ∀ i, isL S w i → g' i = g i) : ∀ n : Nat, (n : Int) ≤ 81 * S 0 4 → sm (lf S w' g') n = sm (lf S w g) n := by
  intro n hn
  refine sm_eq _ (fun i i0 i1 => ?_)
  unfold lf
  by_cases hi : i % 81 < stN S (i / 81)
  · obtain ⟨e1, e2⟩ := h i i0 (by omega) hi
    by_cases hw : w i = 1
    · rw [if_pos ⟨hi, by omega⟩, if_pos ⟨hi, hw⟩]
      exact e i ⟨i0, by omega, hi, hw⟩
    · rw [if_neg (fun z => hw (by omega)), if_neg (fun z => hw z.2)]
  · rw [if_neg (fun z => hi z.1), if_neg (fun z => hi z.1)]
theorem agr_rf : agr S w l q w l q := fun _ _ _ _ => ⟨rfl, fun _ => ⟨rfl, rfl⟩⟩
theorem cn_agr (hS : 0 ≤ S 0 4) (h : agr S w l q w' l' q') {p : Int} : cn S w' q' p = cn S w q p := by
  unfold cn
  refine lf_agr (l := l) (q := q) h (fun i hi => ?_) _ (by omega)
  rw [((h i hi.1 hi.2.1 hi.2.2.1).2 hi.2.2.2).2]
theorem wt_agr (hS : 0 ≤ S 0 4) (h : agr S w l q w' l' q') : wt S w' l' q' = wt S w l q := by
  unfold wt
  refine lf_agr (l := l) (q := q) h (fun i hi => ?_) _ (by omega)
  obtain ⟨e1, e2⟩ := (h i hi.1 hi.2.1 hi.2.2.1).2 hi.2.2.2
  rw [e1, e2]
theorem lc_agr (hS : 0 ≤ S 0 4) (h : agr S w l q w' l' q') : lc S w' = lc S w := by
  unfold lc
  exact lf_agr (l := l) (q := q) h (fun i hi => rfl) _ (by omega)
theorem plTo_congr (hw : wfA S) (h : plTo S pr κ s w l q a) (e : ∀ k, 0 ≤ k → k < a → w' k = w k ∧ l' k = l k ∧ q' k = q k) : plTo S pr κ s w' l' q' a := by
  refine ⟨fun a0 => by rw [(e 0 (by omega) a0).1]; exact h.1 a0, fun k k0 k1 => ?_⟩
  obtain ⟨c1, c2, c3⟩ := h.2 k k0 k1
  obtain ⟨e1, e2, e3⟩ := e k k0 k1
  refine ⟨by rw [e1]; exact c1, fun hq => ⟨(c2 (by omega)).1, fun hk => ?_⟩, fun hq => ?_⟩
  · rw [(e (k + 1) (by omega) hk).1]
    exact (c2 (by omega)).2 hk
  · obtain ⟨d1, d2, d3, d4, d5⟩ := c3 (by omega)
    have dl := toE_b hw d1.1.2.1
    have dk := d1.1.1
    rw [e2, e3]
    refine ⟨d1, fun j j0 j1 => ?_, fun j j0 j1 => ?_, d4, fun hk => ?_⟩
    · rw [(e j (by omega) (by omega)).1]
      exact d2 j j0 j1
    · rw [(e j (by omega) (by omega)).1]
      exact d3 j j0 j1
    · rw [(e _ (by omega) hk).1]
      exact d5 hk
theorem isPl_keq (hw : wfA S) (h : isPl S pr κ s w l q) (e : ∀ y, 0 ≤ y → y ≤ stN S s → κ' y = κ y) : isPl S pr κ' s w l q := by
  refine ⟨h.1, fun k k0 k1 => ?_⟩
  obtain ⟨c1, c2, c3⟩ := h.2 k k0 k1
  refine ⟨c1, fun hq => ⟨noC_eq hw (by omega) (fun y y0 y1 => e y (by omega) y1) (c2 hq).1, (c2 hq).2⟩, fun hq => ?_⟩
  obtain ⟨d1, d2⟩ := c3 hq
  exact ⟨ch_eq hw (fun y y0 y1 => e y (by omega) y1) d1, d2⟩
theorem plOK_agr (hm : wfM S) (h : plOK S pr w l q) (h' : plOK S pr w' l' q') : agr S w l q w' l' q' := by
  intro i i0 i1 i2
  have hw4 := hm.1.2.2.2.1
  obtain ⟨κ, k1, k2⟩ := h (i / 81) (by omega) (by omega)
  obtain ⟨κ', k1', k2'⟩ := h' (i / 81) (by omega) (by omega)
  have ke : ∀ y, 0 ≤ y → y ≤ stN S (i / 81) → κ y = κ' y := fun y y0 y1 => isK_uniq hm.1 k1 k1' (stN S (i / 81) - y).toNat y y0 y1 (by omega)
  have k3 := isPl_keq hm.1 k2' ke
  have := pl_uniq hm.1 k2 k3 (i % 81).toNat (i % 81) (by omega) (by omega) i2
  rw [show 81 * (i / 81) + i % 81 = i by omega] at this
  exact this
theorem plOK_okA (hm : wfM S) (h : plOK S pr w l q) : okA S w l q := by
  intro i ⟨i0, i1, i2, i3⟩
  have hw4 := hm.1.2.2.2.1
  obtain ⟨κ, k1, k2⟩ := h (i / 81) (by omega) (by omega)
  have := (k2.2 (i % 81) (by omega) i2).2.2 (by show w (81 * (i / 81) + i % 81) = 1; rw [show 81 * (i / 81) + i % 81 = i by omega]; exact i3)
  have h1 := this.1.1
  simp only [show 81 * (i / 81) + i % 81 = i by omega] at h1
  obtain ⟨a1, a2, a3, a4, _⟩ := h1
  omega
theorem plOK_cf (c : cf S T) (h : plOK S pr w l q) : plOK T pr w l q := by
  intro s s0 s1
  rw [c.j (j := 4) (by omega)] at s1
  obtain ⟨κ, k1, k2⟩ := h s s0 s1
  exact ⟨κ, c.i k1, isPl_cf c k2⟩
theorem cn_cf (c : cf S T) {p : Int} : cn T w q p = cn S w q p := by
  unfold cn
  rw [lf_cf c, c.j (j := 4) (by omega)]
theorem lc_cf (c : cf S T) : lc T w = lc S w := by
  unfold lc
  rw [lf_cf c, c.j (j := 4) (by omega)]
theorem wt_cf (c : cf S T) : wt T w l q = wt S w l q := by
  unfold wt
  rw [lf_cf c, c.j (j := 4) (by omega), show (fun i => wv T (i / 81) (l i) (q i)) = fun i => wv S (i / 81) (l i) (q i) from funext fun i => c.v]
theorem okA_cf (c : cf S T) (h : okA S w l q) : okA T w l q := by
  intro i hi
  unfold isL at hi
  rw [c.n, c.j (j := 4) (by omega)] at hi
  rw [c.n, c.j (j := 14) (by omega)]
  exact h i hi
theorem lf_b (c : Int) (hc : 0 ≤ c) (n : Nat) (hn : (n : Int) ≤ 81 * S 0 4) (hg : ∀ i, isL S w i → 0 ≤ g i ∧ g i ≤ c) : 0 ≤ sm (lf S w g) n ∧ sm (lf S w g) n ≤ c * n := by
  refine sm_b c n (fun i i0 i1 => ?_)
  unfold lf
  by_cases h : i % 81 < stN S (i / 81) ∧ w i = 1
  · rw [if_pos h]
    exact hg i ⟨i0, by omega, h.1, h.2⟩
  · rw [if_neg h]
    omega
theorem cn_b (hm : wfM S) {p : Int} : 0 ≤ cn S w q p ∧ cn S w q p ≤ 486 := by
  have h4 := hm.1.2.2.2.1
  have := lf_b (S := S) (w := w) (g := fun i => if q i = p then 1 else 0) 1 (by omega) (81 * S 0 4).toNat (by omega) (fun i _ => by show 0 ≤ (if q i = p then (1 : Int) else 0) ∧ (if q i = p then (1 : Int) else 0) ≤ 1; split <;> omega)
  unfold cn
  omega
theorem cnp_b (hm : wfM S) {p : Int} {n : Nat} (hn : (n : Int) ≤ 81 * S 0 4) : 0 ≤ sm (lf S w (fun i => if q i = p then 1 else 0)) n ∧ sm (lf S w (fun i => if q i = p then 1 else 0)) n ≤ 486 := by
  have h4 := hm.1.2.2.2.1
  have := lf_b (S := S) (w := w) (g := fun i => if q i = p then 1 else 0) 1 (by omega) n hn (fun i _ => by show 0 ≤ (if q i = p then (1 : Int) else 0) ∧ (if q i = p then (1 : Int) else 0) ≤ 1; split <;> omega)
  omega
theorem wtp_b (hm : wfM S) (ho : okA S w l q) {n : Nat} (hn : (n : Int) ≤ 81 * S 0 4) : 0 ≤ sm (lf S w (fun i => wv S (i / 81) (l i) (q i))) n ∧ sm (lf S w (fun i => wv S (i / 81) (l i) (q i))) n ≤ 4860000000 := by
  have h4 := hm.1.2.2.2.1
  have h14 := hm.1.2.2.2.2
  have := lf_b (S := S) (w := w) (g := fun i => wv S (i / 81) (l i) (q i)) 10000000 (by omega) n hn (fun i hi => by
    obtain ⟨o1, o2⟩ := ho i hi
    have i0 := hi.1
    have i1 := hi.2.1
    have n80 := (hm.2.1 (i / 81) (by omega) (by omega)).2.2.2.2.2.1
    have := wv_b (S := S) (s := i / 81) (a := l i) (hm.2.2 (q i) o2.1 (by omega)) o2.2 (by omega) (by omega) (by omega) (by omega)
    show 0 ≤ wv S (i / 81) (l i) (q i) ∧ wv S (i / 81) (l i) (q i) ≤ 10000000
    omega)
  omega
theorem wt_b (hm : wfM S) (ho : okA S w l q) : 0 ≤ wt S w l q ∧ wt S w l q ≤ 4860000000 := by
  have h4 := hm.1.2.2.2.1
  exact wtp_b hm ho (by omega)
end FL
/-! the reference counts -/
section CO
variable {S T : St} {s p : Int} {Q : Int → St → Prop}
theorem s_countOf (hm : wfM S) (q : Q (cn S (S 25) (S 27) p) S) : vpMo_countOf 0 p S Q := by
  have h4 := hm.1.2.2.2.1
  have hb : ∀ x : Int, 0 ≤ x → x ≤ 81 * S 0 4 → 0 ≤ sm (lf S (S 25) (fun i => if S 27 i = p then 1 else 0)) x.toNat ∧ sm (lf S (S 25) (fun i => if S 27 i = p then 1 else 0)) x.toNat ≤ 486 := fun x x0 x1 => cnp_b hm (by omega)
  unfold vpMo_countOf
  refine lp2 (fun n c x => vMo_countOf_4 Q n 0 p c x S) (fun c x => 0 ≤ x ∧ x ≤ S 0 4 ∧ c = sm (lf S (S 25) (fun i => if S 27 i = p then 1 else 0)) (81 * x).toNat) (fun _ x => (6 - x).toNat) (fun n c x hI ih => ?_) 0 0 ⟨by omega, by omega, rfl⟩
  obtain ⟨x0, x1, hc⟩ := hI
  unfold vMo_countOf_4
  refine ⟨fun g => ?_, fun g => ?_⟩
  · rw [hc, show x = S 0 4 by omega]
    exact q
  · have hn := stN_0 hm.1 (hm.2.1 x x0 (by omega))
    have n80 := (hm.2.1 x x0 (by omega)).2.2.2.2.2.1
    refine lp2 (fun m c k => vMo_countOf_15 Q (vMo_countOf_4 Q n) m 0 p c x k S) (fun c k => 0 ≤ k ∧ k ≤ stN S x ∧ c = sm (lf S (S 25) (fun i => if S 27 i = p then 1 else 0)) (81 * x + k).toNat) (fun _ k => (80 - k).toNat) (fun m c k hJ jh => ?_) c 0 ⟨by omega, by omega, by rw [hc, show 81 * x + 0 = 81 * x by omega]⟩
    obtain ⟨k0, k1, hk⟩ := hJ
    unfold vMo_countOf_15 vMo_countOf_63 vMo_countOf_64
    refine s_stepsOf hm.1 (hm.2.1 x x0 (by omega)) x0 (by omega) ⟨fun g1 => ⟨by constructor <;> omega, fun z ez => ?_⟩, fun g1 => ?_⟩
    · subst ez
      refine ih _ _ ⟨by omega, by omega, ?_⟩ (by omega)
      rw [lf_gap x0 hn n80, hk, show k = stN S x by omega]
    · have hb1 := hb (81 * x + k) (by omega) (by omega)
      rw [← hk] at hb1
      have st := sm_s (f := lf S (S 25) (fun i => if S 27 i = p then 1 else 0)) (a := 81 * x + k) (by omega)
      rw [lf_in k0 (by omega) (by omega), ← hk] at st
      have nx : ∀ z c', z = k + 1 → c' = c + (if S 25 (81 * x + k) = 1 then if S 27 (81 * x + k) = p then 1 else 0 else 0) → vMo_countOf_15 Q (vMo_countOf_4 Q n) m 0 p c' x z S := fun z c' ez ec => by
        subst ez
        refine jh _ _ ⟨by omega, by omega, ?_⟩ (by omega)
        rw [ec, ← st, show 81 * x + (k + 1) = 81 * x + k + 1 by omega]
      refine ⟨by omega, fun g2 => ⟨by omega, fun g3 => ⟨by constructor <;> omega, by constructor <;> omega, fun z ez => nx z _ ez (by rw [if_pos g2, if_pos g3])⟩, fun g3 => ⟨by constructor <;> omega, fun z ez => nx z _ ez (by rw [if_pos g2, if_neg g3]; omega)⟩⟩, fun g2 => ⟨by constructor <;> omega, fun z ez => nx z _ ez (by rw [if_neg g2]; omega)⟩⟩
theorem s_trueWorth (hm : wfM S) (ho : okA S (S 25) (S 26) (S 27)) (q : Q (wt S (S 25) (S 26) (S 27)) S) : vpMo_trueWorth 0 S Q := by
  have h4 := hm.1.2.2.2.1
  have hb : ∀ x : Int, 0 ≤ x → x ≤ 81 * S 0 4 → 0 ≤ sm (lf S (S 25) (fun i => wv S (i / 81) (S 26 i) (S 27 i))) x.toNat ∧ sm (lf S (S 25) (fun i => wv S (i / 81) (S 26 i) (S 27 i))) x.toNat ≤ 4860000000 := fun x x0 x1 => wtp_b hm ho (by omega)
  unfold vpMo_trueWorth
  refine lp2 (fun n c x => vMo_trueWorth_4 Q n 0 c x S) (fun c x => 0 ≤ x ∧ x ≤ S 0 4 ∧ c = sm (lf S (S 25) (fun i => wv S (i / 81) (S 26 i) (S 27 i))) (81 * x).toNat) (fun _ x => (6 - x).toNat) (fun n c x hI ih => ?_) 0 0 ⟨by omega, by omega, rfl⟩
  obtain ⟨x0, x1, hc⟩ := hI
  unfold vMo_trueWorth_4
  refine ⟨fun g => ?_, fun g => ?_⟩
  · rw [hc, show x = S 0 4 by omega]
    exact q
  · have hn := stN_0 hm.1 (hm.2.1 x x0 (by omega))
    have n80 := (hm.2.1 x x0 (by omega)).2.2.2.2.2.1
    refine lp2 (fun m c k => vMo_trueWorth_15 Q (vMo_trueWorth_4 Q n) m 0 c x k S) (fun c k => 0 ≤ k ∧ k ≤ stN S x ∧ c = sm (lf S (S 25) (fun i => wv S (i / 81) (S 26 i) (S 27 i))) (81 * x + k).toNat) (fun _ k => (80 - k).toNat) (fun m c k hJ jh => ?_) c 0 ⟨by omega, by omega, by rw [hc, show 81 * x + 0 = 81 * x by omega]⟩
    obtain ⟨k0, k1, hk⟩ := hJ
    unfold vMo_trueWorth_15 vMo_trueWorth_70
    refine s_stepsOf hm.1 (hm.2.1 x x0 (by omega)) x0 (by omega) ⟨fun g1 => ⟨by constructor <;> omega, fun z ez => ?_⟩, fun g1 => ⟨by constructor <;> omega, fun i ei => ?_⟩⟩
    · subst ez
      refine ih _ _ ⟨by omega, by omega, ?_⟩ (by omega)
      rw [lf_gap x0 hn n80, hk, show k = stN S x by omega]
    · have st := sm_s (f := lf S (S 25) (fun i => wv S (i / 81) (S 26 i) (S 27 i))) (a := 81 * x + k) (by omega)
      rw [lf_in k0 (by omega) (by omega), ← hk, ← ei, show i / 81 = x by omega] at st
      have hb1 := hb (81 * x + k + 1) (by omega) (by omega)
      rw [← ei, st] at hb1
      have nx : ∀ z c', z = k + 1 → c' = c + (if S 25 i = 1 then wv S x (S 26 i) (S 27 i) else 0) → vMo_trueWorth_15 Q (vMo_trueWorth_4 Q n) m 0 c' x z S := fun z c' ez ec => by
        subst ez
        refine jh _ _ ⟨by omega, by omega, ?_⟩ (by omega)
        rw [ec, ← st, show 81 * x + (k + 1) = i + 1 by omega]
      refine ⟨by omega, fun g2 => ⟨by omega, by omega, ?_⟩, fun g2 => ⟨by constructor <;> omega, fun z ez => nx z _ ez (by rw [if_neg g2]; omega)⟩⟩
      rw [if_pos g2] at hb1
      have hi : isL S (S 25) i := ⟨by omega, by omega, by rw [show i / 81 = x by omega]; omega, g2⟩
      obtain ⟨o1, o2⟩ := ho i hi
      rw [show i / 81 = x by omega] at o1
      exact s_worthOf hm o2.1 o2.2 x0 (by omega) (by omega) (by omega) ⟨by constructor <;> omega, by constructor <;> omega, fun z ez => nx z _ ez (by rw [if_pos g2])⟩
end CO
