/-! ROUNDS: limits hold, prices are settled, the next prices -/
def hld (S : St) (w q : Int → Int) : Prop := ∀ p, 0 ≤ p → p < S 0 14 → S 21 p < 0 ∨ cn S w q p ≤ S 21 p
def stl (S : St) (pr w q : Int → Int) : Prop := hld S w q ∧ ∀ p, 0 ≤ p → p < S 0 14 → pr p = 0 ∨ cn S w q p = S 21 p
def nxp (S : St) (pr c : Int → Int) (r : Int) : Int → Int := fun p => if S 21 p < 0 then 0 else max 0 (pr p + (c p - S 21 p) * max 1 (1024 / r))
def pvl (S : St) (pr w l q : Int → Int) : Int := wt S w l q + sm (fun p => if S 21 p < 0 then 0 else pr p * (S 21 p - cn S w q p)) (S 0 14).toNat
section RD
variable {S T : St} {pr : Int → Int} {s p r : Int} {w l q g g' : Int → Int}
theorem mul_bd {x y X Y : Int} (x0 : 0 ≤ x) (x1 : x ≤ X) (y0 : 0 ≤ y) (y1 : y ≤ Y) : 0 ≤ x * y ∧ x * y ≤ X * Y := ⟨Int.mul_nonneg x0 y0, Int.le_trans (Int.mul_le_mul_of_nonneg_right x1 y0) (Int.mul_le_mul_of_nonneg_left y1 (by omega))⟩
theorem mul_bs {x y : Int} (x0 : -1000 ≤ x) (x1 : x ≤ 487) (y0 : 0 ≤ y) (y1 : y ≤ 1024) : -1024000 ≤ x * y ∧ x * y ≤ 498688 := by
  rcases Int.le_total 0 x with h | h
  · have := mul_bd h x1 y0 y1
    omega
  · have := mul_bd (x := -x) (X := 1000) (by omega) (by omega) y0 y1
    rw [Int.neg_mul] at this
    omega
theorem pull_b (r0 : 0 < r) : 0 ≤ 1024 / r ∧ 1024 / r ≤ 1024 := ⟨Int.ediv_nonneg (by decide) (by omega), Int.ediv_le_self _ (by decide)⟩
theorem sm_sub {f g : Int → Int} : ∀ n : Nat, sm (fun i => f i - g i) n = sm f n - sm g n := by
  intro n
  induction n with
  | zero => rfl
  | succ n ih => show sm (fun i => f i - g i) n + (f n - g n) = sm f n + f n - (sm g n + g n); rw [ih]; omega
theorem lf_sub : lf S w (fun i => g i - g' i) = fun i => lf S w g i - lf S w g' i := by
  funext i
  unfold lf
  split
  · rfl
  · rfl
theorem sm_dx0 {x : Int} {f : Int → Int} : ∀ n : Nat, (n : Int) ≤ x → sm (fun p => f p * (if x = p then 1 else 0)) n = 0 := by
  intro n
  induction n with
  | zero => intro _; rfl
  | succ n ih =>
    intro h
    show sm _ n + f n * (if x = (n : Int) then 1 else 0) = 0
    rw [ih (by omega), if_neg (by omega)]
    omega
theorem sm_dx {x : Int} {f : Int → Int} (x0 : 0 ≤ x) : ∀ n : Nat, x < n → sm (fun p => f p * (if x = p then 1 else 0)) n = f x := by
  intro n
  induction n with
  | zero => intro h; omega
  | succ n ih =>
    intro h
    show sm _ n + f n * (if x = (n : Int) then 1 else 0) = f x
    by_cases hx : x = n
    · rw [if_pos hx, sm_dx0 n (by omega), ← hx]
      omega
    · rw [if_neg hx, ih (by omega)]
      omega
theorem pr_sum (P : Nat) (hq : ∀ i, isL S w i → 0 ≤ q i ∧ q i < P) : ∀ n : Nat, (n : Int) ≤ 81 * S 0 4 → sm (fun p => pr p * sm (lf S w (fun i => if q i = p then 1 else 0)) n) P = sm (lf S w (fun i => pr (q i))) n := by
  intro n
  induction n with
  | zero =>
    intro _
    rw [sm_eq (g := fun _ => 0) P (fun p _ _ => by show pr p * 0 = 0; omega)]
    exact sm_0 P
  | succ n ih =>
    intro h
    have e : sm (fun p => pr p * sm (lf S w (fun i => if q i = p then 1 else 0)) (n + 1)) P = sm (fun p => pr p * sm (lf S w (fun i => if q i = p then 1 else 0)) n + pr p * lf S w (fun i => if q i = p then 1 else 0) n) P := sm_eq P (fun p _ _ => by
      show pr p * (sm (lf S w (fun i => if q i = p then 1 else 0)) n + lf S w (fun i => if q i = p then 1 else 0) n) = _
      rw [Int.mul_add])
    rw [e, sm_add (f := fun p => pr p * sm (lf S w (fun i => if q i = p then 1 else 0)) n) (g := fun p => pr p * lf S w (fun i => if q i = p then 1 else 0) n), ih (by omega)]
    show _ = sm (lf S w (fun i => pr (q i))) n + lf S w (fun i => pr (q i)) n
    congr 1
    unfold lf
    by_cases hi : (n : Int) % 81 < stN S ((n : Int) / 81) ∧ w n = 1
    · rw [if_pos hi, sm_eq (g := fun p => pr p * (if q n = p then 1 else 0)) P (fun p _ _ => by rw [if_pos hi])]
      have := hq n ⟨by omega, by omega, hi.1, hi.2⟩
      exact sm_dx this.1 P this.2
    · rw [if_neg hi, sm_eq (g := fun _ => 0) P (fun p _ _ => by rw [if_neg hi]; omega)]
      exact sm_0 P
/-- the reference's value of a round is the class's -/
theorem val_eq (hm : wfM S) (ho : okA S w l q) (h0 : ∀ p, 0 ≤ p → p < S 0 14 → S 21 p < 0 → pr p = 0) : sm (lf S w (fun i => wv S (i / 81) (l i) (q i) - pr (q i))) (81 * S 0 4).toNat + sm (fun p => if S 21 p < 0 then 0 else pr p * S 21 p) (S 0 14).toNat = pvl S pr w l q := by
  have h4 := hm.1.2.2.2.1
  have h14 := hm.1.2.2.2.2
  have e1 := pr_sum (S := S) (w := w) (q := q) (pr := pr) (S 0 14).toNat (fun i hi => by have := (ho i hi).2; omega) (81 * S 0 4).toNat (by omega)
  rw [lf_sub, sm_sub, ← e1]
  unfold pvl wt
  have e2 : sm (fun p => if S 21 p < 0 then 0 else pr p * (S 21 p - cn S w q p)) (S 0 14).toNat = sm (fun p => if S 21 p < 0 then 0 else pr p * S 21 p) (S 0 14).toNat - sm (fun p => pr p * sm (lf S w (fun i => if q i = p then 1 else 0)) (81 * S 0 4).toNat) (S 0 14).toNat := by
    rw [← sm_sub (f := fun p => if S 21 p < 0 then 0 else pr p * S 21 p) (g := fun p => pr p * sm (lf S w (fun i => if q i = p then 1 else 0)) (81 * S 0 4).toNat)]
    refine sm_eq _ (fun p p0 p1 => ?_)
    show _ = (if S 21 p < 0 then 0 else pr p * S 21 p) - pr p * cn S w q p
    by_cases h : S 21 p < 0
    · rw [if_pos h, if_pos h, h0 p p0 (by omega) h]
      omega
    · rw [if_neg h, if_neg h, Int.mul_sub]
  rw [e2]
  omega
theorem s_allHold {Q : Int → St → Prop} (hm : wfM S) (q1 : hld S (S 25) (S 27) → Q 1 S) (q0 : ¬ hld S (S 25) (S 27) → Q 0 S) : vpMo_allHold 0 S Q := by
  have h14 := hm.1.2.2.2.2
  unfold vpMo_allHold
  refine lp2 (fun n c x => vMo_allHold_4 Q n 0 c x S) (fun c x => 0 ≤ x ∧ x ≤ S 0 14 ∧ ((c = 1 ∧ ∀ p, 0 ≤ p → p < x → S 21 p < 0 ∨ cn S (S 25) (S 27) p ≤ S 21 p) ∨ (c = 0 ∧ ¬ hld S (S 25) (S 27)))) (fun _ x => (8 - x).toNat) (fun n c x hI ih => ?_) 1 0 ⟨by omega, by omega, Or.inl ⟨rfl, fun p p0 p1 => by omega⟩⟩
  obtain ⟨x0, x1, hc⟩ := hI
  unfold vMo_allHold_4 vMo_allHold_47 vMo_allHold_43 vMo_allHold_48
  refine ⟨fun g => ?_, fun g => ?_⟩
  · rcases hc with ⟨rfl, hc⟩ | ⟨rfl, hc⟩
    · exact ⟨Or.inr rfl, q1 (fun p p0 p1 => hc p p0 (by omega))⟩
    · exact ⟨Or.inl rfl, q0 hc⟩
  · have bad : ¬ hld S (S 25) (S 27) → ∀ z, z = x + 1 → vMo_allHold_4 Q n 0 0 z S := fun hb z ez => by
      subst ez
      exact ih _ _ ⟨by omega, by omega, Or.inr ⟨rfl, hb⟩⟩ (by omega)
    rcases hc with ⟨rfl, hc⟩ | ⟨rfl, hc⟩
    · refine ⟨fun z => absurd z (by decide), fun _ => ?_⟩
      have good : (S 21 x < 0 ∨ cn S (S 25) (S 27) x ≤ S 21 x) → ∀ z, z = x + 1 → vMo_allHold_4 Q n 0 1 z S := fun hb z ez => by
        subst ez
        refine ih _ _ ⟨by omega, by omega, Or.inl ⟨rfl, fun p p0 p1 => ?_⟩⟩ (by omega)
        by_cases hp : p = x
        · rw [hp]; exact hb
        · exact hc p p0 (by omega)
      refine ⟨by omega, fun g1 => ⟨by constructor <;> omega, good (Or.inl g1)⟩, fun g1 => s_countOf hm ⟨by omega, fun g2 => ⟨by constructor <;> omega, bad (fun hh => ?_)⟩, fun g2 => ⟨by constructor <;> omega, good (Or.inr (by omega))⟩⟩⟩
      have := hh x x0 (by omega)
      omega
    · exact ⟨fun _ => ⟨by constructor <;> omega, bad hc⟩, fun z => absurd rfl z⟩
theorem s_isSettled {Q : Int → St → Prop} (hm : wfM S) (q1 : stl S (S 23) (S 25) (S 27) → Q 1 S) (q0 : ¬ stl S (S 23) (S 25) (S 27) → Q 0 S) : vpMo_isSettled 0 S Q := by
  have h14 := hm.1.2.2.2.2
  unfold vpMo_isSettled
  have lo : ∀ c, ((c = 1 ∧ hld S (S 25) (S 27)) ∨ (c = 0 ∧ ¬ stl S (S 23) (S 25) (S 27))) → ∃ n, vMo_isSettled_7 Q n 0 c 0 S := fun c0 hc0 => by
    refine lp2 (fun n c x => vMo_isSettled_7 Q n 0 c x S) (fun c x => 0 ≤ x ∧ x ≤ S 0 14 ∧ ((c = 1 ∧ hld S (S 25) (S 27) ∧ ∀ p, 0 ≤ p → p < x → S 23 p = 0 ∨ cn S (S 25) (S 27) p = S 21 p) ∨ (c = 0 ∧ ¬ stl S (S 23) (S 25) (S 27)))) (fun _ x => (8 - x).toNat) (fun n c x hI ih => ?_) c0 0 ⟨by omega, by omega, ?_⟩
    · obtain ⟨x0, x1, hc⟩ := hI
      unfold vMo_isSettled_7 vMo_isSettled_46 vMo_isSettled_50 vMo_isSettled_51
      refine ⟨fun g => ?_, fun g => ?_⟩
      · rcases hc with ⟨rfl, hc, hd⟩ | ⟨rfl, hc⟩
        · exact ⟨Or.inr rfl, q1 ⟨hc, fun p p0 p1 => hd p p0 (by omega)⟩⟩
        · exact ⟨Or.inl rfl, q0 hc⟩
      · have bad : ¬ stl S (S 23) (S 25) (S 27) → ∀ z, z = x + 1 → vMo_isSettled_7 Q n 0 0 z S := fun hb z ez => by
          subst ez
          exact ih _ _ ⟨by omega, by omega, Or.inr ⟨rfl, hb⟩⟩ (by omega)
        rcases hc with ⟨rfl, hc, hd⟩ | ⟨rfl, hc⟩
        · refine ⟨fun z => absurd z (by decide), fun _ => ?_⟩
          have good : (S 23 x = 0 ∨ cn S (S 25) (S 27) x = S 21 x) → ∀ z, z = x + 1 → vMo_isSettled_7 Q n 0 1 z S := fun hb z ez => by
            subst ez
            refine ih _ _ ⟨by omega, by omega, Or.inl ⟨rfl, hc, fun p p0 p1 => ?_⟩⟩ (by omega)
            by_cases hp : p = x
            · rw [hp]; exact hb
            · exact hd p p0 (by omega)
          refine ⟨by omega, fun g1 => ⟨by constructor <;> omega, good (Or.inl g1)⟩, fun g1 => s_countOf hm ⟨by omega, fun g2 => ⟨by constructor <;> omega, good (Or.inr g2)⟩, fun g2 => ⟨by constructor <;> omega, bad (fun hh => ?_)⟩⟩⟩
          have := hh.2 x x0 (by omega)
          omega
        · exact ⟨fun _ => ⟨by constructor <;> omega, bad hc⟩, fun z => absurd rfl z⟩
    · rcases hc0 with ⟨h1, h2⟩ | h1
      · exact Or.inl ⟨h1, h2, fun p p0 p1 => by omega⟩
      · exact Or.inr h1
  exact s_allHold hm (fun hh => lo 1 (Or.inl ⟨rfl, hh⟩)) (fun hh => lo 0 (Or.inr ⟨rfl, fun z => hh z.1⟩))
theorem s_setPrices {Q : St → Prop} (hm : wfM S) (r0 : 0 < r) (r10 : r ≤ 10) (hpr : prB S) (qq : ∀ T, (∀ k, k ≠ 23 → k ≠ 24 → T k = S k) → (∀ p, 0 ≤ p → p < S 0 14 → T 24 p = S 23 p ∧ T 23 p = nxp S (S 23) (fun p => cn S (S 25) (S 27) p) r p) → Q T) : vpMo_setPrices 0 r S Q := by
  have h14 := hm.1.2.2.2.2
  have hpl := pull_b r0
  unfold vpMo_setPrices
  refine lp2 (fun n x T => vMo_setPrices_2 Q n 0 r x T) (fun x T => 0 ≤ x ∧ x ≤ S 0 14 ∧ (∀ k, k ≠ 23 → k ≠ 24 → T k = S k) ∧ (∀ p, x ≤ p → T 23 p = S 23 p) ∧ (∀ p, 0 ≤ p → p < x → T 24 p = S 23 p ∧ T 23 p = nxp S (S 23) (fun p => cn S (S 25) (S 27) p) r p)) (fun x _ => (8 - x).toNat) (fun n x T hI ih => ?_) 0 S ⟨by omega, by omega, fun _ _ _ => rfl, fun _ _ => rfl, fun p p0 p1 => by omega⟩
  obtain ⟨x0, x1, hF, hG, hH⟩ := hI
  have e14 : T 0 14 = S 0 14 := by rw [hF 0 (by omega) (by omega)]
  unfold vMo_setPrices_2 vMo_setPrices_41 vMo_setPrices_89 vMo_setPrices_95
  refine ⟨fun g => qq T hF (fun p p0 p1 => hH p p0 (by omega)), fun g => ⟨by omega, by omega, fun S4 e4 => ?_⟩⟩
  have c4 : cf S S4 := fun k j hk => by
    rw [← hF k (by omega) (by omega), e4]
    unfold up
    rw [if_neg (by omega)]
  have k4 : ∀ k, k ≠ 24 → S4 k = T k := fun k hk => by
    rw [e4]
    funext j
    unfold up
    rw [if_neg (by omega)]
  have w4 := c4.w hm
  have ecn : cn S4 (S4 25) (S4 27) x = cn S (S 25) (S 27) x := by
    rw [cn_cf c4, k4 25 (by omega), k4 27 (by omega), hF 25 (by omega) (by omega), hF 27 (by omega) (by omega)]
  have e21 : S4 21 = S 21 := by rw [k4 21 (by omega), hF 21 (by omega) (by omega)]
  have e23 : S4 23 x = S 23 x := by rw [k4 23 (by omega), hG x (by omega)]
  have hcb := cn_b (S := S) (w := S 25) (q := S 27) (p := x) hm
  have hlim := (hm.2.2 x x0 (by omega)).1
  have hpx := hpr x x0 (by omega)
  have main : ∀ y : Int, y = max 1 (1024 / r) → ((0 : Int) ≤ x ∧ x < 8) ∧ vpMo_countOf 0 x S4 (fun r2 S3 => ((0 : Int) ≤ x ∧ x < 8) ∧ rJ (S4 23 x + (r2 - S3 21 x) * y) ∧ ∀ z28, z28 = S4 23 x + (r2 - S3 21 x) * y → ((0 : Int) ≤ x ∧ x < 8) ∧ ((S3 21 x < 0 → ((0 : Int) ≤ x ∧ x < alen 23) ∧ ∀ S2, S2 = up S3 23 x 0 → rI (x + 1) ∧ ∀ z6, z6 = x + 1 → vMo_setPrices_2 Q n 0 r z6 S2) ∧ (¬ S3 21 x < 0 → ((0 ≤ z28 → ((0 : Int) ≤ x ∧ x < alen 23) ∧ ∀ S2, S2 = up S3 23 x z28 → rI (x + 1) ∧ ∀ z6, z6 = x + 1 → vMo_setPrices_2 Q n 0 r z6 S2) ∧ (¬ 0 ≤ z28 → ((0 : Int) ≤ x ∧ x < alen 23) ∧ ∀ S2, S2 = up S3 23 x 0 → rI (x + 1) ∧ ∀ z6, z6 = x + 1 → vMo_setPrices_2 Q n 0 r z6 S2))))) := fun y ey => by
    have al : alen 23 = 8 := by decide
    refine ⟨by omega, s_countOf w4 ?_⟩
    rw [ecn, e21, e23]
    have hb := mul_bs (x := cn S (S 25) (S 27) x - S 21 x) (y := y) (by omega) (by omega) (by omega) (by omega)
    have nx : ∀ (v : Int) (S2 : St), v = nxp S (S 23) (fun p => cn S (S 25) (S 27) p) r x → S2 = up S4 23 x v → rI (x + 1) ∧ ∀ z6, z6 = x + 1 → vMo_setPrices_2 Q n 0 r z6 S2 := fun v S2 ev e2 => ⟨by constructor <;> omega, fun z6 ez => by
      subst ez
      refine ih _ _ ⟨by omega, by omega, fun k k1 k2 => ?_, fun p hp => ?_, fun p p0 p1 => ?_⟩ (by omega)
      · rw [← hF k k1 k2, ← k4 k k2, e2]
        funext j
        unfold up
        rw [if_neg (by omega)]
      · rw [e2]
        unfold up
        rw [if_neg (by omega), k4 23 (by omega)]
        exact hG p (by omega)
      · by_cases hpx : p = x
        · subst hpx
          rw [e2, up_s, up_k (by omega), e4, up_s]
          exact ⟨hG p (by omega), ev⟩
        · rw [e2, up_k (by omega), up_j hpx, e4, up_j hpx, up_k (by omega)]
          exact hH p p0 (by omega)⟩
    refine ⟨by omega, by constructor <;> omega, fun z ez => ⟨by omega, fun g1 => ⟨by omega, fun S2 e2 => nx 0 S2 ?_ e2⟩, fun g1 => ⟨fun g2 => ⟨by omega, fun S2 e2 => nx z S2 ?_ e2⟩, fun g2 => ⟨by omega, fun S2 e2 => nx 0 S2 ?_ e2⟩⟩⟩⟩
    · unfold nxp
      rw [if_pos g1]
    · unfold nxp
      rw [if_neg g1, ← ey]
      show z = max 0 (S 23 x + (cn S (S 25) (S 27) x - S 21 x) * y)
      omega
    · unfold nxp
      rw [if_neg g1, ← ey]
      show 0 = max 0 (S 23 x + (cn S (S 25) (S 27) x - S 21 x) * y)
      omega
  refine ⟨by omega, by omega, by omega, by constructor <;> omega, fun g1 => main 1 (by omega), fun g1 => ⟨by omega, by omega, by omega, by constructor <;> omega, main _ (by omega)⟩⟩
theorem s_copy {x y : Int} {Q : St → Prop} (ax : alen x = 486) (ay : alen y = 486) (xy : x ≠ y) (qq : ∀ T, (∀ k, k ≠ y → T k = S k) → (∀ i, 0 ≤ i → i < 486 → T y i = S x i) → Q T) : vpMo_copy 0 x y S Q := by
  unfold vpMo_copy
  refine lp2 (fun n i T => vMo_copy_2 Q n x y i T) (fun i T => 0 ≤ i ∧ i ≤ 486 ∧ (∀ k, k ≠ y → T k = S k) ∧ (∀ j, 0 ≤ j → j < i → T y j = S x j)) (fun i _ => (486 - i).toNat) (fun n i T hI ih => ?_) 0 S ⟨by omega, by omega, fun _ _ => rfl, fun j j0 j1 => by omega⟩
  obtain ⟨i0, i1, hF, hG⟩ := hI
  unfold vMo_copy_2
  refine ⟨fun g => qq T hF (fun j j0 j1 => hG j j0 (by omega)), fun g => ⟨by omega, by omega, fun S4 e4 => ⟨by constructor <;> omega, fun z ez => ?_⟩⟩⟩
  subst ez
  refine ih _ _ ⟨by omega, by omega, fun k hk => ?_, fun j j0 j1 => ?_⟩ (by omega)
  · rw [← hF k hk, e4]
    funext j
    exact up_k hk
  · rw [e4]
    by_cases hj : j = i
    · rw [hj, up_s, hF x xy]
    · rw [up_j hj]
      exact hG j j0 (by omega)
end RD
