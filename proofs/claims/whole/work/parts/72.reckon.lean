/-! WHAT A LOG IS WORTH, AND THE BEST PLAN AS ONE NUMBER: K(n) = 0, K(a) the greatest of K(a + 1) and of K(to b) + 128 (worth - price) - 1 over the logs that may be -/
def wv (S : St) (s len p : Int) : Int := S 19 p * len + S 22 (7 * p + s)
def toE (S : St) (s b : Int) : Int := min (b + S 0 3) (stN S s)
def vl (S : St) (pr κ : Int → Int) (s a b p : Int) : Int := κ (toE S s b) + 128 * (wv S s (b - a) p - pr p) - 1
def lg (S : St) (s a b p : Int) : Prop := a < b ∧ b ≤ stN S s ∧ 0 ≤ p ∧ p < S 0 14 ∧ mayP S s a b p
def atK (S : St) (pr κ : Int → Int) (s x : Int) (R : Int → Int → Prop) : Prop := κ (x + 1) ≤ κ x ∧ (∀ b p, lg S s x b p → R b p → vl S pr κ s x b p ≤ κ x) ∧ (κ x = κ (x + 1) ∨ ∃ b p, lg S s x b p ∧ κ x = vl S pr κ s x b p)
def isK (S : St) (pr κ : Int → Int) (s : Int) : Prop := κ (stN S s) = 0 ∧ ∀ x, 0 ≤ x → x < stN S s → atK S pr κ s x (fun _ _ => True)
/-- what is told is the same -/
def cf (S T : St) : Prop := ∀ k j, (k = 0 ∧ (j = 1 ∨ j = 2 ∨ j = 3 ∨ j = 4 ∨ j = 14)) ∨ (5 ≤ k ∧ k ≤ 22) → T k j = S k j
section CF
variable {S T U : St} {s a b p : Int}
theorem cf.k (h : cf S T) {k : Int} (h5 : 5 ≤ k ∧ k ≤ 22) : T k = S k := funext fun j => h k j (Or.inr h5)
theorem cf.j (h : cf S T) {j : Int} (h5 : j = 1 ∨ j = 2 ∨ j = 3 ∨ j = 4 ∨ j = 14) : T 0 j = S 0 j := h 0 j (Or.inl ⟨rfl, h5⟩)
theorem cf.rf : cf S S := fun _ _ _ => rfl
theorem cf.tr (h : cf S T) (g : cf T U) : cf S U := fun k j q => (g k j q).trans (h k j q)
theorem cf.sy (h : cf S T) : cf T S := fun k j q => (h k j q).symm
theorem cf.n (h : cf S T) : stN T s = stN S s := by
  unfold stN
  rw [h.k (k := 5) (by omega), h.k (k := 6) (by omega), h.j (j := 1) (by omega)]
theorem cf.w (h : cf S T) (w : wfM S) : wfM T := by
  have n := fun s => h.n (s := s)
  unfold wfM wfA wfS wfP at w ⊢
  rw [h.k (k := 5) (by omega), h.k (k := 6) (by omega), h.k (k := 7) (by omega), h.k (k := 8) (by omega), h.k (k := 9) (by omega), h.k (k := 10) (by omega), h.k (k := 11) (by omega), h.k (k := 12) (by omega), h.k (k := 13) (by omega), h.k (k := 15) (by omega), h.k (k := 16) (by omega), h.k (k := 17) (by omega), h.k (k := 18) (by omega), h.k (k := 19) (by omega), h.k (k := 20) (by omega), h.k (k := 21) (by omega), h.k (k := 22) (by omega), h.j (j := 1) (by omega), h.j (j := 2) (by omega), h.j (j := 3) (by omega), h.j (j := 4) (by omega), h.j (j := 14) (by omega)]
  simp only [n]
  exact w
theorem cf.m (h : cf S T) : mayP T s a b p ↔ mayP S s a b p := by
  unfold mayP okP ptsOK
  rw [h.k (k := 5) (by omega), h.k (k := 6) (by omega), h.k (k := 7) (by omega), h.k (k := 8) (by omega), h.k (k := 9) (by omega), h.k (k := 10) (by omega), h.k (k := 11) (by omega), h.k (k := 12) (by omega), h.k (k := 13) (by omega), h.k (k := 15) (by omega), h.k (k := 16) (by omega), h.k (k := 17) (by omega), h.k (k := 18) (by omega), h.k (k := 20) (by omega), h.j (j := 1) (by omega), h.j (j := 2) (by omega)]
theorem cf.o (h : cf S T) : okP T s a b p ↔ okP S s a b p := by
  unfold okP ptsOK
  rw [h.k (k := 5) (by omega), h.k (k := 6) (by omega), h.k (k := 7) (by omega), h.k (k := 8) (by omega), h.k (k := 9) (by omega), h.k (k := 10) (by omega), h.k (k := 11) (by omega), h.k (k := 12) (by omega), h.k (k := 13) (by omega), h.k (k := 16) (by omega), h.k (k := 17) (by omega), h.k (k := 18) (by omega), h.k (k := 20) (by omega), h.j (j := 1) (by omega), h.j (j := 2) (by omega)]
theorem cf.v (h : cf S T) : wv T s a p = wv S s a p := by
  unfold wv
  rw [h.k (k := 19) (by omega), h.k (k := 22) (by omega)]
theorem cf.t (h : cf S T) : toE T s b = toE S s b := by
  unfold toE
  rw [h.j (j := 3) (by omega), h.n]
theorem cf.g (h : cf S T) : lg T s a b p ↔ lg S s a b p := by
  unfold lg
  rw [h.n, h.j (j := 14) (by omega), h.m]
theorem cf.l (h : cf S T) {pr κ : Int → Int} : vl T pr κ s a b p = vl S pr κ s a b p := by
  unfold vl
  rw [h.t, h.v]
theorem cf.i (h : cf S T) {pr κ : Int → Int} (k : isK S pr κ s) : isK T pr κ s := by
  unfold isK atK at k ⊢
  rw [h.n]
  refine ⟨k.1, fun x x0 x1 => ?_⟩
  obtain ⟨k1, k2, k3⟩ := k.2 x x0 x1
  refine ⟨k1, fun b p hl r => ?_, ?_⟩
  · rw [h.l]
    exact k2 b p (h.g.mp hl) r
  · rcases k3 with k3 | ⟨b, p, y1, y2⟩
    · exact Or.inl k3
    · exact Or.inr ⟨b, p, h.g.mpr y1, by rw [h.l]; exact y2⟩
theorem toE_b (h : wfA S) (hb : b ≤ stN S s) : b ≤ toE S s b ∧ toE S s b ≤ stN S s := by
  have := h.2.2.1
  unfold toE
  omega
theorem wv_b (hp : wfP S p) (p8 : p < S 0 14) (s0 : 0 ≤ s) (s7 : s < 7) (a0 : 0 ≤ a) (a80 : a ≤ 80) : 0 ≤ wv S s a p ∧ wv S s a p ≤ 100000 * a + 100000 := by
  obtain ⟨_, h2, _, h4⟩ := hp
  obtain ⟨_, _, _, h19⟩ := h4 p8
  have h22 := h2 s s0 s7
  have m1 := Int.mul_nonneg h19.1 a0
  have m2 := Int.mul_le_mul_of_nonneg_right h19.2 a0
  unfold wv
  omega
theorem atK_eq {pr κ κ' : Int → Int} {x : Int} {R : Int → Int → Prop} (h : wfA S) (e : ∀ y, x ≤ y → κ' y = κ y) (k : atK S pr κ s x R) : atK S pr κ' s x R := by
  obtain ⟨k1, k2, k3⟩ := k
  have ev : ∀ b p, lg S s x b p → vl S pr κ' s x b p = vl S pr κ s x b p := fun b p hl => by
    unfold vl
    rw [e _ (by have := toE_b h hl.2.1; have := hl.1; omega)]
  refine ⟨by rw [e _ (by omega), e _ (by omega)]; exact k1, fun b p hl r => by rw [ev b p hl, e _ (by omega)]; exact k2 b p hl r, ?_⟩
  rw [e _ (by omega), e _ (by omega)]
  rcases k3 with k3 | ⟨b, p, y1, y2⟩
  · exact Or.inl k3
  · exact Or.inr ⟨b, p, y1, by rw [ev b p y1]; exact y2⟩
/-- K is one alone -/
theorem isK_uniq {pr κ κ' : Int → Int} (h : wfA S) (k : isK S pr κ s) (k' : isK S pr κ' s) : ∀ (d : Nat) (x : Int), 0 ≤ x → x ≤ stN S s → stN S s - x ≤ d → κ x = κ' x := by
  intro d
  induction d with
  | zero => intro x x0 x1 x2; rw [show x = stN S s by omega, k.1, k'.1]
  | succ d ih =>
    intro x x0 x1 x2
    by_cases hx : x = stN S s
    · rw [hx, k.1, k'.1]
    · have i1 := ih (x + 1) (by omega) (by omega) (by omega)
      have xn : x < stN S s := by omega
      obtain ⟨a1, a2, a3⟩ := k.2 x x0 xn
      obtain ⟨b1, b2, b3⟩ := k'.2 x x0 xn
      have ev : ∀ b p, lg S s x b p → vl S pr κ s x b p = vl S pr κ' s x b p := fun b p hl => by
        clear a3 b3
        unfold vl
        have := toE_b h hl.2.1
        rw [ih _ (by have := hl.1; omega) this.2 (by have := hl.1; omega)]
      have c1 : κ x ≤ κ' x := by
        rcases a3 with a3 | ⟨b, p, y1, y2⟩
        · clear b3; omega
        · clear b3
          have := b2 b p y1 trivial
          rw [← ev b p y1] at this
          omega
      have c2 : κ' x ≤ κ x := by
        rcases b3 with b3 | ⟨b, p, y1, y2⟩
        · clear a3; omega
        · clear a3
          have := a2 b p y1 trivial
          rw [ev b p y1] at this
          omega
      clear a3 b3
      omega
end CF
/-! the reference reckons it -/
def rkF (S T : St) : Prop := ∀ k, k ≠ 31 → k ≠ 32 → T k = S k
def kap (T : St) : Int → Int := fun x => 128 * T 31 x - T 32 x
def blK (S T : St) (s y : Int) : Prop := 0 ≤ T 32 y ∧ T 32 y ≤ stN S s - y ∧ 0 ≤ T 31 y ∧ T 31 y ≤ 200000 * (stN S s - y)
def rkO (S T : St) (s x : Int) : Prop := rkF S T ∧ T 31 (stN S s) = 0 ∧ T 32 (stN S s) = 0 ∧ ∀ y, x < y → y ≤ stN S s → blK S T s y ∧ (y < stN S s → atK S (S 23) (kap T) s y (fun _ _ => True))
def prB (S : St) : Prop := ∀ p, 0 ≤ p → p < S 0 14 → 0 ≤ S 23 p ∧ S 23 p ≤ 10000000
theorem rkF.cf {S T : St} (h : rkF S T) : cf S T := fun k j hk => by rw [h k (by omega) (by omega)]
section RK
variable {S T : St} {s x b p : Int} {Q : St → Prop}
theorem s_behind {Q : Int → St → Prop} (h : wfA S) (hb : b ≤ stN S s) (hb0 : 0 ≤ b) (h80 : stN S s ≤ 80) (q : Q (toE S s b) S) : vpMo_behind 0 (stN S s) b S Q := by
  have h3 := h.2.2.1
  unfold vpMo_behind vMo_behind_29
  unfold toE at q
  refine ⟨fun h1 => ?_, fun h1 => ⟨by constructor <;> omega, fun h2 => ?_, fun h2 => ⟨by constructor <;> omega, ?_⟩⟩⟩
  · rw [show min (b + S 0 3) (stN S s) = stN S s by omega] at q
    exact q
  · rw [show min (b + S 0 3) (stN S s) = stN S s by omega] at q
    exact q
  · rw [show min (b + S 0 3) (stN S s) = b + S 0 3 by omega] at q
    exact q
theorem s_worthOf {len : Int} {Q : Int → St → Prop} (hm : wfM S) (p0 : 0 ≤ p) (p8 : p < S 0 14) (s0 : 0 ≤ s) (s6 : s < 6) (l0 : 0 ≤ len) (l80 : len ≤ 80) (q : Q (wv S s len p) S) : vpMo_worthOf 0 s len p S Q := by
  have h14 := hm.1.2.2.2.2
  have := wv_b (hm.2.2 p p0 (by omega)) p8 s0 (by omega) l0 l80
  unfold vpMo_worthOf
  unfold wv at this q
  exact ⟨by omega, by omega, by constructor <;> omega, q⟩
/-- another value at x, the rest as it was -/
theorem rk_up {v l : Int} (hw : wfA S) (hO : rkO S T s x) (hx : x < stN S s) (T' : St) (eT : T' = up (up T 31 x v) 32 x l) : rkO S T' s x ∧ (∀ y, x < y → kap T' y = kap T y) ∧ T' 31 x = v ∧ T' 32 x = l ∧ (∀ y, x < y → T' 31 y = T 31 y ∧ T' 32 y = T 32 y) := by
  have e1 : ∀ y, x < y → T' 31 y = T 31 y ∧ T' 32 y = T 32 y := fun y hy => by
    subst eT
    unfold up
    constructor
    · rw [if_neg (by omega), if_neg (by omega)]
    · rw [if_neg (by omega), if_neg (by omega)]
  have e2 : ∀ y, x < y → kap T' y = kap T y := fun y hy => by
    unfold kap
    rw [(e1 y hy).1, (e1 y hy).2]
  obtain ⟨o1, o2, o3, o4⟩ := hO
  refine ⟨⟨fun k k1 k2 => ?_, ?_, ?_, fun y y1 y2 => ?_⟩, e2, ?_, ?_, e1⟩
  · subst eT
    rw [← o1 k k1 k2]
    funext j
    unfold up
    rw [if_neg (by omega), if_neg (by omega)]
  · rw [(e1 _ hx).1]; exact o2
  · rw [(e1 _ hx).2]; exact o3
  · obtain ⟨z1, z2⟩ := o4 y y1 y2
    refine ⟨?_, fun hy => ?_⟩
    · unfold blK
      rw [(e1 y y1).1, (e1 y y1).2]
      exact z1
    · exact atK_eq hw (fun z hz => e2 z (by omega)) (z2 hy)
  · subst eT
    unfold up
    rw [if_neg (by omega), if_pos ⟨rfl, rfl⟩]
  · subst eT
    unfold up
    rw [if_pos ⟨rfl, rfl⟩]
theorem s_rk70 (hm : wfM S) (s0 : 0 ≤ s) (s6 : s < 6) (hpr : prB S) (x0 : 0 ≤ x) (xb : x < b) (bn : b ≤ stN S s) {K24 : Int → Int → Int → Int → St → Prop} {K61 : Int → Int → Int → Int → Int → St → Prop}
    (hK : ∀ T', rkO S T' s x → blK S T' s x → atK S (S 23) (kap T') s x (fun b' _ => b' < b + 1) → K61 0 s (stN S s) x (b + 1) T') (hO : rkO S T s x) (hb : blK S T s x) (ha : atK S (S 23) (kap T) s x (fun b' _ => b' < b)) : ∃ n, vMo_reckon_70 Q K24 K61 n 0 s (stN S s) x b 0 T := by
  have h80 := (hm.2.1 s s0 s6).2.2.2.2.2.1
  have h14 := hm.1.2.2.2.2
  refine lp2 (fun n y T' => vMo_reckon_70 Q K24 K61 n 0 s (stN S s) x b y T') (fun y T' => 0 ≤ y ∧ y ≤ S 0 14 ∧ rkO S T' s x ∧ blK S T' s x ∧ atK S (S 23) (kap T') s x (fun b' p' => b' < b ∨ (b' = b ∧ p' < y))) (fun y _ => (8 - y).toNat) (fun n y T' hI ih => ?_) 0 T ⟨by omega, by omega, hO, hb, ha.1, fun b' p' hl r => ha.2.1 b' p' hl (by have := hl.2.2.1; omega), ha.2.2⟩
  obtain ⟨y0, y1, iO, ib, ia⟩ := hI
  have c := iO.1.cf
  have wT := c.w hm
  have e14 : T' 0 14 = S 0 14 := c.j (by omega)
  unfold vMo_reckon_70 vMo_reckon_172 vMo_reckon_195
  refine ⟨fun hy => ⟨by constructor <;> omega, fun z ez => ?_⟩, fun hy => ?_⟩
  · subst ez
    refine hK T' iO ib ⟨ia.1, fun b' p' hl r => ia.2.1 b' p' hl ?_, ia.2.2⟩
    have := hl.2.2.2.1
    omega
  · have nx : ∀ (T1 : St) (z : Int), z = y + 1 → rkO S T1 s x → blK S T1 s x → atK S (S 23) (kap T1) s x (fun b' p' => b' < b ∨ (b' = b ∧ p' < y)) → (lg S s x b y → vl S (S 23) (kap T1) s x b y ≤ kap T1 x) → vMo_reckon_70 Q K24 K61 n 0 s (stN S s) x b z T1 := fun T1 z ez o b1 a1 hv => by
      subst ez
      refine ih _ _ ⟨by omega, by omega, o, b1, a1.1, fun b' p' hl r => ?_, a1.2.2⟩ (by omega)
      by_cases hq : b' = b ∧ p' = y
      · obtain ⟨rfl, rfl⟩ := hq
        exact hv hl
      · exact a1.2.1 b' p' hl (by omega)
    refine s_may wT s0 s6 x0 xb (by rw [c.n]; exact bn) y0 (by omega) (fun hmay => ⟨fun q => absurd q (by decide), fun _ => ?_⟩) (fun hmay => ⟨fun _ => ⟨by constructor <;> omega, fun z ez => nx T' z ez iO ib ia (fun hl => absurd (c.m.mpr hl.2.2.2.2) hmay)⟩, fun q => absurd rfl q⟩)
    have hl : lg S s x b y := ⟨xb, bn, y0, by omega, c.m.mp hmay⟩
    rw [show stN S s = stN T' s from c.n.symm]
    refine s_behind wT.1 (by rw [c.n]; exact bn) (by omega) (by rw [c.n]; exact h80) ?_
    rw [c.n, c.t]
    have ht := toE_b hm.1 bn
    have hpy := hpr y y0 (by omega)
    have hbt := (iO.2.2.2 (toE S s b) (by omega) ht.2).1
    have hw := wv_b (hm.2.2 y y0 (by omega)) (show y < S 0 14 by omega) s0 (by omega) (show 0 ≤ b - x by omega) (by omega)
    have e23 : T' 23 = S 23 := iO.1 23 (by omega) (by omega)
    have hvl : vl S (S 23) (kap T') s x b y = 128 * (T' 31 (toE S s b) + wv S s (b - x) y - S 23 y) - (T' 32 (toE S s b) + 1) := by
      unfold vl kap
      omega
    unfold blK at hbt ib
    refine ⟨by omega, by constructor <;> omega, s_worthOf wT y0 (by omega) s0 s6 (by omega) (by omega) ?_⟩
    rw [c.v, e23]
    refine ⟨by omega, by constructor <;> omega, fun v ev => ?_⟩
    rw [← ev] at hvl
    have up1 : kap T' x < 128 * v - (T' 32 (toE S s b) + 1) → 0 ≤ v → ∀ S2, S2 = up T' 31 x v → ((0 : Int) ≤ toE S s b ∧ toE S s b < 81) ∧ ((0 : Int) ≤ x ∧ x < 81) ∧ rI (S2 32 (toE S s b) + 1) ∧ ∀ S9, S9 = up S2 32 x (S2 32 (toE S s b) + 1) → (rI (y + 1) ∧ ∀ z1, z1 = y + 1 → vMo_reckon_70 Q K24 K61 n 0 s (stN S s) x b z1 S9) := fun hlt v0 S2 e2 => by
      have e32 : S2 32 (toE S s b) = T' 32 (toE S s b) := by rw [e2]; exact up_k (by omega)
      rw [e32]
      refine ⟨by omega, by omega, by constructor <;> omega, fun S9 e9 => ⟨by constructor <;> omega, fun z1 ez => ?_⟩⟩
      rw [e2] at e9
      obtain ⟨u1, u2, u3, u4, u5⟩ := rk_up hm.1 iO (by omega) S9 e9
      have hkx : kap S9 x = vl S (S 23) (kap T') s x b y := by
        show 128 * S9 31 x - S9 32 x = _
        rw [u3, u4]
        omega
      have hv9 : ∀ b' p', lg S s x b' p' → vl S (S 23) (kap S9) s x b' p' = vl S (S 23) (kap T') s x b' p' := fun b' p' hl' => by
        unfold vl
        rw [u2 _ (by have := toE_b hm.1 hl'.2.1; have := hl'.1; omega)]
      refine nx S9 z1 ez u1 ?_ ⟨?_, fun b' p' hl' r => ?_, Or.inr ⟨b, y, hl, by rw [hkx, hv9 b y hl]⟩⟩ (fun _ => by rw [hkx, hv9 b y hl]; omega)
      · unfold blK
        rw [u3, u4]
        omega
      · rw [u2 _ (by omega), hkx]
        have := ia.1
        omega
      · rw [hv9 b' p' hl', hkx]
        have := ia.2.1 b' p' hl' r
        omega
    have hkx : kap T' x = 128 * T' 31 x - T' 32 x := rfl
    refine ⟨by omega, fun g => ⟨by omega, fun S2 e2 => up1 (by omega) (by omega) S2 e2⟩, fun g => ⟨by omega, fun g2 => ⟨by omega, by omega, by constructor <;> omega, fun g3 => ⟨by constructor <;> omega, fun z ez => nx T' z ez iO ib ia (fun _ => by omega)⟩, fun g3 => ⟨by omega, fun S2 e2 => up1 (by omega) (by omega) S2 e2⟩⟩, fun g2 => ⟨by constructor <;> omega, fun z ez => nx T' z ez iO ib ia (fun _ => by omega)⟩⟩⟩
theorem s_rk61 (hm : wfM S) (s0 : 0 ≤ s) (s6 : s < 6) (hpr : prB S) (x0 : 0 ≤ x) (xn : x < stN S s) {K24 : Int → Int → Int → Int → St → Prop}
    (hK : ∀ T', rkO S T' s (x - 1) → K24 0 s (stN S s) (x - 1) T') (hO : rkO S T s x) (hb : blK S T s x) (ha : atK S (S 23) (kap T) s x (fun b' _ => b' < x + 1)) : ∃ n, vMo_reckon_61 Q K24 n 0 s (stN S s) x (x + 1) T := by
  have h80 := (hm.2.1 s s0 s6).2.2.2.2.2.1
  refine lp2 (fun n b T' => vMo_reckon_61 Q K24 n 0 s (stN S s) x b T') (fun b T' => x + 1 ≤ b ∧ b ≤ stN S s + 1 ∧ rkO S T' s x ∧ blK S T' s x ∧ atK S (S 23) (kap T') s x (fun b' _ => b' < b)) (fun b _ => (82 - b).toNat) (fun n b T' hI ih => ?_) (x + 1) T ⟨by omega, by omega, hO, hb, ha⟩
  obtain ⟨b0, b1, iO, ib, ia⟩ := hI
  unfold vMo_reckon_61
  refine ⟨fun g => ⟨by constructor <;> omega, fun z ez => ?_⟩, fun g => ?_⟩
  · rw [ez, show x + (-1) = x - 1 by omega]
    refine hK T' ⟨iO.1, iO.2.1, iO.2.2.1, fun y y1 y2 => ?_⟩
    by_cases hy : y = x
    · rw [hy]
      exact ⟨ib, fun _ => ⟨ia.1, fun b' p' hl _ => ia.2.1 b' p' hl (by have := hl.2.1; omega), ia.2.2⟩⟩
    · exact iO.2.2.2 y (by omega) y2
  · exact s_rk70 hm s0 s6 hpr x0 (by omega) (by omega) (fun T1 o1 b1 a1 => ih _ _ ⟨by omega, by omega, o1, b1, a1⟩ (by omega)) iO ib ia
theorem s_reckon (hm : wfM S) (s0 : 0 ≤ s) (s6 : s < 6) (hpr : prB S) (q : ∀ T, rkF S T → (∀ y, 0 ≤ y → y ≤ stN S s → blK S T s y) → isK S (S 23) (kap T) s → Q T) : vpMo_reckon 0 s S Q := by
  have hn := stN_0 hm.1 (hm.2.1 s s0 s6)
  have h80 := (hm.2.1 s s0 s6).2.2.2.2.2.1
  unfold vpMo_reckon
  refine s_stepsOf hm.1 (hm.2.1 s s0 s6) s0 s6 ⟨by omega, fun S7 e7 => ⟨by omega, fun S12 e12 => ⟨by constructor <;> omega, fun z ez => ?_⟩⟩⟩
  have z31 : S12 31 (stN S s) = 0 := by
    subst e12 e7
    unfold up
    rw [if_neg (by omega), if_pos ⟨rfl, rfl⟩]
  have z32 : S12 32 (stN S s) = 0 := by
    subst e12
    exact up_s
  have zf : rkF S S12 := fun k k1 k2 => by
    subst e12 e7
    funext j
    unfold up
    rw [if_neg (by omega), if_neg (by omega)]
  refine lp2 (fun n x T => vMo_reckon_24 Q n 0 s (stN S s) x T) (fun x T => -1 ≤ x ∧ x < stN S s ∧ rkO S T s x) (fun x _ => (x + 1).toNat) (fun n x T hI ih => ?_) z S12 ⟨by omega, by omega, zf, z31, z32, fun y y1 y2 => ?_⟩
  · obtain ⟨x0, x1, o⟩ := hI
    unfold vMo_reckon_24
    refine ⟨fun g => ?_, fun g => ⟨by omega, by omega, fun S4 e4 => ⟨by omega, by omega, fun S10 e10 => ⟨by constructor <;> omega, fun z ez => ?_⟩⟩⟩⟩
    · refine q T o.1 (fun y y0 y1 => (o.2.2.2 y (by omega) y1).1) ⟨?_, fun y y0 y1 => (o.2.2.2 y (by omega) (by omega)).2 y1⟩
      unfold kap
      rw [o.2.1, o.2.2.1]
      rfl
    · have e32 : S4 32 (x + 1) = T 32 (x + 1) := by rw [e4]; exact up_k (by omega)
      rw [e32, e4] at e10
      obtain ⟨u1, u2, u3, u4, u5⟩ := rk_up hm.1 o x1 S10 e10
      subst ez
      have hkx : kap S10 x = kap T (x + 1) := by
        unfold kap
        rw [u3, u4]
      have hb1 := (o.2.2.2 (x + 1) (by omega) (by omega)).1
      refine s_rk61 hm s0 s6 hpr (by omega) x1 (fun T' o' => ih _ _ ⟨by omega, by omega, o'⟩ (by omega)) u1 ?_ ⟨?_, fun b' p' hl r => ?_, Or.inl ?_⟩
      · unfold blK at hb1 ⊢
        rw [u3, u4]
        omega
      · rw [u2 _ (by omega), hkx]
        omega
      · have := hl.1
        omega
      · rw [u2 (x + 1) (by omega), hkx]
  · have hy : y = stN S s := by omega
    subst hy
    refine ⟨?_, fun q => by omega⟩
    unfold blK
    rw [z31, z32]
    omega
end RK
