/-! sums -/
def sm (f : Int → Int) : Nat → Int
  | 0 => 0
  | n + 1 => sm f n + f n
theorem sm_s {f : Int → Int} {a : Int} (h : 0 ≤ a) : sm f (a + 1).toNat = sm f a.toNat + f a := by
  rw [show (a + 1).toNat = a.toNat + 1 by omega]
  show sm f a.toNat + f (a.toNat : Int) = _
  rw [show ((a.toNat : Nat) : Int) = a by omega]
theorem sm_eq {f g : Int → Int} : ∀ (n : Nat), (∀ i : Int, 0 ≤ i → i < n → f i = g i) → sm f n = sm g n := by
  intro n
  induction n with
  | zero => intro _; rfl
  | succ n ih => intro h; show sm f n + f n = sm g n + g n; rw [ih (fun i h0 h1 => h i h0 (by omega)), h n (by omega) (by omega)]
theorem sm_g {f : Int → Int} {a : Int} (h0 : 0 ≤ a) : ∀ (d : Nat), (∀ i : Int, a ≤ i → i < a + d → f i = 0) → sm f (a + d).toNat = sm f a.toNat := by
  intro d
  induction d with
  | zero => intro _; rw [show a + ((0 : Nat) : Int) = a by omega]
  | succ d ih => intro h; rw [show a + ((d + 1 : Nat) : Int) = a + d + 1 by omega, sm_s (by omega), ih (fun i h1 h2 => h i h1 (by omega)), h (a + d) (by omega) (by omega)]; omega
theorem sm_gap {f : Int → Int} {a e : Int} (h0 : 0 ≤ a) (h1 : a ≤ e) (h : ∀ i, a ≤ i → i < e → f i = 0) : sm f e.toNat = sm f a.toNat := by
  have := sm_g (f := f) h0 (e - a).toNat (fun i i0 i1 => h i i0 (by omega))
  rw [show a + ((e - a).toNat : Int) = e by omega] at this
  exact this
theorem sm_b {f : Int → Int} (c : Int) : ∀ (n : Nat), (∀ i : Int, 0 ≤ i → i < n → 0 ≤ f i ∧ f i ≤ c) → 0 ≤ sm f n ∧ sm f n ≤ c * n := by
  intro n
  induction n with
  | zero => intro _; show (0 : Int) ≤ 0 ∧ (0 : Int) ≤ c * ((0 : Nat) : Int); simp
  | succ n ih =>
    intro h
    have h1 := ih (fun i i0 i1 => h i i0 (by omega))
    have h2 := h n (by omega) (by omega)
    show 0 ≤ sm f n + f n ∧ sm f n + f n ≤ c * ((n + 1 : Nat) : Int)
    rw [show ((n + 1 : Nat) : Int) = (n : Int) + 1 by omega, Int.mul_add]
    omega
theorem sm_add {f g : Int → Int} : ∀ n : Nat, sm (fun i => f i + g i) n = sm f n + sm g n := by
  intro n
  induction n with
  | zero => rfl
  | succ n ih => show sm (fun i => f i + g i) n + (f n + g n) = sm f n + f n + (sm g n + g n); rw [ih]; omega
/-! WHICH LOG IS CHOSEN, AND THE PLAN OF A STEM: w what begins or lies at a step (1 a log, 2 FUEL, 3 lost, 4 inside), l and q a log's steps and product -/
def ch (S : St) (pr κ : Int → Int) (s a b p : Int) : Prop := lg S s a b p ∧ κ a = vl S pr κ s a b p ∧ ∀ b' p', lg S s a b' p' → κ a = vl S pr κ s a b' p' → b' < b ∨ (b' = b ∧ p ≤ p')
def noC (S : St) (pr κ : Int → Int) (s a : Int) : Prop := ∀ b p, lg S s a b p → κ a ≠ vl S pr κ s a b p
def plC (S : St) (pr κ : Int → Int) (s : Int) (w l q : Int → Int) (a k : Int) : Prop := (w k = 1 ∨ w k = 2 ∨ w k = 3 ∨ w k = 4) ∧ (w k = 2 → noC S pr κ s k ∧ (k + 1 < a → w (k + 1) = 1 ∨ w (k + 1) = 2)) ∧ (w k = 1 → ch S pr κ s k (k + l k) (q k) ∧ (∀ j, k < j → j < k + l k → w j = 4) ∧ (∀ j, k + l k ≤ j → j < toE S s (k + l k) → w j = 3) ∧ toE S s (k + l k) ≤ a ∧ (toE S s (k + l k) < a → w (toE S s (k + l k)) = 1 ∨ w (toE S s (k + l k)) = 2))
def plTo (S : St) (pr κ : Int → Int) (s : Int) (w l q : Int → Int) (a : Int) : Prop := (0 < a → w 0 = 1 ∨ w 0 = 2) ∧ ∀ k, 0 ≤ k → k < a → plC S pr κ s w l q a k
abbrev isPl (S : St) (pr κ : Int → Int) (s : Int) (w l q : Int → Int) : Prop := plTo S pr κ s w l q (stN S s)
section PL
variable {S T : St} {pr κ κ' : Int → Int} {s a a' : Int} {w l q w' l' q' : Int → Int}
theorem plTo_0 : plTo S pr κ s w l q 0 := ⟨fun h => absurd h (by omega), fun k h0 h1 => by omega⟩
theorem plTo_ext (h : plTo S pr κ s w l q a) (ha : 0 ≤ a) (e : ∀ k, 0 ≤ k → k < a → w' k = w k ∧ l' k = l k ∧ q' k = q k) (haa : a < a') (wa : w' a = 1 ∨ w' a = 2) (n : ∀ k, a ≤ k → k < a' → plC S pr κ s w' l' q' a' k) (lb : ∀ k, lg S s k (k + l k) (q k) → k + l k ≤ toE S s (k + l k)) : plTo S pr κ s w' l' q' a' := by
  refine ⟨fun _ => ?_, fun k k0 k1 => ?_⟩
  · by_cases h0 : a = 0
    · rw [← h0]; exact wa
    · rw [(e 0 (by omega) (by omega)).1]
      exact h.1 (by omega)
  · by_cases hk : a ≤ k
    · exact n k hk k1
    · obtain ⟨c1, c2, c3⟩ := h.2 k k0 (by omega)
      obtain ⟨e1, e2, e3⟩ := e k k0 (by omega)
      refine ⟨by rw [e1]; exact c1, fun hw => ?_, fun hw => ?_⟩
      · rw [e1] at hw
        obtain ⟨d1, d2⟩ := c2 hw
        refine ⟨d1, fun _ => ?_⟩
        by_cases hk1 : k + 1 = a
        · rw [hk1]; exact wa
        · rw [(e (k + 1) (by omega) (by omega)).1]
          exact d2 (by omega)
      · rw [e1] at hw
        obtain ⟨d1, d2, d3, d4, d5⟩ := c3 hw
        have dl := lb k d1.1
        have dk := d1.1.1
        rw [e2, e3]
        refine ⟨d1, fun j j0 j1 => ?_, fun j j0 j1 => ?_, by omega, fun _ => ?_⟩
        · rw [(e j (by omega) (by omega)).1]
          exact d2 j j0 j1
        · rw [(e j (by omega) (by omega)).1]
          exact d3 j j0 j1
        · by_cases hk1 : toE S s (k + l k) = a
          · rw [hk1]; exact wa
          · rw [(e _ (by omega) (by omega)).1]
            exact d5 (by omega)
theorem ch_uniq {b p b' p' : Int} (h : ch S pr κ s a b p) (h' : ch S pr κ s a b' p') : b = b' ∧ p = p' := by
  have h1 := h.2.2 b' p' h'.1 h'.2.1
  have h2 := h'.2.2 b p h.1 h.2.1
  omega
theorem ch_eq {b p : Int} (hw : wfA S) (e : ∀ y, a ≤ y → y ≤ stN S s → κ' y = κ y) (h : ch S pr κ s a b p) : ch S pr κ' s a b p := by
  have ev : ∀ b p, lg S s a b p → vl S pr κ' s a b p = vl S pr κ s a b p := fun b p hl => by
    have := toE_b hw hl.2.1
    unfold vl
    rw [e _ (by have := hl.1; omega) this.2]
  have ea : κ' a = κ a := e a (by omega) (by have := h.1.1; have := h.1.2.1; omega)
  refine ⟨h.1, by rw [ea, ev b p h.1]; exact h.2.1, fun b' p' hl he => h.2.2 b' p' hl ?_⟩
  rw [ea, ev b' p' hl] at he
  exact he
theorem noC_eq (hw : wfA S) (an : a ≤ stN S s) (e : ∀ y, a ≤ y → y ≤ stN S s → κ' y = κ y) (h : noC S pr κ s a) : noC S pr κ' s a := by
  intro b p hl he
  refine h b p hl ?_
  have := toE_b hw hl.2.1
  unfold vl at he ⊢
  rw [e a (by omega) an, e _ (by have := hl.1; omega) this.2] at he
  exact he
/-- where the piece that holds step k begins -/
theorem pl_seg (hw : wfA S) (h : isPl S pr κ s w l q) : ∀ (d : Nat), (d : Int) < stN S s → ∃ k : Int, 0 ≤ k ∧ k ≤ d ∧ ((w k = 2 ∧ k = d) ∨ (w k = 1 ∧ (d : Int) < toE S s (k + l k))) := by
  intro d
  induction d with
  | zero =>
    intro hd
    rcases h.1 (by omega) with h1 | h1
    · refine ⟨0, by omega, by omega, Or.inr ⟨h1, ?_⟩⟩
      have c := ((h.2 0 (by omega) (by omega)).2.2 h1).1.1
      have := toE_b hw c.2.1
      have := c.1
      show (0 : Int) < _
      omega
    · exact ⟨0, by omega, by omega, Or.inl ⟨h1, by omega⟩⟩
  | succ d ih =>
    intro hd
    have st : ∀ x : Int, x = ((d + 1 : Nat) : Int) → (w x = 1 ∨ w x = 2) → ∃ k : Int, 0 ≤ k ∧ k ≤ ((d + 1 : Nat) : Int) ∧ ((w k = 2 ∧ k = ((d + 1 : Nat) : Int)) ∨ (w k = 1 ∧ ((d + 1 : Nat) : Int) < toE S s (k + l k))) := fun x ex hx => by
      refine ⟨x, by omega, by omega, ?_⟩
      rcases hx with hx | hx
      · refine Or.inr ⟨hx, ?_⟩
        have c := ((h.2 x (by omega) (by omega)).2.2 hx).1.1
        have := toE_b hw c.2.1
        have := c.1
        omega
      · exact Or.inl ⟨hx, ex⟩
    have hd1 : (d : Int) < stN S s := by omega
    obtain ⟨k, k0, k1, k2⟩ := ih hd1
    have kn : k < stN S s := by clear k2; omega
    rcases k2 with ⟨k2, k3⟩ | ⟨k2, k3⟩
    · have c := (h.2 k k0 kn).2.1 k2
      exact st (k + 1) (by omega) (c.2 (by omega))
    · have c := (h.2 k k0 kn).2.2 k2
      by_cases ht : toE S s (k + l k) = ((d + 1 : Nat) : Int)
      · exact st _ ht (c.2.2.2.2 (by omega))
      · exact ⟨k, k0, by omega, Or.inr ⟨k2, by omega⟩⟩
/-- a plan is one alone -/
theorem pl_uniq (hw : wfA S) (h : isPl S pr κ s w l q) (h' : isPl S pr κ s w' l' q') : ∀ (d : Nat) (k : Int), 0 ≤ k → k ≤ d → k < stN S s → w' k = w k ∧ (w k = 1 → l' k = l k ∧ q' k = q k) := by
  have at2 : ∀ k, 0 ≤ k → k < stN S s → (w k = 1 ∨ w k = 2) → (w' k = 1 ∨ w' k = 2) → w' k = w k ∧ (w k = 1 → l' k = l k ∧ q' k = q k) := fun k k0 k1 g g' => by
    obtain ⟨_, a2, a3⟩ := h.2 k k0 k1
    obtain ⟨_, b2, b3⟩ := h'.2 k k0 k1
    rcases g with g | g <;> rcases g' with g' | g'
    · have := ch_uniq (a3 g).1 (b3 g').1
      exact ⟨by omega, fun _ => by omega⟩
    · exact absurd (a3 g).1.2.1 ((b2 g').1 _ _ (a3 g).1.1)
    · exact absurd (b3 g').1.2.1 ((a2 g).1 _ _ (b3 g').1.1)
    · exact ⟨by omega, fun z => by omega⟩
  intro d
  induction d with
  | zero =>
    intro k k0 k1 k2
    have : k = 0 := by omega
    subst this
    exact at2 0 (by omega) k2 (h.1 (by omega)) (h'.1 (by omega))
  | succ d ih =>
    intro k k0 k1 k2
    by_cases hk : k ≤ d
    · exact ih k k0 hk k2
    · have hd : (d : Int) < stN S s := by omega
      obtain ⟨j, j0, j1, j2⟩ := pl_seg hw h d hd
      obtain ⟨e1, e2⟩ := ih j j0 (by clear j2; omega) (by clear j2; omega)
      have jn : j < stN S s := by clear j2; omega
      obtain ⟨_, a2, a3⟩ := h.2 j j0 jn
      obtain ⟨_, b2, b3⟩ := h'.2 j j0 jn
      rcases j2 with ⟨g, g2⟩ | ⟨g, g2⟩
      · have hk1 : k = j + 1 := by omega
        subst hk1
        exact at2 _ k0 k2 ((a2 g).2 k2) ((b2 (by omega)).2 k2)
      · obtain ⟨_, c2, c3, c4, c5⟩ := a3 g
        obtain ⟨_, d2, d3, d4, d5⟩ := b3 (by omega)
        obtain ⟨f1, f2⟩ := e2 g
        rw [f1] at d2 d3 d4 d5
        by_cases ht : toE S s (j + l j) = k
        · subst ht
          exact at2 _ k0 k2 (c5 k2) (d5 k2)
        · have hkt : k < toE S s (j + l j) := by omega
          by_cases hkl : k < j + l j
          · have x1 := c2 k (by omega) hkl
            have x2 := d2 k (by omega) hkl
            exact ⟨by omega, fun z => by omega⟩
          · have x1 := c3 k (by omega) hkt
            have x2 := d3 k (by omega) hkt
            exact ⟨by omega, fun z => by omega⟩
theorem plTo_cf (c : cf S T) (h : plTo S pr κ s w l q a) : plTo T pr κ s w l q a := by
  refine ⟨h.1, fun k k0 k1 => ?_⟩
  obtain ⟨c1, c2, c3⟩ := h.2 k k0 k1
  refine ⟨c1, fun hw => ⟨fun b p hl => ?_, (c2 hw).2⟩, fun hw => ?_⟩
  · rw [c.l]
    exact (c2 hw).1 b p (c.g.mp hl)
  · obtain ⟨⟨d0, d1, d1'⟩, d2, d3, d4, d5⟩ := c3 hw
    rw [c.t]
    refine ⟨⟨c.g.mpr d0, by rw [c.l]; exact d1, fun b' p' hl he => d1' b' p' (c.g.mp hl) (by rw [c.l] at he; exact he)⟩, d2, d3, d4, d5⟩
theorem isPl_cf (c : cf S T) (h : isPl S pr κ s w l q) : isPl T pr κ s w l q := by
  unfold isPl
  rw [c.n]
  exact plTo_cf c h
end PL
