/-! THE DOCUMENT'S NUMBERS over a state: stN the steps of stem s, mayP which log may be -/
def stN (S : St) (s : Int) : Int := if S 5 s = 0 then 0 else S 6 (60 * s + S 5 s - 1) / S 0 1
def wfA (S : St) : Prop := (1 ≤ S 0 1 ∧ S 0 1 ≤ 65536) ∧ (0 ≤ S 0 2 ∧ S 0 2 ≤ 100000) ∧ (0 ≤ S 0 3 ∧ S 0 3 ≤ 3) ∧ (1 ≤ S 0 4 ∧ S 0 4 ≤ 6) ∧ (0 ≤ S 0 14 ∧ S 0 14 ≤ 8)
def wfS (S : St) (s : Int) : Prop := (0 ≤ S 5 s ∧ S 5 s ≤ 60) ∧ (0 ≤ S 9 s ∧ S 9 s ≤ 20) ∧ (∀ k, 0 ≤ k → k < S 5 s → (0 ≤ S 6 (60 * s + k) ∧ S 6 (60 * s + k) ≤ 10000000) ∧ (0 ≤ S 7 (60 * s + k) ∧ S 7 (60 * s + k) ≤ 100000) ∧ (0 ≤ S 8 (60 * s + k) ∧ S 8 (60 * s + k) ≤ 100000)) ∧ (0 < S 5 s → S 6 (60 * s) = 0) ∧ (∀ k, 0 ≤ k → k + 1 < S 5 s → S 6 (60 * s + k) < S 6 (60 * s + (k + 1)) ∧ S 7 (60 * s + (k + 1)) ≤ S 7 (60 * s + k)) ∧ stN S s ≤ 80 ∧ (∀ k, 0 ≤ k → k < S 9 s → (0 ≤ S 10 (20 * s + k) ∧ S 10 (20 * s + k) < S 11 (20 * s + k) ∧ S 11 (20 * s + k) ≤ 10000000) ∧ (0 ≤ S 12 (20 * s + k) ∧ S 12 (20 * s + k) ≤ 7)) ∧ (∀ c, 0 ≤ c → c ≤ 80 → S 13 (81 * s + c) = 0 ∨ S 13 (81 * s + c) = 1)
def wfP (S : St) (p : Int) : Prop := (-1 ≤ S 21 p ∧ S 21 p ≤ 1000) ∧ (∀ d, 0 ≤ d → d < 7 → 0 ≤ S 22 (7 * p + d) ∧ S 22 (7 * p + d) ≤ 100000) ∧ (∀ k, 0 ≤ k → k < 8 → S 20 (8 * p + k) = 0 ∨ S 20 (8 * p + k) = 1) ∧ (p < S 0 14 → (1 ≤ S 15 p ∧ S 15 p ≤ S 16 p ∧ S 16 p ≤ 10000000) ∧ (0 ≤ S 17 p ∧ S 17 p ≤ 100000) ∧ (0 ≤ S 18 p ∧ S 18 p ≤ 100000) ∧ (0 ≤ S 19 p ∧ S 19 p ≤ 100000))
def wfM (S : St) : Prop := wfA S ∧ (∀ s, 0 ≤ s → s < 6 → wfS S s) ∧ (∀ p, 0 ≤ p → p < 8 → wfP S p)
def ptsOK (S : St) (s a b p : Int) : Prop := ∀ k, 0 ≤ k → k < S 5 s → (k = 0 ∨ S 6 (60 * s + (k - 1)) < b * S 0 1) → (k + 1 = S 5 s ∨ a * S 0 1 < S 6 (60 * s + (k + 1))) → S 17 p ≤ S 7 (60 * s + k) - S 0 2 ∧ S 8 (60 * s + k) + S 0 2 ≤ S 18 p
def okP (S : St) (s a b p : Int) : Prop := b * S 0 1 - a * S 0 1 ≤ S 16 p ∧ (∀ c, a < c → c < b → S 13 (81 * s + c) = 0) ∧ (∀ k, 0 ≤ k → k < S 9 s → S 20 (8 * p + S 12 (20 * s + k)) = 0 ∨ b * S 0 1 ≤ S 10 (20 * s + k) ∨ S 11 (20 * s + k) ≤ a * S 0 1) ∧ ptsOK S s a b p
def mayP (S : St) (s a b p : Int) : Prop := S 15 p ≤ b * S 0 1 - a * S 0 1 ∧ okP S s a b p
section MA
variable {S : St} {s a b p : Int}
theorem stN_0 (h : wfA S) (hs : wfS S s) : 0 ≤ stN S s := by
  unfold stN
  split
  · omega
  · obtain ⟨h1, _, h3, _⟩ := hs
    have := (h3 (S 5 s - 1) (by omega) (by omega)).1
    rw [show 60 * s + S 5 s - 1 = 60 * s + (S 5 s - 1) by omega]
    exact Int.ediv_nonneg this.1 (by have := h.1; omega)
theorem stN_mul (h : wfA S) (hs : wfS S s) (hb0 : 0 < b) (hb : b ≤ stN S s) : 0 < S 5 s ∧ b * S 0 1 ≤ S 6 (60 * s + (S 5 s - 1)) := by
  unfold stN at hb
  split at hb
  · omega
  · obtain ⟨h1, _, h3, _⟩ := hs
    refine ⟨by omega, ?_⟩
    rw [show 60 * s + S 5 s - 1 = 60 * s + (S 5 s - 1) by omega] at hb
    have h5 : b * S 0 1 ≤ S 6 (60 * s + (S 5 s - 1)) / S 0 1 * S 0 1 := Int.mul_le_mul_of_nonneg_right hb (by have := h.1; omega)
    have h6 := Int.ediv_mul_le (S 6 (60 * s + (S 5 s - 1))) (show S 0 1 ≠ 0 by have := h.1; omega)
    omega
theorem mul_lt (h : wfA S) (hab : a < b) : a * S 0 1 < b * S 0 1 := Int.mul_lt_mul_of_pos_right hab (by have := h.1; omega)
theorem mul_le (h : wfA S) (hab : a ≤ b) : a * S 0 1 ≤ b * S 0 1 := Int.mul_le_mul_of_nonneg_right hab (by have := h.1; omega)
theorem mul_0 (h : wfA S) (ha : 0 ≤ a) : 0 ≤ a * S 0 1 := Int.mul_nonneg ha (by have := h.1; omega)
/-- places grow, tops never do -/
theorem pl_lt (hs : wfS S s) : ∀ (d : Nat) (k : Int), 0 ≤ k → k + (d + 1) < S 5 s → S 6 (60 * s + k) < S 6 (60 * s + (k + (d + 1))) := by
  intro d
  induction d with
  | zero => intro k h0 h1; exact (hs.2.2.2.2.1 k h0 (by omega)).1
  | succ d ih =>
    intro k h0 h1
    have h2 := ih k h0 (by omega)
    have h3 := (hs.2.2.2.2.1 (k + (d + 1)) (by omega) (by omega)).1
    rw [show k + (((d + 1 : Nat) : Int) + 1) = k + ((d : Int) + 1) + 1 by omega]
    omega
theorem pl_mono (hs : wfS S s) {j k : Int} (h0 : 0 ≤ j) (hjk : j < k) (hk : k < S 5 s) : S 6 (60 * s + j) < S 6 (60 * s + k) := by
  have := pl_lt hs (k - j - 1).toNat j h0 (by omega)
  rw [show j + (((k - j - 1).toNat : Int) + 1) = k by omega] at this
  exact this
theorem tp_le (hs : wfS S s) : ∀ (d : Nat) (k : Int), 0 ≤ k → k + d < S 5 s → S 7 (60 * s + (k + d)) ≤ S 7 (60 * s + k) := by
  intro d
  induction d with
  | zero => intro k h0 h1; rw [show k + ((0 : Nat) : Int) = k by omega]; omega
  | succ d ih =>
    intro k h0 h1
    have h2 := ih k h0 (by omega)
    have h3 := (hs.2.2.2.2.1 (k + d) (by omega) (by omega)).2
    rw [show k + ((d + 1 : Nat) : Int) = k + (d : Int) + 1 by omega]
    omega
theorem tp_mono (hs : wfS S s) {j k : Int} (h0 : 0 ≤ j) (hjk : j ≤ k) (hk : k < S 5 s) : S 7 (60 * s + k) ≤ S 7 (60 * s + j) := by
  have := tp_le hs (k - j).toNat j h0 (by omega)
  rw [show j + ((k - j).toNat : Int) = k by omega] at this
  exact this
/-- a part of a log that may be, but for its length, may be too -/
theorem ok_sub {a' : Int} (h : wfA S) (ha : a ≤ a') (hb : a' < b) (ho : okP S s a b p) : okP S s a' b p := by
  obtain ⟨h1, h2, h3, h4⟩ := ho
  have hm := mul_le h ha
  refine ⟨by omega, fun c c1 c2 => h2 c (by omega) c2, fun k k0 k1 => ?_, fun k k0 k1 k2 k3 => h4 k k0 k1 k2 (by omega)⟩
  rcases h3 k k0 k1 with q | q | q
  · exact Or.inl q
  · exact Or.inr (Or.inl q)
  · exact Or.inr (Or.inr (by omega))
end MA
