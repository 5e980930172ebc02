/-! THE CLASS'S TABLE OF ONE STEM is the document's -/
section WO
variable {S T U : St} {s a b p x : Int}
/-- what the cutter writes -/
def wof (S T : St) : Prop := ∀ k, ¬ (104 ≤ k ∧ k ≤ 106) → ¬ (110 ≤ k ∧ k < 126) → T k = S k
theorem wof.rf : wof S S := fun _ _ _ => rfl
theorem wof.tr (h : wof S T) (g : wof T U) : wof S U := fun k a b => (g k a b).trans (h k a b)
theorem wof.cf (h : wof S T) : cf S T := fun k j hk => by rw [h k (by omega) (by omega)]
abbrev prC (S : St) : Int → Int := fun p => S (140 + 4 * p) 9
def prCB (S : St) : Prop := ∀ p, 0 ≤ p → p < S 0 14 → 0 ≤ prC S p ∧ prC S p ≤ 10000000
abbrev lst (S : St) (p : Int) : Int := S (140 + 4 * p) 3
theorem lst_iff (hm : wfM S) (hP : crP S p) (p0 : 0 ≤ p) (p8 : p < S 0 14) : (a + lst S p ≤ b ↔ S 15 p ≤ b * S 0 1 - a * S 0 1) ∧ 1 ≤ lst S p ∧ lst S p ≤ 10065536 := by
  obtain ⟨hA, hS, hPw⟩ := hm
  have w := (hPw p p0 (by have := hA.2.2.2.2; omega)).2.2.2 p8
  have e := (hP.2.2.2 p8).1
  unfold lst
  rw [e]
  have st := hA.1
  have h1 : (S 15 p + S 0 1 - 1) / S 0 1 ≤ b - a ↔ S 15 p ≤ (b - a) * S 0 1 := by
    constructor
    · intro h
      have h2 : (S 15 p + S 0 1 - 1) / S 0 1 < b - a + 1 := by omega
      rw [Int.ediv_lt_iff_lt_mul (by omega), Int.add_mul] at h2
      omega
    · intro h
      have h2 : (S 15 p + S 0 1 - 1) / S 0 1 < b - a + 1 := by
        rw [Int.ediv_lt_iff_lt_mul (by omega), Int.add_mul]
        omega
      omega
  rw [Int.sub_mul] at h1
  refine ⟨by omega, ?_, ?_⟩
  · rw [Int.le_ediv_iff_mul_le (by omega)]
    omega
  · have := Int.ediv_le_self (S 0 1) (show 0 ≤ S 15 p + S 0 1 - 1 by omega)
    omega
/-- the rank of an end in its window -/
def rkW (S : St) (κ : Int → Int) (s p b : Int) : Int := (S 19 p * b * 128 + κ (toE S s b)) * 128 + b
def wI (S T : St) (s p x : Int) : Prop :=
  (0 ≤ T (110 + 2 * p) 1 ∧ T (110 + 2 * p) 1 ≤ T (110 + 2 * p) 2 ∧ T (110 + 2 * p) 2 ≤ max 0 (stN S s + 1 - x - lst S p)) ∧
  (∀ i, T (110 + 2 * p) 1 ≤ i → i < T (110 + 2 * p) 2 → x + lst S p ≤ T (110 + 2 * p + 1) i % 128 ∧ T (110 + 2 * p + 1) i % 128 ≤ stN S s ∧ T (110 + 2 * p + 1) i = rkW S (T 104) s p (T (110 + 2 * p + 1) i % 128)) ∧
  (∀ i j, T (110 + 2 * p) 1 ≤ i → i < j → j < T (110 + 2 * p) 2 → T (110 + 2 * p + 1) j % 128 < T (110 + 2 * p + 1) i % 128 ∧ T (110 + 2 * p + 1) j ≤ T (110 + 2 * p + 1) i) ∧
  (∀ b, x + lst S p ≤ b → b ≤ stN S s → okP S s x b p → ∃ i, T (110 + 2 * p) 1 ≤ i ∧ i < T (110 + 2 * p) 2 ∧ T (110 + 2 * p + 1) i % 128 ≤ b ∧ rkW S (T 104) s p b ≤ T (110 + 2 * p + 1) i)
def kbd (S T : St) (s x : Int) : Prop := ∀ y, x < y → y ≤ stN S s → 0 ≤ T 104 y ∧ T 104 y ≤ 25600000 * (stN S s - y)
theorem rkW_b (hm : wfM S) (p0 : 0 ≤ p) (p8 : p < S 0 14) (hk : kbd S T s x) (x0 : 0 ≤ x) (n80 : stN S s ≤ 80) (xb : x < b) (bn : b ≤ stN S s) : 0 ≤ rkW S (T 104) s p b ∧ rkW S (T 104) s p b ≤ 1000000000000 ∧ rkW S (T 104) s p b % 128 = b := by
  have w := (hm.2.2 p p0 (by have := hm.1.2.2.2.2; omega)).2.2.2 p8
  have t := toE_b hm.1 bn
  have k := hk (toE S s b) (by omega) t.2
  have m := mul_bd w.2.2.2.1 w.2.2.2.2 (show 0 ≤ b by omega) (show b ≤ 80 by omega)
  unfold rkW
  have : 25600000 * (stN S s - toE S s b) ≤ 25600000 * 80 := by omega
  refine ⟨by omega, by omega, by omega⟩
theorem wI_eq (h : wI S T s p x) (l1 : 1 ≤ lst S p) (hw : wfA S) (e1 : ∀ y, x < y → y ≤ stN S s → U 104 y = T 104 y) (e2 : U (110 + 2 * p) = T (110 + 2 * p)) (e3 : U (110 + 2 * p + 1) = T (110 + 2 * p + 1)) : wI S U s p x := by
  have er : ∀ b, x + lst S p ≤ b → b ≤ stN S s → rkW S (U 104) s p b = rkW S (T 104) s p b := by
    intro b b1 b2
    have t := toE_b hw b2
    unfold rkW
    rw [e1 _ (by omega) t.2]
  obtain ⟨h1, h2, h3, h4⟩ := h
  unfold wI
  rw [e2, e3]
  refine ⟨h1, fun i i1 i2 => ?_, h3, fun b b1 b2 b3 => ?_⟩
  · obtain ⟨g1, g2, g3⟩ := h2 i i1 i2
    refine ⟨g1, g2, ?_⟩
    rw [er _ g1 g2]
    exact g3
  · obtain ⟨i, g1, g2, g3, g4⟩ := h4 b b1 b2 b3
    refine ⟨i, g1, g2, g3, ?_⟩
    rw [er _ b1 b2]
    exact g4
/-- one end comes in -/
theorem s_letEndIn {Q : St → Prop} (hm : wfM S) (hS : crS S s) (hP : crP S p) (p0 : 0 ≤ p) (p8 : p < S 0 14) (n80 : stN S s ≤ 80) (s0 : 0 ≤ s) (s6 : s < 6) (hF : wof S T) (a0 : 0 ≤ a) (an : a < stN S s) (hk : kbd S T s a) (hW : wI S T s p (a + 1)) (qq : ∀ U, (∀ k, k ≠ 110 + 2 * p → k ≠ 110 + 2 * p + 1 → U k = T k) → wI S U s p a → Q U) : vpCu_letEndIn 103 (200 + 20 * s) (110 + 2 * p) (140 + 4 * p) a (S 0 3) T Q := by
  obtain ⟨li, l1, l2⟩ := lst_iff (a := 0) (b := 0) hm hP p0 p8
  clear li
  have hA := hm.1
  have w := (hm.2.2 p p0 (by have := hm.1.2.2.2.2; omega)).2.2.2 p8
  obtain ⟨h1, h2, h3, h4⟩ := hW
  have wok : ∀ b, okP S s a b p → a + 1 + lst S p ≤ b → okP S s (a + 1) b p := fun b ho hb => ok_sub hA (by omega) (by omega) ho
  unfold vpCu_letEndIn vCu_letEndIn_64
  have e3 : T (140 + 4 * p) 3 = lst S p := by rw [hF (140 + 4 * p) (by omega) (by omega)]
  have e7 : T (140 + 4 * p) 7 = S 19 p := by rw [hF (140 + 4 * p) (by omega) (by omega)]; exact (hP.2.2.2 p8).2.2.2.2
  have e11 : T (200 + 20 * s) 11 = stN S s := by rw [hF (200 + 20 * s) (by omega) (by omega)]; exact hS.1.2.2.2
  rw [e3, e7, e11]
  refine ⟨by constructor <;> omega, fun z ez => ?_⟩
  subst ez
  refine ⟨fun hn => ?_, fun hn => ?_⟩
  · refine qq T (fun k _ _ => rfl) ⟨⟨h1.1, h1.2.1, by omega⟩, fun i i1 i2 => ?_, h3, fun b b1 b2 b3 => ?_⟩
    · have := h2 i i1 i2
      exact ⟨by omega, this.2⟩
    · omega
  · have hA3 := hA.2.2.1
    have em : min (stN S s) (a + lst S p + S 0 3) = toE S s (a + lst S p) := by unfold toE; omega
    rw [em]
    have t := toE_b (S := S) (s := s) (b := a + lst S p) hA (by omega)
    have rb := rkW_b (b := a + lst S p) hm p0 p8 hk a0 n80 (by omega) (by omega)
    have er : (S 19 p * (a + lst S p) * 128 + T 104 (toE S s (a + lst S p))) * 128 + (a + lst S p) = rkW S (T 104) s p (a + lst S p) := rfl
    rw [er]
    refine ⟨by constructor <;> omega, by omega, by constructor <;> omega, ?_⟩
    refine s_enter h1.1 h1.2.1 (by omega) (fun U B uF B1 B2 u2 uo ub ud ut => ?_)
    have u1 : U (110 + 2 * p) 1 = T (110 + 2 * p) 1 := uF _ _ (by omega) (by omega)
    have u104 : U 104 = T 104 := funext fun j => uF _ _ (by omega) (by omega)
    refine qq U (fun k k1 k2 => funext fun j => uF k j (by omega) (by omega)) ⟨⟨by omega, by omega, by omega⟩, fun i i1 i2 => ?_, fun i j i1 ij j2 => ?_, fun b b1 b2 b3 => ?_⟩
    · rw [u104]
      by_cases hi : i = B
      · subst hi
        rw [ub, rb.2.2]
        exact ⟨by omega, by omega, rfl⟩
      · rw [uo i (by omega)]
        have := h2 i (by omega) (by omega)
        exact ⟨by omega, this.2⟩
    · rw [uo i (by omega)]
      by_cases hj : j = B
      · subst hj
        rw [ub, rb.2.2]
        have g := h2 i (by omega) (by omega)
        refine ⟨by omega, ?_⟩
        have g2 := ut (by omega)
        by_cases hi : i = j - 1
        · rw [hi]
          exact g2
        · have g3 := (h3 i (j - 1) (by omega) (by omega) (by omega)).2
          omega
      · rw [uo j (by omega)]
        exact h3 i j (by omega) ij (by omega)
    · rw [u104]
      by_cases hb : b = a + lst S p
      · subst hb
        refine ⟨B, by omega, by omega, ?_, ?_⟩
        · rw [ub, rb.2.2]
          omega
        · rw [ub]
          omega
      · obtain ⟨i, i1, i2, i3, i4⟩ := h4 b (by omega) b2 (wok b b3 (by omega))
        by_cases hi : i < B
        · refine ⟨i, by omega, by omega, ?_, ?_⟩
          · rw [uo i hi]
            exact i3
          · rw [uo i hi]
            exact i4
        · have := ud i (by omega) i2
          refine ⟨B, by omega, by omega, ?_, ?_⟩
          · rw [ub, rb.2.2]
            omega
          · rw [ub]
            omega
/-- the furthest leave -/
theorem s_leaveW {r : Int} {Q : St → Prop} (hm : wfM S) (hP : crP S p) (p0 : 0 ≤ p) (p8 : p < S 0 14) (n80 : stN S s ≤ 80) (a0 : 0 ≤ a) (hk : kbd S T s a) (hr : ∀ b, a < b → b ≤ stN S s → (b ≤ r ↔ okP S s a b p)) (hW : wI S T s p a) (qq : ∀ U, (∀ k, k ≠ 110 + 2 * p → U k = T k) → wI S U s p a → (U (110 + 2 * p) 1 < U (110 + 2 * p) 2 → U (110 + 2 * p + 1) (U (110 + 2 * p) 1) % 128 ≤ r) → Q U) : vpWi_leaveBeyond (110 + 2 * p) r T Q := by
  obtain ⟨li, l1, l2⟩ := lst_iff (a := 0) (b := 0) hm hP p0 p8
  clear li
  obtain ⟨h1, h2, h3, h4⟩ := hW
  refine s_leave h1.1 h1.2.1 (by omega) (fun i i1 i2 => ?_) (fun U uF u1 u2 u3 u4 => ?_)
  · obtain ⟨g1, g2, g3⟩ := h2 i i1 i2
    have := rkW_b (b := T (110 + 2 * p + 1) i % 128) hm p0 p8 hk a0 n80 (by omega) g2
    omega
  · have e2 : U (110 + 2 * p) 2 = T (110 + 2 * p) 2 := uF _ _ (by omega)
    have e3 : U (110 + 2 * p + 1) = T (110 + 2 * p + 1) := funext fun j => uF _ _ (by omega)
    have e104 : U 104 = T 104 := funext fun j => uF _ _ (by omega)
    refine qq U (fun k k1 => funext fun j => uF k j (by omega)) ⟨⟨by omega, by omega, by omega⟩, ?_, ?_, ?_⟩ ?_
    · rw [e2, e3, e104]
      exact fun i i1 i2 => h2 i (by omega) i2
    · rw [e2, e3]
      exact fun i j i1 ij j2 => h3 i j (by omega) ij j2
    · rw [e2, e3, e104]
      intro b b1 b2 b3
      obtain ⟨i, i1, i2, i3, i4⟩ := h4 b b1 b2 b3
      refine ⟨i, ?_, i2, i3, i4⟩
      have hb := (hr b (by omega) b2).2 b3
      by_cases hi : i < U (110 + 2 * p) 1
      · have := u3 i i1 hi
        omega
      · omega
    · rw [e2, e3]
      exact u4
end WO
