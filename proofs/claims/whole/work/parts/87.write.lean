/-! THE PLAN AN OBJECT HOLDS -/
section WR
variable {S T U : St} {s a b p x K : Int} {pr κ : Int → Int} {w l q : Int → Int}
abbrev nL1 (S : St) (w : Int → Int) (i : Int) : Int := sm (lf S w (fun _ => 1)) i.toNat
def rowOK (S T : St) (K : Int) (l q : Int → Int) (j c : Int) : Prop := T (K + 1) (5 * c) = j / 81 ∧ T (K + 1) (5 * c + 1) = j % 81 ∧ T (K + 1) (5 * c + 2) = l j ∧ T (K + 1) (5 * c + 3) = q j ∧ T (K + 1) (5 * c + 4) = wv S (j / 81) (l j) (q j)
def pTo (S T : St) (K : Int) (w l q : Int → Int) (i : Int) : Prop :=
  T K 3 = nL1 S w i ∧ T K 4 = sm (lf S w (fun i => wv S (i / 81) (l i) (q i))) i.toNat ∧
  (∀ p, 0 ≤ p → p < 8 → T (K + 3) p = sm (lf S w (fun i => if q i = p then 1 else 0)) i.toNat) ∧
  (∀ j, isL S w j → j < i → rowOK S T K l q j (nL1 S w j)) ∧
  (∀ t k, 0 ≤ t → t < 6 → 0 ≤ k → k < 80 → (T (K + 2) (80 * t + k) = 0 ∨ T (K + 2) (80 * t + k) = 1) ∧ (T (K + 2) (80 * t + k) = 1 ↔ 81 * t + k < i ∧ t < S 0 4 ∧ k < stN S t ∧ w (81 * t + k) = 2))
abbrev pRel (S T : St) (K : Int) (w l q : Int → Int) : Prop := pTo S T K w l q (81 * S 0 4)
theorem nL_mono {i j : Int} (i0 : 0 ≤ i) (ij : i ≤ j) : nL1 S w i ≤ nL1 S w j := by
  have h : ∀ d : Nat, nL1 S w i ≤ nL1 S w (i + d) := by
    intro d
    induction d with
    | zero => rw [show i + ((0 : Nat) : Int) = i by omega]; omega
    | succ d ih =>
      have e : nL1 S w (i + ((d + 1 : Nat) : Int)) = nL1 S w (i + d) + lf S w (fun _ => 1) (i + d) := by
        rw [show i + ((d + 1 : Nat) : Int) = i + d + 1 by omega]
        exact sm_s (by omega)
      have : 0 ≤ lf S w (fun _ => 1) (i + d) := by
        unfold lf
        split
        · exact (by decide : (0 : Int) ≤ 1)
        · omega
      omega
  have := h (j - i).toNat
  rw [show i + ((j - i).toNat : Int) = j by omega] at this
  exact this
theorem nL_lt {i j : Int} (hi : isL S w i) (ij : i < j) : nL1 S w i < nL1 S w j := by
  have h1 : nL1 S w (i + 1) = nL1 S w i + lf S w (fun _ => 1) i := sm_s hi.1
  have h2 : lf S w (fun _ => 1) i = 1 := by
    unfold lf
    rw [if_pos ⟨hi.2.2.1, hi.2.2.2⟩]
  have h3 := nL_mono (S := S) (w := w) (show 0 ≤ i + 1 by have := hi.1; omega) (show i + 1 ≤ j by omega)
  omega
theorem nL_80 (hm : wfM S) : ∀ t : Nat, (t : Int) ≤ 6 → nL1 S w (81 * (t : Int)) ≤ 80 * t := by
  intro t
  induction t with
  | zero => intro _; exact Int.le_refl _
  | succ t ih =>
    intro ht
    have hs := hm.2.1 t (by omega) (by omega)
    have n0 := stN_0 hm.1 hs
    have n80 := hs.2.2.2.2.2.1
    have e : nL1 S w (81 * ((t : Int) + 1)) = _ := lf_stem (S := S) (s := t) (w := w) (g := fun _ => 1) (by omega) n0 n80
    have b := sm_b (f := fun k => if w (81 * (t : Int) + k) = 1 then 1 else 0) 1 (stN S t).toNat (fun i _ _ => by show 0 ≤ (if w (81 * (t : Int) + i) = 1 then (1 : Int) else 0) ∧ _; split <;> omega)
    have := ih (by omega)
    rw [show ((t + 1 : Nat) : Int) = (t : Int) + 1 by omega, e]
    show nL1 S w (81 * (t : Int)) + _ ≤ _
    omega
theorem nL_in (hm : wfM S) (s0 : 0 ≤ s) (s6 : s < 6) (a0 : 0 ≤ a) : nL1 S w (81 * s + a) ≤ 80 * s + a := by
  have h0 := nL_80 (w := w) hm s.toNat (by omega)
  rw [show ((s.toNat : Nat) : Int) = s by omega] at h0
  have h : ∀ d : Nat, nL1 S w (81 * s + d) ≤ 80 * s + d := by
    intro d
    induction d with
    | zero => rw [show 81 * s + ((0 : Nat) : Int) = 81 * s by omega]; omega
    | succ d ih =>
      have e : nL1 S w (81 * s + ((d + 1 : Nat) : Int)) = nL1 S w (81 * s + d) + lf S w (fun _ => 1) (81 * s + d) := by
        rw [show 81 * s + ((d + 1 : Nat) : Int) = 81 * s + d + 1 by omega]
        exact sm_s (by omega)
      have : lf S w (fun _ => 1) (81 * s + d) ≤ 1 := by
        unfold lf
        split
        · exact (by decide : (1 : Int) ≤ 1)
        · omega
      omega
  have := h a.toNat
  rw [show ((a.toNat : Nat) : Int) = a by omega] at this
  exact this
theorem nL_0 {i : Int} (i0 : 0 ≤ i) : 0 ≤ nL1 S w i := by
  have := nL_mono (S := S) (w := w) (show (0 : Int) ≤ 0 by omega) i0
  have e : nL1 S w 0 = 0 := rfl
  omega
/-- only the plan's own cells -/
def plf (S T : St) (K : Int) : Prop := ∀ k, ¬ (K ≤ k ∧ k ≤ K + 3) → T k = S k
theorem plf.rf : plf S S K := fun _ _ => rfl
theorem plf.tr (h : plf S T K) (g : plf T U K) : plf S U K := fun k a => (g k a).trans (h k a)
theorem plf.cf (h : plf S T K) (hK : 100 ≤ K) : cf S T := fun k j hk => by rw [h k (by omega)]
theorem s_clear {Q : St → Prop} (qq : ∀ T, plf S T K → pTo S T K w l q 0 → Q T) : vpPl_clear K S Q := by
  unfold vpPl_clear
  refine lp2 (fun n x U => vPl_clear_2 Q n K x U) (fun x U => (0 ≤ x ∧ x ≤ 480) ∧ plf S U K ∧ ∀ i, 0 ≤ i → i < x → U (K + 2) i = 0) (fun x _ => (480 - x).toNat) (fun n x U hI ih => ?_) 0 S ⟨by omega, plf.rf, fun i _ _ => by omega⟩
  obtain ⟨hx, hF, h0⟩ := hI
  unfold vPl_clear_2
  refine ⟨by constructor <;> omega, fun hc => ?_, fun hc => ⟨by omega, Or.inl rfl, fun S5 e5 => ⟨by constructor <;> omega, fun z ez => ?_⟩⟩⟩
  · refine lp2 (fun n y V => vPl_clear_26 Q n K y V) (fun y V => (0 ≤ y ∧ y ≤ 8) ∧ plf S V K ∧ (∀ i, 0 ≤ i → i < 480 → V (K + 2) i = 0) ∧ ∀ p, 0 ≤ p → p < y → V (K + 3) p = 0) (fun y _ => (8 - y).toNat) (fun n y V hJ jh => ?_) 0 U ⟨by omega, hF, fun i i0 i1 => h0 i i0 (by omega), fun i _ _ => by omega⟩
    obtain ⟨hy, vF, v0, v3⟩ := hJ
    unfold vPl_clear_26
    refine ⟨fun hd => fun S2 e2 S6 e6 => ?_, fun hd => ⟨by omega, fun S11 e11 => ⟨by constructor <;> omega, fun z ez => ?_⟩⟩⟩
    · have ek : ∀ k, k ≠ K → S6 k = V k := fun k hk => funext fun j => by rw [e6, up_k hk, e2, up_k hk]
      refine qq S6 (fun k hk => by rw [ek k (by omega)]; exact vF k hk) ⟨?_, ?_, fun p p0 p8 => ?_, fun j hj h => ?_, fun t k t0 t6 k0 k8 => ?_⟩
      · rw [e6, up_j (by omega), e2, up_s]
        rfl
      · rw [e6, up_s]
        rfl
      · rw [ek _ (by omega), v3 p p0 (by omega)]
        rfl
      · have := hj.1
        omega
      · rw [ek _ (by omega), v0 (80 * t + k) (by omega) (by omega)]
        exact ⟨Or.inl rfl, fun h => by omega, fun h => by omega⟩
    · subst ez
      refine jh (y + 1) S11 ⟨by omega, fun k hk => ?_, fun i i0 i1 => ?_, fun p p0 p1 => ?_⟩ (by show (8 - (y + 1)).toNat < (8 - y).toNat; omega)
      · funext j
        rw [e11, up_k (by omega), vF k hk]
      · rw [e11, up_k (by omega)]
        exact v0 i i0 i1
      · by_cases hp : p = y
        · rw [hp, e11, up_s]
        · rw [e11, up_j hp]
          exact v3 p p0 (by omega)
  · subst ez
    refine ih (x + 1) S5 ⟨by omega, fun k hk => ?_, fun i i0 i1 => ?_⟩ (by show (480 - (x + 1)).toNat < (480 - x).toNat; omega)
    · funext j
      rw [e5, up_k (by omega), hF k hk]
    · by_cases hi : i = x
      · rw [hi, e5, up_s]
      · rw [e5, up_j hi]
        exact h0 i i0 (by omega)
theorem s_burn {f c : Int} {Q : St → Prop} (s0 : 0 ≤ s) (s6 : s < 6) (f0 : 0 ≤ f) (c0 : 0 ≤ c) (fc : f + c ≤ 80) (qq : ∀ T, (∀ k j, ¬ (k = K + 2 ∧ 80 * s + f ≤ j ∧ j < 80 * s + f + c) → T k j = S k j) → (∀ j, 80 * s + f ≤ j → j < 80 * s + f + c → T (K + 2) j = 1) → Q T) : vpPl_burn K s f c S Q := by
  unfold vpPl_burn
  refine lp2 (fun n x U => vPl_burn_3 Q n K s f c x U) (fun x U => (f ≤ x ∧ x ≤ f + c) ∧ (∀ k j, ¬ (k = K + 2 ∧ 80 * s + f ≤ j ∧ j < 80 * s + x) → U k j = S k j) ∧ ∀ j, 80 * s + f ≤ j → j < 80 * s + x → U (K + 2) j = 1) (fun x _ => (f + c - x).toNat) (fun n x U hI ih => ?_) f S ⟨by omega, fun _ _ _ => rfl, fun j _ _ => by omega⟩
  obtain ⟨hx, hF, h1⟩ := hI
  unfold vPl_burn_3
  refine ⟨by constructor <;> omega, fun hc => ?_, fun hc => ⟨by omega, Or.inr rfl, fun S5 e5 => ⟨by constructor <;> omega, fun z ez => ?_⟩⟩⟩
  · have : x = f + c := by omega
    subst this
    exact qq U (fun k j h => hF k j (by omega)) (fun j j1 j2 => h1 j j1 (by omega))
  · subst ez
    refine ih (x + 1) S5 ⟨by omega, fun k j hk => ?_, fun j j1 j2 => ?_⟩ (by show (f + c - (x + 1)).toNat < (f + c - x).toNat; omega)
    · rw [e5]
      unfold up
      rw [if_neg (by omega)]
      exact hF k j (by omega)
    · by_cases hj : j = s * 80 + x
      · rw [hj, e5, up_s]
      · rw [e5, up_j hj]
        exact h1 j j1 (by omega)
theorem s_addLog {p0 p1 p2 p3 p4 : Int} {Q : St → Prop} (h3 : 0 ≤ S K 3 ∧ S K 3 < 480) (r4 : rI p4) (hp3 : 0 ≤ p3 ∧ p3 < 8) (hc : 0 ≤ S (K + 3) p3 ∧ S (K + 3) p3 ≤ 1000) (hw : rJ (S K 4 + p4)) (qq : ∀ T, plf S T K → T K 3 = S K 3 + 1 → T K 4 = S K 4 + p4 → (∀ p, T (K + 3) p = if p = p3 then S (K + 3) p + 1 else S (K + 3) p) → (∀ j, T (K + 2) j = S (K + 2) j) → (∀ j, ¬ (5 * S K 3 ≤ j ∧ j < 5 * S K 3 + 5) → T (K + 1) j = S (K + 1) j) → (T (K + 1) (5 * S K 3) = p0 ∧ T (K + 1) (5 * S K 3 + 1) = p1 ∧ T (K + 1) (5 * S K 3 + 2) = p2 ∧ T (K + 1) (5 * S K 3 + 3) = p3 ∧ T (K + 1) (5 * S K 3 + 4) = p4) → Q T) : vpPl_addLog K p0 p1 p2 p3 p4 S Q := by
  unfold vpPl_addLog
  refine ⟨by constructor <;> omega, fun z ez => ⟨by omega, fun S5 e5 => ⟨by omega, fun S10 e10 => ⟨by omega, fun S15 e15 => ⟨by omega, fun S20 e20 => ⟨by omega, r4, fun S26 e26 => ?_⟩⟩⟩⟩⟩⟩
  have o26 : ∀ k j, ¬ (k = K + 1) → S26 k j = S k j := fun k j h => by rw [e26, up_k h, e20, up_k h, e15, up_k h, e10, up_k h, e5, up_k h]
  rw [o26 K 3 (by omega)]
  refine ⟨by constructor <;> omega, fun S30 e30 => ⟨by omega, by omega, ?_⟩⟩
  have o30 : ∀ k j, ¬ (k = K + 1) → ¬ (k = K ∧ j = 3) → S30 k j = S k j := fun k j h g => by rw [e30]; unfold up; rw [if_neg g]; exact o26 k j h
  rw [o30 (K + 3) p3 (by omega) (by omega)]
  refine ⟨by constructor <;> omega, fun S38 e38 => ?_⟩
  have o38 : S38 K 4 = S K 4 := by rw [e38, up_k (by omega)]; exact o30 _ _ (by omega) (by omega)
  rw [o38]
  refine ⟨hw, fun S42 e42 => ?_⟩
  have row : ∀ j, S42 (K + 1) j = S26 (K + 1) j := fun j => by rw [e42, up_k (by omega), e38, up_k (by omega), e30, up_k (by omega)]
  refine qq S42 (fun k hk => ?_) ?_ ?_ (fun p => ?_) (fun j => ?_) (fun j hj => ?_) ⟨?_, ?_, ?_, ?_, ?_⟩
  · funext j
    rw [e42, up_k (by omega), e38, up_k (by omega)]
    exact o30 k j (by omega) (by omega)
  · rw [e42, up_j (by omega), e38, up_k (by omega), e30, up_s]
  · rw [e42, up_s]
  · rw [e42, up_k (by omega), e38]
    by_cases hp : p = p3
    · rw [if_pos hp, hp, up_s]
    · rw [if_neg hp, up_j hp]
      exact o30 _ _ (by omega) (by omega)
  · rw [e42, up_k (by omega), e38, up_k (by omega)]
    exact o30 _ _ (by omega) (by omega)
  · rw [row, e26, up_j (by omega), e20, up_j (by omega), e15, up_j (by omega), e10, up_j (by omega), e5, up_j (by omega)]
  · rw [row, e26, up_j (by omega), e20, up_j (by omega), e15, up_j (by omega), e10, up_j (by omega), show 5 * S K 3 = z + 0 by omega, e5, up_s]
  · rw [row, e26, up_j (by omega), e20, up_j (by omega), e15, up_j (by omega), show 5 * S K 3 + 1 = z + 1 by omega, e10, up_s]
  · rw [row, e26, up_j (by omega), e20, up_j (by omega), show 5 * S K 3 + 2 = z + 2 by omega, e15, up_s]
  · rw [row, e26, up_j (by omega), show 5 * S K 3 + 3 = z + 3 by omega, e20, up_s]
  · rw [row, show 5 * S K 3 + 4 = z + 4 by omega, e26, up_s]
end WR
