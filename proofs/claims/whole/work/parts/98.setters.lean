/-! SETTERS, both sides -/
section SE
variable {S T U : St} {s p v : Int}
def inS (s k j : Int) : Prop := (k = 0 ∧ j = 1) ∨ ((k = 5 ∨ k = 9) ∧ j = s) ∨ ((6 ≤ k ∧ k ≤ 8) ∧ 60 * s ≤ j ∧ j < 60 * s + 60) ∨ ((10 ≤ k ∧ k ≤ 12) ∧ 20 * s ≤ j ∧ j < 20 * s + 20) ∨ (k = 13 ∧ 81 * s ≤ j ∧ j < 81 * s + 81) ∨ (200 + 20 * s ≤ k ∧ k ≤ 200 + 20 * s + 8)
def inP (p k j : Int) : Prop := (k = 0 ∧ (j = 1 ∨ j = 14)) ∨ (((15 ≤ k ∧ k ≤ 19) ∨ k = 21) ∧ j = p) ∨ (k = 20 ∧ 8 * p ≤ j ∧ j < 8 * p + 8) ∨ (k = 22 ∧ 7 * p ≤ j ∧ j < 7 * p + 7) ∨ ((140 + 4 * p ≤ k ∧ k ≤ 140 + 4 * p + 3) ∧ (k ≠ 140 + 4 * p ∨ j ≠ 9))
theorem stN_fr (h : wfS S s) (f : ∀ k j, inS s k j → T k j = S k j) : stN T s = stN S s := by
  have f' : ∀ k j, _ → T k j = S k j := f
  unfold inS at f'
  unfold stN
  rw [f' 5 s (by omega), f' 0 1 (by omega)]
  split
  · rfl
  · have := h.1
    rw [f' 6 (60 * s + S 5 s - 1) (by omega)]
theorem wfS_fr (h : wfS S s) (f : ∀ k j, inS s k j → T k j = S k j) : wfS T s := by
  have en := stN_fr h f
  have f' : ∀ k j, _ → T k j = S k j := f
  unfold inS at f'
  obtain ⟨h1, h2, h3, h4, h5, h6, h7, h8⟩ := h
  unfold wfS
  rw [f' 5 s (by omega), f' 9 s (by omega), en]
  refine ⟨h1, h2, fun k k0 k1 => ?_, fun g => ?_, fun k k0 k1 => ?_, h6, fun k k0 k1 => ?_, fun c c0 c1 => ?_⟩
  · rw [f' 6 (60 * s + k) (by omega), f' 7 (60 * s + k) (by omega), f' 8 (60 * s + k) (by omega)]
    exact h3 k k0 k1
  · rw [f' 6 (60 * s) (by omega)]
    exact h4 g
  · rw [f' 6 (60 * s + k) (by omega), f' 6 (60 * s + (k + 1)) (by omega), f' 7 (60 * s + k) (by omega), f' 7 (60 * s + (k + 1)) (by omega)]
    exact h5 k k0 k1
  · rw [f' 10 (20 * s + k) (by omega), f' 11 (20 * s + k) (by omega), f' 12 (20 * s + k) (by omega)]
    exact h7 k k0 k1
  · rw [f' 13 (81 * s + c) (by omega)]
    exact h8 c c0 c1
theorem crS_fr (h : wfS S s) (f : ∀ k j, inS s k j → T k j = S k j) (c : crS S s) : crS T s := by
  have en := stN_fr h f
  have f' : ∀ k j, _ → T k j = S k j := f
  unfold inS at f'
  obtain ⟨c1, c2, c3, c4⟩ := c
  have g : ∀ k j, 200 + 20 * s ≤ k → k ≤ 200 + 20 * s + 8 → T k j = S k j := fun k j k1 k2 => f' k j (by omega)
  unfold crS
  rw [en, f' 0 1 (by omega), f' 5 s (by omega), f' 9 s (by omega), g _ 0 (by omega) (by omega), g _ 9 (by omega) (by omega), g _ 10 (by omega) (by omega), g _ 11 (by omega) (by omega)]
  refine ⟨c1, fun k k0 k1 => ?_, fun k k0 k1 => ?_, fun k k0 k1 => ?_⟩
  · rw [f' 6 (60 * s + k) (by omega), f' 7 (60 * s + k) (by omega), f' 8 (60 * s + k) (by omega), g _ k (by omega) (by omega), g _ k (by omega) (by omega), g _ k (by omega) (by omega)]
    exact c2 k k0 k1
  · rw [f' 10 (20 * s + k) (by omega), f' 11 (20 * s + k) (by omega), f' 12 (20 * s + k) (by omega), g _ k (by omega) (by omega), g _ k (by omega) (by omega), g _ k (by omega) (by omega)]
    exact c3 k k0 k1
  · rw [f' 13 (81 * s + k) (by omega), g _ k (by omega) (by omega)]
    exact c4 k k0 k1
theorem wfP_fr (h : wfP S p) (f : ∀ k j, inP p k j → T k j = S k j) : wfP T p := by
  have f' : ∀ k j, _ → T k j = S k j := f
  unfold inP at f'
  obtain ⟨h1, h2, h3, h4⟩ := h
  unfold wfP
  rw [f' 21 p (by omega), f' 0 14 (by omega), f' 15 p (by omega), f' 16 p (by omega), f' 17 p (by omega), f' 18 p (by omega), f' 19 p (by omega)]
  refine ⟨h1, fun d d0 d7 => ?_, fun k k0 k8 => ?_, h4⟩
  · rw [f' 22 (7 * p + d) (by omega)]
    exact h2 d d0 d7
  · rw [f' 20 (8 * p + k) (by omega)]
    exact h3 k k0 k8
theorem crP_fr (f : ∀ k j, inP p k j → T k j = S k j) (c : crP S p) : crP T p := by
  have f' : ∀ k j, _ → T k j = S k j := f
  unfold inP at f'
  obtain ⟨c1, c2, c3, c4⟩ := c
  have g : ∀ j, j ≠ 9 → T (140 + 4 * p) j = S (140 + 4 * p) j := fun j hj => f' _ j (by omega)
  unfold crP
  rw [f' 21 p (by omega), f' 0 14 (by omega), f' 0 1 (by omega), f' 15 p (by omega), f' 16 p (by omega), f' 17 p (by omega), f' 18 p (by omega), f' 19 p (by omega), g 0 (by omega), g 8 (by omega), g 3 (by omega), g 4 (by omega), g 5 (by omega), g 6 (by omega), g 7 (by omega)]
  refine ⟨c1, fun k k0 k8 => ?_, fun d d0 d7 => ?_, c4⟩
  · rw [f' 20 (8 * p + k) (by omega), f' (140 + 4 * p + 2) k (by omega)]
    exact c2 k k0 k8
  · rw [f' 22 (7 * p + d) (by omega), f' (140 + 4 * p + 3) d (by omega)]
    exact c3 d d0 d7
def okR (r1 r2 : Int) (T : St) : Prop := T 0 0 = r1 ∧ (r1 = 0 → T 330 0 = r2) ∧ InvS T
def okB (r1 r2 : Int) (T : St) : Prop := okR r1 r2 T ∧ (r2 = 0 ∨ r2 = 1)
theorem al_out : (0 : Int) ≤ 0 ∧ (0 : Int) < alen 330 := by
  unfold alen
  decide
theorem s_out {m : Int} {Q : Int → St → Prop} (q1 : v < 0 ∨ m < v → Q 1 S) (q0 : 0 ≤ v → v ≤ m → Q 0 S) : vpBT_isOutside v m S Q := by
  unfold vpBT_isOutside vBT_isOutside_12 vBT_isOutside_17
  exact ⟨fun h => ⟨Or.inr rfl, q1 (Or.inl h)⟩, fun h => ⟨fun g => ⟨Or.inl rfl, q0 (by omega) g⟩, fun g => ⟨Or.inr rfl, q1 (by omega)⟩⟩⟩
theorem s_isIn {a b : Int} {Q : Int → St → Prop} (q0 : v < a ∨ b < v → Q 0 S) (q1 : a ≤ v → v ≤ b → Q 1 S) : vpMo_isIn v a b S Q := by
  unfold vpMo_isIn vMo_isIn_17 vMo_isIn_18
  exact ⟨fun h => ⟨Or.inl rfl, q0 (Or.inl h)⟩, fun h => ⟨fun g => ⟨Or.inl rfl, q0 (Or.inr g)⟩, fun g => ⟨Or.inr rfl, q1 (by omega) (by omega)⟩⟩⟩
theorem s_told {Q : Int → St → Prop} (q : Q 1 (up S 0 33 0)) : vpMo_told 0 1 S Q := by
  unfold vpMo_told vMo_told_16 vMo_told_17
  exact ⟨fun _ => ⟨Or.inl rfl, fun S1 e1 => ⟨Or.inr rfl, by rw [e1]; exact q⟩⟩, fun _ => ⟨fun h => by omega, fun _ => ⟨Or.inl rfl, fun S1 e1 => ⟨Or.inr rfl, by rw [e1]; exact q⟩⟩⟩⟩
theorem s_noProduct {Q : Int → St → Prop} (q1 : (p < 0 ∨ S 0 14 ≤ p) → Q 1 (up S 0 0 1)) (q0 : 0 ≤ p → p < S 0 14 → Q 0 (up S 0 0 0)) : vpMo_noProduct 0 p S Q := by
  unfold vpMo_noProduct vMo_noProduct_13 vMo_noProduct_18 vMo_noProduct_33
  have a1 : (p < 0 ∨ S 0 14 ≤ p) → ∀ S1 : St, S1 = up S 0 0 1 → ((S1 0 0 ≤ 0 → ((0 : Int) = 0 ∨ (0 : Int) = 1) ∧ Q 0 S1) ∧ (¬ S1 0 0 ≤ 0 → ((1 : Int) = 0 ∨ (1 : Int) = 1) ∧ Q 1 S1)) := fun h S1 e1 => by
    have : S1 0 0 = 1 := by rw [e1, up_s]
    exact ⟨fun g => by omega, fun _ => ⟨Or.inr rfl, by rw [e1]; exact q1 h⟩⟩
  refine ⟨fun h => a1 (Or.inl h), fun h => ⟨fun g => fun S1 e1 => ?_, fun g => a1 (Or.inr (by omega))⟩⟩
  have : S1 0 0 = 0 := by rw [e1, up_s]
  exact ⟨fun _ => ⟨Or.inl rfl, by rw [e1]; exact q0 (by omega) g⟩, fun g => by omega⟩
theorem s_productAt {Q : Int → St → Prop} {QX : String → St → Prop} (c : cR S) (q1 : (p < 0 ∨ S 0 14 ≤ p) → QX "java/lang/IndexOutOfBoundsException" S) (q0 : 0 ≤ p → p < S 0 14 → Q (140 + 4 * p) S) : vpBT_productAt 100 p S Q QX := by
  have h14 := c.1.1.2.2.2.2
  unfold vpBT_productAt
  rw [c.2.1.2.1]
  refine ⟨by constructor <;> omega, s_out (fun h => ⟨fun g => by omega, fun _ => q1 (by omega)⟩) (fun h1 h2 => ⟨fun _ => ⟨by omega, q0 h1 (by omega)⟩, fun g => absurd rfl g⟩)⟩
theorem okB_e {r : Int} (h : InvS S) (r0 : r ≠ 0) (f : ∀ k j, ¬ (k = 0 ∧ j = 0) → T k j = S k j) (e : T 0 0 = r) : okB r 0 T := ⟨⟨e, fun g => absurd g r0, h.fr (fun k j h1 _ => f k j h1)⟩, Or.inl rfl⟩
theorem okB_0 (h : InvS S) (f : ∀ k j, ¬ (k = 0 ∧ j = 0) → k ≠ 330 → T k j = S k j) (e : T 0 0 = 0) (e3 : T 330 0 = 0) : okB 0 0 T := ⟨⟨e, fun _ => e3, h.fr f⟩, Or.inl rfl⟩
theorem up_n {k j k1 j1 : Int} (h : ¬ (k1 = k ∧ j1 = j)) : up S k j v k1 j1 = S k1 j1 := if_neg h
theorem op_margin (h : InvS S) : vpLa_margin 100 v 330 S (fun r1 S1 => vpMo_margin 0 v S1 (fun r2 S2 => okB r1 r2 S2)) := by
  have c := h.1
  have cB := c.2.1
  unfold vpLa_margin vpBT_margin vLa_margin_15 vpMo_margin vMo_margin_18 vMo_margin_36
  refine s_out (fun g => ⟨fun g2 => by omega, fun _ => ⟨fun _ => ?_, rfl⟩⟩) (fun g1 g2 => ⟨fun _ => ?_, fun g3 => absurd rfl g3⟩)
  · refine s_isIn (fun _ => ⟨fun _ => fun S1 e1 => ?_, fun g3 => absurd rfl g3⟩) (fun g3 g4 => by omega)
    have e0 : S1 0 0 = 1 := by rw [e1, up_s]
    exact ⟨fun _ => okB_e h (by omega) (fun k j hk => by rw [e1, up_n hk]) e0, fun g3 => by omega⟩
  · rw [cB.2.2.1]
    refine ⟨fun hv => ⟨fun _ => ⟨al_out, fun S2 e2 => ?_⟩, fun g3 => absurd rfl g3⟩, fun hv => fun S8 e8 S12 e12 => ⟨fun g3 => by omega, fun _ => ⟨al_out, fun S2 e2 => ?_⟩⟩⟩
    · refine s_isIn (fun _ => by omega) (fun _ _ => ⟨fun g3 => by omega, fun _ => fun S1 e1 => ?_⟩)
      have e0 : S1 0 0 = 0 := by rw [e1, up_s]
      have e02 : S1 0 2 = S 0 2 := by rw [e1, up_n (by omega), e2, up_n (by omega)]
      refine ⟨fun g3 => by omega, fun _ => ⟨fun _ => okB_0 h (fun k j h1 h2 => by rw [e1, up_n h1, e2, up_n (by omega)]) e0 (by rw [e1, up_n (by omega), e2, up_s]), fun g3 => by omega⟩⟩
    · refine s_isIn (fun _ => by omega) (fun _ _ => ⟨fun g3 => by omega, fun _ => fun S1 e1 => ?_⟩)
      have e0 : S1 0 0 = 0 := by rw [e1, up_s]
      have e02 : S1 0 2 = S 0 2 := by rw [e1, up_n (by omega), e2, up_n (by omega), e12, up_n (by omega), e8, up_n (by omega)]
      refine ⟨fun g3 => by omega, fun _ => ⟨fun g3 => by omega, fun _ => fun S7 e7 => ?_⟩⟩
      refine s_told ⟨Or.inr rfl, ?_⟩
      generalize eT : up S7 0 33 0 = T
      have fT : ∀ k j, ¬ (k = 0 ∧ (j = 0 ∨ j = 2 ∨ j = 33)) → ¬ (k = 100 ∧ (j = 5 ∨ j = 9)) → ¬ (k = 330 ∧ j = 0) → T k j = S k j := fun k j h1 h2 h3 => by
        rw [← eT, up_n (by omega), e7, up_n (by omega), e1, up_n (by omega), e2, up_n (by omega), e12, up_n (by omega), e8, up_n (by omega)]
      have t02 : T 0 2 = v := by rw [← eT, up_n (by omega), e7, up_s]
      have t105 : T 100 5 = v := by rw [← eT, up_n (by omega), e7, up_n (by omega), e1, up_n (by omega), e2, up_n (by omega), e12, up_n (by omega), e8, up_s]
      have cT : cR T := by
        obtain ⟨⟨hA, hS, hP⟩, _, cS, cP⟩ := c
        have fS : ∀ s, 0 ≤ s → s < 6 → ∀ k j, inS s k j → T k j = S k j := fun s s0 s6 k j hk => by
          unfold inS at hk
          exact fT k j (by omega) (by omega) (by omega)
        have fP : ∀ p, 0 ≤ p → p < 8 → ∀ k j, inP p k j → T k j = S k j := fun s s0 s6 k j hk => by
          unfold inP at hk
          exact fT k j (by omega) (by omega) (by omega)
        refine ⟨⟨?_, fun s s0 s6 => wfS_fr (hS s s0 s6) (fS s s0 s6), fun p p0 p8 => wfP_fr (hP p p0 p8) (fP p p0 p8)⟩, ?_, fun s s0 s6 => crS_fr (hS s s0 s6) (fS s s0 s6) (cS s s0 s6), fun p p0 p8 => crP_fr (fP p p0 p8) (cP p p0 p8)⟩
        · unfold wfA at hA ⊢
          rw [fT 0 1 (by omega) (by omega) (by omega), fT 0 3 (by omega) (by omega) (by omega), fT 0 4 (by omega) (by omega) (by omega), fT 0 14 (by omega) (by omega) (by omega), t02]
          omega
        · rw [fT 100 3 (by omega) (by omega) (by omega), fT 100 4 (by omega) (by omega) (by omega), fT 100 6 (by omega) (by omega) (by omega), fT 0 3 (by omega) (by omega) (by omega), fT 0 4 (by omega) (by omega) (by omega), fT 0 14 (by omega) (by omega) (by omega), t02, t105]
          exact ⟨cB.1, cB.2.1, rfl, cB.2.2.2⟩
      refine ⟨⟨?_, fun _ => ?_, InvS.told cT h (fT _ _ (by omega) (by omega) (by omega)) (fT _ _ (by omega) (by omega) (by omega)) ?_ ?_ (fT _ _ (by omega) (by omega) (by omega))⟩, Or.inr rfl⟩
      · rw [← eT, up_n (by omega), e7, up_n (by omega), e0]
      · rw [← eT, up_n (by omega), e7, up_n (by omega), e1, up_n (by omega), e2, up_s]
      · rw [← eT, up_n (by omega), e7, up_n (by omega), e1, up_n (by omega), e2, up_n (by omega), e12, up_s]
      · rw [← eT, up_s]
end SE
