section SF
variable {S T U : St} {s p v d : Int}
theorem cR_mk (c : cR S) (hA : wfA T) (hB : T 100 3 = T 0 4 ∧ T 100 4 = T 0 14 ∧ T 100 5 = T 0 2 ∧ T 100 6 = T 0 3) (fS : ∀ s, 0 ≤ s → s < 6 → (wfS T s ∧ crS T s) ∨ (∀ k j, inS s k j → T k j = S k j)) (fP : ∀ p, 0 ≤ p → p < 8 → (wfP T p ∧ crP T p) ∨ (∀ k j, inP p k j → T k j = S k j)) : cR T := by
  obtain ⟨⟨_, hS, hP⟩, _, cS, cP⟩ := c
  have aS : ∀ s, 0 ≤ s → s < 6 → wfS T s ∧ crS T s := fun s s0 s6 => (fS s s0 s6).elim id (fun f => ⟨wfS_fr (hS s s0 s6) f, crS_fr (hS s s0 s6) f (cS s s0 s6)⟩)
  have aP : ∀ p, 0 ≤ p → p < 8 → wfP T p ∧ crP T p := fun p p0 p8 => (fP p p0 p8).elim id (fun f => ⟨wfP_fr (hP p p0 p8) f, crP_fr f (cP p p0 p8)⟩)
  exact ⟨⟨hA, fun s s0 s6 => (aS s s0 s6).1, fun p p0 p8 => (aP p p0 p8).1⟩, hB, fun s s0 s6 => (aS s s0 s6).2, fun p p0 p8 => (aP p p0 p8).2⟩
theorem wfA_eq (h : wfA S) (f : ∀ j, 1 ≤ j → j ≤ 14 → T 0 j = S 0 j) : wfA T := by
  unfold wfA at *
  rw [f 1 (by omega) (by omega), f 2 (by omega) (by omega), f 3 (by omega) (by omega), f 4 (by omega) (by omega), f 14 (by omega) (by omega)]
  exact h
theorem cB_eq (c : cR S) (f : ∀ j, 1 ≤ j → j ≤ 14 → T 0 j = S 0 j) (g : ∀ j, 3 ≤ j → j ≤ 6 → T 100 j = S 100 j) : T 100 3 = T 0 4 ∧ T 100 4 = T 0 14 ∧ T 100 5 = T 0 2 ∧ T 100 6 = T 0 3 := by
  rw [g 3 (by omega) (by omega), g 4 (by omega) (by omega), g 5 (by omega) (by omega), g 6 (by omega) (by omega), f 4 (by omega) (by omega), f 14 (by omega) (by omega), f 2 (by omega) (by omega), f 3 (by omega) (by omega)]
  exact c.2.1
theorem op_saw (h : InvS S) : vpLa_saw 100 v 330 S (fun r1 S1 => vpMo_saw 0 v S1 (fun r2 S2 => okB r1 r2 S2)) := by
  have c := h.1
  have cB := c.2.1
  unfold vpLa_saw vpBT_saw vLa_saw_15 vpMo_saw vMo_saw_18 vMo_saw_36
  refine s_out (fun g => ⟨fun g2 => by omega, fun _ => ⟨fun _ => ?_, rfl⟩⟩) (fun g1 g2 => ⟨fun _ => ?_, fun g3 => absurd rfl g3⟩)
  · refine s_isIn (fun _ => ⟨fun _ => fun S1 e1 => ?_, fun g3 => absurd rfl g3⟩) (fun g3 g4 => by omega)
    have e0 : S1 0 0 = 1 := by rw [e1, up_s]
    exact ⟨fun _ => okB_e h (by omega) (fun k j hk => by rw [e1, up_n hk]) e0, fun g3 => by omega⟩
  · rw [cB.2.2.2]
    refine ⟨fun hv => ⟨fun _ => ⟨al_out, fun S2 e2 => ?_⟩, fun g3 => absurd rfl g3⟩, fun hv => fun S8 e8 S12 e12 => ⟨fun g3 => by omega, fun _ => ⟨al_out, fun S2 e2 => ?_⟩⟩⟩
    · refine s_isIn (fun _ => by omega) (fun _ _ => ⟨fun g3 => by omega, fun _ => fun S1 e1 => ?_⟩)
      have e0 : S1 0 0 = 0 := by rw [e1, up_s]
      have e02 : S1 0 3 = S 0 3 := by rw [e1, up_n (by omega), e2, up_n (by omega)]
      refine ⟨fun g3 => by omega, fun _ => ⟨fun _ => okB_0 h (fun k j h1 h2 => by rw [e1, up_n h1, e2, up_n (by omega)]) e0 (by rw [e1, up_n (by omega), e2, up_s]), fun g3 => by omega⟩⟩
    · refine s_isIn (fun _ => by omega) (fun _ _ => ⟨fun g3 => by omega, fun _ => fun S1 e1 => ?_⟩)
      have e0 : S1 0 0 = 0 := by rw [e1, up_s]
      have e02 : S1 0 3 = S 0 3 := by rw [e1, up_n (by omega), e2, up_n (by omega), e12, up_n (by omega), e8, up_n (by omega)]
      refine ⟨fun g3 => by omega, fun _ => ⟨fun g3 => by omega, fun _ => fun S7 e7 => ?_⟩⟩
      refine s_told ⟨Or.inr rfl, ?_⟩
      generalize eT : up S7 0 33 0 = T
      have fT : ∀ k j, ¬ (k = 0 ∧ (j = 0 ∨ j = 3 ∨ j = 33)) → ¬ (k = 100 ∧ (j = 6 ∨ j = 9)) → ¬ (k = 330 ∧ j = 0) → T k j = S k j := fun k j h1 h2 h3 => by
        rw [← eT, up_n (by omega), e7, up_n (by omega), e1, up_n (by omega), e2, up_n (by omega), e12, up_n (by omega), e8, up_n (by omega)]
      have t02 : T 0 3 = v := by rw [← eT, up_n (by omega), e7, up_s]
      have t105 : T 100 6 = v := by rw [← eT, up_n (by omega), e7, up_n (by omega), e1, up_n (by omega), e2, up_n (by omega), e12, up_n (by omega), e8, up_s]
      have cT : cR T := by
        have hA := c.1.1
        refine cR_mk c ?_ ?_ (fun s s0 s6 => Or.inr (fun k j hk => ?_)) (fun s s0 s6 => Or.inr (fun k j hk => ?_))
        · unfold wfA at hA ⊢
          rw [fT 0 1 (by omega) (by omega) (by omega), fT 0 2 (by omega) (by omega) (by omega), fT 0 4 (by omega) (by omega) (by omega), fT 0 14 (by omega) (by omega) (by omega), t02]
          omega
        · rw [fT 100 3 (by omega) (by omega) (by omega), fT 100 4 (by omega) (by omega) (by omega), fT 100 5 (by omega) (by omega) (by omega), fT 0 2 (by omega) (by omega) (by omega), fT 0 4 (by omega) (by omega) (by omega), fT 0 14 (by omega) (by omega) (by omega), t02, t105]
          exact ⟨cB.1, cB.2.1, cB.2.2.1, rfl⟩
        · unfold inS at hk
          exact fT k j (by omega) (by omega) (by omega)
        · unfold inP at hk
          exact fT k j (by omega) (by omega) (by omega)
      refine ⟨⟨?_, fun _ => ?_, InvS.told cT h (fT _ _ (by omega) (by omega) (by omega)) (fT _ _ (by omega) (by omega) (by omega)) ?_ ?_ (fT _ _ (by omega) (by omega) (by omega))⟩, Or.inr rfl⟩
      · rw [← eT, up_n (by omega), e7, up_n (by omega), e0]
      · rw [← eT, up_n (by omega), e7, up_n (by omega), e1, up_n (by omega), e2, up_s]
      · rw [← eT, up_n (by omega), e7, up_n (by omega), e1, up_n (by omega), e2, up_n (by omega), e12, up_s]
      · rw [← eT, up_s]
/-- what a told limit leaves -/
theorem cR_limit (c : cR S) (p0 : 0 ≤ p) (p8 : p < S 0 14) (v0 : 0 ≤ v) (v1 : v ≤ 1000) (fT : ∀ k j, ¬ (k = 0 ∧ (j = 0 ∨ j = 33)) → ¬ (k = 21 ∧ j = p) → ¬ (k = 140 + 4 * p ∧ j = 8) → ¬ (k = 100 ∧ j = 9) → k ≠ 330 → T k j = S k j) (t1 : T 21 p = v) (t2 : T (140 + 4 * p) 8 = v) : cR T := by
  have h14 := c.1.1.2.2.2.2
  refine cR_mk c (wfA_eq c.1.1 (fun j _ _ => fT _ _ (by omega) (by omega) (by omega) (by omega) (by omega))) (cB_eq c (fun j _ _ => fT _ _ (by omega) (by omega) (by omega) (by omega) (by omega)) (fun j _ _ => fT _ _ (by omega) (by omega) (by omega) (by omega) (by omega))) (fun s s0 s6 => Or.inr (fun k j hk => ?_)) (fun p' p0' p8' => ?_)
  · unfold inS at hk
    exact fT k j (by omega) (by omega) (by omega) (by omega) (by omega)
  · by_cases hp : p' = p
    · subst hp
      left
      have w := c.1.2.2 p' p0' p8'
      have cp := c.2.2.2 p' p0' p8'
      have f' : ∀ k j, ¬ (k = 0 ∧ (j = 0 ∨ j = 33)) → ¬ (k = 21 ∧ j = p') → ¬ (k = 140 + 4 * p' ∧ j = 8) → k < 330 → k ≠ 100 → T k j = S k j := fun k j a1 a2 a3 a4 a5 => fT k j a1 a2 a3 (by omega) (by omega)
      constructor
      · unfold wfP at w ⊢
        rw [t1, f' 0 14 (by omega) (by omega) (by omega) (by omega) (by omega), f' 15 p' (by omega) (by omega) (by omega) (by omega) (by omega), f' 16 p' (by omega) (by omega) (by omega) (by omega) (by omega), f' 17 p' (by omega) (by omega) (by omega) (by omega) (by omega), f' 18 p' (by omega) (by omega) (by omega) (by omega) (by omega), f' 19 p' (by omega) (by omega) (by omega) (by omega) (by omega)]
        refine ⟨by omega, fun d d0 d7 => ?_, fun k k0 k8 => ?_, w.2.2.2⟩
        · rw [f' 22 _ (by omega) (by omega) (by omega) (by omega) (by omega)]
          exact w.2.1 d d0 d7
        · rw [f' 20 _ (by omega) (by omega) (by omega) (by omega) (by omega)]
          exact w.2.2.1 k k0 k8
      · unfold crP at cp ⊢
        rw [t1, t2, f' 0 14 (by omega) (by omega) (by omega) (by omega) (by omega), f' 0 1 (by omega) (by omega) (by omega) (by omega) (by omega), f' 15 p' (by omega) (by omega) (by omega) (by omega) (by omega), f' 16 p' (by omega) (by omega) (by omega) (by omega) (by omega), f' 17 p' (by omega) (by omega) (by omega) (by omega) (by omega), f' 18 p' (by omega) (by omega) (by omega) (by omega) (by omega), f' 19 p' (by omega) (by omega) (by omega) (by omega) (by omega), f' (140 + 4 * p') 0 (by omega) (by omega) (by omega) (by omega) (by omega), f' (140 + 4 * p') 3 (by omega) (by omega) (by omega) (by omega) (by omega), f' (140 + 4 * p') 4 (by omega) (by omega) (by omega) (by omega) (by omega), f' (140 + 4 * p') 5 (by omega) (by omega) (by omega) (by omega) (by omega), f' (140 + 4 * p') 6 (by omega) (by omega) (by omega) (by omega) (by omega), f' (140 + 4 * p') 7 (by omega) (by omega) (by omega) (by omega) (by omega)]
        refine ⟨⟨cp.1.1, rfl⟩, fun k k0 k8 => ?_, fun d d0 d7 => ?_, cp.2.2.2⟩
        · rw [f' 20 _ (by omega) (by omega) (by omega) (by omega) (by omega), f' (140 + 4 * p' + 2) _ (by omega) (by omega) (by omega) (by omega) (by omega)]
          exact cp.2.1 k k0 k8
        · rw [f' 22 _ (by omega) (by omega) (by omega) (by omega) (by omega), f' (140 + 4 * p' + 3) _ (by omega) (by omega) (by omega) (by omega) (by omega)]
          exact cp.2.2.1 d d0 d7
    · right
      intro k j hk
      unfold inP at hk
      exact fT k j (by omega) (by omega) (by omega) (by omega) (by omega)
theorem op_limit (h : InvS S) : vpLa_limit 100 p v 330 S (fun r1 S1 => vpMo_limit 0 p v S1 (fun r2 S2 => okB r1 r2 S2)) := by
  have c := h.1
  have cB := c.2.1
  have h14 := c.1.1.2.2.2.2
  unfold vpLa_limit vpBT_limit vLa_limit_17 vpMo_limit vMo_limit_27 vMo_limit_48
  refine s_productAt c (fun g => ⟨fun _ => ?_, fun g2 => absurd g2 (by decide), Or.inl rfl⟩) (fun p0 p8 => ?_)
  · exact s_noProduct (fun _ => ⟨fun g2 => by omega, fun _ => okB_e h (by omega) (fun k j hk => up_n hk) up_s⟩) (fun g1 g2 => by omega)
  · refine s_out (fun g => ⟨fun g2 => by omega, fun _ => ⟨fun g2 => absurd g2 (by decide), fun _ => ?_, Or.inr rfl⟩⟩) (fun g1 g2 => ⟨fun _ => ?_, fun g3 => absurd rfl g3⟩)
    · refine s_noProduct (fun g2 => by omega) (fun _ _ => ⟨fun _ => s_isIn (fun _ => ⟨fun _ => fun S1 e1 => ?_, fun g3 => absurd rfl g3⟩) (fun g3 g4 => by omega), fun g2 => absurd rfl g2⟩)
      have e0 : S1 0 0 = 2 := by rw [e1, up_s]
      exact ⟨fun _ => okB_e h (by omega) (fun k j hk => by rw [e1, up_n hk, up_n hk]) e0, fun g3 => by omega⟩
    · have e8 := (c.2.2.2 p p0 (by omega)).1.2
      rw [e8]
      refine ⟨fun hv => ⟨fun _ => ⟨al_out, fun S2 e2 => ?_⟩, fun g3 => absurd rfl g3⟩, fun hv => fun S13 e13 S17 e17 => ⟨fun g3 => by omega, fun _ => ⟨al_out, fun S2 e2 => ?_⟩⟩⟩
      · have e214 : S2 0 14 = S 0 14 := by rw [e2, up_n (by omega)]
        refine s_noProduct (fun g2 => by omega) (fun _ _ => ⟨fun _ => s_isIn (fun _ => by omega) (fun _ _ => ⟨fun g3 => by omega, fun _ => fun S1 e1 => ?_⟩), fun g2 => absurd rfl g2⟩)
        have e0 : S1 0 0 = 0 := by rw [e1, up_s]
        have e21 : S1 21 p = S 21 p := by rw [e1, up_n (by omega), up_n (by omega), e2, up_n (by omega)]
        rw [e21]
        exact ⟨fun g3 => by omega, fun _ => ⟨by omega, fun _ => okB_0 h (fun k j h1 h2 => by rw [e1, up_n h1, up_n h1, e2, up_n (by omega)]) e0 (by rw [e1, up_n (by omega), up_n (by omega), e2, up_s]), fun g3 => absurd hv g3⟩⟩
      · have f17 : ∀ k j, ¬ (k = 140 + 4 * p ∧ j = 8) → ¬ (k = 100 ∧ j = 9) → ¬ (k = 330 ∧ j = 0) → S2 k j = S k j := fun k j a1 a2 a3 => by rw [e2, up_n a3, e17, up_n a2, e13, up_n a1]
        have e214 : S2 0 14 = S 0 14 := f17 _ _ (by omega) (by omega) (by omega)
        refine s_noProduct (fun g2 => by omega) (fun _ _ => ⟨fun _ => s_isIn (fun _ => by omega) (fun _ _ => ⟨fun g3 => by omega, fun _ => fun S1 e1 => ?_⟩), fun g2 => absurd rfl g2⟩)
        have e0 : S1 0 0 = 0 := by rw [e1, up_s]
        have f1 : ∀ k j, ¬ (k = 0 ∧ j = 0) → S1 k j = S2 k j := fun k j a1 => by rw [e1, up_n a1, up_n a1]
        have e21 : S1 21 p = S 21 p := by rw [f1 _ _ (by omega), f17 _ _ (by omega) (by omega) (by omega)]
        rw [e21]
        refine ⟨fun g3 => by omega, fun _ => ⟨by omega, fun g3 => absurd g3 hv, fun _ => ⟨by omega, fun S9 e9 => ?_⟩⟩⟩
        refine s_told ⟨Or.inr rfl, ?_⟩
        generalize eT : up S9 0 33 0 = T
        have fT : ∀ k j, ¬ (k = 0 ∧ (j = 0 ∨ j = 33)) → ¬ (k = 21 ∧ j = p) → ¬ (k = 140 + 4 * p ∧ j = 8) → ¬ (k = 100 ∧ j = 9) → k ≠ 330 → T k j = S k j := fun k j a1 a2 a3 a4 a5 => by
          rw [← eT, up_n (by omega), e9, up_n a2, f1 _ _ (by omega), f17 _ _ a3 a4 (by omega)]
        have cT := cR_limit c p0 p8 g1 g2 fT (by rw [← eT, up_n (by omega), e9, up_s]) (by rw [← eT, up_n (by omega), e9, up_n (by omega), f1 _ _ (by omega), e2, up_n (by omega), e17, up_n (by omega), e13, up_s])
        refine ⟨⟨?_, fun _ => ?_, InvS.told cT h (fT _ _ (by omega) (by omega) (by omega) (by omega) (by omega)) (fT _ _ (by omega) (by omega) (by omega) (by omega) (by omega)) ?_ ?_ (fT _ _ (by omega) (by omega) (by omega) (by omega) (by omega))⟩, Or.inr rfl⟩
        · rw [← eT, up_n (by omega), e9, up_n (by omega), e0]
        · rw [← eT, up_n (by omega), e9, up_n (by omega), f1 _ _ (by omega), e2, up_s]
        · rw [← eT, up_n (by omega), e9, up_n (by omega), f1 _ _ (by omega), e2, up_n (by omega), e17, up_s]
        · rw [← eT, up_s]
end SF
