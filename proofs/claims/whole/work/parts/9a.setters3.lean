section SG
variable {S T U : St} {s p v d : Int}
theorem cR_wish (c : cR S) (p0 : 0 ≤ p) (p8 : p < S 0 14) (d0 : 0 ≤ d) (d7 : d < 7) (v0 : 0 ≤ v) (v1 : v ≤ 100000) (fT : ∀ k j, ¬ (k = 0 ∧ (j = 0 ∨ j = 33)) → ¬ (k = 22 ∧ j = 7 * p + d) → ¬ (k = 140 + 4 * p + 3 ∧ j = d) → ¬ (k = 100 ∧ j = 9) → k ≠ 330 → T k j = S k j) (t1 : T 22 (7 * p + d) = v) (t2 : T (140 + 4 * p + 3) d = v) : cR T := by
  have h14 := c.1.1.2.2.2.2
  refine cR_mk c (wfA_eq c.1.1 (fun j _ _ => fT _ _ (by omega) (by omega) (by omega) (by omega) (by omega))) (cB_eq c (fun j _ _ => fT _ _ (by omega) (by omega) (by omega) (by omega) (by omega)) (fun j _ _ => fT _ _ (by omega) (by omega) (by omega) (by omega) (by omega))) (fun s s0 s6 => Or.inr (fun k j hk => ?_)) (fun p' p0' p8' => ?_)
  · unfold inS at hk
    exact fT k j (by omega) (by omega) (by omega) (by omega) (by omega)
  · by_cases hp : p' = p
    · subst hp
      left
      have w := c.1.2.2 p' p0' p8'
      have cp := c.2.2.2 p' p0' p8'
      have f' : ∀ k j, ¬ (k = 0 ∧ (j = 0 ∨ j = 33)) → k ≠ 22 → k ≠ 140 + 4 * p' + 3 → k < 330 → k ≠ 100 → T k j = S k j := fun k j a1 a2 a3 a4 a5 => fT k j a1 (by omega) (by omega) (by omega) (by omega)
      constructor
      · unfold wfP at w ⊢
        rw [f' 21 p' (by omega) (by omega) (by omega) (by omega) (by omega), f' 0 14 (by omega) (by omega) (by omega) (by omega) (by omega), f' 15 p' (by omega) (by omega) (by omega) (by omega) (by omega), f' 16 p' (by omega) (by omega) (by omega) (by omega) (by omega), f' 17 p' (by omega) (by omega) (by omega) (by omega) (by omega), f' 18 p' (by omega) (by omega) (by omega) (by omega) (by omega), f' 19 p' (by omega) (by omega) (by omega) (by omega) (by omega)]
        refine ⟨w.1, fun d' d0' d7' => ?_, fun k k0 k8 => ?_, w.2.2.2⟩
        · by_cases hd : d' = d
          · rw [hd, t1]
            omega
          · rw [fT 22 _ (by omega) (by omega) (by omega) (by omega) (by omega)]
            exact w.2.1 d' d0' d7'
        · rw [f' 20 _ (by omega) (by omega) (by omega) (by omega) (by omega)]
          exact w.2.2.1 k k0 k8
      · unfold crP at cp ⊢
        have g : ∀ j, T (140 + 4 * p') j = S (140 + 4 * p') j := fun j => f' _ j (by omega) (by omega) (by omega) (by omega) (by omega)
        rw [f' 21 p' (by omega) (by omega) (by omega) (by omega) (by omega), f' 0 14 (by omega) (by omega) (by omega) (by omega) (by omega), f' 0 1 (by omega) (by omega) (by omega) (by omega) (by omega), f' 15 p' (by omega) (by omega) (by omega) (by omega) (by omega), f' 16 p' (by omega) (by omega) (by omega) (by omega) (by omega), f' 17 p' (by omega) (by omega) (by omega) (by omega) (by omega), f' 18 p' (by omega) (by omega) (by omega) (by omega) (by omega), f' 19 p' (by omega) (by omega) (by omega) (by omega) (by omega), g 0, g 8, g 3, g 4, g 5, g 6, g 7]
        refine ⟨cp.1, fun k k0 k8 => ?_, fun d' d0' d7' => ?_, cp.2.2.2⟩
        · rw [f' 20 _ (by omega) (by omega) (by omega) (by omega) (by omega), f' (140 + 4 * p' + 2) _ (by omega) (by omega) (by omega) (by omega) (by omega)]
          exact cp.2.1 k k0 k8
        · by_cases hd : d' = d
          · rw [hd, t1, t2]
          · rw [fT 22 _ (by omega) (by omega) (by omega) (by omega) (by omega), fT (140 + 4 * p' + 3) _ (by omega) (by omega) (by omega) (by omega) (by omega)]
            exact cp.2.2.1 d' d0' d7'
    · right
      intro k j hk
      unfold inP at hk
      exact fT k j (by omega) (by omega) (by omega) (by omega) (by omega)
theorem cR_bars (c : cR S) (p0 : 0 ≤ p) (p8 : p < S 0 14) (d0 : 0 ≤ d) (d7 : d < 8) (fT : ∀ k j, ¬ (k = 0 ∧ (j = 0 ∨ j = 33)) → ¬ (k = 20 ∧ j = 8 * p + d) → ¬ (k = 140 + 4 * p + 2 ∧ j = d) → ¬ (k = 100 ∧ j = 9) → k ≠ 330 → T k j = S k j) (t1 : T 20 (8 * p + d) = 1) (t2 : T (140 + 4 * p + 2) d = 1) : cR T := by
  have h14 := c.1.1.2.2.2.2
  refine cR_mk c (wfA_eq c.1.1 (fun j _ _ => fT _ _ (by omega) (by omega) (by omega) (by omega) (by omega))) (cB_eq c (fun j _ _ => fT _ _ (by omega) (by omega) (by omega) (by omega) (by omega)) (fun j _ _ => fT _ _ (by omega) (by omega) (by omega) (by omega) (by omega))) (fun s s0 s6 => Or.inr (fun k j hk => ?_)) (fun p' p0' p8' => ?_)
  · unfold inS at hk
    exact fT k j (by omega) (by omega) (by omega) (by omega) (by omega)
  · by_cases hp : p' = p
    · subst hp
      left
      have w := c.1.2.2 p' p0' p8'
      have cp := c.2.2.2 p' p0' p8'
      have f' : ∀ k j, ¬ (k = 0 ∧ (j = 0 ∨ j = 33)) → k ≠ 20 → k ≠ 140 + 4 * p' + 2 → k < 330 → k ≠ 100 → T k j = S k j := fun k j a1 a2 a3 a4 a5 => fT k j a1 (by omega) (by omega) (by omega) (by omega)
      constructor
      · unfold wfP at w ⊢
        rw [f' 21 p' (by omega) (by omega) (by omega) (by omega) (by omega), f' 0 14 (by omega) (by omega) (by omega) (by omega) (by omega), f' 15 p' (by omega) (by omega) (by omega) (by omega) (by omega), f' 16 p' (by omega) (by omega) (by omega) (by omega) (by omega), f' 17 p' (by omega) (by omega) (by omega) (by omega) (by omega), f' 18 p' (by omega) (by omega) (by omega) (by omega) (by omega), f' 19 p' (by omega) (by omega) (by omega) (by omega) (by omega)]
        refine ⟨w.1, fun d' d0' d7' => ?_, fun k k0 k8 => ?_, w.2.2.2⟩
        · rw [f' 22 _ (by omega) (by omega) (by omega) (by omega) (by omega)]
          exact w.2.1 d' d0' d7'
        · by_cases hd : k = d
          · rw [hd, t1]
            omega
          · rw [fT 20 _ (by omega) (by omega) (by omega) (by omega) (by omega)]
            exact w.2.2.1 k k0 k8
      · unfold crP at cp ⊢
        have g : ∀ j, T (140 + 4 * p') j = S (140 + 4 * p') j := fun j => f' _ j (by omega) (by omega) (by omega) (by omega) (by omega)
        rw [f' 21 p' (by omega) (by omega) (by omega) (by omega) (by omega), f' 0 14 (by omega) (by omega) (by omega) (by omega) (by omega), f' 0 1 (by omega) (by omega) (by omega) (by omega) (by omega), f' 15 p' (by omega) (by omega) (by omega) (by omega) (by omega), f' 16 p' (by omega) (by omega) (by omega) (by omega) (by omega), f' 17 p' (by omega) (by omega) (by omega) (by omega) (by omega), f' 18 p' (by omega) (by omega) (by omega) (by omega) (by omega), f' 19 p' (by omega) (by omega) (by omega) (by omega) (by omega), g 0, g 8, g 3, g 4, g 5, g 6, g 7]
        refine ⟨cp.1, fun k k0 k8 => ?_, fun d' d0' d7' => ?_, cp.2.2.2⟩
        · by_cases hd : k = d
          · rw [hd, t1, t2]
          · rw [fT 20 _ (by omega) (by omega) (by omega) (by omega) (by omega), fT (140 + 4 * p' + 2) _ (by omega) (by omega) (by omega) (by omega) (by omega)]
            exact cp.2.1 k k0 k8
        · rw [f' 22 _ (by omega) (by omega) (by omega) (by omega) (by omega), f' (140 + 4 * p' + 3) _ (by omega) (by omega) (by omega) (by omega) (by omega)]
          exact cp.2.2.1 d' d0' d7'
    · right
      intro k j hk
      unfold inP at hk
      exact fT k j (by omega) (by omega) (by omega) (by omega) (by omega)
theorem op_wish (h : InvS S) : vpLa_wish 100 p d v 330 S (fun r1 S1 => vpMo_wish 0 p d v S1 (fun r2 S2 => okB r1 r2 S2)) := by
  have c := h.1
  have h14 := c.1.1.2.2.2.2
  have err : (d < 0 ∨ 6 < d) ∨ (v < 0 ∨ 100000 < v) → 0 ≤ p → p < S 0 14 → vpMo_wish 0 p d v S (fun r2 S2 => okB 2 r2 S2) := by
    intro hb p0 p8
    have e39 : ∀ T : St, (∀ k j, ¬ (k = 0 ∧ j = 0) → T k j = S k j) → vMo_wish_39 (fun r2 S2 => okB 2 r2 S2) 0 p d v 2 0 T := by
      intro T fT
      unfold vMo_wish_39 vMo_wish_65
      intro S1 e1
      have e0 : S1 0 0 = 2 := by rw [e1, up_s]
      exact ⟨fun _ => okB_e h (by omega) (fun k j hk => by rw [e1, up_n hk]; exact fT k j hk) e0, fun g3 => by omega⟩
    unfold vpMo_wish vMo_wish_38
    refine s_noProduct (fun g2 => by omega) (fun _ _ => ⟨fun _ => s_isIn (fun _ => ⟨fun _ => e39 _ (fun k j hk => up_n hk), fun g3 => absurd rfl g3⟩) (fun g3 g4 => ⟨fun g5 => by omega, fun _ => s_isIn (fun _ => ⟨fun _ => e39 _ (fun k j hk => up_n hk), fun g5 => absurd rfl g5⟩) (fun g5 g6 => by omega)⟩), fun g2 => absurd rfl g2⟩)
  unfold vpLa_wish vpBT_wish vLa_wish_18 vBT_wish_28
  refine s_productAt c (fun g => ⟨fun _ => ?_, fun g2 => absurd g2 (by decide), Or.inl rfl⟩) (fun p0 p8 => ?_)
  · unfold vpMo_wish
    exact s_noProduct (fun _ => ⟨fun g2 => by omega, fun _ => okB_e h (by omega) (fun k j hk => up_n hk) up_s⟩) (fun g1 g2 => by omega)
  · refine s_out (fun g => ⟨fun g2 => by omega, fun _ => ⟨fun g2 => absurd g2 (by decide), fun _ => err (Or.inl g) p0 p8, Or.inr rfl⟩⟩) (fun d0 d6 => ⟨fun _ => ?_, fun g3 => absurd rfl g3⟩)
    refine s_out (fun g => ⟨fun g2 => by omega, fun _ => ⟨fun g2 => absurd g2 (by decide), fun _ => err (Or.inr g) p0 p8, Or.inr rfl⟩⟩) (fun g1 g2 => ⟨fun _ => ⟨by omega, ?_⟩, fun g3 => absurd rfl g3⟩)
    have e8 := (c.2.2.2 p p0 (by omega)).2.2.1 d d0 (by omega)
    rw [e8]
    unfold vpMo_wish vMo_wish_39 vMo_wish_65
    refine ⟨fun hv => ⟨fun _ => ⟨al_out, fun S2 e2 => ?_⟩, fun g3 => absurd rfl g3⟩, fun hv => ⟨by omega, fun S13 e13 S17 e17 => ⟨fun g3 => by omega, fun _ => ⟨al_out, fun S2 e2 => ?_⟩⟩⟩⟩
    · have e214 : S2 0 14 = S 0 14 := by rw [e2, up_n (by omega)]
      refine s_noProduct (fun g2 => by omega) (fun _ _ => ⟨fun _ => s_isIn (fun _ => by omega) (fun _ _ => ⟨fun g3 => by omega, fun _ => s_isIn (fun _ => by omega) (fun _ _ => ⟨fun g3 => by omega, fun _ => fun S1 e1 => ?_⟩)⟩), fun g2 => absurd rfl g2⟩)
      have e0 : S1 0 0 = 0 := by rw [e1, up_s]
      have e21 : S1 22 (7 * p + d) = S 22 (7 * p + d) := by rw [e1, up_n (by omega), up_n (by omega), e2, up_n (by omega)]
      rw [e21]
      exact ⟨fun g3 => by omega, fun _ => ⟨by omega, fun _ => okB_0 h (fun k j h1 h2 => by rw [e1, up_n h1, up_n h1, e2, up_n (by omega)]) e0 (by rw [e1, up_n (by omega), up_n (by omega), e2, up_s]), fun g3 => absurd hv g3⟩⟩
    · have f17 : ∀ k j, ¬ (k = 140 + 4 * p + 3 ∧ j = d) → ¬ (k = 100 ∧ j = 9) → ¬ (k = 330 ∧ j = 0) → S2 k j = S k j := fun k j a1 a2 a3 => by rw [e2, up_n a3, e17, up_n a2, e13, up_n a1]
      have e214 : S2 0 14 = S 0 14 := f17 _ _ (by omega) (by omega) (by omega)
      refine s_noProduct (fun g2 => by omega) (fun _ _ => ⟨fun _ => s_isIn (fun _ => by omega) (fun _ _ => ⟨fun g3 => by omega, fun _ => s_isIn (fun _ => by omega) (fun _ _ => ⟨fun g3 => by omega, fun _ => fun S1 e1 => ?_⟩)⟩), fun g2 => absurd rfl g2⟩)
      have e0 : S1 0 0 = 0 := by rw [e1, up_s]
      have f1 : ∀ k j, ¬ (k = 0 ∧ j = 0) → S1 k j = S2 k j := fun k j a1 => by rw [e1, up_n a1, up_n a1]
      have e21 : S1 22 (7 * p + d) = S 22 (7 * p + d) := by rw [f1 _ _ (by omega), f17 _ _ (by omega) (by omega) (by omega)]
      rw [e21]
      refine ⟨fun g3 => by omega, fun _ => ⟨by omega, fun g3 => absurd g3 hv, fun _ => ⟨by omega, fun S9 e9 => ?_⟩⟩⟩
      refine s_told ⟨Or.inr rfl, ?_⟩
      generalize eT : up S9 0 33 0 = T
      have fT : ∀ k j, ¬ (k = 0 ∧ (j = 0 ∨ j = 33)) → ¬ (k = 22 ∧ j = 7 * p + d) → ¬ (k = 140 + 4 * p + 3 ∧ j = d) → ¬ (k = 100 ∧ j = 9) → k ≠ 330 → T k j = S k j := fun k j a1 a2 a3 a4 a5 => by
        rw [← eT, up_n (by omega), e9, up_n a2, f1 _ _ (by omega), f17 _ _ a3 a4 (by omega)]
      have cT := cR_wish c p0 p8 d0 (by omega) g1 g2 fT (by rw [← eT, up_n (by omega), e9, up_s]) (by rw [← eT, up_n (by omega), e9, up_n (by omega), f1 _ _ (by omega), e2, up_n (by omega), e17, up_n (by omega), e13, up_s])
      refine ⟨⟨?_, fun _ => ?_, InvS.told cT h (fT _ _ (by omega) (by omega) (by omega) (by omega) (by omega)) (fT _ _ (by omega) (by omega) (by omega) (by omega) (by omega)) ?_ ?_ (fT _ _ (by omega) (by omega) (by omega) (by omega) (by omega))⟩, Or.inr rfl⟩
      · rw [← eT, up_n (by omega), e9, up_n (by omega), e0]
      · rw [← eT, up_n (by omega), e9, up_n (by omega), f1 _ _ (by omega), e2, up_s]
      · rw [← eT, up_n (by omega), e9, up_n (by omega), f1 _ _ (by omega), e2, up_n (by omega), e17, up_s]
      · rw [← eT, up_s]
theorem op_bars (h : InvS S) : vpLa_bars 100 p d 330 S (fun r1 S1 => vpMo_bars 0 p d S1 (fun r2 S2 => okB r1 r2 S2)) := by
  have c := h.1
  have h14 := c.1.1.2.2.2.2
  unfold vpLa_bars vpBT_bars vLa_bars_16 vpMo_bars vMo_bars_28 vMo_bars_52
  refine s_productAt c (fun g => ⟨fun _ => ?_, fun g2 => absurd g2 (by decide), Or.inl rfl⟩) (fun p0 p8 => ?_)
  · exact s_noProduct (fun _ => ⟨fun g2 => by omega, fun _ => okB_e h (by omega) (fun k j hk => up_n hk) up_s⟩) (fun g1 g2 => by omega)
  · refine s_out (fun g => ⟨fun g2 => by omega, fun _ => ⟨fun g2 => absurd g2 (by decide), fun _ => ?_, Or.inr rfl⟩⟩) (fun d0 d6 => ⟨fun _ => ⟨by omega, ?_⟩, fun g3 => absurd rfl g3⟩)
    · refine s_noProduct (fun g2 => by omega) (fun _ _ => ⟨fun _ => s_isIn (fun _ => ⟨fun _ => fun S1 e1 => ?_, fun g3 => absurd rfl g3⟩) (fun g3 g4 => by omega), fun g2 => absurd rfl g2⟩)
      have e0 : S1 0 0 = 2 := by rw [e1, up_s]
      exact ⟨fun _ => okB_e h (by omega) (fun k j hk => by rw [e1, up_n hk, up_n hk]) e0, fun g3 => by omega⟩
    · have e8 := (c.2.2.2 p p0 (by omega)).2.1 d d0 (by omega)
      rw [e8]
      refine ⟨fun hv => ⟨by omega, Or.inr rfl, fun S13 e13 S17 e17 => ⟨fun g3 => by omega, fun _ => ⟨al_out, fun S2 e2 => ?_⟩⟩⟩, fun hv => ⟨fun _ => ⟨al_out, fun S2 e2 => ?_⟩, fun g3 => absurd rfl g3⟩⟩
      · have f17 : ∀ k j, ¬ (k = 140 + 4 * p + 2 ∧ j = d) → ¬ (k = 100 ∧ j = 9) → ¬ (k = 330 ∧ j = 0) → S2 k j = S k j := fun k j a1 a2 a3 => by rw [e2, up_n a3, e17, up_n a2, e13, up_n a1]
        have e214 : S2 0 14 = S 0 14 := f17 _ _ (by omega) (by omega) (by omega)
        refine s_noProduct (fun g2 => by omega) (fun _ _ => ⟨fun _ => s_isIn (fun _ => by omega) (fun _ _ => ⟨fun g3 => by omega, fun _ => fun S1 e1 => ?_⟩), fun g2 => absurd rfl g2⟩)
        have e0 : S1 0 0 = 0 := by rw [e1, up_s]
        have f1 : ∀ k j, ¬ (k = 0 ∧ j = 0) → S1 k j = S2 k j := fun k j a1 => by rw [e1, up_n a1, up_n a1]
        have e21 : S1 20 (8 * p + d) = S 20 (8 * p + d) := by rw [f1 _ _ (by omega), f17 _ _ (by omega) (by omega) (by omega)]
        rw [e21]
        refine ⟨fun g3 => by omega, fun _ => ⟨by omega, fun _ => ⟨by omega, Or.inr rfl, fun S9 e9 => ?_⟩, fun g3 => absurd hv g3⟩⟩
        refine s_told ⟨Or.inr rfl, ?_⟩
        generalize eT : up S9 0 33 0 = T
        have fT : ∀ k j, ¬ (k = 0 ∧ (j = 0 ∨ j = 33)) → ¬ (k = 20 ∧ j = 8 * p + d) → ¬ (k = 140 + 4 * p + 2 ∧ j = d) → ¬ (k = 100 ∧ j = 9) → k ≠ 330 → T k j = S k j := fun k j a1 a2 a3 a4 a5 => by
          rw [← eT, up_n (by omega), e9, up_n a2, f1 _ _ (by omega), f17 _ _ a3 a4 (by omega)]
        have cT := cR_bars c p0 p8 d0 (by omega) fT (by rw [← eT, up_n (by omega), e9, up_s]) (by rw [← eT, up_n (by omega), e9, up_n (by omega), f1 _ _ (by omega), e2, up_n (by omega), e17, up_n (by omega), e13, up_s])
        refine ⟨⟨?_, fun _ => ?_, InvS.told cT h (fT _ _ (by omega) (by omega) (by omega) (by omega) (by omega)) (fT _ _ (by omega) (by omega) (by omega) (by omega) (by omega)) ?_ ?_ (fT _ _ (by omega) (by omega) (by omega) (by omega) (by omega))⟩, Or.inr rfl⟩
        · rw [← eT, up_n (by omega), e9, up_n (by omega), e0]
        · rw [← eT, up_n (by omega), e9, up_n (by omega), f1 _ _ (by omega), e2, up_s]
        · rw [← eT, up_n (by omega), e9, up_n (by omega), f1 _ _ (by omega), e2, up_n (by omega), e17, up_s]
        · rw [← eT, up_s]
      · have e214 : S2 0 14 = S 0 14 := by rw [e2, up_n (by omega)]
        refine s_noProduct (fun g2 => by omega) (fun _ _ => ⟨fun _ => s_isIn (fun _ => by omega) (fun _ _ => ⟨fun g3 => by omega, fun _ => fun S1 e1 => ?_⟩), fun g2 => absurd rfl g2⟩)
        have e0 : S1 0 0 = 0 := by rw [e1, up_s]
        have e21 : S1 20 (8 * p + d) = S 20 (8 * p + d) := by rw [e1, up_n (by omega), up_n (by omega), e2, up_n (by omega)]
        rw [e21]
        exact ⟨fun g3 => by omega, fun _ => ⟨by omega, fun g3 => absurd g3 hv, fun _ => okB_0 h (fun k j h1 h2 => by rw [e1, up_n h1, up_n h1, e2, up_n (by omega)]) e0 (by rw [e1, up_n (by omega), up_n (by omega), e2, up_s])⟩⟩
end SG
