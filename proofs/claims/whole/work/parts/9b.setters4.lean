section SH
variable {S T U : St} {s p v d at' e : Int}
def isE (S : St) (at' : Int) : Prop := 0 < at' ∧ at' % S 0 1 = 0 ∧ at' / S 0 1 ≤ stN S (S 0 4 - 1)
theorem isE_b (hm : wfM S) (h : isE S at') : 0 ≤ at' / S 0 1 ∧ at' / S 0 1 ≤ 80 := by
  have h1 := hm.1.1
  have h4 := hm.1.2.2.2.1
  have n := (hm.2.1 (S 0 4 - 1) (by omega) (by omega)).2.2.2.2.2.1
  exact ⟨Int.ediv_nonneg (by have := h.1; omega) (by omega), by have := h.2.2; omega⟩
theorem dv_b (hm : wfM S) (h0 : 0 ≤ at') (hI : rI at') : 0 ≤ at' / S 0 1 ∧ at' / S 0 1 ≤ at' ∧ 0 ≤ at' % S 0 1 ∧ at' % S 0 1 < 65536 := by
  have h1 := hm.1.1
  have := Int.emod_lt_of_pos at' (show 0 < S 0 1 by omega)
  exact ⟨Int.ediv_nonneg h0 (by omega), Int.ediv_le_self _ h0, Int.emod_nonneg _ (by omega), by omega⟩
theorem s_isEnd {Q : Int → St → Prop} (hm : wfM S) (hI : rI at') (q1 : isE S at' → Q 1 S) (q0 : ¬ isE S at' → Q 0 S) : vpMo_isEnd 0 at' S Q := by
  have h1 := hm.1.1
  have h4 := hm.1.2.2.2.1
  unfold vpMo_isEnd vMo_isEnd_36 vMo_isEnd_37
  refine ⟨fun h => ⟨Or.inl rfl, q0 (fun g => by have := g.1; omega)⟩, fun h => ?_⟩
  have db := dv_b hm (show 0 ≤ at' by omega) hI
  refine ⟨by omega, by omega, by omega, by constructor <;> omega, fun hz => ⟨by omega, by constructor <;> omega, ?_⟩, fun hz => ⟨Or.inl rfl, q0 (fun g => hz g.2.1)⟩⟩
  refine s_stepsOf hm.1 (hm.2.1 (S 0 4 - 1) (by omega) (by omega)) (by omega) (by omega) ⟨by omega, by omega, by constructor <;> omega, fun hn => ⟨Or.inl rfl, q0 (fun g => by have := g.2.2; omega)⟩, fun hn => ⟨Or.inr rfl, q1 ⟨by omega, hz, by omega⟩⟩⟩
theorem s_endAt {Q : Int → St → Prop} (c : cR S) (hI : rI at') (q0 : ¬ isE S at' → Q (-1) S) (q1 : isE S at' → Q (at' / S 0 1) S) : vpSt_endAt (200 + 20 * (S 0 4 - 1)) at' S Q := by
  have hm := c.1
  have h1 := hm.1.1
  have h4 := hm.1.2.2.2.1
  have cS := c.2.2.1 (S 0 4 - 1) (by omega) (by omega)
  unfold vpSt_endAt vSt_endAt_30 vSt_endAt_31 vSt_endAt_46
  rw [cS.1.1, cS.1.2.2.2]
  refine ⟨fun h => ⟨fun _ => q0 (fun g => by have := g.1; omega), fun g => absurd rfl g⟩, fun h => ?_⟩
  have db := dv_b hm (show 0 ≤ at' by omega) hI
  exact ⟨by omega, by omega, by omega, by constructor <;> omega, fun hz => ⟨by omega, by omega, by omega, by constructor <;> omega, fun hn => ⟨fun _ => q0 (fun g => by have := g.2.2; omega), fun g => absurd rfl g⟩, fun hn => ⟨fun g => by omega, fun _ => ⟨by omega, by omega, by omega, by constructor <;> omega, q1 ⟨by omega, hz, by omega⟩⟩⟩⟩, fun hz => ⟨fun _ => q0 (fun g => hz g.2.1), fun g => absurd rfl g⟩⟩
theorem s_forceLatest {Q : Int → St → Prop} (c : cR S) (hI : rI at') (q0 : ¬ (isE S at' ∧ S 13 (81 * (S 0 4 - 1) + at' / S 0 1) = 0) → Q 0 S) (q1 : isE S at' → S 13 (81 * (S 0 4 - 1) + at' / S 0 1) = 0 → Q 1 (up S (200 + 20 * (S 0 4 - 1) + 8) (at' / S 0 1) 1)) : vpBT_forceLatest 100 at' S Q := by
  have hm := c.1
  have h4 := hm.1.2.2.2.1
  have cS := c.2.2.1 (S 0 4 - 1) (by omega) (by omega)
  unfold vpBT_forceLatest vpBT_latestStem vBT_forceLatest_25
  rw [c.2.1.1]
  refine ⟨by omega, ?_⟩
  refine s_endAt c hI (fun g => ⟨fun _ => q0 (fun g2 => g g2.1), fun g2 => absurd rfl g2⟩) (fun iE => ?_)
  have eb := isE_b hm iE
  have ef := cS.2.2.2 (at' / S 0 1) eb.1 (by omega)
  rw [ef]
  exact ⟨fun g => by omega, fun _ => ⟨by omega, fun hf => ⟨by omega, Or.inr rfl, fun S16 e16 => by rw [e16]; exact q1 iE hf⟩, fun hf => q0 (fun g => hf g.2)⟩⟩
theorem cR_force (c : cR S) (s0 : 0 ≤ s) (s6 : s < 6) (e0 : 0 ≤ e) (e1 : e ≤ 80) (fT : ∀ k j, ¬ (k = 0 ∧ (j = 0 ∨ j = 33)) → ¬ (k = 13 ∧ j = 81 * s + e) → ¬ (k = 200 + 20 * s + 8 ∧ j = e) → ¬ (k = 100 ∧ j = 9) → k ≠ 330 → T k j = S k j) (t1 : T 13 (81 * s + e) = 1) (t2 : T (200 + 20 * s + 8) e = 1) : cR T := by
  refine cR_mk c (wfA_eq c.1.1 (fun j _ _ => fT _ _ (by omega) (by omega) (by omega) (by omega) (by omega))) (cB_eq c (fun j _ _ => fT _ _ (by omega) (by omega) (by omega) (by omega) (by omega)) (fun j _ _ => fT _ _ (by omega) (by omega) (by omega) (by omega) (by omega))) (fun s' s0' s6' => ?_) (fun p' p0' p8' => Or.inr (fun k j hk => ?_))
  · by_cases hs : s' = s
    · subst hs
      left
      have w := c.1.2.1 s' s0 s6
      have cs := c.2.2.1 s' s0 s6
      have f' : ∀ k j, ¬ (k = 0 ∧ (j = 0 ∨ j = 33)) → k ≠ 13 → k ≠ 200 + 20 * s' + 8 → k < 330 → k ≠ 100 → T k j = S k j := fun k j a1 a2 a3 a4 a5 => fT k j a1 (by omega) (by omega) (by omega) (by omega)
      have fk : ∀ k, k ≠ 0 → k ≠ 13 → k ≠ 200 + 20 * s' + 8 → k < 330 → k ≠ 100 → T k = S k := fun k a1 a2 a3 a4 a5 => funext fun j => f' k j (by omega) a2 a3 a4 a5
      have en : stN T s' = stN S s' := by
        unfold stN
        rw [fk 5 (by omega) (by omega) (by omega) (by omega) (by omega), fk 6 (by omega) (by omega) (by omega) (by omega) (by omega), f' 0 1 (by omega) (by omega) (by omega) (by omega) (by omega)]
      constructor
      · unfold wfS at w ⊢
        rw [en, fk 5 (by omega) (by omega) (by omega) (by omega) (by omega), fk 6 (by omega) (by omega) (by omega) (by omega) (by omega), fk 7 (by omega) (by omega) (by omega) (by omega) (by omega), fk 8 (by omega) (by omega) (by omega) (by omega) (by omega), fk 9 (by omega) (by omega) (by omega) (by omega) (by omega), fk 10 (by omega) (by omega) (by omega) (by omega) (by omega), fk 11 (by omega) (by omega) (by omega) (by omega) (by omega), fk 12 (by omega) (by omega) (by omega) (by omega) (by omega)]
        obtain ⟨w1, w2, w3, w4, w5, w6, w7, w8⟩ := w
        refine ⟨w1, w2, w3, w4, w5, w6, w7, fun k k0 k1 => ?_⟩
        by_cases hk : k = e
        · rw [hk, t1]
          omega
        · rw [fT 13 _ (by omega) (by omega) (by omega) (by omega) (by omega)]
          exact w8 k k0 k1
      · unfold crS at cs ⊢
        rw [en, fk 5 (by omega) (by omega) (by omega) (by omega) (by omega), fk 6 (by omega) (by omega) (by omega) (by omega) (by omega), fk 7 (by omega) (by omega) (by omega) (by omega) (by omega), fk 8 (by omega) (by omega) (by omega) (by omega) (by omega), fk 9 (by omega) (by omega) (by omega) (by omega) (by omega), fk 10 (by omega) (by omega) (by omega) (by omega) (by omega), fk 11 (by omega) (by omega) (by omega) (by omega) (by omega), fk 12 (by omega) (by omega) (by omega) (by omega) (by omega), f' 0 1 (by omega) (by omega) (by omega) (by omega) (by omega), fk (200 + 20 * s') (by omega) (by omega) (by omega) (by omega) (by omega), fk (200 + 20 * s' + 2) (by omega) (by omega) (by omega) (by omega) (by omega), fk (200 + 20 * s' + 3) (by omega) (by omega) (by omega) (by omega) (by omega), fk (200 + 20 * s' + 4) (by omega) (by omega) (by omega) (by omega) (by omega), fk (200 + 20 * s' + 5) (by omega) (by omega) (by omega) (by omega) (by omega), fk (200 + 20 * s' + 6) (by omega) (by omega) (by omega) (by omega) (by omega), fk (200 + 20 * s' + 7) (by omega) (by omega) (by omega) (by omega) (by omega)]
        obtain ⟨c1, c2, c3, c4⟩ := cs
        refine ⟨c1, c2, c3, fun k k0 k1 => ?_⟩
        by_cases hk : k = e
        · rw [hk, t1, t2]
        · rw [fT 13 _ (by omega) (by omega) (by omega) (by omega) (by omega), fT (200 + 20 * s' + 8) _ (by omega) (by omega) (by omega) (by omega) (by omega)]
          exact c4 k k0 k1
    · right
      intro k j hk
      unfold inS at hk
      exact fT k j (by omega) (by omega) (by omega) (by omega) (by omega)
  · unfold inP at hk
    exact fT k j (by omega) (by omega) (by omega) (by omega) (by omega)
theorem op_force (h : InvS S) (hI : rI v) : vpLa_force 100 v 330 S (fun r1 S1 => vpMo_force 0 v S1 (fun r2 S2 => okB r1 r2 S2)) := by
  have c := h.1
  have hm := c.1
  have h1 := hm.1.1
  have h4 := hm.1.2.2.2.1
  unfold vpLa_force vpBT_force vLa_force_15 vpMo_force vMo_force_18 vMo_force_60
  refine s_out (fun g => ⟨fun g2 => by omega, fun _ => ⟨fun _ => ?_, rfl⟩⟩) (fun g1 g2 => ⟨fun _ => ?_, fun g3 => absurd rfl g3⟩)
  · refine s_isIn (fun _ => ⟨fun _ => fun S1 e1 => ?_, fun g3 => absurd rfl g3⟩) (fun g3 g4 => by omega)
    have e0 : S1 0 0 = 1 := by rw [e1, up_s]
    exact ⟨fun _ => okB_e h (by omega) (fun k j hk => by rw [e1, up_n hk]) e0, fun g3 => by omega⟩
  · refine s_forceLatest c hI (fun hn => ⟨fun _ => ⟨fun _ => ⟨al_out, fun S2 e2 => ?_⟩, fun g3 => absurd rfl g3⟩, fun g3 => absurd rfl g3⟩) (fun hE hf => ⟨fun g3 => by omega, fun _ => fun S13 e13 => ⟨fun g3 => by omega, fun _ => ⟨al_out, fun S2 e2 => ?_⟩⟩⟩)
    · refine s_isIn (fun _ => by omega) (fun _ _ => ⟨fun g3 => by omega, fun _ => fun S1 e1 => ⟨fun g3 => ?_, fun g3 => ?_⟩⟩)
      · rw [e1, up_s] at g3
        omega
      · have f1 : ∀ k j, ¬ (k = 0 ∧ j = 0) → ¬ (k = 330 ∧ j = 0) → S1 k j = S k j := fun k j a1 a2 => by rw [e1, up_n a1, e2, up_n a2]
        have t1 : tof S S1 := fun k j hk => f1 k j (by omega) (by omega)
        have fin : okB 0 0 S1 := okB_0 h (fun k j a1 a2 => f1 k j a1 (by omega)) (by rw [e1, up_s]) (by rw [e1, up_n (by omega), e2, up_s])
        have iE : isE S1 v ↔ isE S v := by
          unfold isE
          rw [f1 0 1 (by omega) (by omega), f1 0 4 (by omega) (by omega), t1.cf.n]
        refine s_isEnd (t1.c c).1 hI (fun hE => ⟨fun g4 => by omega, fun _ => ?_⟩) (fun hE => ⟨fun _ => fin, fun g4 => absurd rfl g4⟩)
        have hE' := iE.1 hE
        have eb := isE_b hm hE'
        rw [f1 0 1 (by omega) (by omega), f1 0 4 (by omega) (by omega), f1 13 _ (by omega) (by omega)]
        exact ⟨by omega, by omega, by omega, by omega, fun g4 => absurd ⟨hE', g4⟩ hn, fun _ => fin⟩
    · refine s_isIn (fun _ => by omega) (fun _ _ => ⟨fun g3 => by omega, fun _ => fun S1 e1 => ⟨fun g3 => ?_, fun g3 => ?_⟩⟩)
      · rw [e1, up_s] at g3
        omega
      · have f1 : ∀ k j, ¬ (k = 0 ∧ j = 0) → ¬ (k = 330 ∧ j = 0) → ¬ (k = 100 ∧ j = 9) → ¬ (k = 200 + 20 * (S 0 4 - 1) + 8 ∧ j = v / S 0 1) → S1 k j = S k j := fun k j a1 a2 a3 a4 => by rw [e1, up_n a1, e2, up_n a2, e13, up_n a3, up_n a4]
        have c1 : cf S S1 := fun k j hk => f1 k j (by omega) (by omega) (by omega) (by omega)
        have e01 : S1 0 1 = S 0 1 := f1 _ _ (by omega) (by omega) (by omega) (by omega)
        have e04 : S1 0 4 = S 0 4 := f1 _ _ (by omega) (by omega) (by omega) (by omega)
        have iE : isE S1 v ↔ isE S v := by
          unfold isE
          rw [e01, e04, c1.n]
        have eb := isE_b hm hE
        refine s_isEnd (c1.w hm) hI (fun _ => ⟨fun g4 => by omega, fun _ => ?_⟩) (fun g4 => absurd (iE.2 hE) g4)
        rw [e01, e04, f1 13 _ (by omega) (by omega) (by omega) (by omega)]
        refine ⟨by omega, by omega, by omega, by omega, fun _ => ⟨by omega, by omega, by omega, by omega, Or.inr rfl, fun S20 e20 => ?_⟩, fun g4 => absurd hf g4⟩
        refine s_told ⟨Or.inr rfl, ?_⟩
        generalize eT : up S20 0 33 0 = T
        have fT : ∀ k j, ¬ (k = 0 ∧ (j = 0 ∨ j = 33)) → ¬ (k = 13 ∧ j = 81 * (S 0 4 - 1) + v / S 0 1) → ¬ (k = 200 + 20 * (S 0 4 - 1) + 8 ∧ j = v / S 0 1) → ¬ (k = 100 ∧ j = 9) → k ≠ 330 → T k j = S k j := fun k j a1 a2 a3 a4 a5 => by
          rw [← eT, up_n (by omega), e20, up_n a2, f1 _ _ (by omega) (by omega) a4 a3]
        have cT := cR_force c (show 0 ≤ S 0 4 - 1 by omega) (by omega) eb.1 eb.2 fT (by rw [← eT, up_n (by omega), e20, up_s]) (by rw [← eT, up_n (by omega), e20, up_n (by omega), e1, up_n (by omega), e2, up_n (by omega), e13, up_n (by omega), up_s])
        refine ⟨⟨?_, fun _ => ?_, InvS.told cT h (fT _ _ (by omega) (by omega) (by omega) (by omega) (by omega)) (fT _ _ (by omega) (by omega) (by omega) (by omega) (by omega)) ?_ ?_ (fT _ _ (by omega) (by omega) (by omega) (by omega) (by omega))⟩, Or.inr rfl⟩
        · rw [← eT, up_n (by omega), e20, up_n (by omega), e1, up_s]
        · rw [← eT, up_n (by omega), e20, up_n (by omega), e1, up_n (by omega), e2, up_s]
        · rw [← eT, up_n (by omega), e20, up_n (by omega), e1, up_n (by omega), e2, up_n (by omega), e13, up_s]
        · rw [← eT, up_s]
end SH
