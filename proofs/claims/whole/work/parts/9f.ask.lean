/-! WHAT IS ASKED, both sides -/
section AQ
variable {S T U : St} {s p v k d : Int}
theorem s_none {Q : Int → St → Prop} (h33 : S 0 33 = 0 ∨ S 0 33 = 1) (q1 : S 0 33 = 0 → Q 1 (up S 0 0 1)) (q0 : S 0 33 = 1 → Q 0 (up S 0 0 0)) : vpMo_none 0 S Q := by
  unfold vpMo_none vMo_none_13 vMo_none_28
  refine ⟨fun h => fun S1 e1 => ?_, fun h => fun S1 e1 => ?_⟩
  · have e0 : S1 0 0 = 1 := by rw [e1, up_s]
    exact ⟨fun g => by omega, fun _ => ⟨Or.inr rfl, by rw [e1]; exact q1 h⟩⟩
  · have e0 : S1 0 0 = 0 := by rw [e1, up_s]
    exact ⟨fun _ => ⟨Or.inl rfl, by rw [e1]; exact q0 (by omega)⟩, fun g => by omega⟩
theorem s_needPlan {Q : St → Prop} {QX : String → St → Prop} (h : InvS S) (q1 : S 0 33 = 0 → QX "java/lang/IllegalStateException" S) (q0 : S 0 33 = 1 → Q S) : vpBT_needPlan 100 S Q QX := by
  unfold vpBT_needPlan
  have h2 := h.2.2.1
  have h3 := h.2.2.2.1
  exact ⟨fun g => q1 (by omega), fun g => q0 (by omega)⟩
/-- the state after a question that was answered -/
theorem InvS.q (h : InvS S) (e : U = up (up S 330 0 v) 0 0 0) : InvS U ∧ U 330 0 = v ∧ U 0 0 = 0 ∧ (∀ k j, ¬ (k = 0 ∧ j = 0) → k ≠ 330 → U k j = S k j) := by
  have f : ∀ k j, ¬ (k = 0 ∧ j = 0) → k ≠ 330 → U k j = S k j := fun k j a1 a2 => by rw [e, up_n a1, up_n (by omega)]
  exact ⟨h.fr f, by rw [e, up_n (by omega), up_s], by rw [e, up_s], f⟩
theorem okR_q {r : Int} (h : InvS U) (e3 : U 330 0 = r) (e0 : U 0 0 = 0) : okR 0 r U := ⟨e0, fun _ => e3, h⟩
/-- what is known of a plan that was made -/
theorem InvS.m (h : InvS S) (e : S 0 33 = 1) : S 100 10 = S 0 34 ∧ S 100 11 = S 0 35 ∧ (∀ p, 0 ≤ p → p < S 0 14 → prC S p = S 24 p) ∧ okA S (S 25) (S 26) (S 27) ∧ sepA S (S 25) (S 26) ∧ pRel S S (S 100 7) (S 25) (S 26) (S 27) := h.2.2.2.2.2 e
theorem op_worth (h : InvS S) : vpLa_worth 100 330 S (fun r1 S1 => vpMo_worth 0 S1 (fun r2 S2 => okR r1 r2 S2)) := by
  unfold vpLa_worth vpBT_worth vpMo_worth vMo_worth_15
  refine s_needPlan h (fun g => ⟨fun _ => s_none h.2.2.1 (fun _ => ⟨fun g2 => by omega, fun _ => okR_e h (by omega) (fun k j hk => up_n hk) up_s⟩) (fun g2 => by omega), rfl⟩) (fun g => ⟨al_out, fun S10 e10 => ?_⟩)
  have g33 : S10 0 33 = 1 := by rw [e10, up_n (by omega)]; exact g
  refine s_none (Or.inr g33) (fun g2 => by omega) (fun _ => ⟨fun _ => ?_, fun g2 => absurd rfl g2⟩)
  generalize eU : up S10 0 0 0 = U
  rw [e10] at eU
  obtain ⟨hU, e3, e0, f⟩ := h.q eU.symm
  have u33 : U 0 33 = 1 := by rw [f _ _ (by omega) (by omega)]; exact g
  obtain ⟨_, _, _, m4, _, m6⟩ := hU.m u33
  refine s_trueWorth hU.1.1 m4 ?_
  have m2 := m6.2.1
  have u7 : U 100 7 = S 100 7 := f _ _ (by omega) (by omega)
  have uk : U (U 100 7) 4 = S (S 100 7) 4 := by
    rw [u7]
    exact f _ _ (by have := h.2.1; omega) (by have := h.2.1; omega)
  refine okR_q hU ?_ e0
  rw [e3, ← uk, m2]
  rfl
theorem op_bound (h : InvS S) : vpLa_bound 100 330 S (fun r1 S1 => vpMo_bound 0 S1 (fun r2 S2 => okR r1 r2 S2)) := by
  unfold vpLa_bound vpBT_bound vpMo_bound vMo_bound_15
  refine s_needPlan h (fun g => ⟨fun _ => s_none h.2.2.1 (fun _ => ⟨fun g2 => by omega, fun _ => okR_e h (by omega) (fun k j hk => up_n hk) up_s⟩) (fun g2 => by omega), rfl⟩) (fun g => ⟨al_out, fun S10 e10 => ?_⟩)
  have g33 : S10 0 33 = 1 := by rw [e10, up_n (by omega)]; exact g
  refine s_none (Or.inr g33) (fun g2 => by omega) (fun _ => ⟨fun _ => ?_, fun g2 => absurd rfl g2⟩)
  generalize eU : up S10 0 0 0 = U
  rw [e10] at eU
  obtain ⟨hU, e3, e0, f⟩ := h.q eU.symm
  refine okR_q hU ?_ e0
  rw [e3, (h.m g).2.1]
  exact (f _ _ (by omega) (by omega)).symm
theorem op_greatest (h : InvS S) : vpLa_greatest 100 330 S (fun r1 S1 => vpMo_greatest 0 S1 (fun r2 S2 => okB r1 r2 S2)) := by
  unfold vpLa_greatest vpBT_greatest vBT_greatest_24 vLa_greatest_14 vpMo_greatest vMo_greatest_23 vMo_greatest_24
  refine s_needPlan h (fun g => ⟨fun _ => s_none h.2.2.1 (fun _ => ⟨fun g2 => by omega, fun _ => ⟨Or.inl rfl, okB_e h (by omega) (fun k j hk => up_n hk) up_s⟩⟩) (fun g2 => by omega), rfl⟩) (fun g => ?_)
  obtain ⟨_, m2, _, m4, _, m6⟩ := h.m g
  have ew : S (S 100 7) 4 = wt S (S 25) (S 26) (S 27) := m6.2.1
  have go : ∀ v (U : St), InvS U → U 330 0 = v → U 0 0 = 0 → (∀ k j, ¬ (k = 0 ∧ j = 0) → k ≠ 330 → U k j = S k j) → (v = 0 ∨ v = 1) → (v = 1 ↔ S (S 100 7) 4 = S 100 11) → vpMo_trueWorth 0 U (fun r7 S8 => (r7 = S8 0 35 → ((1 : Int) = 0 ∨ (1 : Int) = 1) ∧ okB 0 1 S8) ∧ (¬ r7 = S8 0 35 → ((0 : Int) = 0 ∨ (0 : Int) = 1) ∧ okB 0 0 S8)) := by
    intro v U hU e3 e0 f hv hi
    have u33 : U 0 33 = 1 := by rw [f _ _ (by omega) (by omega)]; exact g
    obtain ⟨_, _, _, n4, _, n6⟩ := hU.m u33
    refine s_trueWorth hU.1.1 n4 ?_
    have fk : ∀ k, k ≠ 0 → k ≠ 330 → U k = S k := fun k k1 k2 => funext fun j => f k j (by omega) k2
    have tf : tof S U := fun k j hk => f k j (by omega) (by omega)
    have e1 : wt U (U 25) (U 26) (U 27) = S (S 100 7) 4 := by rw [ew, fk 25 (by omega) (by omega), fk 26 (by omega) (by omega), fk 27 (by omega) (by omega), wt_cf tf.cf]
    have e2 : U 0 35 = S 100 11 := by rw [f _ _ (by omega) (by omega), m2]
    rw [e1, e2]
    refine ⟨fun hh => ⟨Or.inr rfl, okR_q hU (by rw [e3]; exact hi.2 hh) e0, Or.inr rfl⟩, fun hh => ⟨Or.inl rfl, okR_q hU ?_ e0, Or.inl rfl⟩⟩
    rcases hv with hv | hv
    · rw [e3]; exact hv
    · exact absurd (hi.1 hv) hh
  refine ⟨fun he => ⟨Or.inr rfl, fun g2 => by omega, fun _ => ⟨al_out, fun S2 e2 => ?_⟩⟩, fun he => ⟨Or.inl rfl, fun _ => ⟨al_out, fun S2 e2 => ?_⟩, fun g2 => absurd rfl g2⟩⟩
  · have g33 : S2 0 33 = 1 := by rw [e2, up_n (by omega)]; exact g
    refine s_none (Or.inr g33) (fun g2 => by omega) (fun _ => ⟨fun _ => ?_, fun g2 => absurd rfl g2⟩)
    generalize eU : up S2 0 0 0 = U
    rw [e2] at eU
    obtain ⟨hU, e3, e0, f⟩ := h.q eU.symm
    exact go 1 U hU e3 e0 f (Or.inr rfl) ⟨fun _ => he, fun _ => rfl⟩
  · have g33 : S2 0 33 = 1 := by rw [e2, up_n (by omega)]; exact g
    refine s_none (Or.inr g33) (fun g2 => by omega) (fun _ => ⟨fun _ => ?_, fun g2 => absurd rfl g2⟩)
    generalize eU : up S2 0 0 0 = U
    rw [e2] at eU
    obtain ⟨hU, e3, e0, f⟩ := h.q eU.symm
    exact go 0 U hU e3 e0 f (Or.inl rfl) ⟨fun g2 => by omega, fun g2 => absurd g2 he⟩
theorem op_price (h : InvS S) : vpLa_price 100 p d 330 S (fun r1 S1 => vpMo_price 0 p d S1 (fun r2 S2 => okR r1 r2 S2)) := by
  have c := h.1
  have h14 := c.1.1.2.2.2.2
  have hk := h.2.1
  unfold vpLa_price vpBT_price vBT_price_62
  refine s_needPlan h (fun g => ⟨fun _ => ?_, fun g2 => absurd g2 (by decide), Or.inl rfl⟩) (fun g => ?_)
  · unfold vpMo_price
    exact s_none h.2.2.1 (fun _ => ⟨fun g2 => by omega, fun _ => okR_e h (by omega) (fun k j hk => up_n hk) up_s⟩) (fun g2 => by omega)
  · obtain ⟨_, _, m3, m4, _, m6⟩ := h.m g
    have err : (p < 0 ∨ S 0 14 ≤ p) ∨ (d < 0 ∨ 2 < d) → vpMo_price 0 p d S (fun r2 S2 => okR 2 r2 S2) := by
      intro hb
      have e36 : vMo_price_36 (fun r2 S2 => okR 2 r2 S2) 0 p d 2 0 (up S 0 0 0) := by
        unfold vMo_price_36 vMo_price_83
        intro S1 e1
        have e0 : S1 0 0 = 2 := by rw [e1, up_s]
        exact ⟨fun g2 => by omega, fun _ => okR_e h (by omega) (fun k j hk => by rw [e1, up_n hk, up_n hk]) e0⟩
      unfold vpMo_price vMo_price_31
      refine s_none h.2.2.1 (fun g2 => by omega) (fun _ => ⟨fun _ => ?_, fun g2 => absurd rfl g2⟩)
      have e14 : up S 0 0 0 0 14 = S 0 14 := up_n (by omega)
      rw [e14]
      exact ⟨fun _ => e36, fun _ => ⟨fun _ => e36, fun _ => ⟨fun _ => e36, fun _ => ⟨fun _ => by omega, fun _ => e36⟩⟩⟩⟩
    have good : ∀ v S10, S10 = up S 330 0 v → 0 ≤ p → p < S 0 14 → 0 ≤ d → d ≤ 2 → v = (if d = 0 then S 24 p else if d = 1 then cn S (S 25) (S 27) p else S 21 p) → vpMo_price 0 p d S10 (fun r2 S2 => okR 0 r2 S2) := by
      intro v S10 e10 p0 p8 d0 d2 hv
      have g33 : S10 0 33 = 1 := by rw [e10, up_n (by omega)]; exact g
      have g14 : S10 0 14 = S 0 14 := by rw [e10, up_n (by omega)]
      unfold vpMo_price
      refine s_none (Or.inr g33) (fun g2 => by omega) (fun _ => ⟨fun _ => ?_, fun g2 => absurd rfl g2⟩)
      have e14 : up S10 0 0 0 0 14 = S 0 14 := by rw [up_n (by omega), g14]
      rw [e14]
      refine ⟨fun g2 => by omega, fun _ => ⟨fun g2 => by omega, fun _ => ⟨fun g2 => by omega, fun _ => ⟨fun _ => ?_, fun g2 => by omega⟩⟩⟩⟩
      unfold vMo_price_36 vMo_price_83
      intro U e1
      have f0 : ∀ k j, ¬ (k = 0 ∧ j = 0) → k ≠ 330 → U k j = S k j := fun k j a1 a2 => by rw [e1, up_n a1, up_n a1, e10, up_n (by omega)]
      have hU : InvS U := h.fr f0
      have e3 : U 330 0 = v := by rw [e1, up_n (by omega), up_n (by omega), e10, up_s]
      have e0 : U 0 0 = 0 := by rw [e1, up_s]
      refine ⟨fun _ => ⟨fun hd => ⟨by omega, okR_q hU ?_ e0⟩, fun hd => ⟨fun hd1 => ?_, fun hd1 => ⟨by omega, okR_q hU ?_ e0⟩⟩⟩, fun g2 => by omega⟩
      · rw [e3, hv, if_pos hd, f0 _ _ (by omega) (by omega)]
      · refine s_countOf hU.1.1 (okR_q hU ?_ e0)
        have fk : ∀ k, k ≠ 0 → k ≠ 330 → U k = S k := fun k k1 k2 => funext fun j => f0 k j (by omega) k2
        have tf : tof S U := fun k j hk => f0 k j (by omega) (by omega)
        rw [e3, hv, if_neg hd, if_pos hd1, fk 25 (by omega) (by omega), fk 27 (by omega) (by omega), cn_cf tf.cf]
      · rw [e3, hv, if_neg hd, if_neg hd1, f0 _ _ (by omega) (by omega)]
    have bad : (p < 0 ∨ S 0 14 ≤ p) ∨ (d < 0 ∨ 2 < d) → (("java/lang/IndexOutOfBoundsException" = "java/lang/IllegalStateException" → (fun r1 S1 => vpMo_price 0 p d S1 (fun r2 S2 => okR r1 r2 S2)) 1 S) ∧ (("java/lang/IndexOutOfBoundsException" = "java/lang/IndexOutOfBoundsException" → (fun r1 S1 => vpMo_price 0 p d S1 (fun r2 S2 => okR r1 r2 S2)) 2 S) ∧ ("java/lang/IndexOutOfBoundsException" = "java/lang/IllegalStateException" ∨ "java/lang/IndexOutOfBoundsException" = "java/lang/IndexOutOfBoundsException"))) := fun hb => ⟨fun g => absurd g (by decide), fun _ => err hb, Or.inr rfl⟩
    refine s_productAt c (fun hp => bad (Or.inl hp)) (fun p0 p8 => ?_)
    refine s_out (fun hd => ⟨fun g2 => by omega, fun _ => bad (Or.inr hd)⟩) (fun d0 d2 => ⟨fun _ => ?_, fun g2 => absurd rfl g2⟩)
    refine ⟨fun hd => ⟨al_out, fun S10 e10 => good _ S10 e10 p0 p8 d0 d2 ?_⟩, fun hd => ⟨fun hd1 => ⟨by omega, al_out, fun S10 e10 => good _ S10 e10 p0 p8 d0 d2 ?_⟩, fun hd1 => ⟨al_out, fun S10 e10 => good _ S10 e10 p0 p8 d0 d2 ?_⟩⟩⟩
    · rw [if_pos hd]
      exact m3 p p0 p8
    · rw [if_neg hd, if_pos hd1]
      exact m6.2.2.1 p p0 (by omega)
    · rw [if_neg hd, if_neg hd1]
      exact (c.2.2.2 p p0 (by omega)).1.2
end AQ
