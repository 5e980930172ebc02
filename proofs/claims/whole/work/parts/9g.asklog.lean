section AL
variable {S T U : St} {s p v k d : Int}
theorem s_logAt {Q : Int → St → Prop} (hm : wfM S) (k0 : 0 ≤ k) (qq : ∀ j, (k < lc S (S 25) → isL S (S 25) j ∧ nL1 S (S 25) j = k) → Q j S) : vpMo_logAt 0 k S Q := by
  have h4 := hm.1.2.2.2.1
  unfold vpMo_logAt
  refine lp3 (fun n c f i => vMo_logAt_7 Q n 0 k c f i S) (fun c f i => (0 ≤ i ∧ i ≤ 81 * S 0 4) ∧ c = nL1 S (S 25) i ∧ (k < nL1 S (S 25) i → isL S (S 25) f ∧ nL1 S (S 25) f = k)) (fun _ _ i => (81 * S 0 4 - i).toNat) (fun n c f i hI ih => ?_) 0 (-1) 0 ⟨by omega, rfl, fun h => ?_⟩
  · obtain ⟨hi, ec, hf⟩ := hI
    unfold vMo_logAt_7
    refine ⟨by constructor <;> omega, fun hc => ?_, fun hc => ?_⟩
    · have : i = 81 * S 0 4 := by omega
      subst this
      exact qq f hf
    · have n0 := nL_0 (S := S) (w := S 25) hi.1
      have n1 := lc_b (w := S 25) hm
      have nm := nL_mono (S := S) (w := S 25) hi.1 hi.2
      have n1' : nL1 S (S 25) (81 * S 0 4) ≤ 486 := n1.2
      have es : nL1 S (S 25) (i + 1) = nL1 S (S 25) i + lf S (S 25) (fun _ => 1) i := sm_s hi.1
      have nx : ∀ f', (k < nL1 S (S 25) (i + 1) → isL S (S 25) f' ∧ nL1 S (S 25) f' = k) → ∀ c', c' = nL1 S (S 25) (i + 1) → vMo_logAt_83 Q (vMo_logAt_7 Q n) 0 k f' i c' S := by
        intro f' hf' c' ec'
        unfold vMo_logAt_83
        refine ⟨by constructor <;> omega, fun z ez => ?_⟩
        subst ez
        exact ih c' f' (i + 1) ⟨by omega, ec', hf'⟩ (by show (81 * S 0 4 - (i + 1)).toNat < (81 * S 0 4 - i).toNat; omega)
      have no : ¬ isL S (S 25) i → vMo_logAt_51 Q (vMo_logAt_7 Q n) 0 k c f i S := by
        intro hl
        have el : lf S (S 25) (fun _ => 1) i = 0 := lf_no hi.1 (by omega) hl
        unfold vMo_logAt_51 vMo_logAt_52 vMo_logAt_69 vMo_logAt_70
        refine ⟨fun _ => ⟨fun _ => nx f (fun g => hf (by omega)) c (by omega), fun g => absurd rfl g⟩, fun g => absurd rfl g⟩
      refine ⟨by omega, by omega, by constructor <;> omega, ?_⟩
      refine s_stepsOf hm.1 (hm.2.1 (i / 81) (by omega) (by omega)) (by omega) (by omega) ⟨by omega, by omega, by constructor <;> omega, fun hn => no (fun hl => by have := hl.2.2.1; omega), fun hn => ⟨by omega, fun hw => ?_, fun hw => no (fun hl => hw hl.2.2.2)⟩⟩
      have hl : isL S (S 25) i := ⟨hi.1, by omega, by omega, hw⟩
      have el : lf S (S 25) (fun _ => 1) i = 1 := lf_yes hl
      unfold vMo_logAt_52 vMo_logAt_69 vMo_logAt_70
      refine ⟨fun g => by omega, fun _ => ⟨fun ek => ⟨fun g => by omega, fun _ => ⟨by constructor <;> omega, nx i (fun _ => ⟨hl, by omega⟩) (c + 1) (by omega)⟩⟩, fun ek => ⟨fun g => by omega, fun _ => ⟨by constructor <;> omega, nx f (fun g => hf (by omega)) (c + 1) (by omega)⟩⟩⟩⟩
  · have : nL1 S (S 25) 0 = 0 := rfl
    omega
theorem op_log (h : InvS S) (kI : rI k) : vpLa_log 100 k d 330 S (fun r1 S1 => vpMo_log 0 k d S1 (fun r2 S2 => okR r1 r2 S2)) := by
  have c := h.1
  have hm := c.1
  have h4 := hm.1.2.2.2.1
  have hk := h.2.1
  unfold vpLa_log vpBT_log vBT_log_44
  refine s_needPlan h (fun g => ⟨fun _ => ?_, fun g2 => absurd g2 (by decide), fun g2 => absurd g2 (by decide), Or.inl rfl⟩) (fun g => ?_)
  · unfold vpMo_log
    exact s_none h.2.2.1 (fun _ => ⟨fun g2 => by omega, fun _ => okR_e h (by omega) (fun k j hk => up_n hk) up_s⟩) (fun g2 => by omega)
  · obtain ⟨_, _, _, m4, _, m6⟩ := h.m g
    have e3 : S (S 100 7) 3 = lc S (S 25) := m6.1
    have lb := lc_b (w := S 25) hm
    -- the reference, up to the row
    have ref : ∀ (T : St) (Q : Int → St → Prop), InvS T → T 0 33 = 1 → (∀ k j, ¬ (k = 0 ∧ j = 0) → k ≠ 330 → T k j = S k j) → ((k < -1 ∨ lc S (S 25) ≤ k) → Q 0 (up (up T 0 0 0) 0 0 2)) → (-1 ≤ k → k < lc S (S 25) → (d < 0 ∨ 4 < d) → Q 0 (up (up T 0 0 0) 0 0 3)) → (-1 ≤ k → k < lc S (S 25) → 0 ≤ d → d ≤ 4 → vMo_log_46 Q 0 k d (lc S (S 25)) 0 0 (up T 0 0 0)) → vpMo_log 0 k d T Q := by
      intro T Q hT t33 f q2 q3 q0
      have fk : ∀ k, k ≠ 0 → k ≠ 330 → up T 0 0 0 k = S k := fun k k1 k2 => funext fun j => by rw [up_n (by omega)]; exact f k j (by omega) k2
      have fj : ∀ j, j ≠ 0 → up T 0 0 0 0 j = S 0 j := fun j hj => by rw [up_n (by omega)]; exact f 0 j (by omega) (by omega)
      have tf : tof S (up T 0 0 0) := fun k j hk => by rw [up_n (by omega)]; exact f k j (by omega) (by omega)
      have o' : okA (up T 0 0 0) (up T 0 0 0 25) (up T 0 0 0 26) (up T 0 0 0 27) := by
        rw [fk 25 (by omega) (by omega), fk 26 (by omega) (by omega), fk 27 (by omega) (by omega)]
        exact okA_cf tf.cf m4
      have el : lc (up T 0 0 0) (up T 0 0 0 25) = lc S (S 25) := by rw [fk 25 (by omega) (by omega), lc_cf tf.cf]
      unfold vpMo_log
      refine s_none (Or.inr t33) (fun g2 => by omega) (fun _ => ⟨fun _ => ?_, fun g2 => absurd rfl g2⟩)
      refine s_logCount (tf.c c).1 o' ?_
      rw [el]
      have m46 : ∀ y0, 0 < y0 → Q 0 (up (up T 0 0 0) 0 0 y0) → vMo_log_46 Q 0 k d (lc S (S 25)) y0 0 (up T 0 0 0) := by
        intro y0 yp hq
        unfold vMo_log_46 vMo_log_61 vMo_log_73
        intro S1 e1
        have e0 : S1 0 0 = y0 := by rw [e1, up_s]
        refine ⟨fun _ => ⟨fun g2 => by omega, fun _ => by rw [e1]; exact hq⟩, fun g2 => by omega⟩
      unfold vMo_log_25
      refine ⟨fun g2 => m46 2 (by omega) (q2 (Or.inl g2)), fun g2 => ⟨fun g3 => s_isIn (fun hd => ⟨fun _ => m46 3 (by omega) (q3 (by omega) g3 hd), fun g4 => absurd rfl g4⟩) (fun d0 d4 => ⟨fun g4 => by omega, fun _ => q0 (by omega) g3 d0 d4⟩), fun g3 => m46 2 (by omega) (q2 (Or.inr (by omega)))⟩⟩
    have err : ∀ r, (r = 2 ∧ (k < -1 ∨ lc S (S 25) ≤ k)) ∨ (r = 3 ∧ -1 ≤ k ∧ k < lc S (S 25) ∧ (d < 0 ∨ 4 < d)) → vpMo_log 0 k d S (fun r2 S2 => okR r r2 S2) := by
      intro r hr
      refine ref S _ h g (fun _ _ _ _ => rfl) (fun hk => ?_) (fun h1 h2 h3 => ?_) (fun h1 h2 h3 h4 => by omega)
      · have : r = 2 := by omega
        subst this
        exact okR_e h (by omega) (fun k j hk => by rw [up_n hk, up_n hk]) up_s
      · have : r = 3 := by omega
        subst this
        exact okR_e h (by omega) (fun k j hk => by rw [up_n hk, up_n hk]) up_s
    have fr : ∀ v T U, T = up S 330 0 v → U = up (up T 0 0 0) 0 0 0 → InvS U ∧ U 330 0 = v ∧ U 0 0 = 0 ∧ (∀ k j, ¬ (k = 0 ∧ j = 0) → k ≠ 330 → U k j = S k j) := fun v T U e1 e2 => by
      have f : ∀ k j, ¬ (k = 0 ∧ j = 0) → k ≠ 330 → U k j = S k j := fun k j a1 a2 => by rw [e2, up_n a1, up_n a1, e1, up_n (by omega)]
      exact ⟨h.fr f, by rw [e2, up_n (by omega), up_n (by omega), e1, up_s], by rw [e2, up_s], f⟩
    have b2 : (k < -1 ∨ lc S (S 25) ≤ k) → (("java/lang/IndexOutOfBoundsException" = "java/lang/IllegalStateException" → (fun r1 S1 => vpMo_log 0 k d S1 (fun r2 S2 => okR r1 r2 S2)) 1 S) ∧ (("java/lang/IndexOutOfBoundsException" = "java/lang/IndexOutOfBoundsException" → (fun r1 S1 => vpMo_log 0 k d S1 (fun r2 S2 => okR r1 r2 S2)) 2 S) ∧ (("java/lang/IndexOutOfBoundsException" = "java/lang/IllegalArgumentException" → (fun r1 S1 => vpMo_log 0 k d S1 (fun r2 S2 => okR r1 r2 S2)) 3 S) ∧ ("java/lang/IndexOutOfBoundsException" = "java/lang/IllegalStateException" ∨ "java/lang/IndexOutOfBoundsException" = "java/lang/IndexOutOfBoundsException" ∨ "java/lang/IndexOutOfBoundsException" = "java/lang/IllegalArgumentException")))) := fun hb => ⟨fun g => absurd g (by decide), fun _ => err 2 (Or.inl ⟨rfl, hb⟩), fun g => absurd g (by decide), Or.inr (Or.inl rfl)⟩
    have b3 : -1 ≤ k → k < lc S (S 25) → (d < 0 ∨ 4 < d) → (("java/lang/IllegalArgumentException" = "java/lang/IllegalStateException" → (fun r1 S1 => vpMo_log 0 k d S1 (fun r2 S2 => okR r1 r2 S2)) 1 S) ∧ (("java/lang/IllegalArgumentException" = "java/lang/IndexOutOfBoundsException" → (fun r1 S1 => vpMo_log 0 k d S1 (fun r2 S2 => okR r1 r2 S2)) 2 S) ∧ (("java/lang/IllegalArgumentException" = "java/lang/IllegalArgumentException" → (fun r1 S1 => vpMo_log 0 k d S1 (fun r2 S2 => okR r1 r2 S2)) 3 S) ∧ ("java/lang/IllegalArgumentException" = "java/lang/IllegalStateException" ∨ "java/lang/IllegalArgumentException" = "java/lang/IndexOutOfBoundsException" ∨ "java/lang/IllegalArgumentException" = "java/lang/IllegalArgumentException")))) := fun h1 h2 hb => ⟨fun g => absurd g (by decide), fun g => absurd g (by decide), fun _ => err 3 (Or.inr ⟨rfl, h1, h2, hb⟩), Or.inr (Or.inr rfl)⟩
    -- the row itself
    have good : -1 ≤ k → k < lc S (S 25) → 0 ≤ d → d ≤ 4 → ∀ v S10, S10 = up S 330 0 v → v = (if k = -1 then lc S (S 25) else S (S 100 7 + 1) (5 * k + d)) → vpMo_log 0 k d S10 (fun r2 S2 => okR 0 r2 S2) := by
      intro k1 k2 d0 d4 v S10 e10 hv
      have f10 : ∀ k j, ¬ (k = 0 ∧ j = 0) → k ≠ 330 → S10 k j = S k j := fun k j a1 a2 => by rw [e10, up_n (by omega)]
      refine ref S10 _ (h.fr f10) (by rw [f10 _ _ (by omega) (by omega)]; exact g) f10 (fun hb => by omega) (fun _ _ hb => by omega) (fun _ _ _ _ => ?_)
      unfold vMo_log_46 vMo_log_61 vMo_log_73
      intro U eU
      obtain ⟨hU, u3, u0, f⟩ := fr v S10 U e10 eU
      have fk : ∀ k, k ≠ 0 → k ≠ 330 → U k = S k := fun k k1 k2 => funext fun j => f k j (by omega) k2
      have tf : tof S U := fun k j hk => f k j (by omega) (by omega)
      refine ⟨fun g2 => by omega, fun _ => ⟨fun hk1 => ⟨fun _ => okR_q hU (by rw [u3, hv, if_pos hk1]) u0, fun g2 => by omega⟩, fun hk1 => ?_⟩⟩
      refine s_logAt hU.1.1 (by omega) (fun j hj => ?_)
      have e25 : U 25 = S 25 := fk _ (by omega) (by omega)
      have e26 : U 26 = S 26 := fk _ (by omega) (by omega)
      have e27 : U 27 = S 27 := fk _ (by omega) (by omega)
      rw [e25, lc_cf tf.cf] at hj
      obtain ⟨hj1, hj2⟩ := hj k2
      have hj1' : isL S (S 25) j := (isL_cf tf.cf).1 hj1
      have hj2' : nL1 S (S 25) j = k := by
        have : nL1 U (S 25) j = nL1 S (S 25) j := by
          unfold nL1
          rw [lf_cf tf.cf]
        rw [← this]
        exact hj2
      have row := m6.2.2.2.1 j hj1' hj1'.2.1
      rw [hj2'] at row
      obtain ⟨r0, r1, r2, r3, r4⟩ := row
      have oj := m4 j hj1'
      have j0 := hj1'.1
      have j1 := hj1'.2.1
      have n80 := (hm.2.1 (j / 81) (by omega) (by omega)).2.2.2.2.2.1
      rw [if_neg hk1] at hv
      unfold vMo_log_160
      rw [e26, e27]
      refine ⟨fun hd => ⟨by omega, by omega, by constructor <;> omega, okR_q hU ?_ u0⟩, fun hd => ⟨fun hd1 => ⟨by omega, by omega, by constructor <;> omega, okR_q hU ?_ u0⟩, fun hd1 => ⟨fun hd2 => ⟨by omega, okR_q hU ?_ u0⟩, fun hd2 => ⟨fun hd3 => ⟨by omega, okR_q hU ?_ u0⟩, fun hd3 => ⟨by omega, by omega, by omega, by omega, by constructor <;> omega, ?_⟩⟩⟩⟩⟩
      · rw [u3, hv, hd, Int.add_zero, r0]
      · rw [u3, hv, hd1, r1]
      · rw [u3, hv, hd2, r2]
      · rw [u3, hv, hd3, r3]
      · have e14 : U 0 14 = S 0 14 := f _ _ (by omega) (by omega)
        have vb := wv_b (S := S) (s := j / 81) (a := S 26 j) (hm.2.2 _ oj.2.1 (by have := hm.1.2.2.2.2; omega)) oj.2.2 (by omega) (by omega) (by omega) (by omega)
        refine s_worthOf hU.1.1 oj.2.1 (by rw [e14]; exact oj.2.2) (by omega) (by omega) (by omega) (by omega) ?_
        rw [tf.cf.v]
        refine ⟨by constructor <;> omega, okR_q hU ?_ u0⟩
        rw [u3, hv, show d = 4 by omega, r4]
    have part : -1 ≤ k → k < lc S (S 25) → vpBT_needPart d 5 S (fun S12 => ((k = -1 → (fun r1 S2 => ((0 : Int) ≤ 0 ∧ (0 : Int) < alen 330) ∧ ∀ S10, S10 = up S2 330 0 r1 → (fun r1 S1 => vpMo_log 0 k d S1 (fun r2 S2 => okR r1 r2 S2)) 0 S10) (S12 (S12 100 7) 3) S12) ∧ (¬ k = -1 → vpPl_tellLog (S12 100 7) k d S12 (fun r17 S18 => (fun r1 S2 => ((0 : Int) ≤ 0 ∧ (0 : Int) < alen 330) ∧ ∀ S10, S10 = up S2 330 0 r1 → (fun r1 S1 => vpMo_log 0 k d S1 (fun r2 S2 => okR r1 r2 S2)) 0 S10) r17 S18)))) (fun E9 S6 => ((E9 = "java/lang/IllegalStateException" → (fun r1 S1 => vpMo_log 0 k d S1 (fun r2 S2 => okR r1 r2 S2)) 1 S6) ∧ ((E9 = "java/lang/IndexOutOfBoundsException" → (fun r1 S1 => vpMo_log 0 k d S1 (fun r2 S2 => okR r1 r2 S2)) 2 S6) ∧ ((E9 = "java/lang/IllegalArgumentException" → (fun r1 S1 => vpMo_log 0 k d S1 (fun r2 S2 => okR r1 r2 S2)) 3 S6) ∧ (E9 = "java/lang/IllegalStateException" ∨ E9 = "java/lang/IndexOutOfBoundsException" ∨ E9 = "java/lang/IllegalArgumentException"))))) := by
      intro k1 k2
      unfold vpBT_needPart
      refine ⟨by constructor <;> omega, s_out (fun hd => ⟨fun g2 => by omega, fun _ => b3 k1 k2 (by omega)⟩) (fun d0 d4 => ⟨fun _ => ⟨fun hk1 => ⟨al_out, fun S10 e10 => good k1 k2 d0 (by omega) _ S10 e10 (by rw [if_pos hk1]; exact e3)⟩, fun hk1 => ?_⟩, fun g2 => absurd rfl g2⟩)⟩
      have k480 : k < 480 := by
        have := nL_80 (w := S 25) hm (S 0 4).toNat (by omega)
        rw [show (((S 0 4).toNat : Nat) : Int) = S 0 4 by omega] at this
        have e : lc S (S 25) = nL1 S (S 25) (81 * S 0 4) := rfl
        omega
      exact s_tellLog (by omega) k480 d0 (by omega) ⟨al_out, fun S10 e10 => good k1 k2 d0 (by omega) _ S10 e10 (by rw [if_neg hk1])⟩
    unfold vpBT_needRow vBT_needRow_27
    rw [e3]
    refine ⟨fun hk1 => part (by omega) (by omega), fun hk1 => ⟨by constructor <;> omega, s_out (fun hb => ⟨fun g2 => by omega, fun _ => b2 (by omega)⟩) (fun k0 k1 => ⟨fun _ => part (by omega) (by omega), fun g2 => absurd rfl g2⟩)⟩⟩
end AL
