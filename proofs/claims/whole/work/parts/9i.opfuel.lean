section AG
variable {S T U : St} {s p v k d c i : Int} {w : Int → Int}
theorem fR_cf (c : cf S U) : fR U w = fR S w := by
  funext i
  have e4 : U 0 4 = S 0 4 := c.j (by omega)
  have en : ∀ s, stN U s = stN S s := fun s => c.n
  unfold fR
  simp only [isF, e4, en]
theorem runL_cf {m : Int} (c : cf S U) (h : runL U w i m) : runL S w i m := by
  have e4 : U 0 4 = S 0 4 := c.j (by omega)
  have en : ∀ s, stN U s = stN S s := fun s => c.n
  unfold runL at *
  simp only [isF, e4, en] at h ⊢
  exact h
theorem op_fuel (h : InvS S) (kI : rI k) : vpLa_fuel 100 k d 330 S (fun r1 S1 => vpMo_fuel 0 k d S1 (fun r2 S2 => okR r1 r2 S2)) := by
  have c := h.1
  have hm := c.1
  have h4 := hm.1.2.2.2.1
  have hk := h.2.1
  unfold vpLa_fuel vpBT_fuel vBT_fuel_40
  refine s_needPlan h (fun g => ⟨fun _ => ?_, fun g2 => absurd g2 (by decide), fun g2 => absurd g2 (by decide), Or.inl rfl⟩) (fun g => ?_)
  · unfold vpMo_fuel
    exact s_none h.2.2.1 (fun _ => ⟨fun g2 => by omega, fun _ => okR_e h (by omega) (fun k j hk => up_n hk) up_s⟩) (fun g2 => by omega)
  · obtain ⟨_, _, _, m4, _, m6⟩ := h.m g
    have fu := fuB_of m6
    have eN := fR_end (w := S 25) hm
    have Nb := rnt_b (S := S) (w := S 25) (81 * S 0 4).toNat
    generalize eNN : sm (fR S (S 25)) (81 * S 0 4).toNat = N at *
    have ref : ∀ (T : St) (Q : Int → St → Prop), T 0 33 = 1 → (∀ k j, ¬ (k = 0 ∧ j = 0) → k ≠ 330 → T k j = S k j) → ((k < -1 ∨ N ≤ k) → Q 0 (up (up T 0 0 0) 0 0 2)) → (-1 ≤ k → k < N → (d < 0 ∨ 2 < d) → Q 0 (up (up T 0 0 0) 0 0 3)) → (-1 ≤ k → k < N → 0 ≤ d → d ≤ 2 → vMo_fuel_46 Q 0 k d N 0 0 (up T 0 0 0)) → vpMo_fuel 0 k d T Q := by
      intro T Q t33 f q2 q3 q0
      have fk : ∀ k, k ≠ 0 → k ≠ 330 → up T 0 0 0 k = S k := fun k k1 k2 => funext fun j => by rw [up_n (by omega)]; exact f k j (by omega) k2
      have tf : tof S (up T 0 0 0) := fun k j hk => by rw [up_n (by omega)]; exact f k j (by omega) (by omega)
      have e04 : up T 0 0 0 0 4 = S 0 4 := by rw [up_n (by omega)]; exact f 0 4 (by omega) (by omega)
      unfold vpMo_fuel
      refine s_none (Or.inr t33) (fun g2 => by omega) (fun _ => ⟨fun _ => ?_, fun g2 => absurd rfl g2⟩)
      refine s_fuelCount (tf.c c).1 ?_
      rw [fk 25 (by omega) (by omega), fR_cf tf.cf, e04, eNN]
      have m46 : ∀ y0, 0 < y0 → Q 0 (up (up T 0 0 0) 0 0 y0) → vMo_fuel_46 Q 0 k d N y0 0 (up T 0 0 0) := by
        intro y0 yp hq
        unfold vMo_fuel_46 vMo_fuel_61 vMo_fuel_73
        intro S1 e1
        have e0 : S1 0 0 = y0 := by rw [e1, up_s]
        refine ⟨fun _ => ⟨fun g2 => by omega, fun _ => by rw [e1]; exact hq⟩, fun g2 => by omega⟩
      unfold vMo_fuel_25
      refine ⟨fun g2 => m46 2 (by omega) (q2 (Or.inl g2)), fun g2 => ⟨fun g3 => s_isIn (fun hd => ⟨fun _ => m46 3 (by omega) (q3 (by omega) g3 hd), fun g4 => absurd rfl g4⟩) (fun d0 d4 => ⟨fun g4 => by omega, fun _ => q0 (by omega) g3 d0 d4⟩), fun g3 => m46 2 (by omega) (q2 (Or.inr (by omega)))⟩⟩
    have err : ∀ r, (r = 2 ∧ (k < -1 ∨ N ≤ k)) ∨ (r = 3 ∧ -1 ≤ k ∧ k < N ∧ (d < 0 ∨ 2 < d)) → vpMo_fuel 0 k d S (fun r2 S2 => okR r r2 S2) := by
      intro r hr
      refine ref S _ g (fun _ _ _ _ => rfl) (fun hk => ?_) (fun h1 h2 h3 => ?_) (fun h1 h2 h3 h4 => by omega)
      · have : r = 2 := by omega
        subst this
        exact okR_e h (by omega) (fun k j hk => by rw [up_n hk, up_n hk]) up_s
      · have : r = 3 := by omega
        subst this
        exact okR_e h (by omega) (fun k j hk => by rw [up_n hk, up_n hk]) up_s
    have fr : ∀ v T U, T = up S 330 0 v → U = up (up T 0 0 0) 0 0 0 → InvS U ∧ U 330 0 = v ∧ U 0 0 = 0 ∧ (∀ k j, ¬ (k = 0 ∧ j = 0) → k ≠ 330 → U k j = S k j) := fun v T U e1 e2 => by
      have f : ∀ k j, ¬ (k = 0 ∧ j = 0) → k ≠ 330 → U k j = S k j := fun k j a1 a2 => by rw [e2, up_n a1, up_n a1, e1, up_n (by omega)]
      exact ⟨h.fr f, by rw [e2, up_n (by omega), up_n (by omega), e1, up_s], by rw [e2, up_s], f⟩
    have b2 : (k < -1 ∨ N ≤ k) → (("java/lang/IndexOutOfBoundsException" = "java/lang/IllegalStateException" → (fun r1 S1 => vpMo_fuel 0 k d S1 (fun r2 S2 => okR r1 r2 S2)) 1 S) ∧ (("java/lang/IndexOutOfBoundsException" = "java/lang/IndexOutOfBoundsException" → (fun r1 S1 => vpMo_fuel 0 k d S1 (fun r2 S2 => okR r1 r2 S2)) 2 S) ∧ (("java/lang/IndexOutOfBoundsException" = "java/lang/IllegalArgumentException" → (fun r1 S1 => vpMo_fuel 0 k d S1 (fun r2 S2 => okR r1 r2 S2)) 3 S) ∧ ("java/lang/IndexOutOfBoundsException" = "java/lang/IllegalStateException" ∨ "java/lang/IndexOutOfBoundsException" = "java/lang/IndexOutOfBoundsException" ∨ "java/lang/IndexOutOfBoundsException" = "java/lang/IllegalArgumentException")))) := fun hb => ⟨fun g => absurd g (by decide), fun _ => err 2 (Or.inl ⟨rfl, hb⟩), fun g => absurd g (by decide), Or.inr (Or.inl rfl)⟩
    have b3 : -1 ≤ k → k < N → (d < 0 ∨ 2 < d) → (("java/lang/IllegalArgumentException" = "java/lang/IllegalStateException" → (fun r1 S1 => vpMo_fuel 0 k d S1 (fun r2 S2 => okR r1 r2 S2)) 1 S) ∧ (("java/lang/IllegalArgumentException" = "java/lang/IndexOutOfBoundsException" → (fun r1 S1 => vpMo_fuel 0 k d S1 (fun r2 S2 => okR r1 r2 S2)) 2 S) ∧ (("java/lang/IllegalArgumentException" = "java/lang/IllegalArgumentException" → (fun r1 S1 => vpMo_fuel 0 k d S1 (fun r2 S2 => okR r1 r2 S2)) 3 S) ∧ ("java/lang/IllegalArgumentException" = "java/lang/IllegalStateException" ∨ "java/lang/IllegalArgumentException" = "java/lang/IndexOutOfBoundsException" ∨ "java/lang/IllegalArgumentException" = "java/lang/IllegalArgumentException")))) := fun h1 h2 hb => ⟨fun g => absurd g (by decide), fun g => absurd g (by decide), fun _ => err 3 (Or.inr ⟨rfl, h1, h2, hb⟩), Or.inr (Or.inr rfl)⟩
    have good : -1 ≤ k → k < N → 0 ≤ d → d ≤ 2 → ∀ v S10, S10 = up S 330 0 v → (k = -1 → v = N) → (k ≠ -1 → ∃ i, 0 ≤ i ∧ fR S (S 25) i = 1 ∧ sm (fR S (S 25)) i.toNat = k ∧ (d = 0 → v = i / 81) ∧ (d = 1 → v = i % 81) ∧ (d = 2 → runL S (S 25) i v)) → vpMo_fuel 0 k d S10 (fun r2 S2 => okR 0 r2 S2) := by
      intro k1 k2 d0 d4 v S10 e10 hv1 hv2
      have f10 : ∀ k j, ¬ (k = 0 ∧ j = 0) → k ≠ 330 → S10 k j = S k j := fun k j a1 a2 => by rw [e10, up_n (by omega)]
      refine ref S10 _ (by rw [f10 _ _ (by omega) (by omega)]; exact g) f10 (fun hb => by omega) (fun _ _ hb => by omega) (fun _ _ _ _ => ?_)
      unfold vMo_fuel_46 vMo_fuel_61 vMo_fuel_73
      intro U eU
      obtain ⟨hU, u3, u0, f⟩ := fr v S10 U e10 eU
      have fk : ∀ k, k ≠ 0 → k ≠ 330 → U k = S k := fun k k1 k2 => funext fun j => f k j (by omega) k2
      have tf : tof S U := fun k j hk => f k j (by omega) (by omega)
      refine ⟨fun g2 => by omega, fun _ => ⟨fun hk1 => ⟨fun _ => okR_q hU (by rw [u3]; exact hv1 hk1) u0, fun g2 => by omega⟩, fun hk1 => ?_⟩⟩
      have e25 : U 25 = S 25 := fk _ (by omega) (by omega)
      have e04 : U 0 4 = S 0 4 := f _ _ (by omega) (by omega)
      obtain ⟨i, i0, i1, i2, w0, w1, w2⟩ := hv2 hk1
      refine s_f80 hU.1.1 (by omega) (by rw [e25, fR_cf tf.cf, e04, eNN]; exact k2) (fun i' m i0' i1' i2' i3' hr => ?_)
      rw [e25, fR_cf tf.cf] at i2' i3'
      rw [e25] at hr
      have hr' := runL_cf tf.cf hr
      have ei : i' = i := sm_uq (fR S (S 25)) (fun _ => fR_01) i0' i0 i2' i1 (by rw [i3', i2])
      subst ei
      rw [e04] at i1'
      unfold vMo_fuel_152 vMo_fuel_179
      refine ⟨fun hd => ⟨by omega, by omega, by constructor <;> omega, okR_q hU (by rw [u3]; exact w0 hd) u0⟩, fun hd => ⟨fun hd1 => ⟨by omega, by omega, by constructor <;> omega, okR_q hU (by rw [u3]; exact w1 hd1) u0⟩, fun hd1 => okR_q hU ?_ u0⟩⟩
      rw [u3]
      exact run_uq hm (w2 (by omega)) hr'
    have part : -1 ≤ k → k < N → vpBT_needPart d 3 S (fun S17 => ((k = -1 → (fun r1 S2 => ((0 : Int) ≤ 0 ∧ (0 : Int) < alen 330) ∧ ∀ S10, S10 = up S2 330 0 r1 → (fun r1 S1 => vpMo_fuel 0 k d S1 (fun r2 S2 => okR r1 r2 S2)) 0 S10) N S17) ∧ (¬ k = -1 → vpPl_tellFuel (S17 100 7) k d S17 (fun r17 S18 => (fun r1 S2 => ((0 : Int) ≤ 0 ∧ (0 : Int) < alen 330) ∧ ∀ S10, S10 = up S2 330 0 r1 → (fun r1 S1 => vpMo_fuel 0 k d S1 (fun r2 S2 => okR r1 r2 S2)) 0 S10) r17 S18)))) (fun E9 S6 => ((E9 = "java/lang/IllegalStateException" → (fun r1 S1 => vpMo_fuel 0 k d S1 (fun r2 S2 => okR r1 r2 S2)) 1 S6) ∧ ((E9 = "java/lang/IndexOutOfBoundsException" → (fun r1 S1 => vpMo_fuel 0 k d S1 (fun r2 S2 => okR r1 r2 S2)) 2 S6) ∧ ((E9 = "java/lang/IllegalArgumentException" → (fun r1 S1 => vpMo_fuel 0 k d S1 (fun r2 S2 => okR r1 r2 S2)) 3 S6) ∧ (E9 = "java/lang/IllegalStateException" ∨ E9 = "java/lang/IndexOutOfBoundsException" ∨ E9 = "java/lang/IllegalArgumentException"))))) := by
      intro k1 k2
      unfold vpBT_needPart
      refine ⟨by constructor <;> omega, s_out (fun hd => ⟨fun g2 => by omega, fun _ => b3 k1 k2 (by omega)⟩) (fun d0 d4 => ⟨fun _ => ⟨fun hk1 => ⟨al_out, fun S10 e10 => good k1 k2 d0 (by omega) _ S10 e10 (fun _ => rfl) (fun hh => absurd hk1 hh)⟩, fun hk1 => ?_⟩, fun g2 => absurd rfl g2⟩)⟩
      unfold vpPl_tellFuel vPl_tellFuel_32
      refine s_rowBegin fu (by omega) (by rw [eN]; exact k2) (fun c c0 c1 c2 c3 => ?_)
      have ci : ∃ i, i = 81 * (c / 80) + c % 80 := ⟨_, rfl⟩
      obtain ⟨i, ei⟩ := ci
      have f1 : fR S (S 25) i = 1 := by rw [ei]; exact c2
      have f2 : sm (fR S (S 25)) i.toNat = k := by rw [ei, ← fC_at hm c0]; exact c3
      refine ⟨fun hd => ⟨by omega, by omega, by constructor <;> omega, al_out, fun S10 e10 => good k1 k2 d0 (by omega) _ S10 e10 (fun hh => absurd hh hk1) (fun _ => ⟨i, by omega, f1, f2, fun _ => by omega, fun hh => by omega, fun hh => by omega⟩)⟩, fun hd => ⟨fun hd1 => ⟨by omega, by omega, by constructor <;> omega, al_out, fun S10 e10 => good k1 k2 d0 (by omega) _ S10 e10 (fun hh => absurd hh hk1) (fun _ => ⟨i, by omega, f1, f2, fun hh => by omega, fun _ => by omega, fun hh => by omega⟩)⟩, fun hd1 => ?_⟩⟩
      refine s_rowSteps fu c0 c1 (fun m hr => ⟨al_out, fun S10 e10 => good k1 k2 d0 (by omega) _ S10 e10 (fun hh => absurd hh hk1) (fun _ => ⟨i, by omega, f1, f2, fun hh => by omega, fun hh => by omega, fun _ => by rw [ei]; exact hr⟩)⟩)
    refine s_countRows fu ?_
    rw [eN]
    unfold vpBT_needRow vBT_needRow_27
    refine ⟨fun hk1 => part (by omega) (by omega), fun hk1 => ⟨by constructor <;> omega, s_out (fun hb => ⟨fun g2 => by omega, fun _ => b2 (by omega)⟩) (fun k0 k1 => ⟨fun _ => part (by omega) (by omega), fun g2 => absurd rfl g2⟩)⟩⟩
end AG
