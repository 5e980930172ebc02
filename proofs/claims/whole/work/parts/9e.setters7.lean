section SK
variable {S T U : St} {s p v d e n a b p2 p3 p4 : Int}
theorem cR_product (c : cR S) (n8 : S 0 14 < 8) (a1 : 1 ≤ a) (ab : a ≤ b) (b1 : b ≤ 10000000) (h2 : 0 ≤ p2 ∧ p2 ≤ 100000) (h3 : 0 ≤ p3 ∧ p3 ≤ 100000) (h4 : 0 ≤ p4 ∧ p4 ≤ 100000) (fT : ∀ k j, ¬ (k = 0 ∧ (j = 0 ∨ j = 14 ∨ j = 33)) → ¬ (15 ≤ k ∧ k ≤ 19 ∧ j = S 0 14) → ¬ (k = 140 + 4 * S 0 14 ∧ 3 ≤ j ∧ j ≤ 7) → ¬ (k = 100 ∧ (j = 4 ∨ j = 9)) → k ≠ 330 → T k j = S k j)
    (t14 : T 0 14 = S 0 14 + 1) (u4 : T 100 4 = S 0 14 + 1) (t15 : T 15 (S 0 14) = a) (t16 : T 16 (S 0 14) = b) (t17 : T 17 (S 0 14) = p2) (t18 : T 18 (S 0 14) = p3) (t19 : T 19 (S 0 14) = p4) (v3 : T (140 + 4 * S 0 14) 3 = (a + S 0 1 - 1) / S 0 1) (v4 : T (140 + 4 * S 0 14) 4 = b / S 0 1) (v5 : T (140 + 4 * S 0 14) 5 = p2) (v6 : T (140 + 4 * S 0 14) 6 = p3) (v7 : T (140 + 4 * S 0 14) 7 = p4) : cR T := by
  have hA := c.1.1
  have cB := c.2.1
  have hn := hA.2.2.2.2
  have f0 : ∀ j, j ≠ 0 → j ≠ 14 → j ≠ 33 → T 0 j = S 0 j := fun j _ _ _ => fT _ _ (by omega) (by omega) (by omega) (by omega) (by omega)
  refine cR_mk c ?_ ?_ (fun s' s0' s6' => Or.inr (fun k j hk => ?_)) (fun p p0 p8 => Or.inl ?_)
  · unfold wfA at hA ⊢
    rw [f0 1 (by omega) (by omega) (by omega), f0 2 (by omega) (by omega) (by omega), f0 3 (by omega) (by omega) (by omega), f0 4 (by omega) (by omega) (by omega), t14]
    omega
  · rw [t14, u4, f0 2 (by omega) (by omega) (by omega), f0 3 (by omega) (by omega) (by omega), f0 4 (by omega) (by omega) (by omega), fT 100 3 (by omega) (by omega) (by omega) (by omega) (by omega), fT 100 5 (by omega) (by omega) (by omega) (by omega) (by omega), fT 100 6 (by omega) (by omega) (by omega) (by omega) (by omega)]
    exact ⟨cB.1, rfl, cB.2.2⟩
  · unfold inS at hk
    exact fT k j (by omega) (by omega) (by omega) (by omega) (by omega)
  · have w := c.1.2.2 p p0 p8
    have cp := c.2.2.2 p p0 p8
    have f21 : T 21 p = S 21 p := fT _ _ (by omega) (by omega) (by omega) (by omega) (by omega)
    have f20 : ∀ j, T 20 j = S 20 j := fun j => fT _ _ (by omega) (by omega) (by omega) (by omega) (by omega)
    have f22 : ∀ j, T 22 j = S 22 j := fun j => fT _ _ (by omega) (by omega) (by omega) (by omega) (by omega)
    have g0 : T (140 + 4 * p) 0 = S (140 + 4 * p) 0 := fT _ _ (by omega) (by omega) (by omega) (by omega) (by omega)
    have g8 : T (140 + 4 * p) 8 = S (140 + 4 * p) 8 := fT _ _ (by omega) (by omega) (by omega) (by omega) (by omega)
    have g2 : ∀ j, T (140 + 4 * p + 2) j = S (140 + 4 * p + 2) j := fun j => fT _ _ (by omega) (by omega) (by omega) (by omega) (by omega)
    have g3 : ∀ j, T (140 + 4 * p + 3) j = S (140 + 4 * p + 3) j := fun j => fT _ _ (by omega) (by omega) (by omega) (by omega) (by omega)
    obtain ⟨w1, w2, w3, w4⟩ := w
    obtain ⟨c1, c2, c3, c4⟩ := cp
    unfold wfP crP
    rw [t14, f21, g0, g8, f0 1 (by omega) (by omega) (by omega)]
    have old : p ≠ S 0 14 → p < S 0 14 + 1 → p < S 0 14 := fun _ _ => by omega
    have o : ∀ k, p ≠ S 0 14 → 15 ≤ k → k ≤ 19 → T k p = S k p := fun k hp k1 k2 => fT _ _ (by omega) (by omega) (by omega) (by omega) (by omega)
    have o2 : ∀ j, p ≠ S 0 14 → T (140 + 4 * p) j = S (140 + 4 * p) j := fun j hp => fT _ _ (by omega) (by omega) (by omega) (by omega) (by omega)
    refine ⟨⟨w1, fun d d0 d7 => by rw [f22]; exact w2 d d0 d7, fun k k0 k8 => by rw [f20]; exact w3 k k0 k8, fun hp => ?_⟩, ⟨c1, fun k k0 k8 => by rw [f20, g2]; exact c2 k k0 k8, fun d d0 d7 => by rw [f22, g3]; exact c3 d d0 d7, fun hp => ?_⟩⟩
    · by_cases hpn : p = S 0 14
      · rw [hpn, t15, t16, t17, t18, t19]
        omega
      · rw [o 15 hpn (by omega) (by omega), o 16 hpn (by omega) (by omega), o 17 hpn (by omega) (by omega), o 18 hpn (by omega) (by omega), o 19 hpn (by omega) (by omega)]
        exact w4 (old hpn hp)
    · by_cases hpn : p = S 0 14
      · rw [hpn, t15, t16, t17, t18, t19, v3, v4, v5, v6, v7]
        exact ⟨rfl, rfl, rfl, rfl, rfl⟩
      · rw [o 15 hpn (by omega) (by omega), o 16 hpn (by omega) (by omega), o 17 hpn (by omega) (by omega), o 18 hpn (by omega) (by omega), o 19 hpn (by omega) (by omega), o2 3 hpn, o2 4 hpn, o2 5 hpn, o2 6 hpn, o2 7 hpn]
        exact c4 (old hpn hp)
def pOK (a b p2 p3 p4 : Int) : Prop := 1 ≤ a ∧ a ≤ b ∧ b ≤ 10000000 ∧ (0 ≤ p2 ∧ p2 ≤ 100000) ∧ (0 ≤ p3 ∧ p3 ≤ 100000) ∧ (0 ≤ p4 ∧ p4 ≤ 100000)
theorem s_moproduct {Q : Int → St → Prop} (q0 : ¬ pOK a b p2 p3 p4 → vMo_product_71 Q 0 a b p2 p3 p4 0 S) (q1 : pOK a b p2 p3 p4 → vMo_product_71 Q 0 a b p2 p3 p4 1 S) : vpMo_product 0 a b p2 p3 p4 S Q := by
  unfold pOK at q0 q1
  unfold vpMo_product vMo_product_70
  exact s_isIn (fun _ => ⟨fun _ => q0 (by omega), fun g => absurd rfl g⟩) (fun _ _ => ⟨fun g => by omega, fun _ => s_isIn (fun _ => ⟨fun _ => q0 (by omega), fun g => absurd rfl g⟩) (fun _ _ => ⟨fun g => by omega, fun _ => ⟨fun _ => q0 (by omega), fun _ => s_isIn (fun _ => ⟨fun _ => q0 (by omega), fun g => absurd rfl g⟩) (fun _ _ => ⟨fun g => by omega, fun _ => s_isIn (fun _ => ⟨fun _ => q0 (by omega), fun g => absurd rfl g⟩) (fun _ _ => ⟨fun g => by omega, fun _ => s_isIn (fun _ => ⟨fun _ => q0 (by omega), fun g => absurd rfl g⟩) (fun _ _ => ⟨fun g => by omega, fun _ => q1 (by omega)⟩)⟩)⟩)⟩⟩)⟩)
theorem op_product (h : InvS S) : vpLa_product 100 a b p2 p3 p4 330 S (fun r1 S1 => vpMo_product 0 a b p2 p3 p4 S1 (fun r2 S2 => okR r1 r2 S2)) := by
  have c := h.1
  have cB := c.2.1
  have hm := c.1
  have h1 := hm.1.1
  have hn := hm.1.2.2.2.2
  have e97 : ∀ r, 0 < r → vMo_product_97 (fun r2 S2 => okR r r2 S2) 0 a b p2 p3 p4 r 0 S := by
    intro r rp
    unfold vMo_product_97
    intro S1 e1
    have e0 : S1 0 0 = r := by rw [e1, up_s]
    exact ⟨fun g => by omega, fun _ => okR_e h (by omega) (fun k j hk => by rw [e1, up_n hk]) e0⟩
  have err : S 0 14 ≠ 8 → ¬ pOK a b p2 p3 p4 → vpMo_product 0 a b p2 p3 p4 S (fun r2 S2 => okR 2 r2 S2) := by
    intro g1 g2
    refine s_moproduct (fun _ => ?_) (fun g => absurd g g2)
    unfold vMo_product_71
    exact ⟨fun g => absurd g g1, fun _ => ⟨fun _ => e97 2 (by omega), fun g => absurd rfl g⟩⟩
  unfold vpLa_product vpBT_product vBT_product_35 vBT_product_79
  rw [cB.2.1]
  have bad : S 0 14 ≠ 8 → ¬ pOK a b p2 p3 p4 → (("java/lang/IllegalArgumentException" = "java/lang/IllegalStateException" → (fun r1 S1 => vpMo_product 0 a b p2 p3 p4 S1 (fun r2 S2 => okR r1 r2 S2)) 1 S) ∧ (("java/lang/IllegalArgumentException" = "java/lang/IllegalArgumentException" → (fun r1 S1 => vpMo_product 0 a b p2 p3 p4 S1 (fun r2 S2 => okR r1 r2 S2)) 2 S) ∧ ("java/lang/IllegalArgumentException" = "java/lang/IllegalStateException" ∨ "java/lang/IllegalArgumentException" = "java/lang/IllegalArgumentException"))) := fun g1 g2 => ⟨fun g => absurd g (by decide), fun _ => err g1 g2, Or.inr rfl⟩
  refine ⟨fun n8 => ⟨fun g => bad (by omega) (by unfold pOK; omega), fun g1 => ⟨fun g => bad (by omega) (by unfold pOK; omega), fun g2 => ⟨fun g3 => ?_, fun g => bad (by omega) (by unfold pOK; omega)⟩⟩⟩, fun n8 => ⟨fun _ => ?_, fun g => absurd g (by decide), Or.inl rfl⟩⟩
  · refine s_out (fun g => ⟨fun g' => by omega, fun _ => bad (by omega) (by unfold pOK; omega)⟩) (fun i1 i2 => ⟨fun _ => ?_, fun g => absurd rfl g⟩)
    refine s_out (fun g => ⟨fun g' => by omega, fun _ => bad (by omega) (by unfold pOK; omega)⟩) (fun i3 i4 => ⟨fun _ => ?_, fun g => absurd rfl g⟩)
    refine s_out (fun g => ⟨fun g' => by omega, fun _ => bad (by omega) (by unfold pOK; omega)⟩) (fun i5 i6 => ⟨fun _ => ?_, fun g => absurd rfl g⟩)
    rw [cB.2.1]
    refine ⟨by omega, ?_⟩
    have c0 := (c.2.2.2 (S 0 14) (by omega) (by omega)).1.1
    have d1 : 0 ≤ (a + S 0 1 - 1) / S 0 1 ∧ (a + S 0 1 - 1) / S 0 1 ≤ a + S 0 1 - 1 := ⟨Int.ediv_nonneg (by omega) (by omega), Int.ediv_le_self _ (by omega)⟩
    have d2 : 0 ≤ b / S 0 1 ∧ b / S 0 1 ≤ b := ⟨Int.ediv_nonneg (by omega) (by omega), Int.ediv_le_self _ (by omega)⟩
    unfold vpPr_tell
    rw [c0]
    refine ⟨by omega, by omega, by omega, by constructor <;> omega, fun X1 x1 => ?_⟩
    have y1 : X1 (140 + 4 * S 0 14) 0 = S 0 1 := by rw [x1, up_n (by omega), c0]
    rw [y1]
    refine ⟨by omega, by omega, by omega, by constructor <;> omega, fun X8 x8 X15 x15 X19 x19 X23 x23 => ?_⟩
    have y4 : X23 100 4 = S 0 14 := by rw [x23, up_n (by omega), x19, up_n (by omega), x15, up_n (by omega), x8, up_n (by omega), x1, up_n (by omega)]; exact cB.2.1
    refine ⟨by constructor <;> omega, fun S29 e29 S34 e34 => ?_⟩
    have y34 : S34 100 4 = S 0 14 + 1 := by rw [e34, up_n (by omega), e29, up_s, y4]
    refine ⟨by constructor <;> omega, al_out, fun S10 e10 => ?_⟩
    rw [y34] at e10
    have f10 : ∀ k j, ¬ (k = 140 + 4 * S 0 14 ∧ 3 ≤ j ∧ j ≤ 7) → ¬ (k = 100 ∧ (j = 4 ∨ j = 9)) → ¬ (k = 330 ∧ j = 0) → S10 k j = S k j := fun k j a1 a2 a3 => by
      rw [e10, up_n a3, e34, up_n (by omega), e29, up_n (by omega), x23, up_n (by omega), x19, up_n (by omega), x15, up_n (by omega), x8, up_n (by omega), x1, up_n (by omega)]
    refine s_moproduct (fun g => absurd (by unfold pOK; omega) g) (fun _ => ?_)
    unfold vMo_product_71
    have z14 : S10 0 14 = S 0 14 := f10 _ _ (by omega) (by omega) (by omega)
    rw [z14]
    refine ⟨fun g => by omega, fun _ => ⟨fun g => by omega, fun _ => ?_⟩⟩
    unfold vMo_product_97
    intro S1 e1
    have e0 : S1 0 0 = 0 := by rw [e1, up_s]
    have z1 : S1 0 14 = S 0 14 := by rw [e1, up_n (by omega), z14]
    rw [z1]
    refine ⟨fun _ => ⟨by omega, fun S7 e7 => ?_⟩, fun g => by omega⟩
    have z7 : S7 0 14 = S 0 14 := by rw [e7, up_n (by omega), z1]
    rw [z7]
    refine ⟨by omega, fun S12 e12 => ?_⟩
    have z12 : S12 0 14 = S 0 14 := by rw [e12, up_n (by omega), z7]
    rw [z12]
    refine ⟨by omega, fun S17 e17 => ?_⟩
    have z17 : S17 0 14 = S 0 14 := by rw [e17, up_n (by omega), z12]
    rw [z17]
    refine ⟨by omega, fun S22 e22 => ?_⟩
    have z22 : S22 0 14 = S 0 14 := by rw [e22, up_n (by omega), z17]
    rw [z22]
    refine ⟨by omega, fun S27 e27 => ?_⟩
    have z27 : S27 0 14 = S 0 14 := by rw [e27, up_n (by omega), z22]
    rw [z27]
    refine ⟨by constructor <;> omega, fun S31 e31 S36 e36 => ?_⟩
    have z36 : S36 0 14 = S 0 14 + 1 := by rw [e36, up_n (by omega), e31, up_s]
    rw [z36]
    refine ⟨by constructor <;> omega, ?_⟩
    have g1 : ∀ k j, ¬ (k = 0 ∧ (j = 0 ∨ j = 14 ∨ j = 33)) → ¬ (15 ≤ k ∧ k ≤ 19 ∧ j = S 0 14) → S36 k j = S10 k j := fun k j a1 a2 => by
      rw [e36, up_n (by omega), e31, up_n (by omega), e27, up_n (by omega), e22, up_n (by omega), e17, up_n (by omega), e12, up_n (by omega), e7, up_n (by omega), e1, up_n (by omega)]
    have fT : ∀ k j, ¬ (k = 0 ∧ (j = 0 ∨ j = 14 ∨ j = 33)) → ¬ (15 ≤ k ∧ k ≤ 19 ∧ j = S 0 14) → ¬ (k = 140 + 4 * S 0 14 ∧ 3 ≤ j ∧ j ≤ 7) → ¬ (k = 100 ∧ (j = 4 ∨ j = 9)) → k ≠ 330 → S36 k j = S k j := fun k j a1 a2 a3 a4 a5 => by
      rw [g1 k j a1 a2, f10 k j a3 a4 (by omega)]
    have k10 : ∀ k j, ¬ (k = 330 ∧ j = 0) → ¬ (k = 100 ∧ (j = 4 ∨ j = 9)) → S10 k j = X23 k j := fun k j a1 a2 => by rw [e10, up_n a1, e34, up_n (by omega), e29, up_n (by omega)]
    have cT : cR S36 := by
      refine cR_product c n8 (show 1 ≤ a by omega) g3 (by omega) ⟨i1, i2⟩ ⟨i3, i4⟩ ⟨i5, i6⟩ fT z36 ?_ ?_ ?_ ?_ ?_ ?_ ?_ ?_ ?_ ?_ ?_
      · rw [g1 _ _ (by omega) (by omega), e10, up_n (by omega), y34]
      · rw [e36, up_n (by omega), e31, up_n (by omega), e27, up_n (by omega), e22, up_n (by omega), e17, up_n (by omega), e12, up_n (by omega), e7, up_s]
      · rw [e36, up_n (by omega), e31, up_n (by omega), e27, up_n (by omega), e22, up_n (by omega), e17, up_n (by omega), e12, up_s]
      · rw [e36, up_n (by omega), e31, up_n (by omega), e27, up_n (by omega), e22, up_n (by omega), e17, up_s]
      · rw [e36, up_n (by omega), e31, up_n (by omega), e27, up_n (by omega), e22, up_s]
      · rw [e36, up_n (by omega), e31, up_n (by omega), e27, up_s]
      · rw [g1 _ _ (by omega) (by omega), k10 _ _ (by omega) (by omega), x23, up_n (by omega), x19, up_n (by omega), x15, up_n (by omega), x8, up_n (by omega), x1, up_s]
      · rw [g1 _ _ (by omega) (by omega), k10 _ _ (by omega) (by omega), x23, up_n (by omega), x19, up_n (by omega), x15, up_n (by omega), x8, up_s]
      · rw [g1 _ _ (by omega) (by omega), k10 _ _ (by omega) (by omega), x23, up_n (by omega), x19, up_n (by omega), x15, up_s]
      · rw [g1 _ _ (by omega) (by omega), k10 _ _ (by omega) (by omega), x23, up_n (by omega), x19, up_s]
      · rw [g1 _ _ (by omega) (by omega), k10 _ _ (by omega) (by omega), x23, up_s]
    refine ⟨?_, fun _ => ?_, InvS.told cT h (fT _ _ (by omega) (by omega) (by omega) (by omega) (by omega)) (fT _ _ (by omega) (by omega) (by omega) (by omega) (by omega)) ?_ ?_ (fT _ _ (by omega) (by omega) (by omega) (by omega) (by omega))⟩
    · rw [e36, up_n (by omega), e31, up_n (by omega), e27, up_n (by omega), e22, up_n (by omega), e17, up_n (by omega), e12, up_n (by omega), e7, up_n (by omega), e1, up_s]
    · rw [g1 _ _ (by omega) (by omega), e10, up_s]
    · rw [g1 _ _ (by omega) (by omega), e10, up_n (by omega), e34, up_s]
    · rw [e36, up_s]
  · have e71 : ∀ y, vMo_product_71 (fun r2 S2 => okR 1 r2 S2) 0 a b p2 p3 p4 y S := fun y => by
      unfold vMo_product_71
      exact ⟨fun _ => e97 1 (by omega), fun g => by omega⟩
    exact s_moproduct (fun _ => e71 0) (fun _ => e71 1)
end SK
