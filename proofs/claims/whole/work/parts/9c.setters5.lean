section SI
variable {S T U : St} {s p v d e n a b p2 p3 p4 : Int}
theorem okR_e {r : Int} (h : InvS S) (r0 : r ≠ 0) (f : ∀ k j, ¬ (k = 0 ∧ j = 0) → T k j = S k j) (e : T 0 0 = r) : okR r 0 T := (okB_e h r0 f e).1
theorem op_stems (h : InvS S) : vpLa_stems 100 330 S (fun r1 S1 => vpMo_stems 0 S1 (fun r2 S2 => okR r1 r2 S2)) := by
  have c := h.1
  have cB := c.2.1
  have h4 := c.1.1.2.2.2.1
  unfold vpLa_stems vpBT_stems vpMo_stems vMo_stems_15
  rw [cB.1]
  refine ⟨fun g => ⟨by constructor <;> omega, fun S2 e2 S7 e7 => ⟨al_out, fun S10 e10 => ?_⟩⟩, fun g => ⟨fun _ => ?_, rfl⟩⟩
  · have f10 : ∀ k j, ¬ (k = 100 ∧ (j = 3 ∨ j = 9)) → ¬ (k = 330 ∧ j = 0) → S10 k j = S k j := fun k j a1 a2 => by rw [e10, up_n a2, e7, up_n (by omega), e2, up_n (by omega)]
    have e104 := f10 0 4 (by omega) (by omega)
    refine ⟨fun g2 => by omega, fun _ => fun S1 e1 => ⟨fun _ => ?_, fun g2 => ?_⟩⟩
    · have e14 : S1 0 4 = S 0 4 := by rw [e1, up_n (by omega), f10 _ _ (by omega) (by omega)]
      rw [e14]
      refine ⟨by constructor <;> omega, fun S6 e6 S11 e11 => ?_⟩
      have fT : ∀ k j, ¬ (k = 0 ∧ (j = 0 ∨ j = 4 ∨ j = 33)) → ¬ (k = 100 ∧ (j = 3 ∨ j = 9)) → ¬ (k = 330 ∧ j = 0) → S11 k j = S k j := fun k j a1 a2 a3 => by
        rw [e11, up_n (by omega), e6, up_n (by omega), e1, up_n (by omega), f10 _ _ a2 a3]
      have t04 : S11 0 4 = S 0 4 + 1 := by rw [e11, up_n (by omega), e6, up_s]
      have t13 : S11 100 3 = S 0 4 + 1 := by rw [e11, up_n (by omega), e6, up_n (by omega), e1, up_n (by omega), e10, up_n (by omega), e7, up_n (by omega), e2, up_s]
      have cT : cR S11 := by
        have hA := c.1.1
        refine cR_mk c ?_ ?_ (fun s s0 s6 => Or.inr (fun k j hk => ?_)) (fun s s0 s6 => Or.inr (fun k j hk => ?_))
        · unfold wfA at hA ⊢
          rw [fT 0 1 (by omega) (by omega) (by omega), fT 0 2 (by omega) (by omega) (by omega), fT 0 3 (by omega) (by omega) (by omega), fT 0 14 (by omega) (by omega) (by omega), t04]
          omega
        · rw [fT 100 4 (by omega) (by omega) (by omega), fT 100 5 (by omega) (by omega) (by omega), fT 100 6 (by omega) (by omega) (by omega), fT 0 2 (by omega) (by omega) (by omega), fT 0 3 (by omega) (by omega) (by omega), fT 0 14 (by omega) (by omega) (by omega), t04, t13]
          exact ⟨rfl, cB.2⟩
        · unfold inS at hk
          exact fT k j (by omega) (by omega) (by omega)
        · unfold inP at hk
          exact fT k j (by omega) (by omega) (by omega)
      rw [t04]
      have e73 : S7 100 3 = S 0 4 + 1 := by rw [e7, up_n (by omega), e2, up_s]
      refine ⟨?_, fun _ => ?_, InvS.told cT h (fT _ _ (by omega) (by omega) (by omega)) (fT _ _ (by omega) (by omega) (by omega)) ?_ ?_ (fT _ _ (by omega) (by omega) (by omega))⟩
      · rw [e11, up_n (by omega), e6, up_n (by omega), e1, up_s]
      · rw [e11, up_n (by omega), e6, up_n (by omega), e1, up_n (by omega), e10, up_s, e73]
      · rw [e11, up_n (by omega), e6, up_n (by omega), e1, up_n (by omega), e10, up_n (by omega), e7, up_s]
      · rw [e11, up_s]
    · rw [e1, up_s] at g2
      omega
  · refine ⟨fun _ => fun S1 e1 => ?_, fun g2 => by omega⟩
    have e0 : S1 0 0 = 1 := by rw [e1, up_s]
    exact ⟨fun g2 => by omega, fun _ => okR_e h (by omega) (fun k j hk => by rw [e1, up_n hk]) e0⟩
theorem cR_fault (c : cR S) (s0 : 0 ≤ s) (s6 : s < 6) (en : S 9 s = n) (n20 : n < 20) (ha : 0 ≤ a) (hab : a < b) (hb : b ≤ 10000000) (hv : 0 ≤ v) (hv7 : v ≤ 7) (fT : ∀ k j, ¬ (k = 0 ∧ (j = 0 ∨ j = 33)) → ¬ (k = 9 ∧ j = s) → ¬ (10 ≤ k ∧ k ≤ 12 ∧ j = 20 * s + n) → ¬ (k = 200 + 20 * s ∧ j = 10) → ¬ (200 + 20 * s + 5 ≤ k ∧ k ≤ 200 + 20 * s + 7 ∧ j = n) → ¬ (k = 100 ∧ j = 9) → k ≠ 330 → T k j = S k j)
    (t9 : T 9 s = n + 1) (t10 : T 10 (20 * s + n) = a) (t11 : T 11 (20 * s + n) = b) (t12 : T 12 (20 * s + n) = v) (u0 : T (200 + 20 * s) 10 = n + 1) (u5 : T (200 + 20 * s + 5) n = a) (u6 : T (200 + 20 * s + 6) n = b) (u7 : T (200 + 20 * s + 7) n = v) : cR T := by
  refine cR_mk c (wfA_eq c.1.1 (fun j _ _ => fT _ _ (by omega) (by omega) (by omega) (by omega) (by omega) (by omega) (by omega))) (cB_eq c (fun j _ _ => fT _ _ (by omega) (by omega) (by omega) (by omega) (by omega) (by omega) (by omega)) (fun j _ _ => fT _ _ (by omega) (by omega) (by omega) (by omega) (by omega) (by omega) (by omega))) (fun s' s0' s6' => ?_) (fun p' p0' p8' => Or.inr (fun k j hk => ?_))
  · by_cases hs : s' = s
    · subst hs
      left
      have w := c.1.2.1 s' s0 s6
      have cs := c.2.2.1 s' s0 s6
      have fk : ∀ k, k ≠ 0 → k ≠ 9 → ¬ (10 ≤ k ∧ k ≤ 12) → k ≠ 200 + 20 * s' → ¬ (200 + 20 * s' + 5 ≤ k ∧ k ≤ 200 + 20 * s' + 7) → k < 330 → k ≠ 100 → T k = S k := fun k a1 a2 a3 a4 a5 a6 a7 => funext fun j => fT k j (by omega) (by omega) (by omega) (by omega) (by omega) (by omega) (by omega)
      have e01 : T 0 1 = S 0 1 := fT _ _ (by omega) (by omega) (by omega) (by omega) (by omega) (by omega) (by omega)
      have en' : stN T s' = stN S s' := by
        unfold stN
        rw [fk 5 (by omega) (by omega) (by omega) (by omega) (by omega) (by omega) (by omega), fk 6 (by omega) (by omega) (by omega) (by omega) (by omega) (by omega) (by omega), e01]
      have g : ∀ j, j ≠ 10 → T (200 + 20 * s') j = S (200 + 20 * s') j := fun j hj => fT _ _ (by omega) (by omega) (by omega) (by omega) (by omega) (by omega) (by omega)
      constructor
      · unfold wfS at w ⊢
        rw [en', t9, fk 5 (by omega) (by omega) (by omega) (by omega) (by omega) (by omega) (by omega), fk 6 (by omega) (by omega) (by omega) (by omega) (by omega) (by omega) (by omega), fk 7 (by omega) (by omega) (by omega) (by omega) (by omega) (by omega) (by omega), fk 8 (by omega) (by omega) (by omega) (by omega) (by omega) (by omega) (by omega), fk 13 (by omega) (by omega) (by omega) (by omega) (by omega) (by omega) (by omega)]
        obtain ⟨w1, w2, w3, w4, w5, w6, w7, w8⟩ := w
        refine ⟨w1, by omega, w3, w4, w5, w6, fun k k0 k1 => ?_, w8⟩
        by_cases hk : k = n
        · rw [hk, t10, t11, t12]
          omega
        · rw [fT 10 _ (by omega) (by omega) (by omega) (by omega) (by omega) (by omega) (by omega), fT 11 _ (by omega) (by omega) (by omega) (by omega) (by omega) (by omega) (by omega), fT 12 _ (by omega) (by omega) (by omega) (by omega) (by omega) (by omega) (by omega)]
          exact w7 k k0 (by omega)
      · unfold crS at cs ⊢
        rw [en', t9, u0, g 0 (by omega), g 9 (by omega), g 11 (by omega), e01, fk 5 (by omega) (by omega) (by omega) (by omega) (by omega) (by omega) (by omega), fk 6 (by omega) (by omega) (by omega) (by omega) (by omega) (by omega) (by omega), fk 7 (by omega) (by omega) (by omega) (by omega) (by omega) (by omega) (by omega), fk 8 (by omega) (by omega) (by omega) (by omega) (by omega) (by omega) (by omega), fk 13 (by omega) (by omega) (by omega) (by omega) (by omega) (by omega) (by omega), fk (200 + 20 * s' + 2) (by omega) (by omega) (by omega) (by omega) (by omega) (by omega) (by omega), fk (200 + 20 * s' + 3) (by omega) (by omega) (by omega) (by omega) (by omega) (by omega) (by omega), fk (200 + 20 * s' + 4) (by omega) (by omega) (by omega) (by omega) (by omega) (by omega) (by omega), fk (200 + 20 * s' + 8) (by omega) (by omega) (by omega) (by omega) (by omega) (by omega) (by omega)]
        obtain ⟨c1, c2, c3, c4⟩ := cs
        refine ⟨⟨c1.1, c1.2.1, rfl, c1.2.2.2⟩, c2, fun k k0 k1 => ?_, c4⟩
        by_cases hk : k = n
        · rw [hk, t10, t11, t12, u5, u6, u7]
          exact ⟨rfl, rfl, rfl⟩
        · rw [fT 10 _ (by omega) (by omega) (by omega) (by omega) (by omega) (by omega) (by omega), fT 11 _ (by omega) (by omega) (by omega) (by omega) (by omega) (by omega) (by omega), fT 12 _ (by omega) (by omega) (by omega) (by omega) (by omega) (by omega) (by omega), fT (200 + 20 * s' + 5) _ (by omega) (by omega) (by omega) (by omega) (by omega) (by omega) (by omega), fT (200 + 20 * s' + 6) _ (by omega) (by omega) (by omega) (by omega) (by omega) (by omega) (by omega), fT (200 + 20 * s' + 7) _ (by omega) (by omega) (by omega) (by omega) (by omega) (by omega) (by omega)]
          exact c3 k k0 k1
    · right
      intro k j hk
      have w9 := (c.1.2.1 s s0 s6).2.1
      unfold inS at hk
      exact fT k j (by omega) (by omega) (by omega) (by omega) (by omega) (by omega) (by omega)
  · unfold inP at hk
    exact fT k j (by omega) (by omega) (by omega) (by omega) (by omega) (by omega) (by omega)
theorem op_fault (h : InvS S) : vpLa_fault 100 a b v 330 S (fun r1 S1 => vpMo_fault 0 a b v S1 (fun r2 S2 => okB r1 r2 S2)) := by
  have c := h.1
  have cB := c.2.1
  have h4 := c.1.1.2.2.2.1
  have cS := c.2.2.1 (S 0 4 - 1) (by omega) (by omega)
  have w9 := (c.1.2.1 (S 0 4 - 1) (by omega) (by omega)).2.1
  have err : ∀ r, r ≠ 0 → 0 < r → ∀ z, vMo_fault_66 (fun r2 S2 => okB r r2 S2) 0 a b v z r 0 S := by
    intro r r0 rp z
    unfold vMo_fault_66 vMo_fault_81
    intro S1 e1
    have e0 : S1 0 0 = r := by rw [e1, up_s]
    exact ⟨fun _ => okB_e h r0 (fun k j hk => by rw [e1, up_n hk]) e0, fun g => by omega⟩
  have err2 : S 9 (S 0 4 - 1) ≠ 20 → ((a < 0 ∨ 10000000 < a) ∨ (b < 0 ∨ 10000000 < b) ∨ (v < 0 ∨ 7 < v)) → vpMo_fault 0 a b v S (fun r2 S2 => okB 2 r2 S2) := by
    intro hn hb
    unfold vpMo_fault vMo_fault_65
    refine ⟨by constructor <;> omega, fun z ez => ⟨by omega, fun g => absurd (by rw [← ez]; exact g) hn, fun _ => s_isIn (fun _ => ⟨fun _ => err 2 (by omega) (by omega) z, fun g => absurd rfl g⟩) (fun g1 g2 => ⟨fun g => by omega, fun _ => s_isIn (fun _ => ⟨fun _ => err 2 (by omega) (by omega) z, fun g => absurd rfl g⟩) (fun g3 g4 => ⟨fun g => by omega, fun _ => s_isIn (fun _ => ⟨fun _ => err 2 (by omega) (by omega) z, fun g => absurd rfl g⟩) (fun g5 g6 => by omega)⟩)⟩)⟩⟩
  have good : ∀ S2 : St, ∀ Q : Int → St → Prop, S2 0 4 = S 0 4 → S2 9 (S 0 4 - 1) = S 9 (S 0 4 - 1) → S 9 (S 0 4 - 1) < 20 → 0 ≤ a → a ≤ 10000000 → 0 ≤ b → b ≤ 10000000 → 0 ≤ v → v ≤ 7 → (∀ S1, S1 = up S2 0 0 0 → (a < b → ((0 : Int) ≤ S 0 4 - 1 ∧ S 0 4 - 1 < 6) ∧ rI (20 * (S 0 4 - 1) + S1 9 (S 0 4 - 1)) ∧ ∀ z20, z20 = 20 * (S 0 4 - 1) + S1 9 (S 0 4 - 1) → ((0 : Int) ≤ z20 ∧ z20 < 120) ∧ ∀ S12, S12 = up S1 10 z20 a → ∀ S17, S17 = up S12 11 z20 b → ∀ S22, S22 = up S17 12 z20 v → (rI (S22 9 (S 0 4 - 1) + 1)) ∧ ∀ S29, S29 = up S22 9 (S 0 4 - 1) (S22 9 (S 0 4 - 1) + 1) → Q 1 (up S29 0 33 0)) ∧ (¬ a < b → Q 0 S1)) → vpMo_fault 0 a b v S2 Q := by
    intro S2 Q e4 e9 n20 a0 a1 b0 b1 v0 v1 hq
    unfold vpMo_fault
    rw [e4]
    refine ⟨by constructor <;> omega, fun z ez => ?_⟩
    subst ez
    refine ⟨by omega, fun g => by omega, fun _ => s_isIn (fun _ => by omega) (fun _ _ => ⟨fun g => by omega, fun _ => s_isIn (fun _ => by omega) (fun _ _ => ⟨fun g => by omega, fun _ => s_isIn (fun _ => by omega) (fun _ _ => ⟨fun g => by omega, fun _ => ?_⟩)⟩)⟩)⟩
    unfold vMo_fault_66 vMo_fault_81
    intro S1 e1
    have hh := hq S1 e1
    refine ⟨fun g => by rw [e1, up_s] at g; omega, fun _ => ⟨fun hab => ?_, hh.2⟩⟩
    obtain ⟨q1, q2, q3⟩ := hh.1 hab
    refine ⟨q1, q2, fun z20 ez20 => ?_⟩
    obtain ⟨q4, q5⟩ := q3 z20 ez20
    refine ⟨q4, fun S12 e12 => ⟨q4, fun S17 e17 => ⟨q4, fun S22 e22 => ?_⟩⟩⟩
    obtain ⟨q6, q7⟩ := q5 S12 e12 S17 e17 S22 e22
    exact ⟨q1, q1, q6, fun S29 e29 => s_told ⟨Or.inr rfl, q7 S29 e29⟩⟩
  unfold vpLa_fault vpBT_fault vLa_fault_18 vBT_fault_59 vpBT_latestStem
  rw [cB.1]
  refine ⟨by omega, ?_⟩
  show (S (200 + 20 * (S 0 4 - 1)) 10 < 20 → _) ∧ (¬ S (200 + 20 * (S 0 4 - 1)) 10 < 20 → _)
  rw [cS.1.2.2.1]
  refine ⟨fun hn => ?_, fun hn => ⟨fun _ => ?_, fun g => absurd g (by decide), Or.inl rfl⟩⟩
  · have hn' : S 9 (S 0 4 - 1) ≠ 20 := by omega
    refine s_out (fun g => ⟨fun g2 => by omega, fun _ => ⟨fun g2 => absurd g2 (by decide), fun _ => err2 hn' (Or.inl g), Or.inr rfl⟩⟩) (fun a0 a1 => ⟨fun _ => ?_, fun g3 => absurd rfl g3⟩)
    refine s_out (fun g => ⟨fun g2 => by omega, fun _ => ⟨fun g2 => absurd g2 (by decide), fun _ => err2 hn' (Or.inr (Or.inl g)), Or.inr rfl⟩⟩) (fun b0 b1 => ⟨fun _ => ?_, fun g3 => absurd rfl g3⟩)
    refine s_out (fun g => ⟨fun g2 => by omega, fun _ => ⟨fun g2 => absurd g2 (by decide), fun _ => err2 hn' (Or.inr (Or.inr g)), Or.inr rfl⟩⟩) (fun v0 v1 => ⟨fun _ => ⟨fun hab => ?_, fun hab => ⟨fun _ => ⟨al_out, fun S2 e2 => ?_⟩, fun g3 => absurd rfl g3⟩⟩, fun g3 => absurd rfl g3⟩)
    · unfold vpSt_addFault
      have c10 := cS.1.2.2.1
      rw [c10]
      refine ⟨by omega, fun X2 x2 => ?_⟩
      have y2 : X2 (200 + 20 * (S 0 4 - 1)) 10 = S 9 (S 0 4 - 1) := by rw [x2, up_n (by omega), c10]
      rw [y2]
      refine ⟨by omega, fun X7 x7 => ?_⟩
      have y7 : X7 (200 + 20 * (S 0 4 - 1)) 10 = S 9 (S 0 4 - 1) := by rw [x7, up_n (by omega), y2]
      rw [y7]
      refine ⟨by omega, fun X12 x12 => ?_⟩
      have y12 : X12 (200 + 20 * (S 0 4 - 1)) 10 = S 9 (S 0 4 - 1) := by rw [x12, up_n (by omega), y7]
      rw [y12]
      refine ⟨by constructor <;> omega, fun X16 x16 S31 e31 => ⟨fun g => by omega, fun _ => ⟨al_out, fun S2 e2 => ?_⟩⟩⟩
      have f2 : ∀ k j, ¬ (k = 200 + 20 * (S 0 4 - 1) ∧ j = 10) → ¬ (200 + 20 * (S 0 4 - 1) + 5 ≤ k ∧ k ≤ 200 + 20 * (S 0 4 - 1) + 7 ∧ j = S 9 (S 0 4 - 1)) → ¬ (k = 100 ∧ j = 9) → ¬ (k = 330 ∧ j = 0) → S2 k j = S k j := fun k j a1 a2 a3 a4 => by
        rw [e2, up_n a4, e31, up_n a3, x16, up_n (by omega), x12, up_n (by omega), x7, up_n (by omega), x2, up_n (by omega)]
      have fin : ∀ k j, ¬ (k = 330 ∧ j = 0) → ¬ (k = 100 ∧ j = 9) → S2 k j = X16 k j := fun k j a1 a2 => by rw [e2, up_n a1, e31, up_n a2]
      refine good S2 _ (f2 _ _ (by omega) (by omega) (by omega) (by omega)) (f2 _ _ (by omega) (by omega) (by omega) (by omega)) hn a0 a1 b0 b1 v0 v1 (fun S1 e1 => ⟨fun _ => ?_, fun g => absurd hab g⟩)
      have s19 : S1 9 (S 0 4 - 1) = S 9 (S 0 4 - 1) := by rw [e1, up_n (by omega), f2 _ _ (by omega) (by omega) (by omega) (by omega)]
      rw [s19]
      refine ⟨by omega, by constructor <;> omega, fun z20 ez => ⟨by omega, fun S12 e12 S17 e17 S22 e22 => ?_⟩⟩
      have s229 : S22 9 (S 0 4 - 1) = S 9 (S 0 4 - 1) := by rw [e22, up_n (by omega), e17, up_n (by omega), e12, up_n (by omega), s19]
      rw [s229]
      refine ⟨by constructor <;> omega, fun S29 e29 => ?_⟩
      generalize eT : up S29 0 33 0 = T
      subst ez
      have g1 : ∀ k j, ¬ (k = 0 ∧ (j = 0 ∨ j = 33)) → ¬ (k = 9 ∧ j = S 0 4 - 1) → ¬ (10 ≤ k ∧ k ≤ 12 ∧ j = 20 * (S 0 4 - 1) + S 9 (S 0 4 - 1)) → T k j = S2 k j := fun k j a1 a2 a3 => by
        rw [← eT, up_n (by omega), e29, up_n a2, e22, up_n (by omega), e17, up_n (by omega), e12, up_n (by omega), e1, up_n (by omega)]
      have fT : ∀ k j, ¬ (k = 0 ∧ (j = 0 ∨ j = 33)) → ¬ (k = 9 ∧ j = S 0 4 - 1) → ¬ (10 ≤ k ∧ k ≤ 12 ∧ j = 20 * (S 0 4 - 1) + S 9 (S 0 4 - 1)) → ¬ (k = 200 + 20 * (S 0 4 - 1) ∧ j = 10) → ¬ (200 + 20 * (S 0 4 - 1) + 5 ≤ k ∧ k ≤ 200 + 20 * (S 0 4 - 1) + 7 ∧ j = S 9 (S 0 4 - 1)) → ¬ (k = 100 ∧ j = 9) → k ≠ 330 → T k j = S k j := fun k j a1 a2 a3 a4 a5 a6 a7 => by
        rw [g1 k j a1 a2 a3, f2 k j a4 a5 a6 (by omega)]
      have cT : cR T := by
        refine cR_fault c (show 0 ≤ S 0 4 - 1 by omega) (by omega) rfl hn a0 hab b1 v0 v1 fT ?_ ?_ ?_ ?_ ?_ ?_ ?_ ?_
        · rw [← eT, up_n (by omega), e29, up_s]
        · rw [← eT, up_n (by omega), e29, up_n (by omega), e22, up_n (by omega), e17, up_n (by omega), e12, up_s]
        · rw [← eT, up_n (by omega), e29, up_n (by omega), e22, up_n (by omega), e17, up_s]
        · rw [← eT, up_n (by omega), e29, up_n (by omega), e22, up_s]
        · rw [g1 _ _ (by omega) (by omega) (by omega), fin _ _ (by omega) (by omega), x16, up_s]
        · rw [g1 _ _ (by omega) (by omega) (by omega), fin _ _ (by omega) (by omega), x16, up_n (by omega), x12, up_n (by omega), x7, up_n (by omega), x2, up_s]
        · rw [g1 _ _ (by omega) (by omega) (by omega), fin _ _ (by omega) (by omega), x16, up_n (by omega), x12, up_n (by omega), x7, up_s]
        · rw [g1 _ _ (by omega) (by omega) (by omega), fin _ _ (by omega) (by omega), x16, up_n (by omega), x12, up_s]
      have q : ∀ k j, ¬ (k = 0 ∧ (j = 0 ∨ j = 33)) → ¬ (5 ≤ k ∧ k ≤ 22) → ¬ (200 ≤ k ∧ k < 330) → ¬ (k = 100 ∧ j = 9) → k ≠ 330 → T k j = S k j := fun k j a1 a2 a3 a4 a5 => fT k j a1 (by omega) (by omega) (by omega) (by omega) a4 a5
      refine ⟨⟨?_, fun _ => ?_, InvS.told cT h (q _ _ (by omega) (by omega) (by omega) (by omega) (by omega)) (q _ _ (by omega) (by omega) (by omega) (by omega) (by omega)) ?_ ?_ (q _ _ (by omega) (by omega) (by omega) (by omega) (by omega))⟩, Or.inr rfl⟩
      · rw [← eT, up_n (by omega), e29, up_n (by omega), e22, up_n (by omega), e17, up_n (by omega), e12, up_n (by omega), e1, up_s]
      · rw [g1 _ _ (by omega) (by omega) (by omega), e2, up_s]
      · rw [g1 _ _ (by omega) (by omega) (by omega), e2, up_n (by omega), e31, up_s]
      · rw [← eT, up_s]
    · refine good S2 _ (by rw [e2, up_n (by omega)]) (by rw [e2, up_n (by omega)]) hn a0 a1 b0 b1 v0 v1 (fun S1 e1 => ⟨fun g => absurd g hab, fun _ => ?_⟩)
      exact okB_0 h (fun k j h1 h2 => by rw [e1, up_n h1, e2, up_n (by omega)]) (by rw [e1, up_s]) (by rw [e1, up_n (by omega), e2, up_s])
  · unfold vpMo_fault
    refine ⟨by constructor <;> omega, fun z ez => ⟨by omega, fun _ => err 1 (by omega) (by omega) z, fun g => ?_⟩⟩
    subst ez
    omega
end SI
