section SJ
variable {S T U : St} {s p v d e n a b p2 p3 p4 : Int}
def tk (S : St) (s a b : Int) : Prop := a / S 0 1 ≤ 80 ∧ (S 5 s = 0 → a = 0) ∧ (S 5 s ≠ 0 → S 6 (60 * s + S 5 s - 1) < a ∧ b ≤ S 7 (60 * s + S 5 s - 1))
theorem cR_stem (c : cR S) (s0 : 0 ≤ s) (s6 : s < 6) (n60 : S 5 s < 60) (a0 : 0 ≤ a) (a1 : a ≤ 10000000) (b0 : 0 ≤ b) (b1 : b ≤ 100000) (v0 : 0 ≤ v) (v1 : v ≤ 100000) (ht : tk S s a b) (fT : ∀ k j, ¬ (k = 0 ∧ (j = 0 ∨ j = 33)) → ¬ (k = 5 ∧ j = s) → ¬ (6 ≤ k ∧ k ≤ 8 ∧ j = 60 * s + S 5 s) → ¬ (k = 200 + 20 * s ∧ (j = 9 ∨ j = 11)) → ¬ (200 + 20 * s + 2 ≤ k ∧ k ≤ 200 + 20 * s + 4 ∧ j = S 5 s) → ¬ (k = 100 ∧ j = 9) → k ≠ 330 → T k j = S k j)
    (t5 : T 5 s = S 5 s + 1) (t6 : T 6 (60 * s + S 5 s) = a) (t7 : T 7 (60 * s + S 5 s) = b) (t8 : T 8 (60 * s + S 5 s) = v) (u9 : T (200 + 20 * s) 9 = S 5 s + 1) (u11 : T (200 + 20 * s) 11 = a / S 0 1) (u2 : T (200 + 20 * s + 2) (S 5 s) = a) (u3 : T (200 + 20 * s + 3) (S 5 s) = b) (u4 : T (200 + 20 * s + 4) (S 5 s) = v) : cR T := by
  refine cR_mk c (wfA_eq c.1.1 (fun j _ _ => fT _ _ (by omega) (by omega) (by omega) (by omega) (by omega) (by omega) (by omega))) (cB_eq c (fun j _ _ => fT _ _ (by omega) (by omega) (by omega) (by omega) (by omega) (by omega) (by omega)) (fun j _ _ => fT _ _ (by omega) (by omega) (by omega) (by omega) (by omega) (by omega) (by omega))) (fun s' s0' s6' => ?_) (fun p' p0' p8' => Or.inr (fun k j hk => ?_))
  · by_cases hs : s' = s
    · subst hs
      left
      have w := c.1.2.1 s' s0 s6
      have cs := c.2.2.1 s' s0 s6
      have fk : ∀ k, k ≠ 0 → k ≠ 5 → ¬ (6 ≤ k ∧ k ≤ 8) → k ≠ 200 + 20 * s' → ¬ (200 + 20 * s' + 2 ≤ k ∧ k ≤ 200 + 20 * s' + 4) → k < 330 → k ≠ 100 → T k = S k := fun k a1 a2 a3 a4 a5 a6 a7 => funext fun j => fT k j (by omega) (by omega) (by omega) (by omega) (by omega) (by omega) (by omega)
      have e01 : T 0 1 = S 0 1 := fT _ _ (by omega) (by omega) (by omega) (by omega) (by omega) (by omega) (by omega)
      have w5 := w.1
      have en' : stN T s' = a / S 0 1 := by
        unfold stN
        rw [t5, if_neg (by omega), show 60 * s' + (S 5 s' + 1) - 1 = 60 * s' + S 5 s' by omega, t6, e01]
      have g : ∀ j, j ≠ 9 → j ≠ 11 → T (200 + 20 * s') j = S (200 + 20 * s') j := fun j hj hj2 => fT _ _ (by omega) (by omega) (by omega) (by omega) (by omega) (by omega) (by omega)
      have o6 : ∀ k x, 6 ≤ k → k ≤ 8 → x ≠ 60 * s' + S 5 s' → T k x = S k x := fun k x k1 k2 hx => fT _ _ (by omega) (by omega) (by omega) (by omega) (by omega) (by omega) (by omega)
      constructor
      · unfold wfS at w ⊢
        rw [en', t5, fk 9 (by omega) (by omega) (by omega) (by omega) (by omega) (by omega) (by omega), fk 10 (by omega) (by omega) (by omega) (by omega) (by omega) (by omega) (by omega), fk 11 (by omega) (by omega) (by omega) (by omega) (by omega) (by omega) (by omega), fk 12 (by omega) (by omega) (by omega) (by omega) (by omega) (by omega) (by omega), fk 13 (by omega) (by omega) (by omega) (by omega) (by omega) (by omega) (by omega)]
        obtain ⟨w1, w2, w3, w4, w5', w6, w7, w8⟩ := w
        refine ⟨by omega, w2, fun k k0 k1 => ?_, fun _ => ?_, fun k k0 k1 => ?_, ht.1, w7, w8⟩
        · by_cases hk : k = S 5 s'
          · rw [hk, t6, t7, t8]
            omega
          · rw [o6 6 _ (by omega) (by omega) (by omega), o6 7 _ (by omega) (by omega) (by omega), o6 8 _ (by omega) (by omega) (by omega)]
            exact w3 k k0 (by omega)
        · by_cases hz : S 5 s' = 0
          · have := t6
            rw [hz, Int.add_zero] at this
            rw [this]
            exact ht.2.1 hz
          · rw [o6 6 _ (by omega) (by omega) (by omega)]
            exact w4 (by omega)
        · by_cases hk : k + 1 = S 5 s'
          · have h2 := ht.2.2 (by omega)
            rw [show 60 * s' + S 5 s' - 1 = 60 * s' + k by omega] at h2
            rw [hk, t6, t7, o6 6 _ (by omega) (by omega) (by omega), o6 7 _ (by omega) (by omega) (by omega)]
            exact h2
          · rw [o6 6 _ (by omega) (by omega) (by omega), o6 6 _ (by omega) (by omega) (by omega), o6 7 _ (by omega) (by omega) (by omega), o6 7 _ (by omega) (by omega) (by omega)]
            exact w5' k k0 (by omega)
      · unfold crS at cs ⊢
        rw [en', t5, u9, u11, g 0 (by omega) (by omega), g 10 (by omega) (by omega), e01, fk 9 (by omega) (by omega) (by omega) (by omega) (by omega) (by omega) (by omega), fk 10 (by omega) (by omega) (by omega) (by omega) (by omega) (by omega) (by omega), fk 11 (by omega) (by omega) (by omega) (by omega) (by omega) (by omega) (by omega), fk 12 (by omega) (by omega) (by omega) (by omega) (by omega) (by omega) (by omega), fk 13 (by omega) (by omega) (by omega) (by omega) (by omega) (by omega) (by omega), fk (200 + 20 * s' + 5) (by omega) (by omega) (by omega) (by omega) (by omega) (by omega) (by omega), fk (200 + 20 * s' + 6) (by omega) (by omega) (by omega) (by omega) (by omega) (by omega) (by omega), fk (200 + 20 * s' + 7) (by omega) (by omega) (by omega) (by omega) (by omega) (by omega) (by omega), fk (200 + 20 * s' + 8) (by omega) (by omega) (by omega) (by omega) (by omega) (by omega) (by omega)]
        obtain ⟨c1, c2, c3, c4⟩ := cs
        refine ⟨⟨c1.1, rfl, c1.2.2.1, rfl⟩, fun k k0 k1 => ?_, c3, c4⟩
        by_cases hk : k = S 5 s'
        · rw [hk, t6, t7, t8, u2, u3, u4]
          exact ⟨rfl, rfl, rfl⟩
        · rw [o6 6 _ (by omega) (by omega) (by omega), o6 7 _ (by omega) (by omega) (by omega), o6 8 _ (by omega) (by omega) (by omega), fT (200 + 20 * s' + 2) _ (by omega) (by omega) (by omega) (by omega) (by omega) (by omega) (by omega), fT (200 + 20 * s' + 3) _ (by omega) (by omega) (by omega) (by omega) (by omega) (by omega) (by omega), fT (200 + 20 * s' + 4) _ (by omega) (by omega) (by omega) (by omega) (by omega) (by omega) (by omega)]
          exact c2 k k0 k1
    · right
      intro k j hk
      have w5 := (c.1.2.1 s s0 s6).1
      unfold inS at hk
      exact fT k j (by omega) (by omega) (by omega) (by omega) (by omega) (by omega) (by omega)
  · unfold inP at hk
    exact fT k j (by omega) (by omega) (by omega) (by omega) (by omega) (by omega) (by omega)
theorem s_takesPoint {Q : Int → St → Prop} (c : cR S) (s0 : 0 ≤ s) (s6 : s < 6) (a0 : 0 ≤ a) (a1 : a ≤ 10000000) (q1 : tk S s a b → Q 1 S) (q0 : ¬ tk S s a b → Q 0 S) : vpSt_takesPoint (200 + 20 * s) a b S Q := by
  have hm := c.1
  have h1 := hm.1.1
  have cs := c.2.2.1 s s0 s6
  have w5 := (hm.2.1 s s0 s6).1
  have db := dv_b hm a0 (show rI a by constructor <;> omega)
  unfold vpSt_takesPoint vSt_takesPoint_29 vSt_takesPoint_64 vSt_takesPoint_65
  rw [cs.1.1, cs.1.2.1]
  refine ⟨by omega, by omega, by omega, by constructor <;> omega, fun h80 => ⟨fun hz => ⟨fun ha => ⟨Or.inr rfl, q1 ⟨h80, fun _ => ha, fun g => absurd hz g⟩⟩, fun ha => ⟨Or.inl rfl, q0 (fun g => ha (g.2.1 hz))⟩⟩, fun hz => ⟨by omega, ?_⟩⟩, fun h80 => q0 (fun g => h80 g.1)⟩
  have e := cs.2.1 (S 5 s - 1) (by omega) (by omega)
  rw [e.1, e.2.1, show 60 * s + (S 5 s - 1) = 60 * s + S 5 s - 1 by omega]
  refine ⟨fun g => ⟨Or.inl rfl, q0 (fun t => by have := (t.2.2 hz).1; omega)⟩, fun g => ⟨by omega, fun g2 => ⟨Or.inl rfl, q0 (fun t => by have := (t.2.2 hz).2; omega)⟩, fun g2 => ⟨Or.inr rfl, q1 ⟨h80, fun g3 => absurd g3 hz, fun _ => ⟨by omega, by omega⟩⟩⟩⟩⟩
/-- the reference's stem(), where all is in its range -/
theorem s_mostem {Q : Int → St → Prop} (hm : wfM S) (n60 : S 5 (S 0 4 - 1) < 60) (a0 : 0 ≤ a) (a1 : a ≤ 10000000) (b0 : 0 ≤ b) (b1 : b ≤ 100000) (v0 : 0 ≤ v) (v1 : v ≤ 100000) (q0 : ¬ tk S (S 0 4 - 1) a b → Q 0 (up S 0 0 0)) (q1 : tk S (S 0 4 - 1) a b → Q 1 (up (up (up (up (up (up S 0 0 0) 6 (60 * (S 0 4 - 1) + S 5 (S 0 4 - 1)) a) 7 (60 * (S 0 4 - 1) + S 5 (S 0 4 - 1)) b) 8 (60 * (S 0 4 - 1) + S 5 (S 0 4 - 1)) v) 5 (S 0 4 - 1) (S 5 (S 0 4 - 1) + 1)) 0 33 0)) : vpMo_stem 0 a b v S Q := by
  have h1 := hm.1.1
  have h4 := hm.1.2.2.2.1
  have w5 := (hm.2.1 (S 0 4 - 1) (by omega) (by omega)).1
  have db := dv_b hm a0 (show rI a by constructor <;> omega)
  unfold vpMo_stem
  refine ⟨by constructor <;> omega, fun z ez => ?_⟩
  subst ez
  refine ⟨by omega, fun g => by omega, fun _ => s_isIn (fun _ => by omega) (fun _ _ => ⟨fun g => by omega, fun _ => s_isIn (fun _ => by omega) (fun _ _ => ⟨fun g => by omega, fun _ => s_isIn (fun _ => by omega) (fun _ _ => ⟨fun g => by omega, fun _ => ?_⟩)⟩)⟩)⟩
  unfold vMo_stem_66
  intro S1 e1
  have e0 : S1 0 0 = 0 := by rw [e1, up_s]
  have f1 : ∀ k j, ¬ (k = 0 ∧ j = 0) → S1 k j = S k j := fun k j h => by rw [e1, up_n h]
  refine ⟨fun _ => ?_, fun g => by omega⟩
  rw [f1 5 _ (by omega)]
  refine ⟨by omega, by constructor <;> omega, fun z ez => ⟨by omega, ?_⟩⟩
  subst ez
  have no : ¬ tk S (S 0 4 - 1) a b → Q 0 S1 := fun g => by rw [e1]; exact q0 g
  have m0 : ¬ tk S (S 0 4 - 1) a b → vMo_stem_146 Q 0 a b v (S 0 4 - 1) (60 * (S 0 4 - 1) + S 5 (S 0 4 - 1)) 0 S1 := fun g => by
    unfold vMo_stem_146 vMo_stem_164
    exact ⟨fun _ => no g, fun g2 => absurd rfl g2⟩
  have m1 : (a / S 0 1 ≤ 80 → tk S (S 0 4 - 1) a b) → vMo_stem_146 Q 0 a b v (S 0 4 - 1) (60 * (S 0 4 - 1) + S 5 (S 0 4 - 1)) 1 S1 := fun g => by
    unfold vMo_stem_146 vMo_stem_164
    rw [f1 0 1 (by omega)]
    refine ⟨fun g2 => by omega, fun _ => ⟨by omega, by omega, by omega, by constructor <;> omega, fun h80 => ⟨by omega, fun S7 e7 => ⟨by omega, fun S12 e12 => ⟨by omega, fun S17 e17 => ⟨by omega, by omega, ?_⟩⟩⟩⟩, fun h80 => no (fun g2 => h80 g2.1)⟩⟩
    have e5 : S17 5 (S 0 4 - 1) = S 5 (S 0 4 - 1) := by rw [e17, up_n (by omega), e12, up_n (by omega), e7, up_n (by omega), f1 _ _ (by omega)]
    rw [e5]
    refine ⟨by constructor <;> omega, fun S24 e24 => s_told ⟨Or.inr rfl, ?_⟩⟩
    rw [e24, e17, e12, e7, e1]
    exact q1 (g h80)
  refine ⟨fun hz => ⟨fun ha => m1 (fun h80 => ⟨h80, fun _ => ha, fun g => absurd hz g⟩), fun ha => m0 (fun g => ha (g.2.1 hz))⟩, fun hz => ⟨by omega, ?_⟩⟩
  rw [f1 6 _ (by omega), f1 7 _ (by omega)]
  unfold vMo_stem_145
  exact ⟨fun g => m0 (fun t => by have := (t.2.2 hz).1; omega), fun g => ⟨by omega, fun g2 => m0 (fun t => by have := (t.2.2 hz).2; omega), fun g2 => m1 (fun h80 => ⟨h80, fun g3 => absurd g3 hz, fun _ => ⟨by omega, by omega⟩⟩)⟩⟩
theorem op_stem (h : InvS S) : vpLa_stem 100 a b v 330 S (fun r1 S1 => vpMo_stem 0 a b v S1 (fun r2 S2 => okB r1 r2 S2)) := by
  have c := h.1
  have cB := c.2.1
  have hm := c.1
  have h1 := hm.1.1
  have h4 := c.1.1.2.2.2.1
  have cS := c.2.2.1 (S 0 4 - 1) (by omega) (by omega)
  have w5 := (hm.2.1 (S 0 4 - 1) (by omega) (by omega)).1
  have err : ∀ r, r ≠ 0 → 0 < r → ∀ z, vMo_stem_66 (fun r2 S2 => okB r r2 S2) 0 a b v z r 0 S := by
    intro r r0 rp z
    unfold vMo_stem_66
    intro S1 e1
    have e0 : S1 0 0 = r := by rw [e1, up_s]
    exact ⟨fun g => by omega, fun _ => okB_e h r0 (fun k j hk => by rw [e1, up_n hk]) e0⟩
  have err2 : S 5 (S 0 4 - 1) ≠ 60 → ((a < 0 ∨ 10000000 < a) ∨ (b < 0 ∨ 100000 < b) ∨ (v < 0 ∨ 100000 < v)) → vpMo_stem 0 a b v S (fun r2 S2 => okB 2 r2 S2) := by
    intro hn hb
    unfold vpMo_stem vMo_stem_65
    refine ⟨by constructor <;> omega, fun z ez => ⟨by omega, fun g => absurd (by rw [← ez]; exact g) hn, fun _ => s_isIn (fun _ => ⟨fun _ => err 2 (by omega) (by omega) z, fun g => absurd rfl g⟩) (fun g1 g2 => ⟨fun g => by omega, fun _ => s_isIn (fun _ => ⟨fun _ => err 2 (by omega) (by omega) z, fun g => absurd rfl g⟩) (fun g3 g4 => ⟨fun g => by omega, fun _ => s_isIn (fun _ => ⟨fun _ => err 2 (by omega) (by omega) z, fun g => absurd rfl g⟩) (fun g5 g6 => by omega)⟩)⟩)⟩⟩
  unfold vpLa_stem vpBT_stem vLa_stem_18 vBT_stem_59 vpBT_latestStem
  rw [cB.1]
  refine ⟨by omega, ?_⟩
  show (S (200 + 20 * (S 0 4 - 1)) 9 < 60 → _) ∧ (¬ S (200 + 20 * (S 0 4 - 1)) 9 < 60 → _)
  rw [cS.1.2.1]
  refine ⟨fun hn => ?_, fun hn => ⟨fun _ => ?_, fun g => absurd g (by decide), Or.inl rfl⟩⟩
  · have hn' : S 5 (S 0 4 - 1) ≠ 60 := by omega
    refine s_out (fun g => ⟨fun g2 => by omega, fun _ => ⟨fun g2 => absurd g2 (by decide), fun _ => err2 hn' (Or.inl g), Or.inr rfl⟩⟩) (fun a0 a1 => ⟨fun _ => ?_, fun g3 => absurd rfl g3⟩)
    refine s_out (fun g => ⟨fun g2 => by omega, fun _ => ⟨fun g2 => absurd g2 (by decide), fun _ => err2 hn' (Or.inr (Or.inl g)), Or.inr rfl⟩⟩) (fun b0 b1 => ⟨fun _ => ?_, fun g3 => absurd rfl g3⟩)
    refine s_out (fun g => ⟨fun g2 => by omega, fun _ => ⟨fun g2 => absurd g2 (by decide), fun _ => err2 hn' (Or.inr (Or.inr g)), Or.inr rfl⟩⟩) (fun v0 v1 => ⟨fun _ => ?_, fun g3 => absurd rfl g3⟩)
    refine s_takesPoint c (by omega) (by omega) a0 a1 (fun ht => ⟨fun g => by omega, fun _ => ?_⟩) (fun ht => ⟨fun _ => ⟨fun _ => ⟨al_out, fun S2 e2 => ?_⟩, fun g => absurd rfl g⟩, fun g => absurd rfl g⟩)
    · unfold vpSt_addPoint
      have c9 := cS.1.2.1
      have c0 := cS.1.1
      have db := dv_b hm a0 (show rI a by constructor <;> omega)
      rw [c9]
      refine ⟨by omega, fun X2 x2 => ?_⟩
      have y2 : X2 (200 + 20 * (S 0 4 - 1)) 9 = S 5 (S 0 4 - 1) := by rw [x2, up_n (by omega), c9]
      rw [y2]
      refine ⟨by omega, fun X7 x7 => ?_⟩
      have y7 : X7 (200 + 20 * (S 0 4 - 1)) 9 = S 5 (S 0 4 - 1) := by rw [x7, up_n (by omega), y2]
      rw [y7]
      refine ⟨by omega, fun X12 x12 => ?_⟩
      have y12 : X12 (200 + 20 * (S 0 4 - 1)) 9 = S 5 (S 0 4 - 1) := by rw [x12, up_n (by omega), y7]
      rw [y12]
      refine ⟨by constructor <;> omega, fun X16 x16 => ?_⟩
      have y16 : X16 (200 + 20 * (S 0 4 - 1)) 0 = S 0 1 := by rw [x16, up_n (by omega), x12, up_n (by omega), x7, up_n (by omega), x2, up_n (by omega), c0]
      rw [y16]
      refine ⟨by omega, by omega, by omega, by constructor <;> omega, fun X21 x21 S36 e36 => ⟨fun g => by omega, fun _ => ⟨al_out, fun S2 e2 => ?_⟩⟩⟩
      have f2 : ∀ k j, ¬ (k = 200 + 20 * (S 0 4 - 1) ∧ (j = 9 ∨ j = 11)) → ¬ (200 + 20 * (S 0 4 - 1) + 2 ≤ k ∧ k ≤ 200 + 20 * (S 0 4 - 1) + 4 ∧ j = S 5 (S 0 4 - 1)) → ¬ (k = 100 ∧ j = 9) → ¬ (k = 330 ∧ j = 0) → S2 k j = S k j := fun k j a1 a2 a3 a4 => by
        rw [e2, up_n a4, e36, up_n a3, x21, up_n (by omega), x16, up_n (by omega), x12, up_n (by omega), x7, up_n (by omega), x2, up_n (by omega)]
      have fin : ∀ k j, ¬ (k = 330 ∧ j = 0) → ¬ (k = 100 ∧ j = 9) → S2 k j = X21 k j := fun k j a1 a2 => by rw [e2, up_n a1, e36, up_n a2]
      have cf2 : cf S S2 := fun k j hk => f2 k j (by omega) (by omega) (by omega) (by omega)
      have e04 : S2 0 4 = S 0 4 := f2 _ _ (by omega) (by omega) (by omega) (by omega)
      have e5 : S2 5 = S 5 := cf2.k (by omega)
      have e6 : S2 6 = S 6 := cf2.k (by omega)
      have e7 : S2 7 = S 7 := cf2.k (by omega)
      have e01 : S2 0 1 = S 0 1 := f2 _ _ (by omega) (by omega) (by omega) (by omega)
      have tke : tk S2 (S 0 4 - 1) a b ↔ tk S (S 0 4 - 1) a b := by
        unfold tk
        rw [e5, e6, e7, e01]
      refine s_mostem (cf2.w hm) (by rw [e04, e5]; exact hn) a0 a1 b0 b1 v0 v1 (fun g => ?_) (fun _ => ?_)
      · rw [e04, tke] at g
        exact absurd ht g
      · rw [e04, e5]
        generalize eT : up (up (up (up (up (up S2 0 0 0) 6 (60 * (S 0 4 - 1) + S 5 (S 0 4 - 1)) a) 7 (60 * (S 0 4 - 1) + S 5 (S 0 4 - 1)) b) 8 (60 * (S 0 4 - 1) + S 5 (S 0 4 - 1)) v) 5 (S 0 4 - 1) (S 5 (S 0 4 - 1) + 1)) 0 33 0 = T
        have g1 : ∀ k j, ¬ (k = 0 ∧ (j = 0 ∨ j = 33)) → ¬ (k = 5 ∧ j = S 0 4 - 1) → ¬ (6 ≤ k ∧ k ≤ 8 ∧ j = 60 * (S 0 4 - 1) + S 5 (S 0 4 - 1)) → T k j = S2 k j := fun k j a1 a2 a3 => by
          rw [← eT, up_n (by omega), up_n a2, up_n (by omega), up_n (by omega), up_n (by omega), up_n (by omega)]
        have fT : ∀ k j, ¬ (k = 0 ∧ (j = 0 ∨ j = 33)) → ¬ (k = 5 ∧ j = S 0 4 - 1) → ¬ (6 ≤ k ∧ k ≤ 8 ∧ j = 60 * (S 0 4 - 1) + S 5 (S 0 4 - 1)) → ¬ (k = 200 + 20 * (S 0 4 - 1) ∧ (j = 9 ∨ j = 11)) → ¬ (200 + 20 * (S 0 4 - 1) + 2 ≤ k ∧ k ≤ 200 + 20 * (S 0 4 - 1) + 4 ∧ j = S 5 (S 0 4 - 1)) → ¬ (k = 100 ∧ j = 9) → k ≠ 330 → T k j = S k j := fun k j a1 a2 a3 a4 a5 a6 a7 => by
          rw [g1 k j a1 a2 a3, f2 k j a4 a5 a6 (by omega)]
        have cT : cR T := by
          refine cR_stem c (show 0 ≤ S 0 4 - 1 by omega) (by omega) hn a0 a1 b0 b1 v0 v1 ht fT ?_ ?_ ?_ ?_ ?_ ?_ ?_ ?_ ?_
          · rw [← eT, up_n (by omega), up_s]
          · rw [← eT, up_n (by omega), up_n (by omega), up_n (by omega), up_n (by omega), up_s]
          · rw [← eT, up_n (by omega), up_n (by omega), up_n (by omega), up_s]
          · rw [← eT, up_n (by omega), up_n (by omega), up_s]
          · rw [g1 _ _ (by omega) (by omega) (by omega), fin _ _ (by omega) (by omega), x21, up_n (by omega), x16, up_s]
          · rw [g1 _ _ (by omega) (by omega) (by omega), fin _ _ (by omega) (by omega), x21, up_s]
          · rw [g1 _ _ (by omega) (by omega) (by omega), fin _ _ (by omega) (by omega), x21, up_n (by omega), x16, up_n (by omega), x12, up_n (by omega), x7, up_n (by omega), x2, up_s]
          · rw [g1 _ _ (by omega) (by omega) (by omega), fin _ _ (by omega) (by omega), x21, up_n (by omega), x16, up_n (by omega), x12, up_n (by omega), x7, up_s]
          · rw [g1 _ _ (by omega) (by omega) (by omega), fin _ _ (by omega) (by omega), x21, up_n (by omega), x16, up_n (by omega), x12, up_s]
        have q : ∀ k j, ¬ (k = 0 ∧ (j = 0 ∨ j = 33)) → ¬ (5 ≤ k ∧ k ≤ 22) → ¬ (200 ≤ k ∧ k < 330) → ¬ (k = 100 ∧ j = 9) → k ≠ 330 → T k j = S k j := fun k j a1 a2 a3 a4 a5 => fT k j a1 (by omega) (by omega) (by omega) (by omega) a4 a5
        refine ⟨⟨?_, fun _ => ?_, InvS.told cT h (q _ _ (by omega) (by omega) (by omega) (by omega) (by omega)) (q _ _ (by omega) (by omega) (by omega) (by omega) (by omega)) ?_ ?_ (q _ _ (by omega) (by omega) (by omega) (by omega) (by omega))⟩, Or.inr rfl⟩
        · rw [← eT, up_n (by omega), up_n (by omega), up_n (by omega), up_n (by omega), up_n (by omega), up_s]
        · rw [g1 _ _ (by omega) (by omega) (by omega), e2, up_s]
        · rw [g1 _ _ (by omega) (by omega) (by omega), e2, up_n (by omega), e36, up_s]
        · rw [← eT, up_s]
    · have f2 : ∀ k j, ¬ (k = 330 ∧ j = 0) → S2 k j = S k j := fun k j a1 => by rw [e2, up_n a1]
      have cf2 : cf S S2 := fun k j hk => f2 k j (by omega)
      have e04 : S2 0 4 = S 0 4 := f2 _ _ (by omega)
      have e5 : S2 5 = S 5 := cf2.k (by omega)
      have e6 : S2 6 = S 6 := cf2.k (by omega)
      have e7 : S2 7 = S 7 := cf2.k (by omega)
      have e01 : S2 0 1 = S 0 1 := f2 _ _ (by omega)
      have tke : tk S2 (S 0 4 - 1) a b ↔ tk S (S 0 4 - 1) a b := by
        unfold tk
        rw [e5, e6, e7, e01]
      refine s_mostem (cf2.w hm) (by rw [e04, e5]; exact hn) a0 a1 b0 b1 v0 v1 (fun g => ?_) (fun g => ?_)
      · exact okB_0 h (fun k j h1 h2 => by rw [up_n h1, e2, up_n (by omega)]) up_s (by rw [up_n (by omega), e2, up_s])
      · rw [e04, tke] at g
        exact absurd g ht
  · unfold vpMo_stem
    refine ⟨by constructor <;> omega, fun z ez => ⟨by omega, fun _ => err 1 (by omega) (by omega) z, fun g => ?_⟩⟩
    subst ez
    omega
end SJ
