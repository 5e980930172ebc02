section OV
variable {S T U X : St} {v : Int} {w l q : Int → Int}
theorem op_override (h : InvS S) (hI : rI v) : vpLa_override 100 v 330 S (fun r1 S1 => vpMo_override 0 v S1 (fun r2 S2 => okR r1 r2 S2)) := by
  have c := h.1
  have hm := c.1
  have h1 := hm.1.1
  have h4 := hm.1.2.2.2.1
  have hk := h.2.1
  unfold vpLa_override vpBT_override
  refine s_needPlan h (fun g => ⟨fun _ => ?_, fun g2 => absurd g2 (by decide), Or.inl rfl⟩) (fun g => ?_)
  · unfold vpMo_override
    exact s_none h.2.2.1 (fun _ => ⟨fun g2 => by omega, fun _ => okR_e h (by omega) (fun k j hk => up_n hk) up_s⟩) (fun g2 => by omega)
  obtain ⟨m1, m2, m3, m4, m5, m6⟩ := h.m g
  have wS := wt_b hm m4
  have wS96 := wt_96 hm m4 m5
  have eW : S (S 100 7) 4 = wt S (S 25) (S 26) (S 27) := m6.2.1
  refine s_forceLatest c hI (fun hn => ⟨fun _ => ⟨fun g2 => absurd g2 (by decide), fun _ => ?_, Or.inr rfl⟩, fun g2 => absurd rfl g2⟩) (fun hE hf => ⟨fun g2 => by omega, fun _ => ?_⟩)
  · -- at is no end, or was forced
    have e47 : ∀ T : St, (∀ k j, ¬ (k = 0 ∧ j = 0) → T k j = S k j) → vMo_override_47 (fun r2 S2 => okR 2 r2 S2) 0 v 2 0 T := by
      intro T fT
      unfold vMo_override_47
      intro S1 e1
      have e0 : S1 0 0 = 2 := by rw [e1, up_s]
      exact ⟨fun g2 => by omega, fun _ => okR_e h (by omega) (fun k j hk => by rw [e1, up_n hk]; exact fT k j hk) e0⟩
    unfold vpMo_override vMo_override_42
    refine s_none h.2.2.1 (fun g2 => by omega) (fun _ => ⟨fun _ => ?_, fun g2 => absurd rfl g2⟩)
    generalize eX : up S 0 0 0 = X
    have fX : ∀ k j, ¬ (k = 0 ∧ j = 0) → X k j = S k j := fun k j a1 => by rw [← eX, up_n a1]
    have cX : cf S X := fun k j hk => fX k j (by omega)
    have iE : isE X v ↔ isE S v := by
      unfold isE
      rw [fX 0 1 (by omega), fX 0 4 (by omega), cX.n]
    refine s_isEnd (cX.w hm) hI (fun hE => ⟨fun g2 => by omega, fun _ => ?_⟩) (fun hE => ⟨fun _ => e47 X fX, fun g2 => absurd rfl g2⟩)
    have hE' := iE.1 hE
    have eb := isE_b hm hE'
    have vp := hE'.1
    rw [fX 0 1 (by omega), fX 0 4 (by omega), fX 13 _ (by omega)]
    exact ⟨by omega, by omega, by omega, by omega, fun g2 => absurd ⟨hE', g2⟩ hn, fun _ => e47 X fX⟩
  · -- the cut is forced: the class makes its plan anew
    have eb := isE_b hm hE
    have vp := hE.1
    have hs0 : 0 ≤ S 0 4 - 1 := by omega
    generalize es : S 0 4 - 1 = s at *
    generalize ee : v / S 0 1 = e at *
    generalize eS7 : up S (200 + 20 * s + 8) e 1 = S7
    have f7 : ∀ k j, ¬ (k = 200 + 20 * s + 8 ∧ j = e) → S7 k j = S k j := fun k j a1 => by rw [← eS7, up_n a1]
    obtain ⟨B, eB⟩ : ∃ B : St, B = up S7 13 (81 * s + e) 1 := ⟨_, rfl⟩
    have fB : ∀ k j, ¬ (k = 13 ∧ j = 81 * s + e) → B k j = S7 k j := fun k j a1 => by rw [eB, up_n a1]
    have fBS : ∀ k j, ¬ (k = 13 ∧ j = 81 * s + e) → ¬ (k = 200 + 20 * s + 8 ∧ j = e) → B k j = S k j := fun k j a1 a2 => by rw [fB k j a1, f7 k j a2]
    have cB : cR B := cR_force c hs0 (by omega) eb.1 eb.2 (fun k j _ a2 a3 _ _ => fBS k j a2 a3) (by rw [eB, up_s]) (by rw [fB _ _ (by omega), ← eS7, up_s])
    have mB : mix (S 13) B = S7 := by
      funext k j
      unfold mix
      by_cases hk13 : k = 13
      · rw [if_pos hk13, hk13, f7 _ _ (by omega)]
      · rw [if_neg hk13, fB _ _ (by omega)]
    have B7 : B 100 7 = S 100 7 := fBS _ _ (by omega) (by omega)
    have B8 : B 100 8 = S 100 8 := fBS _ _ (by omega) (by omega)
    have gB : 100 ≤ B 100 7 ∧ 100 ≤ B 100 8 := by omega
    have eW7 : S7 (S7 100 7) 4 = wt S (S 25) (S 26) (S 27) := by
      rw [f7 100 7 (by omega), f7 _ _ (by omega), eW]
    -- the reference, once the class has made T (told as in B)
    have ref : ∀ (T : St) (w l q : Int → Int), kf B T → ((T 100 7 = 130 ∧ T 100 8 = 134) ∨ (T 100 7 = 134 ∧ T 100 8 = 130)) → wt B w l q ≤ 96000000 → 0 ≤ wt B w l q → T (T 100 7) 4 = wt B w l q → (∀ X2 : St, (∀ k j, ¬ (k = 0 ∧ j = 0) → k ≠ 330 → X2 k j = T k j) → X2 0 0 = 0 → (∀ Q : Int → St → Prop, (∀ (r : Int) (U : St), InvS U → rfr X2 U → U 0 0 = 0 → okA B (U 25) (U 26) (U 27) → sepA B (U 25) (U 26) → wt B (U 25) (U 26) (U 27) = wt B w l q → Q r U) → ((X2 0 34 = 0 → vpMo_run 0 X2 Q) ∧ (¬ X2 0 34 = 0 → vpMo_goRounds 0 (X2 0 34) X2 Q)))) → rJ (wt S (S 25) (S 26) (S 27) - mix (S 13) T (mix (S 13) T 100 7) 4) ∧ rI (wt S (S 25) (S 26) (S 27) - mix (S 13) T (mix (S 13) T 100 7) 4) ∧ (((0 : Int) ≤ 0 ∧ (0 : Int) < alen 330) ∧ ∀ S10 : St, S10 = up (mix (S 13) T) 330 0 (wt S (S 25) (S 26) (S 27) - mix (S 13) T (mix (S 13) T 100 7) 4) → vpMo_override 0 v S10 (fun r2 S2 => okR 0 r2 S2)) := by
      intro T w l q kT hkT wb wb0 eT hgo
      have mT : ∀ k j, k ≠ 13 → mix (S 13) T k j = T k j := fun k j a1 => by
        unfold mix
        rw [if_neg a1]
      have m13 : ∀ j, mix (S 13) T 13 j = S 13 j := fun j => by
        unfold mix
        rw [if_pos rfl]
      have e4 : mix (S 13) T (mix (S 13) T 100 7) 4 = wt B w l q := by rw [mT 100 7 (by omega), mT _ _ (by omega), eT]
      rw [e4]
      refine ⟨by constructor <;> omega, by constructor <;> omega, al_out, fun S10 e10 => ?_⟩
      -- told as in S, in the reference
      have fS : ∀ k j, k < 100 → S10 k j = S k j := fun k j a1 => by
        rw [e10, up_n (by omega)]
        by_cases hk13 : k = 13
        · rw [hk13, m13]
        · rw [mT k j hk13, kT k j (by omega), fBS k j (by omega) (by omega)]
      unfold vpMo_override vMo_override_42
      refine s_none (Or.inr (by rw [fS 0 33 (by omega)]; exact g)) (fun g2 => by rw [fS 0 33 (by omega)] at g2; omega) (fun _ => ⟨fun _ => ?_, fun g2 => absurd rfl g2⟩)
      generalize eX : up S10 0 0 0 = X
      have fX : ∀ k j, ¬ (k = 0 ∧ j = 0) → k < 100 → X k j = S k j := fun k j a1 a2 => by rw [← eX, up_n a1, fS k j a2]
      have cX : cf S X := fun k j hk => fX k j (by omega) (by omega)
      have iE : isE X v ↔ isE S v := by
        unfold isE
        rw [fX 0 1 (by omega) (by omega), fX 0 4 (by omega) (by omega), cX.n]
      refine s_isEnd (cX.w hm) hI (fun _ => ⟨fun g2 => by omega, fun _ => ?_⟩) (fun g2 => absurd (iE.2 hE) g2)
      rw [fX 0 1 (by omega) (by omega), fX 0 4 (by omega) (by omega), es, ee, fX 13 _ (by omega) (by omega)]
      refine ⟨by omega, by omega, by omega, by omega, fun _ => ?_, fun g2 => absurd hf g2⟩
      unfold vMo_override_47
      intro X1 e1
      have x0 : X1 0 0 = 0 := by rw [e1, up_s]
      have fX1 : ∀ k j, ¬ (k = 0 ∧ j = 0) → k < 100 → X1 k j = S k j := fun k j a1 a2 => by rw [e1, up_n a1, fX k j a1 a2]
      have cX1 : cf S X1 := fun k j hk => fX1 k j (by omega) (by omega)
      have k25 : ∀ k, 0 < k → k < 100 → X1 k = S k := fun k a1 a2 => funext fun j => fX1 k j (by omega) a2
      refine ⟨fun _ => ?_, fun g2 => by omega⟩
      refine s_trueWorth (cX1.w hm) (by rw [k25 25 (by omega) (by omega), k25 26 (by omega) (by omega), k25 27 (by omega) (by omega)]; exact okA_cf cX1 m4) ?_
      rw [k25 25 (by omega) (by omega), k25 26 (by omega) (by omega), k25 27 (by omega) (by omega), wt_cf cX1, fX1 0 1 (by omega) (by omega), fX1 0 4 (by omega) (by omega), es, ee]
      refine ⟨by omega, by omega, by omega, by omega, Or.inr rfl, fun X2 e2 => ?_⟩
      have f2 : ∀ k j, ¬ (k = 0 ∧ j = 0) → k ≠ 330 → X2 k j = T k j := fun k j a1 a2 => by
        by_cases h13 : k = 13
        · subst h13
          by_cases hj : j = 81 * s + e
          · rw [hj, e2, up_s, kT 13 _ (by omega), eB, up_s]
          · rw [e2, up_n (by omega), fX1 _ _ (by omega) (by omega), kT 13 _ (by omega), fBS _ _ (by omega) (by omega)]
        · rw [e2, up_n (by omega), e1, up_n a1, ← eX, up_n a1, e10, up_n (by omega), mT k j h13]
      have x20 : X2 0 0 = 0 := by rw [e2, up_n (by omega), x0]
      have v2 : X2 330 0 = wt S (S 25) (S 26) (S 27) - wt B w l q := by rw [e2, up_n (by omega), e1, up_n (by omega), ← eX, up_n (by omega), e10, up_s]
      have fin : ∀ (r : Int) (U : St), InvS U → rfr X2 U → U 0 0 = 0 → okA B (U 25) (U 26) (U 27) → sepA B (U 25) (U 26) → wt B (U 25) (U 26) (U 27) = wt B w l q → vMo_override_112 (fun r2 S2 => okR 0 r2 S2) 0 (wt S (S 25) (S 26) (S 27)) U := by
        intro r U iU rU u0 oU sU wU
        have cU : cf B U := fun k j hk => by rw [rU.cf k j hk, f2 k j (by omega) (by omega)]; exact kT k j (by omega)
        unfold vMo_override_112
        refine s_trueWorth iU.1.1 (okA_cf cU oU) ?_
        rw [wt_cf cU, wU]
        refine ⟨by constructor <;> omega, by constructor <;> omega, u0, fun _ => ?_, iU⟩
        rw [rU.1 330 (by omega) (by omega) (by omega) (by omega) (by omega) (by omega) (by omega) (by omega) (by omega) (by omega) (by omega), v2]
      have hg := hgo X2 f2 x20
      exact ⟨fun g2 => (hg _ fin).1 g2, fun g2 => (hg _ fin).2 g2⟩
    have T34 : ∀ T X2 : St, kf B T → (∀ k j, ¬ (k = 0 ∧ j = 0) → k ≠ 330 → X2 k j = T k j) → X2 0 34 = S 0 34 := fun T X2 kT f2 => by rw [f2 _ _ (by omega) (by omega), kT 0 34 (by omega), fBS _ _ (by omega) (by omega)]
    have h34 := h.2.2.2.2.1
    have e710 : S7 100 10 = S 0 34 := by rw [f7 _ _ (by omega)]; exact m1
    have hBk : (B 100 7 = 130 ∧ B 100 8 = 134) ∨ (B 100 7 = 134 ∧ B 100 8 = 130) := by rw [B7, B8]; exact hk
    rw [e710, eW7]
    unfold vBT_override_53
    refine ⟨fun hz => ?_, fun hz => ?_⟩
    · have go := s_makePlain (Q := fun T => rJ (wt S (S 25) (S 26) (S 27) - mix (S 13) T (mix (S 13) T 100 7) 4) ∧ rI (wt S (S 25) (S 26) (S 27) - mix (S 13) T (mix (S 13) T 100 7) 4) ∧ (((0 : Int) ≤ 0 ∧ (0 : Int) < alen 330) ∧ ∀ S10 : St, S10 = up (mix (S 13) T) 330 0 (wt S (S 25) (S 26) (S 27) - mix (S 13) T (mix (S 13) T 100 7) 4) → vpMo_override 0 v S10 (fun r2 S2 => okR 0 r2 S2))) cB (by omega) (fun T w l q kT e7 e8 e9 e10 e11 pr0 plo rel => ?_)
      · have gg := m_vpBT_makePlain (b := S 13) (Q' := fun S14 => rJ (wt S (S 25) (S 26) (S 27) - S14 (S14 100 7) 4) ∧ rI (wt S (S 25) (S 26) (S 27) - S14 (S14 100 7) 4) ∧ (((0 : Int) ≤ 0 ∧ (0 : Int) < alen 330) ∧ ∀ S10 : St, S10 = up S14 330 0 (wt S (S 25) (S 26) (S 27) - S14 (S14 100 7) 4) → vpMo_override 0 v S10 (fun r2 S2 => okR 0 r2 S2))) (fun T _ hT => hT) (by omega) gB go
        rw [mB] at gg
        exact gg
      · have oo := plOK_okA cB.1 plo
        have ss := plOK_sep cB.1 plo
        refine ref T w l q kT (by rw [e7, e8]; exact hBk) (wt_96 cB.1 oo ss) (wt_b cB.1 oo).1 (by rw [e7]; exact rel.2.1) (fun X2 f2 x20 Q hQ => ⟨fun _ => ?_, fun g2 => absurd ((T34 T X2 kT f2).trans hz) g2⟩)
        have cx : cf B X2 := fun k j hk => by rw [f2 k j (by omega) (by omega)]; exact kT k j (by omega)
        refine s_run (cx.w cB.1) (fun U rU u0 u33 u34 u24 plU u35 => ?_)
        have plU' := plOK_cf cx.sy plU
        have ag := plOK_agr cB.1 plo plU'
        have hB4 := cB.1.1.2.2.2.1
        refine hQ _ U (InvS.mk2 cB kT (by rw [e7, e8]; exact hBk) e9 e10 (by omega) e11 pr0 (by rw [e7]; exact rel) f2 rU u33 u34 ?_ (fun p p0 p8 => u24 p p0 (by have := cB.1.1.2.2.2.2; omega)) ag (plOK_okA cB.1 plU') (plOK_sep cB.1 plU')) rU u0 (plOK_okA cB.1 plU') (plOK_sep cB.1 plU') (wt_agr (by omega) ag)
        rw [u35, wt_cf cx]
        exact wt_agr (by omega) ag
    · have go := s_makePriced (most := (S 0 34).toNat) (Q := fun _ T => rJ (wt S (S 25) (S 26) (S 27) - mix (S 13) T (mix (S 13) T 100 7) 4) ∧ rI (wt S (S 25) (S 26) (S 27) - mix (S 13) T (mix (S 13) T 100 7) 4) ∧ (((0 : Int) ≤ 0 ∧ (0 : Int) < alen 330) ∧ ∀ S10 : St, S10 = up (mix (S 13) T) 330 0 (wt S (S 25) (S 26) (S 27) - mix (S 13) T (mix (S 13) T 100 7) 4) → vpMo_override 0 v S10 (fun r2 S2 => okR 0 r2 S2))) cB hBk (by omega) (by omega) (fun T R W L Qs kb bd w l q kT hkT e9 e10 e11 hq hp hf rel => ?_)
      · have gg := m_vpBT_makePriced (b := S 13) (Q' := fun _ S14 => rJ (wt S (S 25) (S 26) (S 27) - S14 (S14 100 7) 4) ∧ rI (wt S (S 25) (S 26) (S 27) - S14 (S14 100 7) 4) ∧ (((0 : Int) ≤ 0 ∧ (0 : Int) < alen 330) ∧ ∀ S10 : St, S10 = up S14 330 0 (wt S (S 25) (S 26) (S 27) - S14 (S14 100 7) 4) → vpMo_override 0 v S10 (fun r2 S2 => okR 0 r2 S2))) (fun r T _ hT => hT) (by omega) gB go
        rw [mB, show (((S 0 34).toNat : Nat) : Int) = S 0 34 by omega] at gg
        exact gg
      · have oo := fin_okA cB.1 hq hf
        have ss := fin_sep cB.1 hq hf
        refine ref T w l q kT hkT (wt_96 cB.1 oo ss) (wt_b cB.1 oo).1 rel.2.1 (fun X2 f2 x20 Q hQ => ⟨fun g2 => absurd ((T34 T X2 kT f2).symm.trans g2) hz, fun _ => ?_⟩)
        have rr := s_rounds (Q := Q) cB kT hkT e9 e10 e11 hq hp hf rel f2 (fun U rU u0 iU wU oU sU => hQ _ U iU rU (by rw [u0, x20]) oU sU wU)
        rw [show (((S 0 34).toNat : Nat) : Int) = S 0 34 by omega] at rr
        rw [T34 T X2 kT f2]
        exact rr
end OV
