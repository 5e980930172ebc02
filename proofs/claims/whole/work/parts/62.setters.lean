/-! THE REFERENCE'S SETTERS -/
/-- an int, a long within bounds, as a natural -/
def inR (v : Int32) (a B : Nat) : Prop := ∃ n : Nat, a ≤ n ∧ n ≤ B ∧ v = nI n
def inL (w : Int64) (B : Nat) : Prop := ∃ n : Nat, n ≤ B ∧ w = Int64.ofInt (n : Int)
theorem lN_I {n : Nat} (h : n < 2 ^ 63) : (lN n).toInt = (n : Int) := pk_lT h
theorem inR_iff {v : Int32} {a B : Nat} (hB : B < 2 ^ 31) (ha : a < 2 ^ 31) : (lN a ≤ v.toInt64 ∧ v.toInt64 ≤ lN B) ↔ inR v a B := by
  rw [Int64.le_iff_toInt_le, Int64.le_iff_toInt_le, lN_I (by omega), lN_I (by omega), Jvm.Kit.i64_of_i32]
  constructor
  · intro ⟨h1, h2⟩
    refine ⟨v.toInt.toNat, by omega, by omega, ?_⟩
    apply Int32.toInt_inj.mp
    rw [nI_toInt (by omega)]
    omega
  · intro ⟨n, h1, h2, h3⟩
    rw [h3, nI_toInt (by omega)]
    omega
theorem oI_toInt {z : Int} (h1 : -2 ^ 63 ≤ z) (h2 : z < 2 ^ 63) : (Int64.ofInt z).toInt = z := Int64.toInt_ofInt_of_le h1 h2
theorem inL_iff {w : Int64} {B : Nat} (hB : B < 2 ^ 31) : (0 ≤ w ∧ w ≤ lN B) ↔ inL w B := by
  rw [Int64.le_iff_toInt_le, Int64.le_iff_toInt_le, lN_I (by omega), show (0 : Int64).toInt = 0 from rfl]
  constructor
  · intro ⟨h1, h2⟩
    refine ⟨w.toInt.toNat, by omega, ?_⟩
    apply Int64.toInt_inj.mp
    rw [oI_toInt (by omega) (by omega)]
    omega
  · intro ⟨n, h1, h2⟩
    rw [h2, oI_toInt (by omega) (by omega)]
    omega
abbrev moP (kk : Nat → Prop) (ad : Nat → Nat) (F : Nat → hE) (N : Nat → Nat → Nat) (Z : Nat → Nat → Int) (Pm : Hp → Prop) : Prop := ∀ (F1 : Nat → hE) (M1 : Hp), rp kk ad F1 M1 → moT ad F1 N Z → moFr F F1 → Pm M1
section SE
variable {kk : Nat → Prop} {ad : Nat → Nat} {F : Nat → hE} {M : Hp} {N : Nat → Nat → Nat} {Z : Nat → Nat → Int} {post : Int32 → Hp → Prop}
theorem s_in32 {v : Int32} {lo hi : Int64} (a B : Nat) (hlo : lo = lN a) (hhi : hi = lN B) (hB : B < 2 ^ 31) (ha : a < 2 ^ 31) (h1 : ∀ n, a ≤ n → n ≤ B → v = nI n → post 1 M) (h2 : ¬ inR v a B → post 0 M) : wpMo_isIn v.toInt64 lo hi M post := by
  subst hlo
  subst hhi
  refine s_isIn (fun h => ?_) (fun h => ?_)
  · obtain ⟨n, g1, g2, g3⟩ := (inR_iff hB ha).mp h
    exact h1 n g1 g2 g3
  · exact h2 (fun q => h ((inR_iff hB ha).mpr q))
theorem s_in64 {w : Int64} {hi : Int64} (B : Nat) (hhi : hi = lN B) (hB : B < 2 ^ 31) (h1 : ∀ n : Nat, n ≤ B → w = Int64.ofInt (n : Int) → post 1 M) (h2 : ¬ inL w B → post 0 M) : wpMo_isIn w 0 hi M post := by
  subst hhi
  refine s_isIn (fun h => ?_) (fun h => ?_)
  · obtain ⟨n, g1, g2⟩ := (inL_iff hB).mp h
    exact h1 n g1 g2
  · exact h2 (fun q => h ((inL_iff hB).mpr q))
theorem s_thrown (h : rp kk ad F M) (hK : moK kk) (hS : moT ad F N Z) (p : post (nI (N 0 0)) M) : wpMo_thrown (ad 1000) M post := by
  unfold wpMo_thrown
  exact n_fI h hK hS (by omega) rfl p
theorem s_none (h : rp kk ad F M) (hK : moK kk) (hS : moT ad F N Z) (hm : N 0 33 ≤ 1) (p0 : N 0 33 = 0 → moP kk ad F (up2 N 0 0 1) Z (post 1)) (p1 : N 0 33 = 1 → moP kk ad F (up2 N 0 0 0) Z (post 0)) : wpMo_none (ad 1000) M post := by
  unfold wpMo_none wMo_none_13 wMo_none_28
  refine n_fI h hK hS (by omega) rfl ?_
  rcases (show N 0 33 = 0 ∨ N 0 33 = 1 by omega) with hm0 | hm0
  · rw [hm0]
    refine ⟨fun _ => ?_, fun hc => absurd rfl hc⟩
    refine n_pI h hK hS 1 rfl (by omega) rfl (fun F1 M1 h1 h2 h3 => ?_)
    refine n_fI h1 hK h2 (by omega) rfl ?_
    rw [up2_s]
    exact ⟨fun hc => absurd hc (by decide), fun _ => ⟨Or.inr rfl, p0 hm0 F1 M1 h1 h2 h3⟩⟩
  · rw [hm0]
    refine ⟨fun hc => absurd hc (by decide), fun _ => ?_⟩
    refine n_pI h hK hS 0 rfl (by omega) rfl (fun F1 M1 h1 h2 h3 => ?_)
    refine n_fI h1 hK h2 (by omega) rfl ?_
    rw [up2_s]
    exact ⟨fun _ => ⟨Or.inl rfl, p1 hm0 F1 M1 h1 h2 h3⟩, fun hc => absurd (by decide) hc⟩
theorem s_noProduct {v : Int32} (h : rp kk ad F M) (hK : moK kk) (hS : moT ad F N Z) (hP : N 0 14 ≤ 8) (p0 : ¬ (∃ n : Nat, n < N 0 14 ∧ v = nI n) → moP kk ad F (up2 N 0 0 1) Z (post 1)) (p1 : ∀ n : Nat, n < N 0 14 → v = nI n → moP kk ad F (up2 N 0 0 0) Z (post 0)) : wpMo_noProduct (ad 1000) v M post := by
  unfold wpMo_noProduct wMo_noProduct_13 wMo_noProduct_18 wMo_noProduct_33
  have bad : ¬ (∃ n : Nat, n < N 0 14 ∧ v = nI n) → ∃ M2 : Hp, pF M (ad 1000) 6 0 (.int 1) M2 ∧ ∃ v6 : Int32, fI M2 (ad 1000) 6 0 v6 ∧ ((v6 ≤ 0 → ((0 : Int32) = 0 ∨ (0 : Int32) = 1) ∧ post 0 M2) ∧ (¬ v6 ≤ 0 → ((1 : Int32) = 0 ∨ (1 : Int32) = 1) ∧ post 1 M2)) := by
    intro hn
    refine n_pI h hK hS 1 rfl (by omega) rfl (fun F1 M1 h1 h2 h3 => ?_)
    refine n_fI h1 hK h2 (by omega) rfl ?_
    rw [up2_s]
    exact ⟨fun hc => absurd hc (by decide), fun _ => ⟨Or.inr rfl, p0 hn F1 M1 h1 h2 h3⟩⟩
  refine ⟨fun hc => bad ?_, fun hc => ?_⟩
  · rintro ⟨n, g1, g2⟩
    rw [g2] at hc
    exact nI_pos (by omega) hc
  · refine n_fI h hK hS (by omega) rfl ?_
    obtain ⟨j, g1, g2⟩ := nI_of hc
    refine ⟨fun hlt => ?_, fun hlt => bad ?_⟩
    · have hj : j < N 0 14 := (nI_ltI g1 (by omega)).mp (by rw [← g2]; exact hlt)
      refine n_pI h hK hS 0 rfl (by omega) rfl (fun F1 M1 h1 h2 h3 => ?_)
      refine n_fI h1 hK h2 (by omega) rfl ?_
      rw [up2_s]
      exact ⟨fun _ => ⟨Or.inl rfl, p1 j hj g2 F1 M1 h1 h2 h3⟩, fun hc => absurd (by decide) hc⟩
    · rintro ⟨n, y1, y2⟩
      exact hlt (by rw [y2]; exact (nI_ltI (by omega) (by omega)).mpr y1)
theorem s_margin {v : Int32} (h : rp kk ad F M) (hK : moK kk) (hS : moT ad F N Z) (hm : N 0 33 ≤ 1) (hg : N 0 2 ≤ 100000)
    (p1 : ¬ inR v 0 100000 → moP kk ad F (up2 N 0 0 1) Z (post 0)) (p2 : ∀ n, n ≤ 100000 → v = nI n → n = N 0 2 → moP kk ad F (up2 N 0 0 0) Z (post 0)) (p3 : ∀ n, n ≤ 100000 → v = nI n → n ≠ N 0 2 → moP kk ad F (up2 (up2 (up2 N 0 0 0) 0 2 n) 0 33 0) Z (post 1)) : wpMo_margin (ad 1000) v M post := by
  unfold wpMo_margin wMo_margin_18 wMo_margin_36
  refine s_in32 0 100000 rfl rfl (by decide) (by decide) (fun n _ hn hv => ?_) (fun hn => ?_)
  · refine ⟨fun hc => absurd hc (by decide), fun _ => ?_⟩
    refine n_pI h hK hS 0 rfl (by omega) rfl (fun F1 M1 h1 h2 h3 => ?_)
    refine n_fI h1 hK h2 (by omega) rfl ?_
    rw [up2_s]
    refine ⟨fun hc => absurd hc (by decide), fun _ => ?_⟩
    refine n_fI h1 hK h2 (by omega) rfl ?_
    rw [up2_j (by decide)]
    refine ⟨fun hc => ?_, fun hc => ?_⟩
    · exact p2 n hn hv ((nI_eq (by omega) (by omega)).mp (hv.symm.trans hc)) F1 M1 h1 h2 h3
    · have hne : n ≠ N 0 2 := fun e => hc (by rw [hv, e])
      refine n_pI h1 hK h2 n hv (by omega) rfl (fun F2 M2 g1 g2 g3 => ⟨n_ob g1 hK g2, ?_⟩)
      refine s_told g1 hK g2 (by rw [up2_j (by decide), up2_j (by decide)]; exact hm) (b := 1) (by omega) rfl (fun F3 M3 y1 y2 y3 => ⟨Or.inr rfl, p3 n hn hv hne F3 M3 y1 y2 (h3.tr (g3.tr y3))⟩)
  · refine ⟨fun _ => ?_, fun hc => absurd rfl hc⟩
    refine n_pI h hK hS 1 rfl (by omega) rfl (fun F1 M1 h1 h2 h3 => ?_)
    refine n_fI h1 hK h2 (by omega) rfl ?_
    rw [up2_s]
    exact ⟨fun _ => p1 hn F1 M1 h1 h2 h3, fun hc => absurd (by decide) hc⟩
theorem s_saw {v : Int32} (h : rp kk ad F M) (hK : moK kk) (hS : moT ad F N Z) (hm : N 0 33 ≤ 1) (hg : N 0 3 ≤ 3)
    (p1 : ¬ inR v 0 3 → moP kk ad F (up2 N 0 0 1) Z (post 0)) (p2 : ∀ n, n ≤ 3 → v = nI n → n = N 0 3 → moP kk ad F (up2 N 0 0 0) Z (post 0)) (p3 : ∀ n, n ≤ 3 → v = nI n → n ≠ N 0 3 → moP kk ad F (up2 (up2 (up2 N 0 0 0) 0 3 n) 0 33 0) Z (post 1)) : wpMo_saw (ad 1000) v M post := by
  unfold wpMo_saw wMo_saw_18 wMo_saw_36
  refine s_in32 0 3 rfl rfl (by decide) (by decide) (fun n _ hn hv => ?_) (fun hn => ?_)
  · refine ⟨fun hc => absurd hc (by decide), fun _ => ?_⟩
    refine n_pI h hK hS 0 rfl (by omega) rfl (fun F1 M1 h1 h2 h3 => ?_)
    refine n_fI h1 hK h2 (by omega) rfl ?_
    rw [up2_s]
    refine ⟨fun hc => absurd hc (by decide), fun _ => ?_⟩
    refine n_fI h1 hK h2 (by omega) rfl ?_
    rw [up2_j (by decide)]
    refine ⟨fun hc => ?_, fun hc => ?_⟩
    · exact p2 n hn hv ((nI_eq (by omega) (by omega)).mp (hv.symm.trans hc)) F1 M1 h1 h2 h3
    · have hne : n ≠ N 0 3 := fun e => hc (by rw [hv, e])
      refine n_pI h1 hK h2 n hv (by omega) rfl (fun F2 M2 g1 g2 g3 => ⟨n_ob g1 hK g2, ?_⟩)
      refine s_told g1 hK g2 (by rw [up2_j (by decide), up2_j (by decide)]; exact hm) (b := 1) (by omega) rfl (fun F3 M3 y1 y2 y3 => ⟨Or.inr rfl, p3 n hn hv hne F3 M3 y1 y2 (h3.tr (g3.tr y3))⟩)
  · refine ⟨fun _ => ?_, fun hc => absurd rfl hc⟩
    refine n_pI h hK hS 1 rfl (by omega) rfl (fun F1 M1 h1 h2 h3 => ?_)
    refine n_fI h1 hK h2 (by omega) rfl ?_
    rw [up2_s]
    exact ⟨fun _ => p1 hn F1 M1 h1 h2 h3, fun hc => absurd (by decide) hc⟩
theorem s_stems (h : rp kk ad F M) (hK : moK kk) (hS : moT ad F N Z) (h4 : N 0 4 ≤ 6)
    (p1 : N 0 4 = 6 → moP kk ad F (up2 N 0 0 1) Z (post 0)) (p2 : N 0 4 < 6 → moP kk ad F (up2 (up2 (up2 N 0 0 0) 0 4 (N 0 4 + 1)) 0 33 0) Z (post (nI (N 0 4 + 1)))) : wpMo_stems (ad 1000) M post := by
  unfold wpMo_stems wMo_stems_15
  refine n_fI h hK hS (by omega) rfl ?_
  refine ⟨fun hc => ?_, fun hc => ?_⟩
  · have h6 : N 0 4 = 6 := (nI_eq (by omega) (by decide)).mp (hc.trans (show (6 : Int32) = nI 6 from rfl))
    refine n_pI h hK hS 1 rfl (by omega) rfl (fun F1 M1 h1 h2 h3 => ?_)
    refine n_fI h1 hK h2 (by omega) rfl ?_
    rw [up2_s]
    exact ⟨fun hc => absurd hc (by decide), fun _ => p1 h6 F1 M1 h1 h2 h3⟩
  · have h6 : N 0 4 < 6 := by
      rcases Nat.lt_or_ge (N 0 4) 6 with q | q
      · exact q
      · exact absurd (by rw [show N 0 4 = 6 by omega]; rfl) hc
    refine n_pI h hK hS 0 rfl (by omega) rfl (fun F1 M1 h1 h2 h3 => ?_)
    refine n_fI h1 hK h2 (by omega) rfl ?_
    rw [up2_s]
    refine ⟨fun _ => ?_, fun hc => absurd (by decide) hc⟩
    refine n_fI h1 hK h2 (by omega) rfl ?_
    rw [up2_j (by decide)]
    refine n_pI h1 hK h2 (N 0 4 + 1) (nI_1 _) (by omega) rfl (fun F2 M2 g1 g2 g3 => ?_)
    refine n_pI g1 hK g2 0 rfl (by omega) rfl (fun F3 M3 y1 y2 y3 => ?_)
    refine n_fI y1 hK y2 (by omega) rfl ?_
    rw [up2_j (by decide), up2_s]
    exact p2 h6 F3 M3 y1 y2 (h3.tr (g3.tr y3))
theorem s_limit {v : Int32} {w : Int64} (h : rp kk ad F M) (hK : moK kk) (hS : moT ad F N Z) (hm : N 0 33 ≤ 1) (hP : N 0 14 ≤ 8) (hZ : ∀ j, j < 8 → -1 ≤ Z 21 j ∧ Z 21 j ≤ 1000)
    (p1 : ¬ (∃ n : Nat, n < N 0 14 ∧ v = nI n) → moP kk ad F (up2 N 0 0 1) Z (post 0)) (p2 : ∀ n : Nat, n < N 0 14 → v = nI n → ¬ inL w 1000 → moP kk ad F (up2 (up2 N 0 0 0) 0 0 2) Z (post 0))
    (p3 : ∀ n k : Nat, n < N 0 14 → v = nI n → k ≤ 1000 → w = Int64.ofInt (k : Int) → Z 21 n = k → moP kk ad F (up2 (up2 N 0 0 0) 0 0 0) Z (post 0))
    (p4 : ∀ n k : Nat, n < N 0 14 → v = nI n → k ≤ 1000 → w = Int64.ofInt (k : Int) → Z 21 n ≠ k → moP kk ad F (up2 (up2 (up2 N 0 0 0) 0 0 0) 0 33 0) (up2 Z 21 n (k : Int)) (post 1)) : wpMo_limit (ad 1000) v w M post := by
  unfold wpMo_limit wMo_limit_27 wMo_limit_48
  refine ⟨n_ob h hK hS, s_noProduct h hK hS hP (fun hn F1 M1 h1 h2 h3 => ?_) (fun n hn hv F1 M1 h1 h2 h3 => ?_)⟩
  · exact ⟨fun hc => absurd hc (by decide), fun _ => p1 hn F1 M1 h1 h2 h3⟩
  · refine ⟨fun _ => ?_, fun hc => absurd rfl hc⟩
    refine s_in64 1000 rfl (by decide) (fun k hk hw => ?_) (fun hk => ?_)
    · refine ⟨fun hc => absurd hc (by decide), fun _ => ?_⟩
      refine n_pI h1 hK h2 0 rfl (by omega) rfl (fun F2 M2 g1 g2 g3 => ?_)
      refine n_fI g1 hK g2 (by omega) rfl ?_
      rw [up2_s]
      refine ⟨fun hc => absurd hc (by decide), fun _ => ?_⟩
      refine n_fA g1 hK g2 (by omega) rfl ?_
      have hb := hZ n (by omega)
      refine n_aJ g1 hK g2 rfl rfl n hv (show n < 8 by omega) ?_
      refine ⟨fun hc => ?_, fun hc => ?_⟩
      · refine p3 n k hn hv hk hw ?_ F2 M2 g1 g2 (h3.tr g3)
        have e := congrArg Int64.toInt (hc.trans hw)
        rw [oI_toInt (by omega) (by omega), oI_toInt (by omega) (by omega)] at e
        exact e
      · refine n_fA g1 hK g2 (by omega) rfl ?_
        refine n_sJ g1 hK g2 rfl rfl n hv (show n < 8 by omega) (k : Int) hw (fun F3 M3 y1 y2 y3 => ⟨n_ob y1 hK y2, ?_⟩)
        refine s_told y1 hK y2 (by rw [up2_j (by decide), up2_j (by decide)]; exact hm) (b := 1) (by omega) rfl (fun F4 M4 z1 z2 z3 => ⟨Or.inr rfl, p4 n k hn hv hk hw ?_ F4 M4 z1 z2 (h3.tr (g3.tr (y3.tr z3)))⟩)
        intro e
        exact hc (by rw [hw, e])
    · refine ⟨fun _ => ?_, fun hc => absurd rfl hc⟩
      refine n_pI h1 hK h2 2 rfl (by omega) rfl (fun F2 M2 g1 g2 g3 => ?_)
      refine n_fI g1 hK g2 (by omega) rfl ?_
      rw [up2_s]
      exact ⟨fun _ => p2 n hn hv hk F2 M2 g1 g2 (h3.tr g3), fun hc => absurd (by decide) hc⟩
end SE
