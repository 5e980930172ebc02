/-! THE STATE AT THE START -/
def S0 (st : Int) : St := fun k j => if k = 0 then (if j = 1 then st else if j = 4 then 1 else 0) else if k = 21 then (if 0 ≤ j ∧ j < 8 then -1 else 0) else if k = 100 then (if j = 3 then 1 else if j = 7 then 130 else if j = 8 then 134 else 0) else if 140 ≤ k ∧ k < 172 ∧ k % 4 = 0 then (if j = 0 then st else if j = 8 then -1 else 0) else if 200 ≤ k ∧ k < 320 ∧ k % 20 = 0 then (if j = 0 then st else 0) else 0
section Z0
variable {st k j s p : Int}
theorem S0_z (h : k ≠ 0 ∧ k ≠ 21 ∧ k ≠ 100 ∧ ¬ (140 ≤ k ∧ k < 172 ∧ k % 4 = 0) ∧ ¬ (200 ≤ k ∧ k < 320 ∧ k % 20 = 0)) : S0 st k j = 0 := by
  unfold S0
  rw [if_neg h.1, if_neg h.2.1, if_neg h.2.2.1, if_neg h.2.2.2.1, if_neg h.2.2.2.2]
theorem S0_0 : S0 st 0 j = if j = 1 then st else if j = 4 then 1 else 0 := by
  unfold S0
  rw [if_pos rfl]
theorem S0_21 : S0 st 21 j = if 0 ≤ j ∧ j < 8 then -1 else 0 := by
  unfold S0
  rw [if_neg (by omega), if_pos rfl]
theorem S0_100 : S0 st 100 j = if j = 3 then 1 else if j = 7 then 130 else if j = 8 then 134 else 0 := by
  unfold S0
  rw [if_neg (by omega), if_neg (by omega), if_pos rfl]
theorem S0_p (p0 : 0 ≤ p) (p8 : p < 8) : S0 st (140 + 4 * p) j = if j = 0 then st else if j = 8 then -1 else 0 := by
  unfold S0
  rw [if_neg (by omega), if_neg (by omega), if_neg (by omega), if_pos (by omega)]
theorem S0_s (s0 : 0 ≤ s) (s6 : s < 6) : S0 st (200 + 20 * s) j = if j = 0 then st else 0 := by
  unfold S0
  rw [if_neg (by omega), if_neg (by omega), if_neg (by omega), if_neg (by omega), if_pos (by omega)]
theorem S0_b (h : 1 ≤ st ∧ st ≤ 65536) : -1 ≤ S0 st k j ∧ S0 st k j ≤ 65536 := by
  unfold S0
  repeat' split
  all_goals omega
theorem S0_rng (h : 1 ≤ st ∧ st ≤ 65536) : rng (S0 st) := by
  intro k j
  have b := S0_b (k := k) (j := j) h
  refine ⟨fun _ => by constructor <;> omega, fun _ => by constructor <;> omega, fun g => ?_⟩
  have hk : k = 100 ∧ (j = 7 ∨ j = 8) := by
    unfold ty at g
    split at g
    · cases g
    · split at g
      · cases g
      · split at g
        · cases g
        · split at g
          · assumption
          · split at g
            · cases g
            · split at g
              · cases g
              · cases g
  rw [hk.1, S0_100]
  rcases hk.2 with e | e
  · rw [if_neg (by omega), if_pos e]
    exact Or.inl rfl
  · rw [if_neg (by omega), if_neg (by omega), if_pos e]
    exact Or.inr rfl
theorem S0_Inv (h : 1 ≤ st ∧ st ≤ 65536) : InvS (S0 st) := by
  have z : ∀ k j, (5 ≤ k ∧ k ≤ 13) ∨ (15 ≤ k ∧ k ≤ 20) ∨ k = 22 → S0 st k j = 0 := fun k j hk => S0_z (by omega)
  have e01 : S0 st 0 1 = st := by rw [S0_0]; rfl
  have e04 : S0 st 0 4 = 1 := by rw [S0_0]; rfl
  have e02 : S0 st 0 2 = 0 := by rw [S0_0]; rfl
  have e03 : S0 st 0 3 = 0 := by rw [S0_0]; rfl
  have e14 : S0 st 0 14 = 0 := by rw [S0_0]; rfl
  have e33 : S0 st 0 33 = 0 := by rw [S0_0]; rfl
  have e34 : S0 st 0 34 = 0 := by rw [S0_0]; rfl
  have n0 : ∀ s, stN (S0 st) s = 0 := fun s => by
    unfold stN
    rw [if_pos (z 5 s (by omega))]
  refine ⟨⟨⟨?_, fun s s0 s6 => ?_, fun p p0 p8 => ?_⟩, ?_, fun s s0 s6 => ?_, fun p p0 p8 => ?_⟩, Or.inl ⟨by rw [S0_100]; rfl, by rw [S0_100]; rfl⟩, Or.inl e33, by rw [e33, S0_100]; rfl, by omega, fun g => by omega⟩
  · unfold wfA
    omega
  · unfold wfS
    rw [n0, z 5 s (by omega), z 9 s (by omega)]
    exact ⟨by omega, by omega, fun k k0 k1 => by omega, fun g => by omega, fun k k0 k1 => by omega, by omega, fun k k0 k1 => by omega, fun c c0 c1 => Or.inl (z 13 _ (by omega))⟩
  · unfold wfP
    rw [e14]
    refine ⟨?_, fun d d0 d7 => by rw [z 22 _ (by omega)]; omega, fun k k0 k8 => Or.inl (z 20 _ (by omega)), fun g => by omega⟩
    rw [S0_21, if_pos (by omega)]
    omega
  · rw [e04, e14, e02, e03]
    refine ⟨?_, ?_, ?_, ?_⟩ <;> rw [S0_100] <;> rfl
  · have y : ∀ k j, 200 + 20 * s + 2 ≤ k → k ≤ 200 + 20 * s + 8 → S0 st k j = 0 := fun k j k1 k2 => S0_z (by omega)
    unfold crS
    rw [n0, z 5 s (by omega), z 9 s (by omega), e01, S0_s s0 s6, S0_s s0 s6, S0_s s0 s6, S0_s s0 s6]
    refine ⟨⟨rfl, rfl, rfl, rfl⟩, fun k k0 k1 => ?_, fun k k0 k1 => ?_, fun k k0 k1 => ?_⟩
    · rw [y _ k (by omega) (by omega), y _ k (by omega) (by omega), y _ k (by omega) (by omega), z 6 _ (by omega), z 7 _ (by omega), z 8 _ (by omega)]
      exact ⟨rfl, rfl, rfl⟩
    · rw [y _ k (by omega) (by omega), y _ k (by omega) (by omega), y _ k (by omega) (by omega), z 10 _ (by omega), z 11 _ (by omega), z 12 _ (by omega)]
      exact ⟨rfl, rfl, rfl⟩
    · rw [y _ k (by omega) (by omega), z 13 _ (by omega)]
  · unfold crP
    rw [e01, e14, S0_21, if_pos (by omega), S0_p p0 p8, S0_p p0 p8]
    refine ⟨⟨rfl, rfl⟩, fun k k0 k8 => ?_, fun d d0 d7 => ?_, fun g => by omega⟩
    · rw [S0_z (by omega), z 20 _ (by omega)]
    · rw [S0_z (by omega), z 22 _ (by omega)]
end Z0
section ZC
variable {st : Int} {ad : Int → Nat} {F : Int → hE} {k s p : Int} {S : St}
theorem cz1 {n : Nat} (h : kd k = (1, n)) (z : ∀ j, S k j = 0) : cel ad S k = .inl (0, n, .inl (fun _ => 0)) := by
  rw [ce_1 (show kt 1 k by unfold kt; rw [h]), h]
  congr 3
  congr 1
  funext j
  rw [z]
  rfl
theorem cz2 {n : Nat} (h : kd k = (2, n)) (z : ∀ j, S k j = 0) : cel ad S k = .inl (1, n, .inl (fun _ => 0)) := by
  rw [ce_2 (show kt 2 k by unfold kt; rw [h]), h]
  congr 3
  congr 1
  funext j
  rw [z]
  rfl
theorem cz3 {n : Nat} (h : kd k = (3, n)) (z : ∀ j, S k j = 0) : cel ad S k = .inl (2, n, .inr (.inl (fun _ => 0))) := by
  rw [ce_3 (show kt 3 k by unfold kt; rw [h]), h]
  congr 4
  congr 1
  funext j
  rw [z]
  rfl
theorem kd_cls (h : ¬ (kd k).1 = 0) : k = 0 ∨ (5 ≤ k ∧ k ≤ 32 ∧ k ≠ 14) ∨ (100 ≤ k ∧ k ≤ 107) ∨ (110 ≤ k ∧ k < 126) ∨ (130 ≤ k ∧ k ≤ 137) ∨ (140 ≤ k ∧ k < 172 ∧ k % 4 ≠ 1) ∨ (200 ≤ k ∧ k < 320 ∧ k % 20 ≠ 1 ∧ k % 20 ≤ 17) ∨ k = 330 := by
  obtain ⟨n, hn, e⟩ := kd_n h
  rw [e, kd_c] at h
  have g : ∀ n : Nat, n < 331 → (decide ((kdN n).1 = 0) || (decide (n = 0) || ((decide (5 ≤ n) && decide (n ≤ 32) && !decide (n = 14)) || ((decide (100 ≤ n) && decide (n ≤ 107)) || ((decide (110 ≤ n) && decide (n < 126)) || ((decide (130 ≤ n) && decide (n ≤ 137)) || ((decide (140 ≤ n) && decide (n < 172) && !decide (n % 4 = 1)) || ((decide (200 ≤ n) && decide (n < 320) && !decide (n % 20 = 1) && decide (n % 20 ≤ 17)) || decide (n = 330))))))))) = true := by decide +kernel
  have := g n hn
  simp only [Bool.or_eq_true, Bool.and_eq_true, Bool.not_eq_true', decide_eq_true_eq, decide_eq_false_iff_not] at this
  omega
theorem zc_cel (h : (kd k).1 = 1 ∨ (kd k).1 = 2 ∨ (kd k).1 = 3) (z : ∀ j, S k j = 0) : zc k = cel ad S k := by
  unfold zc
  rcases h with h | h | h
  · rw [if_pos h]
    exact (cz1 (n := (kd k).2) (Prod.ext h rfl) z).symm
  · rw [if_neg (by omega), if_pos h]
    exact (cz2 (n := (kd k).2) (Prod.ext h rfl) z).symm
  · rw [if_neg (by omega), if_neg (by omega)]
    exact (cz3 (n := (kd k).2) (Prod.ext h rfl) z).symm
theorem z_stem (s0 : 0 ≤ s) (s6 : s < 6) {x : Int32} (hx : v1 x = Int32.ofInt st) (h : stmF ad F x s) : ∀ k, 200 + 20 * s ≤ k → k ≤ 200 + 20 * s + 17 → k ≠ 200 + 20 * s + 1 → F k = cel ad (S0 st) k := by
  have hk := kA_3 (i := s) ⟨s0, s6⟩
  obtain ⟨h1, ⟨h2, h3, h4, h5, h6, h7, h8⟩, h9, h10⟩ := h
  have zz : ∀ k j, 200 + 20 * s + 2 ≤ k → k ≤ 200 + 20 * s + 17 → S0 st k j = 0 := fun k j k1 k2 => S0_z (by omega)
  intro k k1 k2 k3
  by_cases e0 : k = 200 + 20 * s
  · rw [e0, h1, ce_O hk]
    show _ = Sum.inr (1, [Value.int (Int32.ofInt (S0 st (200 + 20 * s) ((0 : Nat) : Int))), Value.ref (ad (rv (S0 st) (200 + 20 * s) ((1 : Nat) : Int))), Value.ref (ad (rv (S0 st) (200 + 20 * s) ((2 : Nat) : Int))), Value.ref (ad (rv (S0 st) (200 + 20 * s) ((3 : Nat) : Int))), Value.ref (ad (rv (S0 st) (200 + 20 * s) ((4 : Nat) : Int))), Value.ref (ad (rv (S0 st) (200 + 20 * s) ((5 : Nat) : Int))), Value.ref (ad (rv (S0 st) (200 + 20 * s) ((6 : Nat) : Int))), Value.ref (ad (rv (S0 st) (200 + 20 * s) ((7 : Nat) : Int))), Value.ref (ad (rv (S0 st) (200 + 20 * s) ((8 : Nat) : Int))), Value.int (Int32.ofInt (S0 st (200 + 20 * s) ((9 : Nat) : Int))), Value.int (Int32.ofInt (S0 st (200 + 20 * s) ((10 : Nat) : Int))), Value.int (Int32.ofInt (S0 st (200 + 20 * s) ((11 : Nat) : Int)))])
    rw [rv_1_1 hk, rv_1_2 hk, rv_1_3 hk, rv_1_4 hk, rv_1_5 hk, rv_1_6 hk, rv_1_7 hk, rv_1_8 hk, S0_s s0 s6, S0_s s0 s6, S0_s s0 s6, S0_s s0 s6, hx]
    rfl
  · by_cases e2 : k = 200 + 20 * s + 2
    · rw [e2, h2]; exact (cz1 (ka_1_1 hk) (fun j => zz _ j (by omega) (by omega))).symm
    by_cases e3 : k = 200 + 20 * s + 3
    · rw [e3, h3]; exact (cz1 (ka_1_2 hk) (fun j => zz _ j (by omega) (by omega))).symm
    by_cases e4 : k = 200 + 20 * s + 4
    · rw [e4, h4]; exact (cz1 (ka_1_3 hk) (fun j => zz _ j (by omega) (by omega))).symm
    by_cases e5 : k = 200 + 20 * s + 5
    · rw [e5, h5]; exact (cz1 (ka_1_4 hk) (fun j => zz _ j (by omega) (by omega))).symm
    by_cases e6 : k = 200 + 20 * s + 6
    · rw [e6, h6]; exact (cz1 (ka_1_5 hk) (fun j => zz _ j (by omega) (by omega))).symm
    by_cases e7 : k = 200 + 20 * s + 7
    · rw [e7, h7]; exact (cz1 (ka_1_6 hk) (fun j => zz _ j (by omega) (by omega))).symm
    by_cases e8 : k = 200 + 20 * s + 8
    · rw [e8, h8]; exact (cz2 (ka_1_7 hk) (fun j => zz _ j (by omega) (by omega))).symm
    have h16 := kt_1_8 hk
    by_cases e9 : k = 200 + 20 * s + 9
    · rw [e9, h9, ce_A h16 (by omega), show (kd (200 + 20 * s + 9)).2 = 8 by rw [ka_1_8 hk]]
      congr 7
      funext j
      by_cases hj : j < 8
      · rw [if_pos hj, if_pos hj, rk_6 h16]
      · rw [if_neg hj, if_neg hj]
    · rw [h10 k (by omega) (by omega)]
      have := kB_6 (i := k - (200 + 20 * s + 9) - 1) h16 (by omega)
      rw [show 200 + 20 * s + 9 + (1 + (k - (200 + 20 * s + 9) - 1)) = k by omega] at this
      exact (cz1 this (fun j => zz _ j (by omega) (by omega))).symm
theorem z_prod (p0 : 0 ≤ p) (p8 : p < 8) {x : Int32} (hx : v1 x = Int32.ofInt st) (h : prdF ad F x p) : ∀ k, 140 + 4 * p ≤ k → k ≤ 140 + 4 * p + 3 → k ≠ 140 + 4 * p + 1 → F k = cel ad (S0 st) k := by
  have hk := kA_4 (i := p) ⟨p0, p8⟩
  obtain ⟨h1, h2, h3⟩ := h
  intro k k1 k2 k3
  by_cases e0 : k = 140 + 4 * p
  · rw [e0, h1, ce_O hk]
    show _ = Sum.inr (2, [Value.int (Int32.ofInt (S0 st (140 + 4 * p) ((0 : Nat) : Int))), Value.ref (ad (rv (S0 st) (140 + 4 * p) ((1 : Nat) : Int))), Value.ref (ad (rv (S0 st) (140 + 4 * p) ((2 : Nat) : Int))), Value.int (Int32.ofInt (S0 st (140 + 4 * p) ((3 : Nat) : Int))), Value.int (Int32.ofInt (S0 st (140 + 4 * p) ((4 : Nat) : Int))), Value.int (Int32.ofInt (S0 st (140 + 4 * p) ((5 : Nat) : Int))), Value.int (Int32.ofInt (S0 st (140 + 4 * p) ((6 : Nat) : Int))), Value.long (Int64.ofInt (S0 st (140 + 4 * p) ((7 : Nat) : Int))), Value.long (Int64.ofInt (S0 st (140 + 4 * p) ((8 : Nat) : Int))), Value.long (Int64.ofInt (S0 st (140 + 4 * p) ((9 : Nat) : Int)))])
    rw [rv_2_1 hk, rv_2_2 hk, S0_p p0 p8, S0_p p0 p8, S0_p p0 p8, S0_p p0 p8, S0_p p0 p8, S0_p p0 p8, S0_p p0 p8, S0_p p0 p8, hx]
    rfl
  · by_cases e2 : k = 140 + 4 * p + 2
    · rw [e2, h2]; exact (cz2 (ka_2_1 hk) (fun j => S0_z (by omega))).symm
    · have e3 : k = 140 + 4 * p + 3 := by omega
      rw [e3, h3]; exact (cz3 (ka_2_2 hk) (fun j => S0_z (by omega))).symm
theorem z_plan {K : Int} (hK : K = 130 ∨ K = 134) (h : plnF ad F K) : ∀ k, K ≤ k → k ≤ K + 3 → F k = cel ad (S0 st) k := by
  have hk : kt (20 + 5) K := by rcases hK with e | e <;> rw [e] <;> decide
  obtain ⟨h1, h2, h3, h4⟩ := h
  have zz : ∀ k j, K ≤ k → k ≤ K + 3 → S0 st k j = 0 := fun k j k1 k2 => S0_z (by omega)
  intro k k1 k2
  by_cases e0 : k = K
  · rw [e0, h1, ce_O hk]
    show _ = Sum.inr (5, [Value.ref (ad (rv (S0 st) K ((0 : Nat) : Int))), Value.ref (ad (rv (S0 st) K ((1 : Nat) : Int))), Value.ref (ad (rv (S0 st) K ((2 : Nat) : Int))), Value.int (Int32.ofInt (S0 st K ((3 : Nat) : Int))), Value.long (Int64.ofInt (S0 st K ((4 : Nat) : Int)))])
    rw [rv_5_0 hk, rv_5_1 hk, rv_5_2 hk, zz K _ (by omega) (by omega), zz K _ (by omega) (by omega)]
    rfl
  · by_cases e1 : k = K + 1
    · rw [e1, h2]; exact (cz1 (ka_5_0 hk) (fun j => zz _ j (by omega) (by omega))).symm
    by_cases e2 : k = K + 2
    · rw [e2, h3]; exact (cz2 (ka_5_1 hk) (fun j => zz _ j (by omega) (by omega))).symm
    · have e3 : k = K + 3 := by omega
      rw [e3, h4]; exact (cz1 (ka_5_2 hk) (fun j => zz _ j (by omega) (by omega))).symm
theorem z_cut (h : cutF ad F) : ∀ k, (103 ≤ k ∧ k ≤ 107) ∨ (110 ≤ k ∧ k < 126) → F k = cel ad (S0 st) k := by
  obtain ⟨h1, h2, h3, h4, h5, h6⟩ := h
  have zz : ∀ k j, (103 ≤ k ∧ k ≤ 107) ∨ (110 ≤ k ∧ k < 126) → S0 st k j = 0 := fun k j hk => S0_z (by omega)
  have h103 : kt (20 + 4) 103 := by decide
  have h107 : kt (10 + 5) 107 := by decide
  intro k hk
  by_cases e3 : k = 103
  · rw [e3, h1, ce_O h103]
    show _ = Sum.inr (4, [Value.ref (ad (rv (S0 st) 103 ((0 : Nat) : Int))), Value.ref (ad (rv (S0 st) 103 ((1 : Nat) : Int))), Value.ref (ad (rv (S0 st) 103 ((2 : Nat) : Int))), Value.ref (ad (rv (S0 st) 103 ((3 : Nat) : Int)))])
    rw [rv_4_0 h103, rv_4_1 h103, rv_4_2 h103, rv_4_3 h103]
  by_cases e4 : k = 104
  · rw [e4, h2]; exact (cz3 (show kd 104 = (3, 81) by decide) (fun j => zz _ j (by omega))).symm
  by_cases e5 : k = 105
  · rw [e5, h3]; exact (cz1 (show kd 105 = (1, 80) by decide) (fun j => zz _ j (by omega))).symm
  by_cases e6 : k = 106
  · rw [e6, h4]; exact (cz1 (show kd 106 = (1, 80) by decide) (fun j => zz _ j (by omega))).symm
  by_cases e7 : k = 107
  · rw [e7, h5, ce_A h107 (by omega), show (kd 107).2 = 8 by decide]
    rfl
  · have hp : 0 ≤ (k - 110) / 2 ∧ (k - 110) / 2 < 8 := by omega
    have h3 := kA_5 (i := (k - 110) / 2) hp
    obtain ⟨g1, g2⟩ := h6 ((k - 110) / 2) hp.1 hp.2
    by_cases hz : k % 2 = 0
    · have ek : k = 110 + 2 * ((k - 110) / 2) := by omega
      rw [← ek] at g1 h3
      rw [g1, ce_O h3]
      show _ = Sum.inr (3, [Value.ref (ad (rv (S0 st) k ((0 : Nat) : Int))), Value.int (Int32.ofInt (S0 st k ((1 : Nat) : Int))), Value.int (Int32.ofInt (S0 st k ((2 : Nat) : Int)))])
      rw [rv_3_0 h3, zz k _ (by omega), zz k _ (by omega)]
      rfl
    · have ek : k = 110 + 2 * ((k - 110) / 2) + 1 := by omega
      rw [← ek] at g2
      rw [g2]
      have := ka_3_0 h3
      rw [← ek] at this
      exact (cz3 this (fun j => zz _ j (by omega))).symm
theorem z_class (h0 : F 100 = .inr (0, [.ref (ad 101), .ref (ad 102), .ref (ad 103), .int 1, .int 0, .int 0, .int 0, .ref (ad 130), .ref (ad 134), .int 0, .int 0, .long 0])) : F 100 = cel ad (S0 st) 100 := by
  have hk : kt (20 + 0) 100 := by decide
  rw [h0, ce_O hk]
  show _ = Sum.inr (0, [Value.ref (ad (rv (S0 st) 100 ((0 : Nat) : Int))), Value.ref (ad (rv (S0 st) 100 ((1 : Nat) : Int))), Value.ref (ad (rv (S0 st) 100 ((2 : Nat) : Int))), Value.int (Int32.ofInt (S0 st 100 ((3 : Nat) : Int))), Value.int (Int32.ofInt (S0 st 100 ((4 : Nat) : Int))), Value.int (Int32.ofInt (S0 st 100 ((5 : Nat) : Int))), Value.int (Int32.ofInt (S0 st 100 ((6 : Nat) : Int))), Value.ref (ad (rv (S0 st) 100 ((7 : Nat) : Int))), Value.ref (ad (rv (S0 st) 100 ((8 : Nat) : Int))), Value.int (Int32.ofInt (S0 st 100 ((9 : Nat) : Int))), Value.int (Int32.ofInt (S0 st 100 ((10 : Nat) : Int))), Value.long (Int64.ofInt (S0 st 100 ((11 : Nat) : Int)))])
  rw [rv_0_0 hk, rv_0_1 hk, rv_0_2 hk, rv_0_7 hk, rv_0_8 hk, S0_100, S0_100, S0_100, S0_100, S0_100, S0_100, S0_100, S0_100, S0_100]
  rfl
theorem z_rows (t : Int) (ht : (t = 101 ∧ F 101 = .inl (3, 6, .inr (.inr (.inr (.inr (fun j => if j < 6 then some (ad (200 + 20 * j)) else none)))))) ∨ (t = 102 ∧ F 102 = .inl (4, 8, .inr (.inr (.inr (.inr (fun j => if j < 8 then some (ad (140 + 4 * j)) else none))))))) : F t = cel ad (S0 st) t := by
  rcases ht with ⟨e, h⟩ | ⟨e, h⟩
  · have hk : kt (10 + 3) 101 := by decide
    rw [e, h, ce_A hk (by omega), show (kd 101).2 = 6 by decide]
    rfl
  · have hk : kt (10 + 4) 102 := by decide
    rw [e, h, ce_A hk (by omega), show (kd 102).2 = 8 by decide]
    rfl
theorem z_ref {y0 : Int32} {fs : List Value} (hy : y0 = Int32.ofInt st) (h0 : F 0 = .inr (6, fs)) (hl : fs.length = 36) (h1 : ∀ i : Nat, 5 ≤ (i : Int) → (i : Int) ≤ 32 → (i : Int) ≠ 14 → fs[i]? = some (.ref (ad i))) (e1 : fs[1]? = some (.int y0)) (e4 : fs[4]? = some (.int 1)) (ho : ∀ i : Nat, ¬ (5 ≤ (i : Int) ∧ (i : Int) ≤ 32 ∧ (i : Int) ≠ 14) → i ≠ 1 → i ≠ 4 → fs[i]? = ([.int 0, .int 0, .int 0, .int 0, .int 0, .null, .null, .null, .null, .null, .null, .null, .null, .null, .int 0, .null, .null, .null, .null, .null, .null, .null, .null, .null, .null, .null, .null, .null, .null, .null, .null, .null, .null, .int 0, .int 0, .long 0] : List Value)[i]?) : F 0 = cel ad (S0 st) 0 := by
  have hk : kt (20 + 6) 0 := by decide
  rw [h0, ce_O hk]
  congr 2
  have e : (List.range (oTs 6).length).map (fun j => fv ad (S0 st) 0 j ((oTs 6).getD j 0)) = [Value.int (Int32.ofInt (S0 st 0 ((0 : Nat) : Int))), Value.int (Int32.ofInt (S0 st 0 ((1 : Nat) : Int))), Value.int (Int32.ofInt (S0 st 0 ((2 : Nat) : Int))), Value.int (Int32.ofInt (S0 st 0 ((3 : Nat) : Int))), Value.int (Int32.ofInt (S0 st 0 ((4 : Nat) : Int))), Value.ref (ad (rv (S0 st) 0 ((5 : Nat) : Int))), Value.ref (ad (rv (S0 st) 0 ((6 : Nat) : Int))), Value.ref (ad (rv (S0 st) 0 ((7 : Nat) : Int))), Value.ref (ad (rv (S0 st) 0 ((8 : Nat) : Int))), Value.ref (ad (rv (S0 st) 0 ((9 : Nat) : Int))), Value.ref (ad (rv (S0 st) 0 ((10 : Nat) : Int))), Value.ref (ad (rv (S0 st) 0 ((11 : Nat) : Int))), Value.ref (ad (rv (S0 st) 0 ((12 : Nat) : Int))), Value.ref (ad (rv (S0 st) 0 ((13 : Nat) : Int))), Value.int (Int32.ofInt (S0 st 0 ((14 : Nat) : Int))), Value.ref (ad (rv (S0 st) 0 ((15 : Nat) : Int))), Value.ref (ad (rv (S0 st) 0 ((16 : Nat) : Int))), Value.ref (ad (rv (S0 st) 0 ((17 : Nat) : Int))), Value.ref (ad (rv (S0 st) 0 ((18 : Nat) : Int))), Value.ref (ad (rv (S0 st) 0 ((19 : Nat) : Int))), Value.ref (ad (rv (S0 st) 0 ((20 : Nat) : Int))), Value.ref (ad (rv (S0 st) 0 ((21 : Nat) : Int))), Value.ref (ad (rv (S0 st) 0 ((22 : Nat) : Int))), Value.ref (ad (rv (S0 st) 0 ((23 : Nat) : Int))), Value.ref (ad (rv (S0 st) 0 ((24 : Nat) : Int))), Value.ref (ad (rv (S0 st) 0 ((25 : Nat) : Int))), Value.ref (ad (rv (S0 st) 0 ((26 : Nat) : Int))), Value.ref (ad (rv (S0 st) 0 ((27 : Nat) : Int))), Value.ref (ad (rv (S0 st) 0 ((28 : Nat) : Int))), Value.ref (ad (rv (S0 st) 0 ((29 : Nat) : Int))), Value.ref (ad (rv (S0 st) 0 ((30 : Nat) : Int))), Value.ref (ad (rv (S0 st) 0 ((31 : Nat) : Int))), Value.ref (ad (rv (S0 st) 0 ((32 : Nat) : Int))), Value.int (Int32.ofInt (S0 st 0 ((33 : Nat) : Int))), Value.int (Int32.ofInt (S0 st 0 ((34 : Nat) : Int))), Value.long (Int64.ofInt (S0 st 0 ((35 : Nat) : Int)))] := rfl
  rw [e, rv_6_5 hk, rv_6_6 hk, rv_6_7 hk, rv_6_8 hk, rv_6_9 hk, rv_6_10 hk, rv_6_11 hk, rv_6_12 hk, rv_6_13 hk, rv_6_15 hk, rv_6_16 hk, rv_6_17 hk, rv_6_18 hk, rv_6_19 hk, rv_6_20 hk, rv_6_21 hk, rv_6_22 hk, rv_6_23 hk, rv_6_24 hk, rv_6_25 hk, rv_6_26 hk, rv_6_27 hk, rv_6_28 hk, rv_6_29 hk, rv_6_30 hk, rv_6_31 hk, rv_6_32 hk, S0_0, S0_0, S0_0, S0_0, S0_0, S0_0, S0_0, S0_0, S0_0]
  refine List.ext_getElem? (fun i => ?_)
  by_cases hi : 36 ≤ i
  · rw [List.getElem?_eq_none (by omega), List.getElem?_eq_none (by exact hi)]
  · rcases (show i = 0 ∨ i = 1 ∨ i = 2 ∨ i = 3 ∨ i = 4 ∨ i = 5 ∨ i = 6 ∨ i = 7 ∨ i = 8 ∨ i = 9 ∨ i = 10 ∨ i = 11 ∨ i = 12 ∨ i = 13 ∨ i = 14 ∨ i = 15 ∨ i = 16 ∨ i = 17 ∨ i = 18 ∨ i = 19 ∨ i = 20 ∨ i = 21 ∨ i = 22 ∨ i = 23 ∨ i = 24 ∨ i = 25 ∨ i = 26 ∨ i = 27 ∨ i = 28 ∨ i = 29 ∨ i = 30 ∨ i = 31 ∨ i = 32 ∨ i = 33 ∨ i = 34 ∨ i = 35 by omega) with r | r | r | r | r | r | r | r | r | r | r | r | r | r | r | r | r | r | r | r | r | r | r | r | r | r | r | r | r | r | r | r | r | r | r | r
    · rw [r, ho 0 (by decide) (by decide) (by decide)]; rfl
    · rw [r, e1, hy]; rfl
    · rw [r, ho 2 (by decide) (by decide) (by decide)]; rfl
    · rw [r, ho 3 (by decide) (by decide) (by decide)]; rfl
    · rw [r, e4]; rfl
    · rw [r, h1 5 (by decide) (by decide) (by decide)]; rfl
    · rw [r, h1 6 (by decide) (by decide) (by decide)]; rfl
    · rw [r, h1 7 (by decide) (by decide) (by decide)]; rfl
    · rw [r, h1 8 (by decide) (by decide) (by decide)]; rfl
    · rw [r, h1 9 (by decide) (by decide) (by decide)]; rfl
    · rw [r, h1 10 (by decide) (by decide) (by decide)]; rfl
    · rw [r, h1 11 (by decide) (by decide) (by decide)]; rfl
    · rw [r, h1 12 (by decide) (by decide) (by decide)]; rfl
    · rw [r, h1 13 (by decide) (by decide) (by decide)]; rfl
    · rw [r, ho 14 (by decide) (by decide) (by decide)]; rfl
    · rw [r, h1 15 (by decide) (by decide) (by decide)]; rfl
    · rw [r, h1 16 (by decide) (by decide) (by decide)]; rfl
    · rw [r, h1 17 (by decide) (by decide) (by decide)]; rfl
    · rw [r, h1 18 (by decide) (by decide) (by decide)]; rfl
    · rw [r, h1 19 (by decide) (by decide) (by decide)]; rfl
    · rw [r, h1 20 (by decide) (by decide) (by decide)]; rfl
    · rw [r, h1 21 (by decide) (by decide) (by decide)]; rfl
    · rw [r, h1 22 (by decide) (by decide) (by decide)]; rfl
    · rw [r, h1 23 (by decide) (by decide) (by decide)]; rfl
    · rw [r, h1 24 (by decide) (by decide) (by decide)]; rfl
    · rw [r, h1 25 (by decide) (by decide) (by decide)]; rfl
    · rw [r, h1 26 (by decide) (by decide) (by decide)]; rfl
    · rw [r, h1 27 (by decide) (by decide) (by decide)]; rfl
    · rw [r, h1 28 (by decide) (by decide) (by decide)]; rfl
    · rw [r, h1 29 (by decide) (by decide) (by decide)]; rfl
    · rw [r, h1 30 (by decide) (by decide) (by decide)]; rfl
    · rw [r, h1 31 (by decide) (by decide) (by decide)]; rfl
    · rw [r, h1 32 (by decide) (by decide) (by decide)]; rfl
    · rw [r, ho 33 (by decide) (by decide) (by decide)]; rfl
    · rw [r, ho 34 (by decide) (by decide) (by decide)]; rfl
    · rw [r, ho 35 (by decide) (by decide) (by decide)]; rfl
end ZC
