/-! where references lead, and of what kind is what they lead to -/
theorem kd_p (n m : Nat) : kd ((n : Int) + (m : Int)) = kdN (n + m) := by rw [← kd_c]; congr 1
theorem kd_d {t : Nat} {k : Int} {P : Int → Prop} (h : kt t k) (ht : t ≠ 0) (p : ∀ n : Nat, n < 331 → (kdN n).1 = t → P (n : Int)) : P k := by
  obtain ⟨n, hn, rfl⟩ := kd_n (kt_0 h ht)
  exact p n hn (by rw [← kd_c]; exact h)
theorem kk_0 {k : Int} (h : kt (20 + 0) k) : k = 100 := kd_d (P := fun k => k = 100) h (by decide) (fun n hn e => by have := (by decide +kernel : ∀ n < 331, (kdN n).1 = 20 + 0 → n = 100) n hn e; omega)
theorem kk_4 {k : Int} (h : kt (20 + 4) k) : k = 103 := kd_d (P := fun k => k = 103) h (by decide) (fun n hn e => by have := (by decide +kernel : ∀ n < 331, (kdN n).1 = 20 + 4 → n = 103) n hn e; omega)
theorem kk_6 {k : Int} (h : kt (20 + 6) k) : k = 0 := kd_d (P := fun k => k = 0) h (by decide) (fun n hn e => by have := (by decide +kernel : ∀ n < 331, (kdN n).1 = 20 + 6 → n = 0) n hn e; omega)
theorem kk_5 {k : Int} (h : kt (20 + 5) k) : k = 130 ∨ k = 134 := kd_d (P := fun k => k = 130 ∨ k = 134) h (by decide) (fun n hn e => by have := (by decide +kernel : ∀ n < 331, (kdN n).1 = 20 + 5 → n = 130 ∨ n = 134) n hn e; omega)
theorem kk_a3 {k : Int} (h : kt (10 + 3) k) : k = 101 := kd_d (P := fun k => k = 101) h (by decide) (fun n hn e => by have := (by decide +kernel : ∀ n < 331, (kdN n).1 = 10 + 3 → n = 101) n hn e; omega)
theorem kk_a4 {k : Int} (h : kt (10 + 4) k) : k = 102 := kd_d (P := fun k => k = 102) h (by decide) (fun n hn e => by have := (by decide +kernel : ∀ n < 331, (kdN n).1 = 10 + 4 → n = 102) n hn e; omega)
theorem kk_a5 {k : Int} (h : kt (10 + 5) k) : k = 107 := kd_d (P := fun k => k = 107) h (by decide) (fun n hn e => by have := (by decide +kernel : ∀ n < 331, (kdN n).1 = 10 + 5 → n = 107) n hn e; omega)
theorem g_k7 {ad : Int → Nat} {S : St} {M : Hp} (h : US ad S M) : kt (20 + 5) (S 100 7) := by
  rcases (h.2 100 7).2.2 (by decide) with e | e <;> rw [e] <;> decide
theorem g_k8 {ad : Int → Nat} {S : St} {M : Hp} (h : US ad S M) : kt (20 + 5) (S 100 8) := by
  rcases (h.2 100 8).2.2 (by decide) with e | e <;> rw [e] <;> decide
theorem rv_6_5 {S : St} {k : Int} (h : kt (20 + 6) k) : rv S k ((5 : Nat) : Int) = 5 := by rw [kk_6 h]; rfl
theorem rv_6_6 {S : St} {k : Int} (h : kt (20 + 6) k) : rv S k ((6 : Nat) : Int) = 6 := by rw [kk_6 h]; rfl
theorem rv_6_7 {S : St} {k : Int} (h : kt (20 + 6) k) : rv S k ((7 : Nat) : Int) = 7 := by rw [kk_6 h]; rfl
theorem rv_6_8 {S : St} {k : Int} (h : kt (20 + 6) k) : rv S k ((8 : Nat) : Int) = 8 := by rw [kk_6 h]; rfl
theorem rv_6_9 {S : St} {k : Int} (h : kt (20 + 6) k) : rv S k ((9 : Nat) : Int) = 9 := by rw [kk_6 h]; rfl
theorem rv_6_10 {S : St} {k : Int} (h : kt (20 + 6) k) : rv S k ((10 : Nat) : Int) = 10 := by rw [kk_6 h]; rfl
theorem rv_6_11 {S : St} {k : Int} (h : kt (20 + 6) k) : rv S k ((11 : Nat) : Int) = 11 := by rw [kk_6 h]; rfl
theorem rv_6_12 {S : St} {k : Int} (h : kt (20 + 6) k) : rv S k ((12 : Nat) : Int) = 12 := by rw [kk_6 h]; rfl
theorem rv_6_13 {S : St} {k : Int} (h : kt (20 + 6) k) : rv S k ((13 : Nat) : Int) = 13 := by rw [kk_6 h]; rfl
theorem rv_6_15 {S : St} {k : Int} (h : kt (20 + 6) k) : rv S k ((15 : Nat) : Int) = 15 := by rw [kk_6 h]; rfl
theorem rv_6_16 {S : St} {k : Int} (h : kt (20 + 6) k) : rv S k ((16 : Nat) : Int) = 16 := by rw [kk_6 h]; rfl
theorem rv_6_17 {S : St} {k : Int} (h : kt (20 + 6) k) : rv S k ((17 : Nat) : Int) = 17 := by rw [kk_6 h]; rfl
theorem rv_6_18 {S : St} {k : Int} (h : kt (20 + 6) k) : rv S k ((18 : Nat) : Int) = 18 := by rw [kk_6 h]; rfl
theorem rv_6_19 {S : St} {k : Int} (h : kt (20 + 6) k) : rv S k ((19 : Nat) : Int) = 19 := by rw [kk_6 h]; rfl
theorem rv_6_20 {S : St} {k : Int} (h : kt (20 + 6) k) : rv S k ((20 : Nat) : Int) = 20 := by rw [kk_6 h]; rfl
theorem rv_6_21 {S : St} {k : Int} (h : kt (20 + 6) k) : rv S k ((21 : Nat) : Int) = 21 := by rw [kk_6 h]; rfl
theorem rv_6_22 {S : St} {k : Int} (h : kt (20 + 6) k) : rv S k ((22 : Nat) : Int) = 22 := by rw [kk_6 h]; rfl
theorem rv_6_23 {S : St} {k : Int} (h : kt (20 + 6) k) : rv S k ((23 : Nat) : Int) = 23 := by rw [kk_6 h]; rfl
theorem rv_6_24 {S : St} {k : Int} (h : kt (20 + 6) k) : rv S k ((24 : Nat) : Int) = 24 := by rw [kk_6 h]; rfl
theorem rv_6_25 {S : St} {k : Int} (h : kt (20 + 6) k) : rv S k ((25 : Nat) : Int) = 25 := by rw [kk_6 h]; rfl
theorem rv_6_26 {S : St} {k : Int} (h : kt (20 + 6) k) : rv S k ((26 : Nat) : Int) = 26 := by rw [kk_6 h]; rfl
theorem rv_6_27 {S : St} {k : Int} (h : kt (20 + 6) k) : rv S k ((27 : Nat) : Int) = 27 := by rw [kk_6 h]; rfl
theorem rv_6_28 {S : St} {k : Int} (h : kt (20 + 6) k) : rv S k ((28 : Nat) : Int) = 28 := by rw [kk_6 h]; rfl
theorem rv_6_29 {S : St} {k : Int} (h : kt (20 + 6) k) : rv S k ((29 : Nat) : Int) = 29 := by rw [kk_6 h]; rfl
theorem rv_6_30 {S : St} {k : Int} (h : kt (20 + 6) k) : rv S k ((30 : Nat) : Int) = 30 := by rw [kk_6 h]; rfl
theorem rv_6_31 {S : St} {k : Int} (h : kt (20 + 6) k) : rv S k ((31 : Nat) : Int) = 31 := by rw [kk_6 h]; rfl
theorem rv_6_32 {S : St} {k : Int} (h : kt (20 + 6) k) : rv S k ((32 : Nat) : Int) = 32 := by rw [kk_6 h]; rfl
theorem rv_0_0 {S : St} {k : Int} (h : kt (20 + 0) k) : rv S k ((0 : Nat) : Int) = 101 := by rw [kk_0 h]; rfl
theorem rv_0_1 {S : St} {k : Int} (h : kt (20 + 0) k) : rv S k ((1 : Nat) : Int) = 102 := by rw [kk_0 h]; rfl
theorem rv_0_2 {S : St} {k : Int} (h : kt (20 + 0) k) : rv S k ((2 : Nat) : Int) = 103 := by rw [kk_0 h]; rfl
theorem rv_0_7 {S : St} {k : Int} (h : kt (20 + 0) k) : rv S k ((7 : Nat) : Int) = S 100 7 := by rw [kk_0 h]; rfl
theorem rv_0_8 {S : St} {k : Int} (h : kt (20 + 0) k) : rv S k ((8 : Nat) : Int) = S 100 8 := by rw [kk_0 h]; rfl
theorem rv_4_0 {S : St} {k : Int} (h : kt (20 + 4) k) : rv S k ((0 : Nat) : Int) = 104 := by rw [kk_4 h]; rfl
theorem rv_4_1 {S : St} {k : Int} (h : kt (20 + 4) k) : rv S k ((1 : Nat) : Int) = 105 := by rw [kk_4 h]; rfl
theorem rv_4_2 {S : St} {k : Int} (h : kt (20 + 4) k) : rv S k ((2 : Nat) : Int) = 106 := by rw [kk_4 h]; rfl
theorem rv_4_3 {S : St} {k : Int} (h : kt (20 + 4) k) : rv S k ((3 : Nat) : Int) = 107 := by rw [kk_4 h]; rfl
theorem kk_n1 {k : Int} (h : kt (20 + 1) k) : k ≠ 0 ∧ k ≠ 100 ∧ k ≠ 101 ∧ k ≠ 102 ∧ k ≠ 107 := kd_d (P := fun k => k ≠ 0 ∧ k ≠ 100 ∧ k ≠ 101 ∧ k ≠ 102 ∧ k ≠ 107) h (by decide) (fun n hn e => by have := (by decide +kernel : ∀ n < 331, (kdN n).1 = 20 + 1 → n ≠ 0 ∧ n ≠ 100 ∧ n ≠ 101 ∧ n ≠ 102 ∧ n ≠ 107) n hn e; omega)
theorem kk_n2 {k : Int} (h : kt (20 + 2) k) : k ≠ 0 ∧ k ≠ 100 ∧ k ≠ 101 ∧ k ≠ 102 ∧ k ≠ 107 := kd_d (P := fun k => k ≠ 0 ∧ k ≠ 100 ∧ k ≠ 101 ∧ k ≠ 102 ∧ k ≠ 107) h (by decide) (fun n hn e => by have := (by decide +kernel : ∀ n < 331, (kdN n).1 = 20 + 2 → n ≠ 0 ∧ n ≠ 100 ∧ n ≠ 101 ∧ n ≠ 102 ∧ n ≠ 107) n hn e; omega)
theorem kk_n3 {k : Int} (h : kt (20 + 3) k) : k ≠ 0 ∧ k ≠ 100 ∧ k ≠ 101 ∧ k ≠ 102 ∧ k ≠ 107 := kd_d (P := fun k => k ≠ 0 ∧ k ≠ 100 ∧ k ≠ 101 ∧ k ≠ 102 ∧ k ≠ 107) h (by decide) (fun n hn e => by have := (by decide +kernel : ∀ n < 331, (kdN n).1 = 20 + 3 → n ≠ 0 ∧ n ≠ 100 ∧ n ≠ 101 ∧ n ≠ 102 ∧ n ≠ 107) n hn e; omega)
theorem kk_n5 {k : Int} (h : kt (20 + 5) k) : k ≠ 0 ∧ k ≠ 100 ∧ k ≠ 101 ∧ k ≠ 102 ∧ k ≠ 107 := kd_d (P := fun k => k ≠ 0 ∧ k ≠ 100 ∧ k ≠ 101 ∧ k ≠ 102 ∧ k ≠ 107) h (by decide) (fun n hn e => by have := (by decide +kernel : ∀ n < 331, (kdN n).1 = 20 + 5 → n ≠ 0 ∧ n ≠ 100 ∧ n ≠ 101 ∧ n ≠ 102 ∧ n ≠ 107) n hn e; omega)
theorem kk_n6 {k : Int} (h : kt (10 + 6) k) : k ≠ 0 ∧ k ≠ 100 ∧ k ≠ 101 ∧ k ≠ 102 ∧ k ≠ 107 := kd_d (P := fun k => k ≠ 0 ∧ k ≠ 100 ∧ k ≠ 101 ∧ k ≠ 102 ∧ k ≠ 107) h (by decide) (fun n hn e => by have := (by decide +kernel : ∀ n < 331, (kdN n).1 = 10 + 6 → n ≠ 0 ∧ n ≠ 100 ∧ n ≠ 101 ∧ n ≠ 102 ∧ n ≠ 107) n hn e; omega)
theorem rv_1_1 {S : St} {k : Int} (h : kt (20 + 1) k) : rv S k ((1 : Nat) : Int) = (k + 2) := by
  obtain ⟨h0, h1, h2, h3, h4⟩ := kk_n1 h
  unfold rv rk
  rw [if_neg (fun q => h1 q.1), if_neg h0, if_neg h2, if_neg h3, if_neg h4]
  congr 1
theorem ka_1_1 {k : Int} (h : kt (20 + 1) k) : kd (k + 2) = (1, 60) := kd_d (P := fun k => kd (k + 2) = (1, 60)) h (by decide) (fun n hn e => by refine (kd_p n 2).trans ?_; exact (by decide +kernel : ∀ n < 331, (kdN n).1 = 20 + 1 → kdN (n + 2) = (1, 60)) n hn e)
theorem kt_1_1 {k : Int} (h : kt (20 + 1) k) : kt 1 (k + 2) := by unfold kt; rw [ka_1_1 h]
theorem al_1_1 {k : Int} (h : kt (20 + 1) k) : alen (k + 2) = 60 := by unfold alen; rw [ka_1_1 h]; rfl
theorem rv_1_2 {S : St} {k : Int} (h : kt (20 + 1) k) : rv S k ((2 : Nat) : Int) = (k + 3) := by
  obtain ⟨h0, h1, h2, h3, h4⟩ := kk_n1 h
  unfold rv rk
  rw [if_neg (fun q => h1 q.1), if_neg h0, if_neg h2, if_neg h3, if_neg h4]
  congr 1
theorem ka_1_2 {k : Int} (h : kt (20 + 1) k) : kd (k + 3) = (1, 60) := kd_d (P := fun k => kd (k + 3) = (1, 60)) h (by decide) (fun n hn e => by refine (kd_p n 3).trans ?_; exact (by decide +kernel : ∀ n < 331, (kdN n).1 = 20 + 1 → kdN (n + 3) = (1, 60)) n hn e)
theorem kt_1_2 {k : Int} (h : kt (20 + 1) k) : kt 1 (k + 3) := by unfold kt; rw [ka_1_2 h]
theorem al_1_2 {k : Int} (h : kt (20 + 1) k) : alen (k + 3) = 60 := by unfold alen; rw [ka_1_2 h]; rfl
theorem rv_1_3 {S : St} {k : Int} (h : kt (20 + 1) k) : rv S k ((3 : Nat) : Int) = (k + 4) := by
  obtain ⟨h0, h1, h2, h3, h4⟩ := kk_n1 h
  unfold rv rk
  rw [if_neg (fun q => h1 q.1), if_neg h0, if_neg h2, if_neg h3, if_neg h4]
  congr 1
theorem ka_1_3 {k : Int} (h : kt (20 + 1) k) : kd (k + 4) = (1, 60) := kd_d (P := fun k => kd (k + 4) = (1, 60)) h (by decide) (fun n hn e => by refine (kd_p n 4).trans ?_; exact (by decide +kernel : ∀ n < 331, (kdN n).1 = 20 + 1 → kdN (n + 4) = (1, 60)) n hn e)
theorem kt_1_3 {k : Int} (h : kt (20 + 1) k) : kt 1 (k + 4) := by unfold kt; rw [ka_1_3 h]
theorem al_1_3 {k : Int} (h : kt (20 + 1) k) : alen (k + 4) = 60 := by unfold alen; rw [ka_1_3 h]; rfl
theorem rv_1_4 {S : St} {k : Int} (h : kt (20 + 1) k) : rv S k ((4 : Nat) : Int) = (k + 5) := by
  obtain ⟨h0, h1, h2, h3, h4⟩ := kk_n1 h
  unfold rv rk
  rw [if_neg (fun q => h1 q.1), if_neg h0, if_neg h2, if_neg h3, if_neg h4]
  congr 1
theorem ka_1_4 {k : Int} (h : kt (20 + 1) k) : kd (k + 5) = (1, 20) := kd_d (P := fun k => kd (k + 5) = (1, 20)) h (by decide) (fun n hn e => by refine (kd_p n 5).trans ?_; exact (by decide +kernel : ∀ n < 331, (kdN n).1 = 20 + 1 → kdN (n + 5) = (1, 20)) n hn e)
theorem kt_1_4 {k : Int} (h : kt (20 + 1) k) : kt 1 (k + 5) := by unfold kt; rw [ka_1_4 h]
theorem al_1_4 {k : Int} (h : kt (20 + 1) k) : alen (k + 5) = 20 := by unfold alen; rw [ka_1_4 h]; rfl
theorem rv_1_5 {S : St} {k : Int} (h : kt (20 + 1) k) : rv S k ((5 : Nat) : Int) = (k + 6) := by
  obtain ⟨h0, h1, h2, h3, h4⟩ := kk_n1 h
  unfold rv rk
  rw [if_neg (fun q => h1 q.1), if_neg h0, if_neg h2, if_neg h3, if_neg h4]
  congr 1
theorem ka_1_5 {k : Int} (h : kt (20 + 1) k) : kd (k + 6) = (1, 20) := kd_d (P := fun k => kd (k + 6) = (1, 20)) h (by decide) (fun n hn e => by refine (kd_p n 6).trans ?_; exact (by decide +kernel : ∀ n < 331, (kdN n).1 = 20 + 1 → kdN (n + 6) = (1, 20)) n hn e)
theorem kt_1_5 {k : Int} (h : kt (20 + 1) k) : kt 1 (k + 6) := by unfold kt; rw [ka_1_5 h]
theorem al_1_5 {k : Int} (h : kt (20 + 1) k) : alen (k + 6) = 20 := by unfold alen; rw [ka_1_5 h]; rfl
theorem rv_1_6 {S : St} {k : Int} (h : kt (20 + 1) k) : rv S k ((6 : Nat) : Int) = (k + 7) := by
  obtain ⟨h0, h1, h2, h3, h4⟩ := kk_n1 h
  unfold rv rk
  rw [if_neg (fun q => h1 q.1), if_neg h0, if_neg h2, if_neg h3, if_neg h4]
  congr 1
theorem ka_1_6 {k : Int} (h : kt (20 + 1) k) : kd (k + 7) = (1, 20) := kd_d (P := fun k => kd (k + 7) = (1, 20)) h (by decide) (fun n hn e => by refine (kd_p n 7).trans ?_; exact (by decide +kernel : ∀ n < 331, (kdN n).1 = 20 + 1 → kdN (n + 7) = (1, 20)) n hn e)
theorem kt_1_6 {k : Int} (h : kt (20 + 1) k) : kt 1 (k + 7) := by unfold kt; rw [ka_1_6 h]
theorem al_1_6 {k : Int} (h : kt (20 + 1) k) : alen (k + 7) = 20 := by unfold alen; rw [ka_1_6 h]; rfl
theorem rv_1_7 {S : St} {k : Int} (h : kt (20 + 1) k) : rv S k ((7 : Nat) : Int) = (k + 8) := by
  obtain ⟨h0, h1, h2, h3, h4⟩ := kk_n1 h
  unfold rv rk
  rw [if_neg (fun q => h1 q.1), if_neg h0, if_neg h2, if_neg h3, if_neg h4]
  congr 1
theorem ka_1_7 {k : Int} (h : kt (20 + 1) k) : kd (k + 8) = (2, 81) := kd_d (P := fun k => kd (k + 8) = (2, 81)) h (by decide) (fun n hn e => by refine (kd_p n 8).trans ?_; exact (by decide +kernel : ∀ n < 331, (kdN n).1 = 20 + 1 → kdN (n + 8) = (2, 81)) n hn e)
theorem kt_1_7 {k : Int} (h : kt (20 + 1) k) : kt 2 (k + 8) := by unfold kt; rw [ka_1_7 h]
theorem al_1_7 {k : Int} (h : kt (20 + 1) k) : alen (k + 8) = 81 := by unfold alen; rw [ka_1_7 h]; rfl
theorem rv_1_8 {S : St} {k : Int} (h : kt (20 + 1) k) : rv S k ((8 : Nat) : Int) = (k + 9) := by
  obtain ⟨h0, h1, h2, h3, h4⟩ := kk_n1 h
  unfold rv rk
  rw [if_neg (fun q => h1 q.1), if_neg h0, if_neg h2, if_neg h3, if_neg h4]
  congr 1
theorem ka_1_8 {k : Int} (h : kt (20 + 1) k) : kd (k + 9) = ((10 + 6), 8) := kd_d (P := fun k => kd (k + 9) = ((10 + 6), 8)) h (by decide) (fun n hn e => by refine (kd_p n 9).trans ?_; exact (by decide +kernel : ∀ n < 331, (kdN n).1 = 20 + 1 → kdN (n + 9) = ((10 + 6), 8)) n hn e)
theorem kt_1_8 {k : Int} (h : kt (20 + 1) k) : kt (10 + 6) (k + 9) := by unfold kt; rw [ka_1_8 h]
theorem al_1_8 {k : Int} (h : kt (20 + 1) k) : alen (k + 9) = 8 := by unfold alen; rw [ka_1_8 h]; rfl
theorem rv_2_1 {S : St} {k : Int} (h : kt (20 + 2) k) : rv S k ((1 : Nat) : Int) = (k + 2) := by
  obtain ⟨h0, h1, h2, h3, h4⟩ := kk_n2 h
  unfold rv rk
  rw [if_neg (fun q => h1 q.1), if_neg h0, if_neg h2, if_neg h3, if_neg h4]
  congr 1
theorem ka_2_1 {k : Int} (h : kt (20 + 2) k) : kd (k + 2) = (2, 8) := kd_d (P := fun k => kd (k + 2) = (2, 8)) h (by decide) (fun n hn e => by refine (kd_p n 2).trans ?_; exact (by decide +kernel : ∀ n < 331, (kdN n).1 = 20 + 2 → kdN (n + 2) = (2, 8)) n hn e)
theorem kt_2_1 {k : Int} (h : kt (20 + 2) k) : kt 2 (k + 2) := by unfold kt; rw [ka_2_1 h]
theorem al_2_1 {k : Int} (h : kt (20 + 2) k) : alen (k + 2) = 8 := by unfold alen; rw [ka_2_1 h]; rfl
theorem rv_2_2 {S : St} {k : Int} (h : kt (20 + 2) k) : rv S k ((2 : Nat) : Int) = (k + 3) := by
  obtain ⟨h0, h1, h2, h3, h4⟩ := kk_n2 h
  unfold rv rk
  rw [if_neg (fun q => h1 q.1), if_neg h0, if_neg h2, if_neg h3, if_neg h4]
  congr 1
theorem ka_2_2 {k : Int} (h : kt (20 + 2) k) : kd (k + 3) = (3, 7) := kd_d (P := fun k => kd (k + 3) = (3, 7)) h (by decide) (fun n hn e => by refine (kd_p n 3).trans ?_; exact (by decide +kernel : ∀ n < 331, (kdN n).1 = 20 + 2 → kdN (n + 3) = (3, 7)) n hn e)
theorem kt_2_2 {k : Int} (h : kt (20 + 2) k) : kt 3 (k + 3) := by unfold kt; rw [ka_2_2 h]
theorem al_2_2 {k : Int} (h : kt (20 + 2) k) : alen (k + 3) = 7 := by unfold alen; rw [ka_2_2 h]; rfl
theorem rv_3_0 {S : St} {k : Int} (h : kt (20 + 3) k) : rv S k ((0 : Nat) : Int) = (k + 1) := by
  obtain ⟨h0, h1, h2, h3, h4⟩ := kk_n3 h
  unfold rv rk
  rw [if_neg (fun q => h1 q.1), if_neg h0, if_neg h2, if_neg h3, if_neg h4]
  congr 1
theorem ka_3_0 {k : Int} (h : kt (20 + 3) k) : kd (k + 1) = (3, 80) := kd_d (P := fun k => kd (k + 1) = (3, 80)) h (by decide) (fun n hn e => by refine (kd_p n 1).trans ?_; exact (by decide +kernel : ∀ n < 331, (kdN n).1 = 20 + 3 → kdN (n + 1) = (3, 80)) n hn e)
theorem kt_3_0 {k : Int} (h : kt (20 + 3) k) : kt 3 (k + 1) := by unfold kt; rw [ka_3_0 h]
theorem al_3_0 {k : Int} (h : kt (20 + 3) k) : alen (k + 1) = 80 := by unfold alen; rw [ka_3_0 h]; rfl
theorem rv_5_0 {S : St} {k : Int} (h : kt (20 + 5) k) : rv S k ((0 : Nat) : Int) = (k + 1) := by
  obtain ⟨h0, h1, h2, h3, h4⟩ := kk_n5 h
  unfold rv rk
  rw [if_neg (fun q => h1 q.1), if_neg h0, if_neg h2, if_neg h3, if_neg h4]
  congr 1
theorem ka_5_0 {k : Int} (h : kt (20 + 5) k) : kd (k + 1) = (1, 2400) := kd_d (P := fun k => kd (k + 1) = (1, 2400)) h (by decide) (fun n hn e => by refine (kd_p n 1).trans ?_; exact (by decide +kernel : ∀ n < 331, (kdN n).1 = 20 + 5 → kdN (n + 1) = (1, 2400)) n hn e)
theorem kt_5_0 {k : Int} (h : kt (20 + 5) k) : kt 1 (k + 1) := by unfold kt; rw [ka_5_0 h]
theorem al_5_0 {k : Int} (h : kt (20 + 5) k) : alen (k + 1) = 2400 := by unfold alen; rw [ka_5_0 h]; rfl
theorem rv_5_1 {S : St} {k : Int} (h : kt (20 + 5) k) : rv S k ((1 : Nat) : Int) = (k + 2) := by
  obtain ⟨h0, h1, h2, h3, h4⟩ := kk_n5 h
  unfold rv rk
  rw [if_neg (fun q => h1 q.1), if_neg h0, if_neg h2, if_neg h3, if_neg h4]
  congr 1
theorem ka_5_1 {k : Int} (h : kt (20 + 5) k) : kd (k + 2) = (2, 480) := kd_d (P := fun k => kd (k + 2) = (2, 480)) h (by decide) (fun n hn e => by refine (kd_p n 2).trans ?_; exact (by decide +kernel : ∀ n < 331, (kdN n).1 = 20 + 5 → kdN (n + 2) = (2, 480)) n hn e)
theorem kt_5_1 {k : Int} (h : kt (20 + 5) k) : kt 2 (k + 2) := by unfold kt; rw [ka_5_1 h]
theorem al_5_1 {k : Int} (h : kt (20 + 5) k) : alen (k + 2) = 480 := by unfold alen; rw [ka_5_1 h]; rfl
theorem rv_5_2 {S : St} {k : Int} (h : kt (20 + 5) k) : rv S k ((2 : Nat) : Int) = (k + 3) := by
  obtain ⟨h0, h1, h2, h3, h4⟩ := kk_n5 h
  unfold rv rk
  rw [if_neg (fun q => h1 q.1), if_neg h0, if_neg h2, if_neg h3, if_neg h4]
  congr 1
theorem ka_5_2 {k : Int} (h : kt (20 + 5) k) : kd (k + 3) = (1, 8) := kd_d (P := fun k => kd (k + 3) = (1, 8)) h (by decide) (fun n hn e => by refine (kd_p n 3).trans ?_; exact (by decide +kernel : ∀ n < 331, (kdN n).1 = 20 + 5 → kdN (n + 3) = (1, 8)) n hn e)
theorem kt_5_2 {k : Int} (h : kt (20 + 5) k) : kt 1 (k + 3) := by unfold kt; rw [ka_5_2 h]
theorem al_5_2 {k : Int} (h : kt (20 + 5) k) : alen (k + 3) = 8 := by unfold alen; rw [ka_5_2 h]; rfl
theorem rk_3 {k i : Int} (h : kt (10 + 3) k) : rk k i = (200 + 20 * i) := by rw [kk_a3 h]; rfl
theorem al_30 {k : Int} (h : kt (10 + 3) k) : alen k = 6 := by rw [kk_a3 h]; decide
theorem kA_3 {i : Int} (c : 0 ≤ i ∧ i < 6) : kt (20 + 1) (200 + 20 * i) := by
  obtain ⟨n, rfl⟩ := Int.eq_ofNat_of_zero_le c.1
  have := (by decide +kernel : ∀ n < 6, (kdN (200 + 20 * n)).1 = 20 + 1) n (by omega)
  unfold kt
  rw [show (200 + 20 * (n : Int)) = ((200 + 20 * n : Nat) : Int) by omega, kd_c]
  exact this
theorem rk_4 {k i : Int} (h : kt (10 + 4) k) : rk k i = (140 + 4 * i) := by rw [kk_a4 h]; rfl
theorem al_40 {k : Int} (h : kt (10 + 4) k) : alen k = 8 := by rw [kk_a4 h]; decide
theorem kA_4 {i : Int} (c : 0 ≤ i ∧ i < 8) : kt (20 + 2) (140 + 4 * i) := by
  obtain ⟨n, rfl⟩ := Int.eq_ofNat_of_zero_le c.1
  have := (by decide +kernel : ∀ n < 8, (kdN (140 + 4 * n)).1 = 20 + 2) n (by omega)
  unfold kt
  rw [show (140 + 4 * (n : Int)) = ((140 + 4 * n : Nat) : Int) by omega, kd_c]
  exact this
theorem rk_5 {k i : Int} (h : kt (10 + 5) k) : rk k i = (110 + 2 * i) := by rw [kk_a5 h]; rfl
theorem al_50 {k : Int} (h : kt (10 + 5) k) : alen k = 8 := by rw [kk_a5 h]; decide
theorem kA_5 {i : Int} (c : 0 ≤ i ∧ i < 8) : kt (20 + 3) (110 + 2 * i) := by
  obtain ⟨n, rfl⟩ := Int.eq_ofNat_of_zero_le c.1
  have := (by decide +kernel : ∀ n < 8, (kdN (110 + 2 * n)).1 = 20 + 3) n (by omega)
  unfold kt
  rw [show (110 + 2 * (n : Int)) = ((110 + 2 * n : Nat) : Int) by omega, kd_c]
  exact this
theorem rk_6 {k i : Int} (h : kt (10 + 6) k) : rk k i = (k + (1 + i)) := by
  obtain ⟨h0, h1, h2, h3, h4⟩ := kk_n6 h
  unfold rk
  rw [if_neg h0, if_neg h2, if_neg h3, if_neg h4]
theorem al_60 {k : Int} (h : kt (10 + 6) k) : alen k = 8 := kd_d (P := fun k => alen k = 8) h (by decide) (fun n hn e => by unfold alen; rw [kd_c]; have := (by decide +kernel : ∀ n < 331, (kdN n).1 = 10 + 6 → (kdN n).2 = 8) n hn e; omega)
theorem kB_6 {k i : Int} (h : kt (10 + 6) k) (c : 0 ≤ i ∧ i < 8) : kd (k + (1 + i)) = (1, 80) := by
  obtain ⟨m, rfl⟩ := Int.eq_ofNat_of_zero_le c.1
  refine kd_d (P := fun k => kd (k + (1 + (m : Int))) = (1, 80)) h (by decide) (fun n hn e => ?_)
  rw [show ((n : Int) + (1 + (m : Int))) = (n : Int) + ((1 + m : Nat) : Int) by omega, kd_p]
  exact (by decide +kernel : ∀ n < 331, (kdN n).1 = 10 + 6 → ∀ m < 8, kdN (n + (1 + m)) = (1, 80)) n hn e m (by omega)
theorem kA_6 {k i : Int} (h : kt (10 + 6) k) (c : 0 ≤ i ∧ i < 8) : kt 1 (k + (1 + i)) := by unfold kt; rw [kB_6 h c]
theorem aA_6 {k i : Int} (h : kt (10 + 6) k) (c : 0 ≤ i ∧ i < 8) : alen (k + (1 + i)) = 80 := by unfold alen; rw [kB_6 h c]; rfl
theorem al_c {i k L : Int} (c : 0 ≤ i ∧ i < alen k) (h : alen k = L) : 0 ≤ i ∧ i < L := by rw [← h]; exact c
theorem nL {L : Int} (h : 0 ≤ L) : nI L.toNat = Int32.ofInt L := by
  obtain ⟨n, rfl⟩ := Int.eq_ofNat_of_zero_le h
  rw [o32_n]
  congr 1
theorem b01 {x : Int32} {a : Int} (h : x = Int32.ofInt a) (h1 : a = 0 ∨ a = 1) : x = 0 ∨ x = 1 := by
  rcases h1 with rfl | rfl
  · exact Or.inl (h.trans (by decide))
  · exact Or.inr (h.trans (by decide))
/-- a piece of an array copied within it -/
def cpy (S : St) (k sp dp n : Int) : St := fun k1 j => if k1 = k ∧ dp ≤ j ∧ j < dp + n then S k (sp + (j - dp)) else S k1 j
theorem g_cI {ad : Int → Nat} {S : St} {M : Hp} {k : Int} {P : Hp → Prop} {x y z : Int32} {sp dp n L : Int} (h : US ad S M) (hk : kt 1 k) (hl : alen k = L) (hx : x = Int32.ofInt sp) (hy : y = Int32.ofInt dp) (hz : z = Int32.ofInt n) (hn : 0 ≤ n) (c1 : 0 ≤ sp ∧ sp + n ≤ L) (c2 : 0 ≤ dp ∧ dp + n ≤ L) (p : ∀ (S1 : St) (M1 : Hp), S1 = cpy S k sp dp n → US ad S1 M1 → P M1) : ∃ M1 : Hp, cI M (ad k) x (ad k) y z M1 ∧ P M1 := by
  have hb := alen_lt (k := k)
  obtain ⟨a, rfl⟩ := Int.eq_ofNat_of_zero_le c1.1
  obtain ⟨b, rfl⟩ := Int.eq_ofNat_of_zero_le c2.1
  obtain ⟨c, rfl⟩ := Int.eq_ofNat_of_zero_le hn
  have hl2 : ((kd k).2 : Int) = L := hl
  rw [o32_n] at hx hy hz
  subst hx hy hz
  refine ⟨_, ⟨_, _, _, _, by rw [h.1.1 k (kt_0 hk (by omega)), ce_1 hk], by rw [h.1.1 k (kt_0 hk (by omega)), ce_1 hk], nI_pos (by omega), nI_pos (by omega), nI_pos (by omega), ?_, ?_, rfl⟩, p _ _ rfl ⟨?_, ?_⟩⟩
  · rw [nI_clamp (by omega), nI_clamp (by omega)]; omega
  · rw [nI_clamp (by omega), nI_clamp (by omega)]; omega
  · have e : (.inl (0, (kd k).2, .inl (va_cpy (fun j => Int32.ofInt (S k j)) (fun j => Int32.ofInt (S k j)) (nI a).toNatClampNeg (nI b).toNatClampNeg (nI c).toNatClampNeg)) : hE) = cel ad (cpy S k a b c) k := by
      rw [ce_1 hk, nI_clamp (by omega), nI_clamp (by omega), nI_clamp (by omega)]
      congr 4
      funext j
      unfold cpy
      by_cases hj : b ≤ j ∧ j < b + c
      · rw [pk_cpy_in hj.1 hj.2, if_pos ⟨rfl, by omega, by omega⟩]
        congr 2
        omega
      · rw [pk_cpy_out (by omega), if_neg (by omega)]
    rw [e]
    refine h.1.set (kt_0 hk (by omega)) (fun i hi => ?_)
    have e2 : ∀ j, cpy S k a b c i j = S i j := fun j => if_neg (fun q => hi q.1)
    unfold cel fv rv
    simp only [e2]
  · intro k1 j1
    unfold cpy
    by_cases hq : k1 = k ∧ (b : Int) ≤ j1 ∧ j1 < b + c
    · rw [if_pos hq]
      obtain ⟨rfl, _⟩ := hq
      have t1 : ∀ j, ty k1 j = 1 := fun j => ty_1 (Or.inl hk)
      exact ⟨fun _ => (h.2 k1 _).1 (t1 _), fun q => by rw [t1] at q; omega, fun q => by rw [t1] at q; omega⟩
    · rw [if_neg hq]
      exact h.2 k1 j1
/-! Math.floorMod and floorDiv, by 128, of what isn't negative -/
theorem xor_nn {a : Int} (h : 0 ≤ a ∧ rJ a) : (0 : Int64) ≤ Int64.ofInt a ^^^ 128 := by
  rw [Int64.le_iff_toInt_le]
  show (0 : Int) ≤ (Int64.ofInt a ^^^ 128).toInt
  rw [← Int64.toInt_toBitVec, Int64.toBitVec_xor]
  have hm : ((Int64.ofInt a).toBitVec ^^^ (128 : Int64).toBitVec).msb = false := by
    rw [BitVec.msb_xor]
    have h1 : (Int64.ofInt a).toBitVec.msb = false := by
      have h2 : 0 ≤ (Int64.ofInt a).toBitVec.toInt := by
        rw [Int64.toInt_toBitVec, o64_t h.2]
        exact h.1
      rw [BitVec.msb_eq_toInt]
      simp only [decide_eq_false_iff_not]
      omega
    rw [h1]
    decide
  rw [BitVec.toInt_eq_msb_cond, hm]
  simp
def vpMa_floorMod (p0 : Int) (p1 : Int) (S : St) (Q : Int → St → Prop) : Prop := (0 ≤ p0 ∧ p1 = 128) ∧ Q (p0 % 128) S
def vpMa_floorDiv (p0 : Int) (p1 : Int) (S : St) (Q : Int → St → Prop) : Prop := (0 ≤ p0 ∧ p1 = 128) ∧ Q (p0 / 128) S
theorem apMa_floorMod {ad : Int → Nat} {Q : Int → St → Prop} {post : Int64 → Hp → Prop} (hp : ∀ (r : Int) (S : St) (M : Hp), US ad S M → rJ r → Q r S → post (Int64.ofInt r) M) {w0 : Int64} {p0 : Int} (e0 : w0 = Int64.ofInt p0) (r0 : rJ p0) {w1 : Int64} {p1 : Int} (e1 : w1 = Int64.ofInt p1) (r1 : rJ p1) {S : St} {M : Hp} (h : US ad S M) (hv : vpMa_floorMod p0 p1 S Q) : wpMa_floorMod w0 w1 M post := by
  obtain ⟨⟨h0, rfl⟩, hq⟩ := hv
  subst e0 e1
  unfold wpMa_floorMod wMa_floorMod_25
  rw [show Int64.ofInt 128 = (128 : Int64) by decide]
  refine ⟨by decide, nm_Z (H_rem (b := 128) rfl (by decide) ⟨h0, by omega⟩ (by decide)) (fun z ez => ⟨fun _ => ?_, fun q => absurd (xor_nn ⟨h0, r0⟩) q⟩)⟩
  subst ez
  exact hp _ _ _ h (by constructor <;> omega) hq
theorem apMa_floorDiv {ad : Int → Nat} {Q : Int → St → Prop} {post : Int64 → Hp → Prop} (hp : ∀ (r : Int) (S : St) (M : Hp), US ad S M → rJ r → Q r S → post (Int64.ofInt r) M) {w0 : Int64} {p0 : Int} (e0 : w0 = Int64.ofInt p0) (r0 : rJ p0) {w1 : Int64} {p1 : Int} (e1 : w1 = Int64.ofInt p1) (r1 : rJ p1) {S : St} {M : Hp} (h : US ad S M) (hv : vpMa_floorDiv p0 p1 S Q) : wpMa_floorDiv w0 w1 M post := by
  obtain ⟨⟨h0, rfl⟩, hq⟩ := hv
  subst e0 e1
  unfold wpMa_floorDiv wMa_floorDiv_27
  rw [show Int64.ofInt 128 = (128 : Int64) by decide]
  refine ⟨by decide, nm_Z (H_div (b := 128) rfl (by decide) ⟨h0, by omega⟩ (by decide)) (fun z ez => ⟨fun _ => ?_, fun q => absurd (xor_nn ⟨h0, r0⟩) q⟩)⟩
  subst ez
  exact hp _ _ _ h (by constructor <;> omega) hq
