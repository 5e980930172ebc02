/-! STAGE 2, PURE. One state for all cells: S k j the number in place j of the cell with key k; kd k: its kind (1 int[], 2 boolean[], 3 long[], 10 + t an array of references, 20 + ci an object) and its length. -/
abbrev St := Int → Int → Int
def up (S : St) (k j v : Int) : St := fun k1 j1 => if k1 = k ∧ j1 = j then v else S k1 j1
theorem up_s {S : St} {k j v : Int} : up S k j v k j = v := if_pos ⟨rfl, rfl⟩
theorem up_k {S : St} {k j v k1 j1 : Int} (h : k1 ≠ k) : up S k j v k1 j1 = S k1 j1 := if_neg (fun q => h q.1)
theorem up_j {S : St} {k j v k1 j1 : Int} (h : j1 ≠ j) : up S k j v k1 j1 = S k1 j1 := if_neg (fun q => h q.2)
abbrev rI (x : Int) : Prop := -2147483648 ≤ x ∧ x < 2147483648
abbrev rJ (x : Int) : Prop := -9223372036854775808 ≤ x ∧ x < 9223372036854775808
/-- the types of an object's fields: 0 int, 1 long, 2 a reference -/
def oTs (ci : Nat) : List Nat := if ci = 0 then [2, 2, 2, 0, 0, 0, 0, 2, 2, 0, 0, 1] else if ci = 1 then [0, 2, 2, 2, 2, 2, 2, 2, 2, 0, 0, 0] else if ci = 2 then [0, 2, 2, 0, 0, 0, 0, 1, 1, 1] else if ci = 3 then [2, 0, 0] else if ci = 4 then [2, 2, 2, 2] else if ci = 5 then [2, 2, 2, 0, 1] else [0, 0, 0, 0, 0, 2, 2, 2, 2, 2, 2, 2, 2, 2, 0, 2, 2, 2, 2, 2, 2, 2, 2, 2, 2, 2, 2, 2, 2, 2, 2, 2, 2, 0, 0, 1]
def kdM (k : Nat) : Nat × Nat := [(26, 0), (0, 0), (0, 0), (0, 0), (0, 0), (1, 6), (1, 360), (1, 360), (1, 360), (1, 6), (1, 120), (1, 120), (1, 120), (2, 486), (0, 0), (1, 8), (1, 8), (1, 8), (1, 8), (3, 8), (2, 64), (3, 8), (3, 56), (3, 8), (3, 8), (1, 486), (1, 486), (1, 486), (1, 486), (1, 486), (1, 486), (3, 81), (1, 81)].getD k (0, 0)
def kdB (k : Nat) : Nat × Nat := [(20, 0), (13, 6), (14, 8), (24, 0), (3, 81), (1, 80), (1, 80), (15, 8), (0, 0), (0, 0), (23, 0), (3, 80), (23, 0), (3, 80), (23, 0), (3, 80), (23, 0), (3, 80), (23, 0), (3, 80), (23, 0), (3, 80), (23, 0), (3, 80), (23, 0), (3, 80), (0, 0), (0, 0), (0, 0), (0, 0), (25, 0), (1, 2400), (2, 480), (1, 8), (25, 0), (1, 2400), (2, 480), (1, 8)].getD k (0, 0)
def kdP (k : Nat) : Nat × Nat := [(22, 0), (0, 0), (2, 8), (3, 7)].getD (k % 4) (0, 0)
def kdS (k : Nat) : Nat × Nat := [(21, 0), (0, 0), (1, 60), (1, 60), (1, 60), (1, 20), (1, 20), (1, 20), (2, 81), (16, 8), (1, 80), (1, 80), (1, 80), (1, 80), (1, 80), (1, 80), (1, 80), (1, 80)].getD (k % 20) (0, 0)
def kdN (k : Nat) : Nat × Nat := if k < 36 then kdM k else if k < 100 then (0, 0) else if k < 140 then kdB (k - 100) else if k < 172 then kdP (k - 140) else if k < 200 then (0, 0) else if k < 320 then kdS (k - 200) else if k = 330 then (3, 1) else (0, 0)
def kd (k : Int) : Nat × Nat := if k < 0 then (0, 0) else kdN k.toNat
def alen (k : Int) : Int := (kd k).2
abbrev kt (t : Nat) (k : Int) : Prop := (kd k).1 = t
/-- where a reference leads -/
def rk (k j : Int) : Int := if k = 0 then j else if k = 101 then 200 + 20 * j else if k = 102 then 140 + 4 * j else if k = 107 then 110 + 2 * j else k + (1 + j)
def rv (S : St) (k j : Int) : Int := if k = 100 ∧ (j = 7 ∨ j = 8) then S k j else rk k j
def fv (ad : Int → Nat) (S : St) (k : Int) (j t : Nat) : Value := if t = 0 then .int (Int32.ofInt (S k j)) else if t = 1 then .long (Int64.ofInt (S k j)) else .ref (ad (rv S k j))
def cel (ad : Int → Nat) (S : St) (k : Int) : hE :=
  if (kd k).1 = 1 then .inl (0, (kd k).2, .inl (fun j => Int32.ofInt (S k j))) else if (kd k).1 = 2 then .inl (1, (kd k).2, .inl (fun j => Int32.ofInt (S k j))) else if (kd k).1 = 3 then .inl (2, (kd k).2, .inr (.inl (fun j => Int64.ofInt (S k j)))) else if (kd k).1 < 20 then .inl ((kd k).1 - 10, (kd k).2, .inr (.inr (.inr (.inr (fun j => if j < (kd k).2 then some (ad (rk k j)) else none))))) else .inr ((kd k).1 - 20, (List.range (oTs ((kd k).1 - 20)).length).map (fun j => fv ad S k j ((oTs ((kd k).1 - 20)).getD j 0)))
/-- the type of a number: 1 int, 2 long, 3 the key of a plan -/
def ty (k j : Int) : Nat := if (kd k).1 = 1 ∨ (kd k).1 = 2 then 1 else if (kd k).1 = 3 then 2 else if (kd k).1 < 20 then 0 else if k = 100 ∧ (j = 7 ∨ j = 8) then 3 else if (oTs ((kd k).1 - 20)).getD j.toNat 2 = 0 then 1 else if (oTs ((kd k).1 - 20)).getD j.toNat 2 = 1 then 2 else 0
def rng (S : St) : Prop := ∀ k j, (ty k j = 1 → rI (S k j)) ∧ (ty k j = 2 → rJ (S k j)) ∧ (ty k j = 3 → S k j = 130 ∨ S k j = 134)
def rq (kk : Int → Prop) (ad : Int → Nat) (F : Int → hE) (M : Hp) : Prop := (∀ k, kk k → M (ad k) = some (F k)) ∧ ∀ i j, kk i → kk j → ad i = ad j → i = j
def US (ad : Int → Nat) (S : St) (M : Hp) : Prop := rq (fun k => ¬ (kd k).1 = 0) ad (cel ad S) M ∧ rng S
theorem rq.set {kk : Int → Prop} {ad : Int → Nat} {F F1 : Int → hE} {M : Hp} (h : rq kk ad F M) {i : Int} (hi : kk i) (ho : ∀ k, k ≠ i → F1 k = F k) : rq kk ad F1 (va_up M (ad i) (some (F1 i))) := by
  refine ⟨fun j hj => ?_, h.2⟩
  by_cases hji : j = i
  · subst hji
    rw [va_up, if_pos rfl]
  · rw [va_up, if_neg (fun e => hji (h.2 j i hj hi e)), ho j hji]
    exact h.1 j hj
theorem kd_b {k : Int} (h : ¬ (kd k).1 = 0) : 0 ≤ k ∧ k < 331 := by
  unfold kd at h
  split at h
  · exact absurd rfl h
  · refine ⟨by omega, ?_⟩
    unfold kdN at h
    split at h
    · omega
    · split at h
      · exact absurd rfl h
      · split at h
        · omega
        · split at h
          · omega
          · split at h
            · exact absurd rfl h
            · split at h
              · omega
              · split at h
                · omega
                · exact absurd rfl h
theorem kd_n {k : Int} (h : ¬ (kd k).1 = 0) : ∃ n : Nat, n < 331 ∧ k = n := by
  obtain ⟨h1, h2⟩ := kd_b h
  exact ⟨k.toNat, by omega, by omega⟩
theorem kd_c (n : Nat) : kd (n : Int) = kdN n := by
  unfold kd
  rw [if_neg (by omega)]
  congr 1
theorem alen_lt {k : Int} : alen k < 2400 + 1 := by
  by_cases h : (kd k).1 = 0
  · unfold alen kd
    unfold kd at h
    split
    · decide
    · rename_i hk
      rw [if_neg hk] at h
      have : (kdN k.toNat).2 ≤ 2400 := by
        by_cases h5 : k.toNat < 331
        · exact (by decide +kernel : ∀ n < 331, (kdN n).2 ≤ 2400) _ h5
        · unfold kdN
          rw [if_neg (by omega), if_neg (by omega), if_neg (by omega), if_neg (by omega), if_neg (by omega), if_neg (by omega), if_neg (by omega)]
          decide
      omega
  · obtain ⟨n, hn, rfl⟩ := kd_n h
    unfold alen
    rw [kd_c]
    have := (by decide +kernel : ∀ n < 331, (kdN n).2 ≤ 2400) n hn
    omega
