/-! numbers -/
theorem o32_n (n : Nat) : Int32.ofInt (n : Int) = nI n := Int32.ofInt_eq_ofNat
theorem o64_n (n : Nat) : Int64.ofInt (n : Int) = lN n := Int64.ofInt_eq_ofNat
theorem o32_t {a : Int} (h : rI a) : (Int32.ofInt a).toInt = a := Int32.toInt_ofInt_of_le (by omega) (by omega)
theorem o64_t {a : Int} (h : rJ a) : (Int64.ofInt a).toInt = a := Int64.toInt_ofInt_of_le (by omega) (by omega)
theorem o32_r (x : Int32) : rI x.toInt := ⟨by have := x.le_toInt; omega, by have := x.toInt_lt; omega⟩
theorem o64_r (x : Int64) : rJ x.toInt := ⟨by have := x.le_toInt; omega, by have := x.toInt_lt; omega⟩
theorem o32_of (x : Int32) : x = Int32.ofInt x.toInt := Int32.toInt_inj.mp (o32_t (o32_r x)).symm
theorem o64_of (x : Int64) : x = Int64.ofInt x.toInt := Int64.toInt_inj.mp (o64_t (o64_r x)).symm
section AR
variable {x y : Int32} {u w : Int64} {a b : Int}
theorem h_add (h1 : x = Int32.ofInt a) (h2 : y = Int32.ofInt b) : x + y = Int32.ofInt (a + b) := by rw [h1, h2, Int32.ofInt_add]
theorem h_sub (h1 : x = Int32.ofInt a) (h2 : y = Int32.ofInt b) : x - y = Int32.ofInt (a - b) := by rw [h1, h2, Int32.ofInt_sub]
theorem h_mul (h1 : x = Int32.ofInt a) (h2 : y = Int32.ofInt b) : x * y = Int32.ofInt (a * b) := by rw [h1, h2, Int32.ofInt_mul]
theorem H_add (h1 : u = Int64.ofInt a) (h2 : w = Int64.ofInt b) : u + w = Int64.ofInt (a + b) := by rw [h1, h2, Int64.ofInt_add]
theorem H_sub (h1 : u = Int64.ofInt a) (h2 : w = Int64.ofInt b) : u - w = Int64.ofInt (a - b) := by rw [h1, h2, Int64.ofInt_sub]
theorem H_mul (h1 : u = Int64.ofInt a) (h2 : w = Int64.ofInt b) : u * w = Int64.ofInt (a * b) := by rw [h1, h2, Int64.ofInt_mul]
theorem h_div (h1 : x = Int32.ofInt a) (h2 : y = Int32.ofInt b) (ha : 0 ≤ a ∧ a < 2147483648) (hb : 0 < b ∧ b < 2147483648) : x / y = Int32.ofInt (a / b) := by
  obtain ⟨n, rfl⟩ := Int.eq_ofNat_of_zero_le ha.1
  obtain ⟨m, rfl⟩ := Int.eq_ofNat_of_zero_le (show 0 ≤ b by omega)
  rw [h1, h2, o32_n, o32_n, pk_div (by omega) (by omega) (by omega), ← Int.natCast_ediv, o32_n]
theorem h_rem (h1 : x = Int32.ofInt a) (h2 : y = Int32.ofInt b) (ha : 0 ≤ a ∧ a < 2147483648) (hb : 0 < b ∧ b < 2147483648) : x - x / y * y = Int32.ofInt (a % b) := by
  obtain ⟨n, rfl⟩ := Int.eq_ofNat_of_zero_le ha.1
  obtain ⟨m, rfl⟩ := Int.eq_ofNat_of_zero_le (show 0 ≤ b by omega)
  rw [h1, h2, o32_n, o32_n, pk_rem (by omega) (by omega) (by omega), ← Int.natCast_emod, o32_n]
theorem H_div (h1 : u = Int64.ofInt a) (h2 : w = Int64.ofInt b) (ha : 0 ≤ a ∧ a < 9223372036854775808) (hb : 0 < b ∧ b < 9223372036854775808) : u / w = Int64.ofInt (a / b) := by
  obtain ⟨n, rfl⟩ := Int.eq_ofNat_of_zero_le ha.1
  obtain ⟨m, rfl⟩ := Int.eq_ofNat_of_zero_le (show 0 ≤ b by omega)
  rw [h1, h2, o64_n, o64_n, pk_lDiv (by omega) (by omega) (by omega), ← Int.natCast_ediv, o64_n]
theorem H_rem (h1 : u = Int64.ofInt a) (h2 : w = Int64.ofInt b) (ha : 0 ≤ a ∧ a < 9223372036854775808) (hb : 0 < b ∧ b < 9223372036854775808) : u - u / w * w = Int64.ofInt (a % b) := by
  obtain ⟨n, rfl⟩ := Int.eq_ofNat_of_zero_le ha.1
  obtain ⟨m, rfl⟩ := Int.eq_ofNat_of_zero_le (show 0 ≤ b by omega)
  rw [h1, h2, o64_n, o64_n, pk_lRem (by omega) (by omega) (by omega), ← Int.natCast_emod, o64_n]
theorem h_toL (h1 : x = Int32.ofInt a) (r1 : rI a) : x.toInt64 = Int64.ofInt a := by
  apply Int64.toInt_inj.mp
  rw [Jvm.Kit.i64_of_i32, h1, o32_t r1, o64_t (by constructor <;> omega)]
theorem H_toI (h1 : u = Int64.ofInt a) (r1 : rJ a) : u.toInt32 = Int32.ofInt a := by
  apply Int32.toInt_inj.mp
  rw [Int64.toInt_toInt32, h1, o64_t r1, Int32.toInt_ofInt]
theorem c_le (h1 : x = Int32.ofInt a) (h2 : y = Int32.ofInt b) (r1 : rI a) (r2 : rI b) : x ≤ y ↔ a ≤ b := by rw [Int32.le_iff_toInt_le, h1, h2, o32_t r1, o32_t r2]
theorem c_lt (h1 : x = Int32.ofInt a) (h2 : y = Int32.ofInt b) (r1 : rI a) (r2 : rI b) : x < y ↔ a < b := by rw [Int32.lt_iff_toInt_lt, h1, h2, o32_t r1, o32_t r2]
theorem c_eq (h1 : x = Int32.ofInt a) (h2 : y = Int32.ofInt b) (r1 : rI a) (r2 : rI b) : x = y ↔ a = b := by rw [← Int32.toInt_inj, h1, h2, o32_t r1, o32_t r2]
theorem C_le (h1 : u = Int64.ofInt a) (h2 : w = Int64.ofInt b) (r1 : rJ a) (r2 : rJ b) : u ≤ w ↔ a ≤ b := by rw [Int64.le_iff_toInt_le, h1, h2, o64_t r1, o64_t r2]
theorem C_lt (h1 : u = Int64.ofInt a) (h2 : w = Int64.ofInt b) (r1 : rJ a) (r2 : rJ b) : u < w ↔ a < b := by rw [Int64.lt_iff_toInt_lt, h1, h2, o64_t r1, o64_t r2]
theorem C_eq (h1 : u = Int64.ofInt a) (h2 : w = Int64.ofInt b) (r1 : rJ a) (r2 : rJ b) : u = w ↔ a = b := by rw [← Int64.toInt_inj, h1, h2, o64_t r1, o64_t r2]
theorem h_max (h1 : x = Int32.ofInt a) (h2 : y = Int32.ofInt b) (r1 : rI a) (r2 : rI b) : (if x < y then y else x) = Int32.ofInt (max a b) := by
  by_cases h : a < b
  · rw [if_pos ((c_lt h1 h2 r1 r2).mpr h), h2, show max a b = b by omega]
  · rw [if_neg (fun q => h ((c_lt h1 h2 r1 r2).mp q)), h1, show max a b = a by omega]
theorem h_min (h1 : x = Int32.ofInt a) (h2 : y = Int32.ofInt b) (r1 : rI a) (r2 : rI b) : (if x < y then x else y) = Int32.ofInt (min a b) := by
  by_cases h : a < b
  · rw [if_pos ((c_lt h1 h2 r1 r2).mpr h), h1, show min a b = a by omega]
  · rw [if_neg (fun q => h ((c_lt h1 h2 r1 r2).mp q)), h2, show min a b = b by omega]
theorem H_max (h1 : u = Int64.ofInt a) (h2 : w = Int64.ofInt b) (r1 : rJ a) (r2 : rJ b) : (if u < w then w else u) = Int64.ofInt (max a b) := by
  by_cases h : a < b
  · rw [if_pos ((C_lt h1 h2 r1 r2).mpr h), h2, show max a b = b by omega]
  · rw [if_neg (fun q => h ((C_lt h1 h2 r1 r2).mp q)), h1, show max a b = a by omega]
theorem H_min (h1 : u = Int64.ofInt a) (h2 : w = Int64.ofInt b) (r1 : rJ a) (r2 : rJ b) : (if u < w then u else w) = Int64.ofInt (min a b) := by
  by_cases h : a < b
  · rw [if_pos ((C_lt h1 h2 r1 r2).mpr h), h1, show min a b = a by omega]
  · rw [if_neg (fun q => h ((C_lt h1 h2 r1 r2).mp q)), h2, show min a b = b by omega]
theorem rI_J (h : rI a) : rJ a := by constructor <;> omega
end AR
theorem nm_z {P : Int32 → Prop} {x : Int32} {e : Int} (he : x = Int32.ofInt e) (p : ∀ z : Int, z = e → P (Int32.ofInt z)) : ∀ y, y = x → P y := fun y hy => by rw [hy, he]; exact p e rfl
theorem nm_Z {P : Int64 → Prop} {x : Int64} {e : Int} (he : x = Int64.ofInt e) (p : ∀ z : Int, z = e → P (Int64.ofInt z)) : ∀ y, y = x → P y := fun y hy => by rw [hy, he]; exact p e rfl
/-! kinds -/
theorem ty_1 {k j : Int} (h : kt 1 k ∨ kt 2 k) : ty k j = 1 := if_pos h
theorem ty_3 {k j : Int} (h : kt 3 k) : ty k j = 2 := by
  unfold ty
  rw [if_neg (by unfold kt at h; omega), if_pos h]
theorem kt_f (ci : Nat) (n j : Nat) (hn : n < 331) (hj : j < 36) (h : kt (20 + ci) (n : Int)) : ((n : Int) = 100 ∧ ((j : Int) = 7 ∨ (j : Int) = 8) ∧ (ty n j = 3)) ∨ (¬ ((n : Int) = 100 ∧ ((j : Int) = 7 ∨ (j : Int) = 8)) ∧ ty n j = if (oTs ci).getD j 2 = 0 then 1 else if (oTs ci).getD j 2 = 1 then 2 else 0) := by
  unfold ty
  unfold kt at h
  rw [if_neg (by omega), if_neg (by omega), if_neg (by omega)]
  by_cases h1 : (n : Int) = 100 ∧ ((j : Int) = 7 ∨ (j : Int) = 8)
  · exact Or.inl ⟨h1.1, h1.2, by rw [if_pos h1]⟩
  · refine Or.inr ⟨h1, ?_⟩
    rw [if_neg h1, h, show 20 + ci - 20 = ci by omega]
    rfl
theorem ty_f {ci j : Nat} {k : Int} {t : Nat} (h : kt (20 + ci) k) (ht : (oTs ci)[j]? = some t) (t2 : t < 2) : ty k (j : Int) = t + 1 := by
  obtain ⟨n, hn, rfl⟩ := kd_n (k := k) (by unfold kt at h; omega)
  have h36 : j < 36 := by
    have h1 := (List.getElem?_eq_some_iff.mp ht).1
    have h2 : (oTs ci).length ≤ 36 := by
      unfold oTs
      repeat' split
      all_goals decide
    omega
  have hg : (oTs ci).getD j 2 = t := by rw [List.getD_eq_getElem?_getD, ht]; rfl
  rcases kt_f ci n j hn h36 h with ⟨h1, h2, _⟩ | ⟨_, h2⟩
  · exfalso
    have hk : ci = 0 := by
      have e : n = 100 := by omega
      subst e
      unfold kt at h
      have e2 : (kd ((100 : Nat) : Int)).1 = 20 := by decide
      omega
    subst hk
    rcases h2 with h2 | h2
    · have e : j = 7 := by omega
      subst e
      have : t = 2 := by have := ht.symm.trans (show (oTs 0)[7]? = some 2 from rfl); simpa using this
      omega
    · have e : j = 8 := by omega
      subst e
      have : t = 2 := by have := ht.symm.trans (show (oTs 0)[8]? = some 2 from rfl); simpa using this
      omega
  · rw [h2, hg]
    rcases (show t = 0 ∨ t = 1 by omega) with rfl | rfl <;> rfl
section CE
variable {ad : Int → Nat} {S S1 : St} {M : Hp} {k : Int}
theorem ce_1 (h : kt 1 k) : cel ad S k = .inl (0, (kd k).2, .inl (fun j => Int32.ofInt (S k j))) := if_pos h
theorem ce_2 (h : kt 2 k) : cel ad S k = .inl (1, (kd k).2, .inl (fun j => Int32.ofInt (S k j))) := by
  unfold kt at h
  unfold cel
  rw [if_neg (by omega), if_pos h]
theorem ce_3 (h : kt 3 k) : cel ad S k = .inl (2, (kd k).2, .inr (.inl (fun j => Int64.ofInt (S k j)))) := by
  unfold kt at h
  unfold cel
  rw [if_neg (by omega), if_neg (by omega), if_pos h]
theorem ce_A {t : Nat} (h : kt (10 + t) k) (ht : t < 10) : cel ad S k = .inl (t, (kd k).2, .inr (.inr (.inr (.inr (fun j => if j < (kd k).2 then some (ad (rk k j)) else none))))) := by
  unfold kt at h
  unfold cel
  rw [if_neg (by omega), if_neg (by omega), if_neg (by omega), if_pos (by omega), h, show 10 + t - 10 = t by omega]
theorem ce_O {ci : Nat} (h : kt (20 + ci) k) : cel ad S k = .inr (ci, (List.range (oTs ci).length).map (fun j => fv ad S k j ((oTs ci).getD j 0))) := by
  unfold kt at h
  unfold cel
  rw [if_neg (by omega), if_neg (by omega), if_neg (by omega), if_neg (by omega), h, show 20 + ci - 20 = ci by omega]
theorem kt_0 {t : Nat} (h : kt t k) (ht : t ≠ 0) : ¬ (kd k).1 = 0 := by
  unfold kt at h
  omega
theorem of_at {ci j t : Nat} (ht : (oTs ci)[j]? = some t) : ((List.range (oTs ci).length).map (fun j => fv ad S k j ((oTs ci).getD j 0)))[j]? = some (fv ad S k j t) := by
  have h1 := (List.getElem?_eq_some_iff.mp ht).1
  rw [List.getElem?_map, List.getElem?_range h1]
  show some (fv ad S k j ((oTs ci).getD j 0)) = _
  rw [List.getD_eq_getElem?_getD, ht]
  rfl
/-- a state that differs in one cell alone -/
theorem ce_o {j v : Int} {i : Int} (h : i ≠ k) : cel ad (up S k j v) i = cel ad S i := by
  have e : ∀ x, up S k j v i x = S i x := fun x => up_k h
  unfold cel fv rv
  simp only [e]
theorem rng_up {j v : Int} (h : rng S) (h1 : ty k j = 1 → rI v) (h2 : ty k j = 2 → rJ v) (h3 : ty k j = 3 → v = 130 ∨ v = 134) : rng (up S k j v) := by
  intro k1 j1
  unfold up
  by_cases hk : k1 = k ∧ j1 = j
  · obtain ⟨rfl, rfl⟩ := hk
    rw [if_pos ⟨rfl, rfl⟩]
    exact ⟨h1, h2, h3⟩
  · rw [if_neg hk]
    exact h k1 j1
theorem g_rI {t : Nat} {j : Int} (h : US ad S M) (hk : kt t k) (ht : t = 1 ∨ t = 2) : rI (S k j) := (h.2 k j).1 (ty_1 (by rcases ht with rfl | rfl; exact Or.inl hk; exact Or.inr hk))
theorem g_rJ {j : Int} (h : US ad S M) (hk : kt 3 k) : rJ (S k j) := (h.2 k j).2.1 (ty_3 hk)
theorem g_rf {ci j : Nat} {jz : Int} (h : US ad S M) (hk : kt (20 + ci) k) (ht : (oTs ci)[j]? = some 0) (hz : (j : Int) = jz) : rI (S k jz) := by
  subst hz
  exact (h.2 k j).1 (ty_f hk ht (by omega))
theorem g_rF {ci j : Nat} {jz : Int} (h : US ad S M) (hk : kt (20 + ci) k) (ht : (oTs ci)[j]? = some 1) (hz : (j : Int) = jz) : rJ (S k jz) := by
  subst hz
  exact (h.2 k j).2.1 (ty_f hk ht (by omega))
theorem g_fI {P : Int32 → Prop} {ci j : Nat} {jz : Int} (h : US ad S M) (hk : kt (20 + ci) k) (ht : (oTs ci)[j]? = some 0) (hz : (j : Int) = jz) (p : P (Int32.ofInt (S k jz))) : ∃ v : Int32, fI M (ad k) ci j v ∧ P v := by
  subst hz
  exact ⟨_, ⟨_, by rw [h.1.1 k (kt_0 hk (by omega)), ce_O hk], of_at ht⟩, p⟩
theorem g_fJ {P : Int64 → Prop} {ci j : Nat} {jz : Int} (h : US ad S M) (hk : kt (20 + ci) k) (ht : (oTs ci)[j]? = some 1) (hz : (j : Int) = jz) (p : P (Int64.ofInt (S k jz))) : ∃ v : Int64, fJ M (ad k) ci j v ∧ P v := by
  subst hz
  exact ⟨_, ⟨_, by rw [h.1.1 k (kt_0 hk (by omega)), ce_O hk], of_at ht⟩, p⟩
theorem g_fA {P : Nat → Prop} {ci j : Nat} {y : Int} (h : US ad S M) (hk : kt (20 + ci) k) (ht : (oTs ci)[j]? = some 2) (hy : rv S k j = y) (p : P (ad y)) : ∃ v : Nat, fA M (ad k) ci j v ∧ P v := by
  subst hy
  exact ⟨_, ⟨_, by rw [h.1.1 k (kt_0 hk (by omega)), ce_O hk], of_at ht⟩, p⟩
theorem g_ob {ci : Nat} (h : US ad S M) (hk : kt (20 + ci) k) : hob M (ad k) ci := ⟨_, by rw [h.1.1 k (kt_0 hk (by omega)), ce_O hk]⟩
theorem ix_in {x : Int32} {i : Int} (hx : x = Int32.ofInt i) (h0 : 0 ≤ i) (h1 : i < alen k) : vp_in x (kd k).2 ∧ (x.toNatClampNeg : Int) = i := by
  obtain ⟨n, rfl⟩ := Int.eq_ofNat_of_zero_le h0
  have h2 := alen_lt (k := k)
  unfold alen at h1 h2
  rw [hx, o32_n]
  refine ⟨vp_in_nI (by omega) (by omega), ?_⟩
  rw [nI_clamp (by omega)]
theorem g_aI {P : Int32 → Prop} {x : Int32} {i L : Int} (h : US ad S M) (hk : kt 1 k) (hl : alen k = L) (hx : x = Int32.ofInt i) (hi : 0 ≤ i ∧ i < L) (p : P (Int32.ofInt (S k i))) : ∃ v : Int32, aI M (ad k) x v ∧ P v := by
  obtain ⟨h1, h2⟩ := ix_in hx hi.1 (by rw [hl]; exact hi.2)
  refine ⟨_, ⟨_, _, by rw [h.1.1 k (kt_0 hk (by omega)), ce_1 hk], h1, rfl⟩, ?_⟩
  simp only [h2]
  exact p
theorem g_aZ {P : Int32 → Prop} {x : Int32} {i L : Int} (h : US ad S M) (hk : kt 2 k) (hl : alen k = L) (hx : x = Int32.ofInt i) (hi : 0 ≤ i ∧ i < L) (p : P (Int32.ofInt (S k i))) : ∃ v : Int32, aZ M (ad k) x v ∧ P v := by
  obtain ⟨h1, h2⟩ := ix_in hx hi.1 (by rw [hl]; exact hi.2)
  refine ⟨_, ⟨_, _, by rw [h.1.1 k (kt_0 hk (by omega)), ce_2 hk], h1, rfl⟩, ?_⟩
  simp only [h2]
  exact p
theorem g_aJ {P : Int64 → Prop} {x : Int32} {i L : Int} (h : US ad S M) (hk : kt 3 k) (hl : alen k = L) (hx : x = Int32.ofInt i) (hi : 0 ≤ i ∧ i < L) (p : P (Int64.ofInt (S k i))) : ∃ v : Int64, aJ M (ad k) x v ∧ P v := by
  obtain ⟨h1, h2⟩ := ix_in hx hi.1 (by rw [hl]; exact hi.2)
  refine ⟨_, ⟨_, _, by rw [h.1.1 k (kt_0 hk (by omega)), ce_3 hk], h1, rfl⟩, ?_⟩
  simp only [h2]
  exact p
theorem g_aA {P : Nat → Prop} {t : Nat} {x : Int32} {i L y : Int} (h : US ad S M) (hk : kt (10 + t) k) (ht : t < 10) (hl : alen k = L) (hx : x = Int32.ofInt i) (hi : 0 ≤ i ∧ i < L) (hy : rk k i = y) (p : P (ad y)) : ∃ v : Nat, aA t M (ad k) x v ∧ P v := by
  obtain ⟨h1, h2⟩ := ix_in hx hi.1 (by rw [hl]; exact hi.2)
  refine ⟨ad (rk k i), ⟨_, _, by rw [h.1.1 k (kt_0 hk (by omega)), ce_A hk ht], h1, ?_⟩, by rw [hy]; exact p⟩
  have hl2 : i < ((kd k).2 : Int) := by
    have : alen k = ((kd k).2 : Int) := rfl
    omega
  have e2 : x.toNatClampNeg < (kd k).2 := by omega
  simp only [if_pos e2, h2]
theorem g_aL {P : Nat → Prop} {t : Nat} {L : Int} (h : US ad S M) (hk : kt (t + 1) k) (ht : t < 3) (hl : alen k = L) (p : P L.toNat) : ∃ n : Nat, aL t M (ad k) n ∧ P n := by
  have e : L.toNat = (kd k).2 := by rw [← hl]; unfold alen; omega
  rw [e] at p
  rcases (show t = 0 ∨ t = 1 ∨ t = 2 by omega) with rfl | rfl | rfl
  · exact ⟨_, ⟨_, by rw [h.1.1 k (kt_0 hk (by omega)), ce_1 hk], rfl⟩, p⟩
  · exact ⟨_, ⟨_, by rw [h.1.1 k (kt_0 hk (by omega)), ce_2 hk], rfl⟩, p⟩
  · exact ⟨_, ⟨_, by rw [h.1.1 k (kt_0 hk (by omega)), ce_3 hk], rfl⟩, p⟩
/-- stores -/
theorem US.up {j v : Int} {e : hE} (h : US ad S M) (hk : ¬ (kd k).1 = 0) (he : e = cel ad (up S k j v) k) (h1 : ty k j = 1 → rI v) (h2 : ty k j = 2 → rJ v) (h3 : ty k j = 3 → v = 130 ∨ v = 134) : US ad (up S k j v) (va_up M (ad k) (some e)) := by
  subst he
  exact ⟨h.1.set hk (fun i hi => ce_o hi), rng_up h.2 h1 h2 h3⟩
theorem of_set {ci j t : Nat} {v : Int} {x : Value} (ht : (oTs ci)[j]? = some t) (hx : x = fv ad (up S k j v) k j t) : ((List.range (oTs ci).length).map (fun j => fv ad S k j ((oTs ci).getD j 0))).set j x = (List.range (oTs ci).length).map (fun i => fv ad (up S k j v) k i ((oTs ci).getD i 0)) := by
  have h1 := (List.getElem?_eq_some_iff.mp ht).1
  apply List.ext_getElem?
  intro i
  rw [List.getElem?_set]
  simp only [List.length_map, List.length_range]
  by_cases h2 : j = i
  · subst h2
    rw [if_pos rfl, if_pos h1, List.getElem?_map, List.getElem?_range h1]
    show _ = some (fv ad (up S k j v) k j ((oTs ci).getD j 0))
    rw [List.getD_eq_getElem?_getD, ht, hx]
    rfl
  · rw [if_neg h2, List.getElem?_map, List.getElem?_map]
    by_cases h3 : i < (oTs ci).length
    · rw [List.getElem?_range h3]
      show some (fv ad S k i ((oTs ci).getD i 0)) = some (fv ad (up S k j v) k i ((oTs ci).getD i 0))
      have e : up S k j v k i = S k i := up_j (by omega)
      unfold fv rv
      rw [e]
    · rw [List.getElem?_eq_none (by rw [List.length_range]; omega)]
      rfl
theorem g_pI {P : Hp → Prop} {ci j : Nat} {jz v : Int} {x : Int32} (h : US ad S M) (hk : kt (20 + ci) k) (ht : (oTs ci)[j]? = some 0) (hz : (j : Int) = jz) (hx : x = Int32.ofInt v) (hr : rI v) (p : ∀ (S1 : St) (M1 : Hp), S1 = up S k jz v → US ad S1 M1 → P M1) : ∃ M1 : Hp, pF M (ad k) ci j (.int x) M1 ∧ P M1 := by
  subst hz
  have t1 : ty k j = 1 := ty_f hk ht (by omega)
  refine ⟨_, ⟨_, by rw [h.1.1 k (kt_0 hk (by omega)), ce_O hk], ?_, rfl⟩, p _ _ rfl (h.up (kt_0 hk (by omega)) ?_ (fun _ => hr) (fun q => by omega) (fun q => by omega))⟩
  · rw [List.length_map, List.length_range]
    exact (List.getElem?_eq_some_iff.mp ht).1
  · rw [ce_O hk, of_set ht]
    unfold fv
    rw [if_pos rfl, up_s, hx]
theorem g_pJ {P : Hp → Prop} {ci j : Nat} {jz v : Int} {x : Int64} (h : US ad S M) (hk : kt (20 + ci) k) (ht : (oTs ci)[j]? = some 1) (hz : (j : Int) = jz) (hx : x = Int64.ofInt v) (hr : rJ v) (p : ∀ (S1 : St) (M1 : Hp), S1 = up S k jz v → US ad S1 M1 → P M1) : ∃ M1 : Hp, pF M (ad k) ci j (.long x) M1 ∧ P M1 := by
  subst hz
  have t1 : ty k j = 2 := ty_f hk ht (by omega)
  refine ⟨_, ⟨_, by rw [h.1.1 k (kt_0 hk (by omega)), ce_O hk], ?_, rfl⟩, p _ _ rfl (h.up (kt_0 hk (by omega)) ?_ (fun q => by omega) (fun _ => hr) (fun q => by omega))⟩
  · rw [List.length_map, List.length_range]
    exact (List.getElem?_eq_some_iff.mp ht).1
  · rw [ce_O hk, of_set ht]
    unfold fv
    rw [if_neg (by omega), if_pos rfl, up_s, hx]
theorem g_pR {P : Hp → Prop} {j : Nat} {jz v : Int} (h : US ad S M) (hj : j = 7 ∨ j = 8) (hz : (j : Int) = jz) (hr : v = 130 ∨ v = 134) (p : ∀ (S1 : St) (M1 : Hp), S1 = up S 100 jz v → US ad S1 M1 → P M1) : ∃ M1 : Hp, pF M (ad 100) 0 j (.ref (ad v)) M1 ∧ P M1 := by
  subst hz
  have ht : (oTs 0)[j]? = some 2 := by rcases hj with rfl | rfl <;> rfl
  have hk : kt (20 + 0) 100 := by decide
  have t1 : ty 100 j = 3 := by rcases hj with rfl | rfl <;> decide
  refine ⟨_, ⟨_, by rw [h.1.1 100 (kt_0 hk (by omega)), ce_O hk], ?_, rfl⟩, p _ _ rfl (h.up (kt_0 hk (by omega)) ?_ (fun q => by omega) (fun q => by omega) (fun _ => hr))⟩
  · rw [List.length_map, List.length_range]
    exact (List.getElem?_eq_some_iff.mp ht).1
  · rw [ce_O hk, of_set ht]
    unfold fv rv
    rw [if_neg (by omega), if_neg (by omega), if_pos ⟨rfl, by omega⟩, up_s]
theorem g_sI {P : Hp → Prop} {x y : Int32} {i v L : Int} (h : US ad S M) (hk : kt 1 k) (hl : alen k = L) (hx : x = Int32.ofInt i) (hi : 0 ≤ i ∧ i < L) (hy : y = Int32.ofInt v) (hr : rI v) (p : ∀ (S1 : St) (M1 : Hp), S1 = up S k i v → US ad S1 M1 → P M1) : ∃ M1 : Hp, sI M (ad k) x y M1 ∧ P M1 := by
  obtain ⟨h1, h2⟩ := ix_in hx hi.1 (by rw [hl]; exact hi.2)
  refine ⟨_, ⟨_, _, by rw [h.1.1 k (kt_0 hk (by omega)), ce_1 hk], h1, rfl⟩, p _ _ rfl (h.up (kt_0 hk (by omega)) ?_ (fun _ => hr) (fun q => by rw [ty_1 (Or.inl hk)] at q; omega) (fun q => by rw [ty_1 (Or.inl hk)] at q; omega))⟩
  rw [ce_1 hk]
  congr 4
  funext j
  unfold upd
  by_cases hj : j = x.toNatClampNeg
  · rw [if_pos hj, hj, h2, up_s, hy]
  · rw [if_neg hj, up_j (by omega)]
theorem g_sZ {P : Hp → Prop} {x y : Int32} {i v L : Int} (h : US ad S M) (hk : kt 2 k) (hl : alen k = L) (hx : x = Int32.ofInt i) (hi : 0 ≤ i ∧ i < L) (hy : y = Int32.ofInt v) (hr : v = 0 ∨ v = 1) (p : ∀ (S1 : St) (M1 : Hp), S1 = up S k i v → US ad S1 M1 → P M1) : ∃ M1 : Hp, sZ M (ad k) x y M1 ∧ P M1 := by
  obtain ⟨h1, h2⟩ := ix_in hx hi.1 (by rw [hl]; exact hi.2)
  have hn : vp_nar .boolean y = y := by subst hy; rcases hr with rfl | rfl <;> decide
  refine ⟨_, ⟨_, _, by rw [h.1.1 k (kt_0 hk (by omega)), ce_2 hk], h1, rfl⟩, p _ _ rfl (h.up (kt_0 hk (by omega)) ?_ (fun _ => by constructor <;> omega) (fun q => by rw [ty_1 (Or.inr hk)] at q; omega) (fun q => by rw [ty_1 (Or.inr hk)] at q; omega))⟩
  rw [ce_2 hk, hn]
  congr 4
  funext j
  unfold upd
  by_cases hj : j = x.toNatClampNeg
  · rw [if_pos hj, hj, h2, up_s, hy]
  · rw [if_neg hj, up_j (by omega)]
theorem g_sJ {P : Hp → Prop} {x : Int32} {y : Int64} {i v L : Int} (h : US ad S M) (hk : kt 3 k) (hl : alen k = L) (hx : x = Int32.ofInt i) (hi : 0 ≤ i ∧ i < L) (hy : y = Int64.ofInt v) (hr : rJ v) (p : ∀ (S1 : St) (M1 : Hp), S1 = up S k i v → US ad S1 M1 → P M1) : ∃ M1 : Hp, sJ M (ad k) x y M1 ∧ P M1 := by
  obtain ⟨h1, h2⟩ := ix_in hx hi.1 (by rw [hl]; exact hi.2)
  refine ⟨_, ⟨_, _, by rw [h.1.1 k (kt_0 hk (by omega)), ce_3 hk], h1, rfl⟩, p _ _ rfl (h.up (kt_0 hk (by omega)) ?_ (fun q => by rw [ty_3 hk] at q; omega) (fun _ => hr) (fun q => by rw [ty_3 hk] at q; omega))⟩
  rw [ce_3 hk]
  congr 5
  funext j
  unfold vp_updL
  by_cases hj : j = x.toNatClampNeg
  · rw [if_pos hj, hj, h2, up_s, hy]
  · rw [if_neg hj, up_j (by omega)]
end CE
