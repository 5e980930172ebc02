/-! THE START: making the objects -/
section HP
variable {kk : Int → Prop} {ad : Int → Nat} {F : Int → hE} {M : Hp}
theorem r_sub {kk2 : Int → Prop} (h : rq kk ad F M) (hs : ∀ k, kk2 k → kk k) : rq kk2 ad F M := ⟨fun k hk => h.1 k (hs k hk), fun i j hi hj => h.2 i j (hs i hi) (hs j hj)⟩
theorem r_new {P : Nat → Hp → Prop} {c : hE} (h : rq kk ad F M) (i : Int) (hi : ¬ kk i) (p : ∀ (ad1 : Int → Nat) (F1 : Int → hE) (M1 : Hp), rq (fun k => k = i ∨ kk k) ad1 F1 M1 → (∀ k, kk k → ad1 k = ad k) → F1 i = c → (∀ k, k ≠ i → F1 k = F k) → P (ad1 i) M1) : ∀ a : Nat, M a = none → ∀ M1 : Hp, M1 = va_up M a (some c) → P a M1 := by
  intro a ha M1 e1
  have ne : ∀ k, kk k → k ≠ i := fun k hk e => hi (e ▸ hk)
  have na : ∀ k, kk k → ad k ≠ a := fun k hk e => by
    have := h.1 k hk
    rw [e, ha] at this
    cases this
  obtain ⟨ad1, ea⟩ : ∃ ad1 : Int → Nat, ad1 = fun k => if k = i then a else ad k := ⟨_, rfl⟩
  obtain ⟨F1, eF⟩ : ∃ F1 : Int → hE, F1 = fun k => if k = i then c else F k := ⟨_, rfl⟩
  have a0 : ad1 i = a := by rw [ea]; exact if_pos rfl
  have a1 : ∀ k, kk k → ad1 k = ad k := fun k hk => by rw [ea]; exact if_neg (ne k hk)
  have f0 : F1 i = c := by rw [eF]; exact if_pos rfl
  have f1 : ∀ k, k ≠ i → F1 k = F k := fun k hk => by rw [eF]; exact if_neg hk
  have key := p ad1 F1 M1 ⟨fun k hk => ?_, fun x y hx hy => ?_⟩ a1 f0 f1
  · rw [a0] at key
    exact key
  · rw [e1]
    rcases hk with hk | hk
    · rw [hk, a0, f0]
      unfold va_up
      rw [if_pos rfl]
    · rw [a1 k hk, f1 k (ne k hk)]
      unfold va_up
      rw [if_neg (na k hk)]
      exact h.1 k hk
  · intro e
    rcases hx with hx | hx <;> rcases hy with hy | hy
    · rw [hx, hy]
    · rw [hx, a0, a1 y hy] at e
      exact absurd e.symm (na y hy)
    · rw [hy, a0, a1 x hx] at e
      exact absurd e (na x hx)
    · rw [a1 x hx, a1 y hy] at e
      exact h.2 x y hx hy e
theorem r_upd {P : Hp → Prop} {c : hE} (h : rq kk ad F M) {i : Int} (hi : kk i) (p : ∀ (F1 : Int → hE) (M1 : Hp), rq kk ad F1 M1 → F1 i = c → (∀ k, k ≠ i → F1 k = F k) → P M1) : P (va_up M (ad i) (some c)) := by
  obtain ⟨F1, eF⟩ : ∃ F1 : Int → hE, F1 = fun k => if k = i then c else F k := ⟨_, rfl⟩
  have f0 : F1 i = c := by rw [eF]; exact if_pos rfl
  have f1 : ∀ k, k ≠ i → F1 k = F k := fun k hk => by rw [eF]; exact if_neg hk
  have hs := h.set (F1 := F1) hi f1
  rw [f0] at hs
  exact p _ _ hs f0 f1
theorem r_pF {P : Hp → Prop} {ci j : Nat} {v : Value} {fs : List Value} (h : rq kk ad F M) {i : Int} (hi : kk i) (hF : F i = .inr (ci, fs)) (hj : j < fs.length) (p : ∀ (F1 : Int → hE) (M1 : Hp), rq kk ad F1 M1 → F1 i = .inr (ci, fs.set j v) → (∀ k, k ≠ i → F1 k = F k) → P M1) : ∃ M1 : Hp, pF M (ad i) ci j v M1 ∧ P M1 :=
  ⟨_, ⟨fs, by rw [h.1 i hi, hF], hj, rfl⟩, r_upd h hi p⟩
theorem r_fA {P : Nat → Prop} {ci j : Nat} {fs : List Value} (h : rq kk ad F M) {i y : Int} (hi : kk i) (hF : F i = .inr (ci, fs)) (hj : fs[j]? = some (.ref (ad y))) (p : P (ad y)) : ∃ a : Nat, fA M (ad i) ci j a ∧ P a := ⟨_, ⟨fs, by rw [h.1 i hi, hF], hj⟩, p⟩
theorem r_sA {P : Hp → Prop} {t ci n : Nat} {f : Nat → Option Nat} {fs : List Value} {x : Int32} {p0 : Nat} (h : rq kk ad F M) {i y : Int} (hi : kk i) (hy : kk y) (hF : F i = .inl (t, n, .inr (.inr (.inr (.inr f))))) (hY : F y = .inr (ci, fs)) (hx : x = Int32.ofInt p0) (hp : p0 < n) (hn : n < 2147483648) (p : ∀ (F1 : Int → hE) (M1 : Hp), rq kk ad F1 M1 → F1 i = .inl (t, n, .inr (.inr (.inr (.inr (va_up f p0 (some (ad y))))))) → (∀ k, k ≠ i → F1 k = F k) → P M1) : ∃ M1 : Hp, sA t ci M (ad i) x (ad y) M1 ∧ P M1 := by
  have e : x = nI p0 := by rw [hx, o32_n]
  have ec : x.toNatClampNeg = p0 := by
    rw [e]
    unfold nI
    have := Int32.toInt_ofNat_of_lt (n := p0) (by omega)
    show (Int32.ofNat p0).toInt.toNat = p0
    omega
  refine ⟨_, ⟨n, f, by rw [h.1 i hi, hF], ?_, ⟨fs, by rw [h.1 y hy, hY]⟩, rfl⟩, ?_⟩
  · rw [e]
    exact vp_in_nI hp (by omega)
  · rw [ec]
    exact r_upd h hi p
/-- int[8][80] -/
theorem r_mna {P : Nat → Hp → Prop} (h : rq kk ad F M) (i : Int) (hi : ∀ k, i ≤ k → k ≤ i + 8 → ¬ kk k) (p : ∀ (ad1 : Int → Nat) (F1 : Int → hE) (M1 : Hp), rq (fun k => (i ≤ k ∧ k ≤ i + 8) ∨ kk k) ad1 F1 M1 → (∀ k, kk k → ad1 k = ad k) → F1 i = .inl (6, 8, .inr (.inr (.inr (.inr (fun j => if j < 8 then some (ad1 (i + (1 + j))) else none))))) → (∀ k, i < k → k ≤ i + 8 → F1 k = .inl (0, 80, .inl (fun _ => 0))) → (∀ k, ¬ (i ≤ k ∧ k ≤ i + 8) → F1 k = F k) → P (ad1 i) M1) : ∀ a : Nat, (∀ j : Nat, M (a + j) = none) → ∀ M1 : Hp, M1 = mnaM M a 8 80 → P a M1 := by
  intro a ha M1 e1
  have ne : ∀ k, kk k → ¬ (i ≤ k ∧ k ≤ i + 8) := fun k hk e => hi k e.1 e.2 hk
  have na : ∀ k, kk k → ad k < a := fun k hk => by
    by_cases hl : ad k < a
    · exact hl
    · have h1 := h.1 k hk
      have h2 := ha (ad k - a)
      rw [show a + (ad k - a) = ad k by omega, h1] at h2
      cases h2
  obtain ⟨ad1, ea⟩ : ∃ ad1 : Int → Nat, ad1 = fun k => if i ≤ k ∧ k ≤ i + 8 then a + (k - i).toNat else ad k := ⟨_, rfl⟩
  have a1 : ∀ k, i ≤ k → k ≤ i + 8 → ad1 k = a + (k - i).toNat := fun k k1 k2 => by rw [ea]; exact if_pos ⟨k1, k2⟩
  have a2 : ∀ k, kk k → ad1 k = ad k := fun k hk => by rw [ea]; exact if_neg (ne k hk)
  have a0 : ad1 i = a := by rw [a1 i (by omega) (by omega)]; omega
  obtain ⟨F1, eF⟩ : ∃ F1 : Int → hE, F1 = fun k => if k = i then .inl (6, 8, .inr (.inr (.inr (.inr (fun j => if j < 8 then some (ad1 (i + (1 + j))) else none))))) else if i ≤ k ∧ k ≤ i + 8 then .inl (0, 80, .inl (fun _ => 0)) else F k := ⟨_, rfl⟩
  have f0 : F1 i = .inl (6, 8, .inr (.inr (.inr (.inr (fun j => if j < 8 then some (ad1 (i + (1 + j))) else none))))) := by rw [eF]; exact if_pos rfl
  have f1 : ∀ k, i < k → k ≤ i + 8 → F1 k = .inl (0, 80, .inl (fun _ => 0)) := fun k k1 k2 => by
    rw [eF]
    exact (if_neg (show ¬ k = i by omega)).trans (if_pos (by omega))
  have f2 : ∀ k, ¬ (i ≤ k ∧ k ≤ i + 8) → F1 k = F k := fun k hk => by
    rw [eF]
    exact (if_neg (show ¬ k = i by omega)).trans (if_neg hk)
  have key := p ad1 F1 M1 ⟨fun k hk => ?_, fun x y hx hy => ?_⟩ a2 f0 f1 f2
  · rw [a0] at key
    exact key
  · rw [e1]
    unfold mnaM
    rcases hk with hk | hk
    · rw [a1 k hk.1 hk.2]
      by_cases hki : k = i
      · subst hki
        rw [if_pos (by omega), f0]
        congr 8
        funext j
        by_cases hj : j < 8
        · rw [if_pos hj, if_pos hj, a1 _ (by omega) (by omega)]
          congr 1
          omega
        · rw [if_neg hj, if_neg hj]
      · rw [if_neg (by omega), if_pos (by omega), f1 k (by omega) (by omega)]
    · have n1 := na k hk
      have n2 := ne k hk
      rw [a2 k hk, if_neg (by omega), if_neg (by omega), f2 k n2]
      exact h.1 k hk
  · intro e
    rcases hx with hx | hx <;> rcases hy with hy | hy
    · rw [a1 x hx.1 hx.2, a1 y hy.1 hy.2] at e
      omega
    · rw [a1 x hx.1 hx.2, a2 y hy] at e
      have := na y hy
      omega
    · rw [a2 x hx, a1 y hy.1 hy.2] at e
      have := na x hx
      omega
    · rw [a2 x hx, a2 y hy] at e
      exact h.2 x y hx hy e
end HP
