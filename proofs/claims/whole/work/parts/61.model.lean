/-! THE REFERENCE'S STATE BY NUMBERS: N f j the natural in place j of array f (f = 0: the scalar of place j), Z f j the integer in place j of the long array f (Z 0 35: bound) -/
def up2 {α : Type} (N : Nat → Nat → α) (f j : Nat) (x : α) : Nat → Nat → α := fun f1 j1 => if f1 = f ∧ j1 = j then x else N f1 j1
theorem up2_s {α : Type} {N : Nat → Nat → α} {f j : Nat} {x : α} : up2 N f j x f j = x := if_pos ⟨rfl, rfl⟩
theorem up2_f {α : Type} {N : Nat → Nat → α} {f j f1 j1 : Nat} {x : α} (h : f1 ≠ f) : up2 N f j x f1 j1 = N f1 j1 := if_neg (fun q => h q.1)
theorem up2_j {α : Type} {N : Nat → Nat → α} {f j f1 j1 : Nat} {x : α} (h : j1 ≠ j) : up2 N f j x f1 j1 = N f1 j1 := if_neg (fun q => h q.2)
def moT (ad : Nat → Nat) (F : Nat → hE) (N : Nat → Nat → Nat) (Z : Nat → Nat → Int) : Prop := moS ad F (fun k => nI (N 0 k)) (Int64.ofInt (Z 0 35)) (fun f j => nI (N f j)) (fun f j => Int64.ofInt (Z f j))
theorem moS_eq {ad : Nat → Nat} {F : Nat → hE} {sc sc' : Nat → Int32} {bd bd' : Int64} {ia ia' : Nat → Nat → Int32} {la la' : Nat → Nat → Int64} (h : moS ad F sc bd ia la) (h1 : ∀ k, moA k = false → sc' k = sc k) (h2 : bd' = bd) (h3 : ∀ f j, moA f = true → ia' f j = ia f j) (h4 : ∀ f j, moA f = true → la' f j = la f j) : moS ad F sc' bd' ia' la' := by
  refine ⟨?_, fun f hf => ?_⟩
  · rw [h.1, h2]
    unfold moF
    congr 2
    apply List.map_congr_left
    intro k _
    by_cases hA : moA k = true
    · rw [if_pos hA, if_pos hA]
    · rw [if_neg hA, if_neg hA, h1 k (by simpa using hA)]
  · rw [h.2 f hf]
    unfold moC
    rw [show ia' f = ia f from funext fun j => h3 f j hf, show la' f = la f from funext fun j => h4 f j hf]
section MT
variable {kk : Nat → Prop} {ad : Nat → Nat} {F : Nat → hE} {M : Hp} {N : Nat → Nat → Nat} {Z : Nat → Nat → Int}
theorem n_fI {P : Int32 → Prop} (h : rp kk ad F M) (hK : moK kk) (hS : moT ad F N Z) {k : Nat} (hk : k < 35) (hA : moA k = false) (p : P (nI (N 0 k))) : ∃ v : Int32, fI M (ad 1000) 6 k v ∧ P v := m_fI h hK hS hk hA p
theorem n_fJ {P : Int64 → Prop} (h : rp kk ad F M) (hK : moK kk) (hS : moT ad F N Z) (p : P (Int64.ofInt (Z 0 35))) : ∃ v : Int64, fJ M (ad 1000) 6 35 v ∧ P v := m_fJ h hK hS p
theorem n_fA {P : Nat → Prop} (h : rp kk ad F M) (hK : moK kk) (hS : moT ad F N Z) {k : Nat} (hk : k < 36) (hA : moA k = true) (p : P (ad (1000 + k))) : ∃ v : Nat, fA M (ad 1000) 6 k v ∧ P v := m_fA h hK hS hk hA p
theorem n_pI {P : Hp → Prop} (h : rp kk ad F M) (hK : moK kk) (hS : moT ad F N Z) {k : Nat} {v : Int32} (x : Nat) (hv : v = nI x) (hk : k < 35) (hA : moA k = false) (p : ∀ (F1 : Nat → hE) (M1 : Hp), rp kk ad F1 M1 → moT ad F1 (up2 N 0 k x) Z → moFr F F1 → P M1) : ∃ M1 : Hp, pF M (ad 1000) 6 k (.int v) M1 ∧ P M1 := by
  refine m_pI h hK hS hk hA (fun F1 M1 h1 h2 h3 => p F1 M1 h1 (moS_eq h2 ?_ rfl ?_ (fun _ _ _ => rfl)) h3)
  · intro j _
    rw [va_up]
    by_cases hj : j = k
    · rw [if_pos hj, hj, up2_s, hv]
    · rw [if_neg hj, up2_j hj]
  · intro f j hf
    rw [up2_f (fun e => by rw [e] at hf; exact absurd hf (by decide))]
theorem n_pJ {P : Hp → Prop} (h : rp kk ad F M) (hK : moK kk) (hS : moT ad F N Z) {v : Int64} (z : Int) (hv : v = Int64.ofInt z) (p : ∀ (F1 : Nat → hE) (M1 : Hp), rp kk ad F1 M1 → moT ad F1 N (up2 Z 0 35 z) → moFr F F1 → P M1) : ∃ M1 : Hp, pF M (ad 1000) 6 35 (.long v) M1 ∧ P M1 := by
  refine m_pJ h hK hS (fun F1 M1 h1 h2 h3 => p F1 M1 h1 (moS_eq h2 (fun _ _ => rfl) (by rw [up2_s, hv]) (fun _ _ _ => rfl) ?_) h3)
  intro f j hf
  rw [up2_f (fun e => by rw [e] at hf; exact absurd hf (by decide))]
theorem n_aI {P : Int32 → Prop} (h : rp kk ad F M) (hK : moK kk) (hS : moT ad F N Z) {f : Nat} (hA : moA f = true) (hJ : moJ f = false) (hZ : moZ f = false) {x : Int32} (j : Nat) (hx : x = nI j) (hj : j < moLen f) (p : P (nI (N f j))) : ∃ v : Int32, aI M (ad (1000 + f)) x v ∧ P v := m_aI h hK hS hA hJ hZ j hx hj p
theorem n_aZ {P : Int32 → Prop} (h : rp kk ad F M) (hK : moK kk) (hS : moT ad F N Z) {f : Nat} (hA : moA f = true) (hJ : moJ f = false) (hZ : moZ f = true) {x : Int32} (j : Nat) (hx : x = nI j) (hj : j < moLen f) (p : P (nI (N f j))) : ∃ v : Int32, aZ M (ad (1000 + f)) x v ∧ P v := m_aZ h hK hS hA hJ hZ j hx hj p
theorem n_aJ {P : Int64 → Prop} (h : rp kk ad F M) (hK : moK kk) (hS : moT ad F N Z) {f : Nat} (hA : moA f = true) (hJ : moJ f = true) {x : Int32} (j : Nat) (hx : x = nI j) (hj : j < moLen f) (p : P (Int64.ofInt (Z f j))) : ∃ v : Int64, aJ M (ad (1000 + f)) x v ∧ P v := m_aJ h hK hS hA hJ j hx hj p
theorem n_sI {P : Hp → Prop} (h : rp kk ad F M) (hK : moK kk) (hS : moT ad F N Z) {f : Nat} (hA : moA f = true) (hJ : moJ f = false) (hZ : moZ f = false) {x v : Int32} (j : Nat) (hx : x = nI j) (hj : j < moLen f) (y : Nat) (hv : v = nI y) (p : ∀ (F1 : Nat → hE) (M1 : Hp), rp kk ad F1 M1 → moT ad F1 (up2 N f j y) Z → moFr F F1 → P M1) : ∃ M1 : Hp, sI M (ad (1000 + f)) x v M1 ∧ P M1 := by
  refine m_sI h hK hS hA hJ hZ j hx hj (fun F1 M1 h1 h2 h3 => p F1 M1 h1 (moS_eq h2 ?_ rfl ?_ (fun _ _ _ => rfl)) h3)
  · intro k hk
    rw [up2_f (fun e => by rw [← e] at hA; exact absurd hA (by decide))]
  · intro g i hg
    rw [va_up]
    by_cases hgf : g = f
    · rw [if_pos hgf, hgf]
      unfold upd
      by_cases hij : i = j
      · rw [if_pos hij, hij, up2_s, hv]
      · rw [if_neg hij, up2_j hij]
    · rw [if_neg hgf, up2_f hgf]
theorem n_sZ {P : Hp → Prop} (h : rp kk ad F M) (hK : moK kk) (hS : moT ad F N Z) {f : Nat} (hA : moA f = true) (hJ : moJ f = false) (hZ : moZ f = true) {x v : Int32} (j : Nat) (hx : x = nI j) (hj : j < moLen f) (y : Nat) (hv : v = nI y) (hy : y ≤ 1) (p : ∀ (F1 : Nat → hE) (M1 : Hp), rp kk ad F1 M1 → moT ad F1 (up2 N f j y) Z → moFr F F1 → P M1) : ∃ M1 : Hp, sZ M (ad (1000 + f)) x v M1 ∧ P M1 := by
  have hv01 : v = 0 ∨ v = 1 := by
    rcases (show y = 0 ∨ y = 1 by omega) with rfl | rfl
    · exact Or.inl hv
    · exact Or.inr hv
  refine m_sZ h hK hS hA hJ hZ j hx hj hv01 (fun F1 M1 h1 h2 h3 => p F1 M1 h1 (moS_eq h2 ?_ rfl ?_ (fun _ _ _ => rfl)) h3)
  · intro k hk
    rw [up2_f (fun e => by rw [← e] at hA; exact absurd hA (by decide))]
  · intro g i hg
    rw [va_up]
    by_cases hgf : g = f
    · rw [if_pos hgf, hgf]
      unfold upd
      by_cases hij : i = j
      · rw [if_pos hij, hij, up2_s, hv]
      · rw [if_neg hij, up2_j hij]
    · rw [if_neg hgf, up2_f hgf]
theorem n_sJ {P : Hp → Prop} (h : rp kk ad F M) (hK : moK kk) (hS : moT ad F N Z) {f : Nat} (hA : moA f = true) (hJ : moJ f = true) {x : Int32} {v : Int64} (j : Nat) (hx : x = nI j) (hj : j < moLen f) (z : Int) (hv : v = Int64.ofInt z) (p : ∀ (F1 : Nat → hE) (M1 : Hp), rp kk ad F1 M1 → moT ad F1 N (up2 Z f j z) → moFr F F1 → P M1) : ∃ M1 : Hp, sJ M (ad (1000 + f)) x v M1 ∧ P M1 := by
  refine m_sJ h hK hS hA hJ j hx hj (fun F1 M1 h1 h2 h3 => p F1 M1 h1 (moS_eq h2 (fun _ _ => rfl) ?_ (fun _ _ _ => rfl) ?_) h3)
  · rw [up2_f (fun e => by rw [← e] at hA; exact absurd hA (by decide))]
  · intro g i hg
    rw [va_up]
    by_cases hgf : g = f
    · rw [if_pos hgf, hgf]
      unfold vp_updL
      by_cases hij : i = j
      · rw [if_pos hij, hij, up2_s, hv]
      · rw [if_neg hij, up2_j hij]
    · rw [if_neg hgf, up2_f hgf]
theorem n_ob (h : rp kk ad F M) (hK : moK kk) (hS : moT ad F N Z) : hob M (ad 1000) 6 := q_ob h hK.1 hS.1
/-! the reference's methods -/
theorem s_isIn {a b c : Int64} {post : Int32 → Hp → Prop} (h1 : b ≤ a ∧ a ≤ c → post 1 M) (h2 : ¬ (b ≤ a ∧ a ≤ c) → post 0 M) : wpMo_isIn a b c M post := by
  unfold wpMo_isIn wMo_isIn_17 wMo_isIn_18
  refine ⟨fun h => ⟨Or.inl rfl, h2 (fun q => ?_)⟩, fun h => ⟨fun g => ⟨Or.inl rfl, h2 (fun q => ?_)⟩, fun g => ⟨Or.inr rfl, h1 ⟨?_, ?_⟩⟩⟩⟩
  · exact lg_lt_not_le h q.1
  · exact lg_lt_not_le g q.2
  · simpa using h
  · simpa using g
theorem s_told {b : Nat} {post : Int32 → Hp → Prop} {v : Int32} (h : rp kk ad F M) (hK : moK kk) (hS : moT ad F N Z) (hm : N 0 33 ≤ 1) (hb : b ≤ 1) (hv : v = nI b) (p : ∀ (F1 : Nat → hE) (M1 : Hp), rp kk ad F1 M1 → moT ad F1 (up2 N 0 33 (if b = 1 then 0 else N 0 33)) Z → moFr F F1 → post v M1) : wpMo_told (ad 1000) v M post := by
  unfold wpMo_told wMo_told_16 wMo_told_17
  have hv01 : v = 0 ∨ v = 1 := by
    rcases (show b = 0 ∨ b = 1 by omega) with rfl | rfl
    · exact Or.inl hv
    · exact Or.inr hv
  refine n_fI h hK hS (by omega) rfl ?_
  rcases (show N 0 33 = 0 ∨ N 0 33 = 1 by omega) with hm0 | hm0
  · rw [hm0] at p ⊢
    refine ⟨fun _ => ⟨Or.inl rfl, n_pI h hK hS 0 rfl (by omega) rfl (fun F1 M1 h1 h2 h3 => ⟨hv01, p F1 M1 h1 ?_ h3⟩)⟩, fun hc => absurd rfl hc⟩
    rw [ite_self]
    exact h2
  · rw [hm0] at p ⊢
    refine ⟨fun hc => absurd hc (by decide), fun _ => ⟨fun hc => ⟨Or.inr rfl, ?_⟩, fun hc => ⟨Or.inl rfl, ?_⟩⟩⟩
    · refine n_pI h hK hS 1 rfl (by omega) rfl (fun F1 M1 h1 h2 h3 => ⟨hv01, p F1 M1 h1 ?_ h3⟩)
      rcases (show b = 0 ∨ b = 1 by omega) with rfl | rfl
      · exact h2
      · rw [hv] at hc
        exact absurd hc (by decide)
    · refine n_pI h hK hS 0 rfl (by omega) rfl (fun F1 M1 h1 h2 h3 => ⟨hv01, p F1 M1 h1 ?_ h3⟩)
      rcases (show b = 0 ∨ b = 1 by omega) with rfl | rfl
      · rw [hv] at hc
        exact absurd rfl hc
      · exact h2
/-- the steps of stem s -/
def stN (N : Nat → Nat → Nat) (s : Nat) : Nat := if N 5 s = 0 then 0 else N 6 (60 * s + N 5 s - 1) / N 0 1
theorem s_stepsOf {s : Nat} {x : Int32} {post : Int32 → Hp → Prop} (h : rp kk ad F M) (hK : moK kk) (hS : moT ad F N Z) (hx : x = nI s) (hs : s < 6) (hp : N 5 s ≤ 60) (hq : ∀ j, j < 360 → N 6 j < 2 ^ 31) (h1 : 0 < N 0 1) (h2 : N 0 1 < 2 ^ 31) (p : post (nI (stN N s)) M) : wpMo_stepsOf (ad 1000) x M post := by
  subst hx
  unfold wpMo_stepsOf wMo_stepsOf_36
  refine n_fA h hK hS (by omega) rfl ?_
  refine n_aI h hK hS rfl rfl rfl s rfl hs ?_
  refine ⟨fun hc => ?_, fun hc => ?_⟩
  · have h0 : N 5 s = 0 := (nI_eq (by omega) (by decide)).mp (hc.trans nI_0.symm)
    have e : stN N s = 0 := by unfold stN; rw [if_pos h0]
    rw [e] at p
    exact p
  · have h0 : ¬ N 5 s = 0 := fun e => hc (by rw [e]; rfl)
    refine n_fA h hK hS (by omega) rfl ?_
    refine n_fA h hK hS (by omega) rfl ?_
    refine n_aI h hK hS rfl rfl rfl s rfl hs ?_
    refine n_aI h hK hS rfl rfl rfl (60 * s + N 5 s - 1) ?_ (show _ < 360 by omega) ?_
    · rw [show (60 : Int32) = nI 60 from rfl, show (1 : Int32) = nI 1 from rfl, pk_mul, nI_add, pk_sub (by omega)]
    · refine n_fI h hK hS (by omega) rfl ?_
      refine ⟨nI_ne0 h1 h2, ?_⟩
      rw [pk_div (hq _ (by omega)) h1 h2]
      have e : stN N s = N 6 (60 * s + N 5 s - 1) / N 0 1 := by unfold stN; rw [if_neg h0]
      rw [e] at p
      exact p
end MT
