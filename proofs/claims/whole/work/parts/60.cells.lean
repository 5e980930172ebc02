/-! STAGE 2, PURE. All cells by keys: ad gives a key's address, F its cell; keys that are in use (kk) have addresses apart. -/
def rp (kk : Nat → Prop) (ad : Nat → Nat) (F : Nat → hE) (M : Hp) : Prop := (∀ i, kk i → M (ad i) = some (F i)) ∧ ∀ i j, kk i → kk j → ad i = ad j → i = j
section RP
variable {kk : Nat → Prop} {ad : Nat → Nat} {F : Nat → hE} {M : Hp}
theorem rp.get (h : rp kk ad F M) {i : Nat} (hi : kk i) : M (ad i) = some (F i) := h.1 i hi
theorem rp.set (h : rp kk ad F M) {i : Nat} (hi : kk i) (e : hE) : rp kk ad (va_up F i e) (va_up M (ad i) (some e)) := by
  refine ⟨fun j hj => ?_, h.2⟩
  by_cases hji : j = i
  · subst hji
    rw [va_up, if_pos rfl, va_up, if_pos rfl]
  · rw [va_up, if_neg (fun e => hji (h.2 j i hj hi e)), va_up, if_neg hji]
    exact h.1 j hj
theorem q_fI {P : Int32 → Prop} (h : rp kk ad F M) {i : Nat} (hi : kk i) {ci k : Nat} {fs : List Value} {x : Int32} (hF : F i = .inr (ci, fs)) (hk : fs[k]? = some (.int x)) (p : P x) : ∃ v : Int32, fI M (ad i) ci k v ∧ P v :=
  ⟨x, ⟨fs, by rw [h.1 i hi, hF], hk⟩, p⟩
theorem q_fJ {P : Int64 → Prop} (h : rp kk ad F M) {i : Nat} (hi : kk i) {ci k : Nat} {fs : List Value} {x : Int64} (hF : F i = .inr (ci, fs)) (hk : fs[k]? = some (.long x)) (p : P x) : ∃ v : Int64, fJ M (ad i) ci k v ∧ P v :=
  ⟨x, ⟨fs, by rw [h.1 i hi, hF], hk⟩, p⟩
theorem q_fA {P : Nat → Prop} (h : rp kk ad F M) {i : Nat} (hi : kk i) {ci k : Nat} {fs : List Value} {x : Nat} (hF : F i = .inr (ci, fs)) (hk : fs[k]? = some (.ref x)) (p : P x) : ∃ v : Nat, fA M (ad i) ci k v ∧ P v :=
  ⟨x, ⟨fs, by rw [h.1 i hi, hF], hk⟩, p⟩
theorem q_pF {P : Hp → Prop} (h : rp kk ad F M) {i : Nat} (hi : kk i) {ci k : Nat} {fs : List Value} {v : Value} (hF : F i = .inr (ci, fs)) (hk : k < fs.length) (p : ∀ M1, rp kk ad (va_up F i (.inr (ci, fs.set k v))) M1 → P M1) : ∃ M1 : Hp, pF M (ad i) ci k v M1 ∧ P M1 :=
  ⟨_, ⟨fs, by rw [h.1 i hi, hF], hk, rfl⟩, p _ (h.set hi _)⟩
theorem q_aI {P : Int32 → Prop} (h : rp kk ad F M) {i : Nat} (hi : kk i) {n : Nat} {f : Nat → Int32} {x : Int32} (hF : F i = .inl (0, n, .inl f)) (j : Nat) (hx : x = nI j) (hj : j < n) (hn : n < 2 ^ 31) (p : P (f j)) : ∃ v : Int32, aI M (ad i) x v ∧ P v := by
  subst hx
  exact ⟨f j, ⟨n, f, by rw [h.1 i hi, hF], vp_in_nI hj hn, by rw [nI_clamp (by omega)]⟩, p⟩
theorem q_aZ {P : Int32 → Prop} (h : rp kk ad F M) {i : Nat} (hi : kk i) {n : Nat} {f : Nat → Int32} {x : Int32} (hF : F i = .inl (1, n, .inl f)) (j : Nat) (hx : x = nI j) (hj : j < n) (hn : n < 2 ^ 31) (p : P (f j)) : ∃ v : Int32, aZ M (ad i) x v ∧ P v := by
  subst hx
  exact ⟨f j, ⟨n, f, by rw [h.1 i hi, hF], vp_in_nI hj hn, by rw [nI_clamp (by omega)]⟩, p⟩
theorem q_aJ {P : Int64 → Prop} (h : rp kk ad F M) {i : Nat} (hi : kk i) {n : Nat} {f : Nat → Int64} {x : Int32} (hF : F i = .inl (2, n, .inr (.inl f))) (j : Nat) (hx : x = nI j) (hj : j < n) (hn : n < 2 ^ 31) (p : P (f j)) : ∃ v : Int64, aJ M (ad i) x v ∧ P v := by
  subst hx
  exact ⟨f j, ⟨n, f, by rw [h.1 i hi, hF], vp_in_nI hj hn, by rw [nI_clamp (by omega)]⟩, p⟩
theorem q_aA {P : Nat → Prop} (h : rp kk ad F M) {i t : Nat} (hi : kk i) {n y : Nat} {f : Nat → Option Nat} {x : Int32} (hF : F i = .inl (t, n, .inr (.inr (.inr (.inr f))))) (j : Nat) (hx : x = nI j) (hj : j < n) (hn : n < 2 ^ 31) (hy : f j = some y) (p : P y) : ∃ v : Nat, aA t M (ad i) x v ∧ P v := by
  subst hx
  exact ⟨y, ⟨n, f, by rw [h.1 i hi, hF], vp_in_nI hj hn, by rw [nI_clamp (by omega)]; exact hy⟩, p⟩
theorem q_aL {P : Nat → Prop} (h : rp kk ad F M) {i t : Nat} (hi : kk i) {x : vp_A} (hF : F i = .inl (t, x)) (p : P x.1) : ∃ n : Nat, aL t M (ad i) n ∧ P n :=
  ⟨x.1, ⟨x, by rw [h.1 i hi, hF], rfl⟩, p⟩
theorem q_sI {P : Hp → Prop} (h : rp kk ad F M) {i : Nat} (hi : kk i) {n : Nat} {f : Nat → Int32} {x v : Int32} (hF : F i = .inl (0, n, .inl f)) (j : Nat) (hx : x = nI j) (hj : j < n) (hn : n < 2 ^ 31) (p : ∀ M1, rp kk ad (va_up F i (.inl (0, n, .inl (upd f j v)))) M1 → P M1) : ∃ M1 : Hp, sI M (ad i) x v M1 ∧ P M1 := by
  subst hx
  exact ⟨_, ⟨n, f, by rw [h.1 i hi, hF], vp_in_nI hj hn, by rw [nI_clamp (by omega)]⟩, p _ (h.set hi _)⟩
theorem q_sZ {P : Hp → Prop} (h : rp kk ad F M) {i : Nat} (hi : kk i) {n : Nat} {f : Nat → Int32} {x v : Int32} (hF : F i = .inl (1, n, .inl f)) (j : Nat) (hx : x = nI j) (hj : j < n) (hn : n < 2 ^ 31) (hv : v = 0 ∨ v = 1) (p : ∀ M1, rp kk ad (va_up F i (.inl (1, n, .inl (upd f j v)))) M1 → P M1) : ∃ M1 : Hp, sZ M (ad i) x v M1 ∧ P M1 := by
  subst hx
  have hnar : vp_nar .boolean v = v := by rcases hv with rfl | rfl <;> decide
  exact ⟨_, ⟨n, f, by rw [h.1 i hi, hF], vp_in_nI hj hn, by rw [nI_clamp (by omega), hnar]⟩, p _ (h.set hi _)⟩
theorem q_sJ {P : Hp → Prop} (h : rp kk ad F M) {i : Nat} (hi : kk i) {n : Nat} {f : Nat → Int64} {x : Int32} {v : Int64} (hF : F i = .inl (2, n, .inr (.inl f))) (j : Nat) (hx : x = nI j) (hj : j < n) (hn : n < 2 ^ 31) (p : ∀ M1, rp kk ad (va_up F i (.inl (2, n, .inr (.inl (vp_updL f j v))))) M1 → P M1) : ∃ M1 : Hp, sJ M (ad i) x v M1 ∧ P M1 := by
  subst hx
  exact ⟨_, ⟨n, f, by rw [h.1 i hi, hF], vp_in_nI hj hn, by rw [nI_clamp (by omega)]⟩, p _ (h.set hi _)⟩
theorem q_ob (h : rp kk ad F M) {i : Nat} (hi : kk i) {ci : Nat} {fs : List Value} (hF : F i = .inr (ci, fs)) : hob M (ad i) ci := ⟨fs, by rw [h.1 i hi, hF]⟩
end RP
/-! THE REFERENCE'S STATE: its fields by their places: sc the ints and booleans, bd the long, ia the arrays of ints and booleans, la those of longs -/
def moZ (f : Nat) : Bool := f == 13 || f == 20
def moJ (f : Nat) : Bool := f == 19 || f == 21 || f == 22 || f == 23 || f == 24 || f == 31
def moA (f : Nat) : Bool := (5 ≤ f && f ≤ 13) || (15 ≤ f && f ≤ 32)
def moLen (f : Nat) : Nat := if f = 5 ∨ f = 9 then 6 else if f = 6 ∨ f = 7 ∨ f = 8 then 360 else if f = 10 ∨ f = 11 ∨ f = 12 then 120 else if f = 13 then 486 else if f = 20 then 64 else if f = 22 then 56 else if 25 ≤ f ∧ f ≤ 30 then 486 else if f = 31 ∨ f = 32 then 81 else 8
def moF (ad : Nat → Nat) (sc : Nat → Int32) (bd : Int64) : List Value := (List.range 36).map (fun f => if moA f then .ref (ad (1000 + f)) else if f = 35 then .long bd else .int (sc f))
def moC (ia : Nat → Nat → Int32) (la : Nat → Nat → Int64) (f : Nat) : hE := if moJ f then .inl (2, moLen f, .inr (.inl (la f))) else if moZ f then .inl (1, moLen f, .inl (ia f)) else .inl (0, moLen f, .inl (ia f))
def moS (ad : Nat → Nat) (F : Nat → hE) (sc : Nat → Int32) (bd : Int64) (ia : Nat → Nat → Int32) (la : Nat → Nat → Int64) : Prop := F 1000 = .inr (6, moF ad sc bd) ∧ ∀ f, moA f = true → F (1000 + f) = moC ia la f
def moK (kk : Nat → Prop) : Prop := kk 1000 ∧ ∀ f, moA f = true → kk (1000 + f)
/-- nothing but the reference's own cells has changed -/
def moFr (F F1 : Nat → hE) : Prop := ∀ k, k < 1000 ∨ 1036 ≤ k → F1 k = F k
theorem moFr.rf {F : Nat → hE} : moFr F F := fun _ _ => rfl
theorem moFr.tr {F F1 F2 : Nat → hE} (h : moFr F F1) (g : moFr F1 F2) : moFr F F2 := fun k hk => (g k hk).trans (h k hk)
theorem moFr.up {F : Nat → hE} {f : Nat} {e : hE} (hf : f < 36) : moFr F (va_up F (1000 + f) e) := fun k hk => by
  rw [va_up, if_neg (by omega)]
section MO
variable {kk : Nat → Prop} {ad : Nat → Nat} {F : Nat → hE} {M : Hp} {sc : Nat → Int32} {bd : Int64} {ia : Nat → Nat → Int32} {la : Nat → Nat → Int64}
theorem moF_I {k : Nat} (hk : k < 35) (hA : moA k = false) : (moF ad sc bd)[k]? = some (.int (sc k)) := by
  unfold moF
  rw [List.getElem?_map, List.getElem?_range (by omega)]
  simp [hA, show ¬ k = 35 by omega]
theorem moF_J : (moF ad sc bd)[35]? = some (.long bd) := by
  unfold moF
  rw [List.getElem?_map, List.getElem?_range (by omega)]
  simp [show moA 35 = false from rfl]
theorem moF_A {k : Nat} (hk : k < 36) (hA : moA k = true) : (moF ad sc bd)[k]? = some (.ref (ad (1000 + k))) := by
  unfold moF
  rw [List.getElem?_map, List.getElem?_range hk]
  simp [hA]
theorem moA_lt {f : Nat} (h : moA f = true) : f < 36 := by
  simp only [moA, Bool.or_eq_true, Bool.and_eq_true, decide_eq_true_eq] at h
  omega
theorem moLen_lt (f : Nat) : moLen f < 2 ^ 31 := by
  unfold moLen
  repeat' split
  all_goals decide
theorem moF_set {k : Nat} {x : Int32} (hk : k < 35) (hA : moA k = false) : (moF ad sc bd).set k (.int x) = moF ad (va_up sc k x) bd := by
  apply List.ext_getElem?
  intro j
  unfold moF
  rw [List.getElem?_set]
  simp only [List.length_map, List.length_range]
  by_cases h1 : k = j
  · subst h1
    rw [if_pos rfl, if_pos (by omega), List.getElem?_map, List.getElem?_range (by omega)]
    simp [hA, show ¬ k = 35 by omega, va_up]
  · rw [if_neg h1, List.getElem?_map, List.getElem?_map]
    by_cases h2 : j < 36
    · rw [List.getElem?_range h2]
      simp [va_up, show ¬ j = k from fun h => h1 h.symm]
    · rw [List.getElem?_eq_none (by rw [List.length_range]; omega)]
      rfl
theorem moF_setJ {x : Int64} : (moF ad sc bd).set 35 (.long x) = moF ad sc x := by
  apply List.ext_getElem?
  intro j
  unfold moF
  rw [List.getElem?_set]
  simp only [List.length_map, List.length_range]
  by_cases h1 : 35 = j
  · subst h1
    rw [if_pos rfl, if_pos (by omega), List.getElem?_map, List.getElem?_range (by omega)]
    simp [show moA 35 = false from rfl]
  · rw [if_neg h1, List.getElem?_map, List.getElem?_map]
    by_cases h2 : j < 36
    · rw [List.getElem?_range h2]
      simp [show ¬ j = 35 from fun h => h1 h.symm]
    · rw [List.getElem?_eq_none (by rw [List.length_range]; omega)]
      rfl
theorem m_fI {P : Int32 → Prop} (h : rp kk ad F M) (hK : moK kk) (hS : moS ad F sc bd ia la) {k : Nat} (hk : k < 35) (hA : moA k = false) (p : P (sc k)) : ∃ v : Int32, fI M (ad 1000) 6 k v ∧ P v := q_fI h hK.1 hS.1 (moF_I hk hA) p
theorem m_fJ {P : Int64 → Prop} (h : rp kk ad F M) (hK : moK kk) (hS : moS ad F sc bd ia la) (p : P bd) : ∃ v : Int64, fJ M (ad 1000) 6 35 v ∧ P v := q_fJ h hK.1 hS.1 moF_J p
theorem m_fA {P : Nat → Prop} (h : rp kk ad F M) (hK : moK kk) (hS : moS ad F sc bd ia la) {k : Nat} (hk : k < 36) (hA : moA k = true) (p : P (ad (1000 + k))) : ∃ v : Nat, fA M (ad 1000) 6 k v ∧ P v := q_fA h hK.1 hS.1 (moF_A hk hA) p
theorem m_pI {P : Hp → Prop} (h : rp kk ad F M) (hK : moK kk) (hS : moS ad F sc bd ia la) {k : Nat} {x : Int32} (hk : k < 35) (hA : moA k = false) (p : ∀ (F1 : Nat → hE) (M1 : Hp), rp kk ad F1 M1 → moS ad F1 (va_up sc k x) bd ia la → moFr F F1 → P M1) : ∃ M1 : Hp, pF M (ad 1000) 6 k (.int x) M1 ∧ P M1 := by
  refine q_pF h hK.1 hS.1 (by simp [moF]; omega) (fun M1 h1 => p _ M1 h1 ?_ (moFr.up (f := 0) (by omega)))
  refine ⟨?_, fun f hf => ?_⟩
  · rw [va_up, if_pos rfl, moF_set hk hA]
  · have h9 : ¬ 1000 + f = 1000 := fun h => by
      have h0 : f = 0 := by omega
      rw [h0] at hf
      exact absurd hf (by decide)
    rw [va_up, if_neg h9]
    exact hS.2 f hf
theorem m_pJ {P : Hp → Prop} (h : rp kk ad F M) (hK : moK kk) (hS : moS ad F sc bd ia la) {x : Int64} (p : ∀ (F1 : Nat → hE) (M1 : Hp), rp kk ad F1 M1 → moS ad F1 sc x ia la → moFr F F1 → P M1) : ∃ M1 : Hp, pF M (ad 1000) 6 35 (.long x) M1 ∧ P M1 := by
  refine q_pF h hK.1 hS.1 (by simp [moF]) (fun M1 h1 => p _ M1 h1 ?_ (moFr.up (f := 0) (by omega)))
  refine ⟨?_, fun f hf => ?_⟩
  · rw [va_up, if_pos rfl, moF_setJ]
  · have h9 : ¬ 1000 + f = 1000 := fun h => by
      have h0 : f = 0 := by omega
      rw [h0] at hf
      exact absurd hf (by decide)
    rw [va_up, if_neg h9]
    exact hS.2 f hf
theorem moC_I {f : Nat} (hJ : moJ f = false) (hZ : moZ f = false) : moC ia la f = .inl (0, moLen f, .inl (ia f)) := by
  unfold moC
  rw [hJ, hZ]
  rfl
theorem moC_Z {f : Nat} (hJ : moJ f = false) (hZ : moZ f = true) : moC ia la f = .inl (1, moLen f, .inl (ia f)) := by
  unfold moC
  rw [hJ, hZ]
  rfl
theorem moC_J {f : Nat} (hJ : moJ f = true) : moC ia la f = .inl (2, moLen f, .inr (.inl (la f))) := by
  unfold moC
  rw [hJ]
  rfl
theorem m_aI {P : Int32 → Prop} (h : rp kk ad F M) (hK : moK kk) (hS : moS ad F sc bd ia la) {f : Nat} (hA : moA f = true) (hJ : moJ f = false) (hZ : moZ f = false) {x : Int32} (j : Nat) (hx : x = nI j) (hj : j < moLen f) (p : P (ia f j)) : ∃ v : Int32, aI M (ad (1000 + f)) x v ∧ P v :=
  q_aI h (hK.2 f hA) ((hS.2 f hA).trans (moC_I hJ hZ)) j hx hj (moLen_lt f) p
theorem m_aZ {P : Int32 → Prop} (h : rp kk ad F M) (hK : moK kk) (hS : moS ad F sc bd ia la) {f : Nat} (hA : moA f = true) (hJ : moJ f = false) (hZ : moZ f = true) {x : Int32} (j : Nat) (hx : x = nI j) (hj : j < moLen f) (p : P (ia f j)) : ∃ v : Int32, aZ M (ad (1000 + f)) x v ∧ P v :=
  q_aZ h (hK.2 f hA) ((hS.2 f hA).trans (moC_Z hJ hZ)) j hx hj (moLen_lt f) p
theorem m_aJ {P : Int64 → Prop} (h : rp kk ad F M) (hK : moK kk) (hS : moS ad F sc bd ia la) {f : Nat} (hA : moA f = true) (hJ : moJ f = true) {x : Int32} (j : Nat) (hx : x = nI j) (hj : j < moLen f) (p : P (la f j)) : ∃ v : Int64, aJ M (ad (1000 + f)) x v ∧ P v :=
  q_aJ h (hK.2 f hA) ((hS.2 f hA).trans (moC_J hJ)) j hx hj (moLen_lt f) p
theorem moS_up {f : Nat} {e : hE} {ia' : Nat → Nat → Int32} {la' : Nat → Nat → Int64} (hS : moS ad F sc bd ia la) (hA : moA f = true) (he : e = moC ia' la' f) (ho : ∀ g, g ≠ f → moC ia' la' g = moC ia la g) : moS ad (va_up F (1000 + f) e) sc bd ia' la' := by
  refine ⟨?_, fun g hg => ?_⟩
  · have h9 : ¬ 1000 = 1000 + f := fun h => by
      have h0 : f = 0 := by omega
      rw [h0] at hA
      exact absurd hA (by decide)
    rw [va_up, if_neg h9]
    exact hS.1
  · by_cases hgf : g = f
    · subst hgf
      rw [va_up, if_pos rfl, he]
    · rw [va_up, if_neg (by omega), ho g hgf]
      exact hS.2 g hg
theorem m_sI {P : Hp → Prop} (h : rp kk ad F M) (hK : moK kk) (hS : moS ad F sc bd ia la) {f : Nat} (hA : moA f = true) (hJ : moJ f = false) (hZ : moZ f = false) {x v : Int32} (j : Nat) (hx : x = nI j) (hj : j < moLen f) (p : ∀ (F1 : Nat → hE) (M1 : Hp), rp kk ad F1 M1 → moS ad F1 sc bd (va_up ia f (upd (ia f) j v)) la → moFr F F1 → P M1) : ∃ M1 : Hp, sI M (ad (1000 + f)) x v M1 ∧ P M1 := by
  refine q_sI h (hK.2 f hA) ((hS.2 f hA).trans (moC_I hJ hZ)) j hx hj (moLen_lt f) (fun M1 h1 => p _ M1 h1 (moS_up hS hA ?_ ?_) (moFr.up (moA_lt hA)))
  · rw [moC_I hJ hZ, va_up, if_pos rfl]
  · intro g hg
    unfold moC
    rw [va_up, if_neg hg]
theorem m_sZ {P : Hp → Prop} (h : rp kk ad F M) (hK : moK kk) (hS : moS ad F sc bd ia la) {f : Nat} (hA : moA f = true) (hJ : moJ f = false) (hZ : moZ f = true) {x v : Int32} (j : Nat) (hx : x = nI j) (hj : j < moLen f) (hv : v = 0 ∨ v = 1) (p : ∀ (F1 : Nat → hE) (M1 : Hp), rp kk ad F1 M1 → moS ad F1 sc bd (va_up ia f (upd (ia f) j v)) la → moFr F F1 → P M1) : ∃ M1 : Hp, sZ M (ad (1000 + f)) x v M1 ∧ P M1 := by
  refine q_sZ h (hK.2 f hA) ((hS.2 f hA).trans (moC_Z hJ hZ)) j hx hj (moLen_lt f) hv (fun M1 h1 => p _ M1 h1 (moS_up hS hA ?_ ?_) (moFr.up (moA_lt hA)))
  · rw [moC_Z hJ hZ, va_up, if_pos rfl]
  · intro g hg
    unfold moC
    rw [va_up, if_neg hg]
theorem m_sJ {P : Hp → Prop} (h : rp kk ad F M) (hK : moK kk) (hS : moS ad F sc bd ia la) {f : Nat} (hA : moA f = true) (hJ : moJ f = true) {x : Int32} {v : Int64} (j : Nat) (hx : x = nI j) (hj : j < moLen f) (p : ∀ (F1 : Nat → hE) (M1 : Hp), rp kk ad F1 M1 → moS ad F1 sc bd ia (va_up la f (vp_updL (la f) j v)) → moFr F F1 → P M1) : ∃ M1 : Hp, sJ M (ad (1000 + f)) x v M1 ∧ P M1 := by
  refine q_sJ h (hK.2 f hA) ((hS.2 f hA).trans (moC_J hJ)) j hx hj (moLen_lt f) (fun M1 h1 => p _ M1 h1 (moS_up hS hA ?_ ?_) (moFr.up (moA_lt hA)))
  · rw [moC_J hJ, va_up, if_pos rfl]
  · intro g hg
    unfold moC
    rw [va_up, if_neg hg]
end MO
