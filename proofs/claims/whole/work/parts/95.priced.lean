/-! THE CLASS'S ROUNDS follow the sequence -/
section MP
variable {S T U V : St} {K : Int} {w l q : Int → Int} {W L Qs W' L' Qs' : Nat → Int → Int} {kb bd kb' bd' : Nat → Int} {r : Nat}
def seqP (S : St) (r : Nat) (W L Qs : Nat → Int → Int) (kb bd : Nat → Int) : Prop := (∀ i, i < r → plOK S (prS S W Qs i) (W i) (L i) (Qs i)) ∧ kb 0 = -1 ∧ (∀ i, i < r → (btr S W L Qs kb i → kb (i + 1) = i) ∧ (¬ btr S W L Qs kb i → kb (i + 1) = kb i)) ∧ (∀ i, i < r → bd (i + 1) = if i = 0 then pvl S (prS S W Qs i) (W i) (L i) (Qs i) else min (bd i) (pvl S (prS S W Qs i) (W i) (L i) (Qs i))) ∧ (∀ i, i ≤ r → kb i = -1 ∨ (0 ≤ kb i ∧ kb i < i))
theorem prS_eq : ∀ i : Nat, (∀ j, j < i → W' j = W j ∧ Qs' j = Qs j) → prS S W' Qs' i = prS S W Qs i := by
  intro i
  induction i with
  | zero => intro _; rfl
  | succ i ih =>
    intro h
    show nxp S (prS S W' Qs' i) (fun p => cn S (W' i) (Qs' i) p) ((i : Int) + 1) = nxp S (prS S W Qs i) (fun p => cn S (W i) (Qs i) p) ((i : Int) + 1)
    rw [ih (fun j hj => h j (by omega)), (h i (by omega)).1, (h i (by omega)).2]
theorem btr_eq {i : Nat} (hk : kb' i = kb i) (hkb : kb i = -1 ∨ (0 ≤ kb i ∧ kb i < i)) (h : ∀ j, j ≤ i → W' j = W j ∧ L' j = L j ∧ Qs' j = Qs j) : btr S W' L' Qs' kb' i ↔ btr S W L Qs kb i := by
  unfold btr
  rw [hk, (h i (by omega)).1, (h i (by omega)).2.1, (h i (by omega)).2.2]
  rcases hkb with e | e
  · rw [e]
    simp
  · rw [(h (kb i).toNat (by omega)).1, (h (kb i).toNat (by omega)).2.1, (h (kb i).toNat (by omega)).2.2]
theorem seq_ext (h : seqP S r W L Qs kb bd) (hp : plOK S (prS S W Qs r) w l q) : ∃ W' L' Qs' kb' bd', (∀ i, i < r → W' i = W i ∧ L' i = L i ∧ Qs' i = Qs i) ∧ (W' r = w ∧ L' r = l ∧ Qs' r = q) ∧ (∀ i, i ≤ r → kb' i = kb i ∧ bd' i = bd i) ∧ (∀ i, i ≤ r → prS S W' Qs' i = prS S W Qs i) ∧ seqP S (r + 1) W' L' Qs' kb' bd' := by
  obtain ⟨h1, h2, h3, h4, h5⟩ := h
  have fe : ∀ (F : Nat → Int → Int) f, (fun i => if i = r then f else F i) r = f := fun F f => if_pos rfl
  have fn : ∀ (F : Nat → Int → Int) f i, i < r → (fun i => if i = r then f else F i) i = F i := fun F f i hi => if_neg (by omega)
  obtain ⟨W', eW⟩ : ∃ W' : Nat → Int → Int, W' = fun i => if i = r then w else W i := ⟨_, rfl⟩
  obtain ⟨L', eL⟩ : ∃ L' : Nat → Int → Int, L' = fun i => if i = r then l else L i := ⟨_, rfl⟩
  obtain ⟨Qs', eQ⟩ : ∃ Qs' : Nat → Int → Int, Qs' = fun i => if i = r then q else Qs i := ⟨_, rfl⟩
  have lo : ∀ i, i < r → W' i = W i ∧ L' i = L i ∧ Qs' i = Qs i := fun i hi => by
    rw [eW, eL, eQ]
    exact ⟨fn _ _ i hi, fn _ _ i hi, fn _ _ i hi⟩
  have at' : W' r = w ∧ L' r = l ∧ Qs' r = q := by
    rw [eW, eL, eQ]
    exact ⟨fe _ _, fe _ _, fe _ _⟩
  have pe : ∀ i, i ≤ r → prS S W' Qs' i = prS S W Qs i := fun i hi => prS_eq i (fun j hj => ⟨(lo j (by omega)).1, (lo j (by omega)).2.2⟩)
  obtain ⟨v, v1, v2⟩ : ∃ v : Int, (btr S W' L' Qs' kb r → v = r) ∧ (¬ btr S W' L' Qs' kb r → v = kb r) := by
    by_cases hb : btr S W' L' Qs' kb r
    · exact ⟨r, fun _ => rfl, fun h => absurd hb h⟩
    · exact ⟨kb r, fun h => absurd h hb, fun _ => rfl⟩
  obtain ⟨kb', ek⟩ : ∃ kb' : Nat → Int, kb' = fun i => if i = r + 1 then v else kb i := ⟨_, rfl⟩
  obtain ⟨bd', eb⟩ : ∃ bd' : Nat → Int, bd' = fun i => if i = r + 1 then (if r = 0 then pvl S (prS S W Qs r) w l q else min (bd r) (pvl S (prS S W Qs r) w l q)) else bd i := ⟨_, rfl⟩
  have klo : ∀ i, i ≤ r → kb' i = kb i ∧ bd' i = bd i := fun i hi => by
    rw [ek, eb]
    exact ⟨if_neg (by omega), if_neg (by omega)⟩
  have kr : kb' (r + 1) = v := by rw [ek]; exact if_pos rfl
  have br : bd' (r + 1) = if r = 0 then pvl S (prS S W Qs r) w l q else min (bd r) (pvl S (prS S W Qs r) w l q) := by rw [eb]; exact if_pos rfl
  refine ⟨W', L', Qs', kb', bd', lo, at', klo, pe, fun i hi => ?_, by rw [(klo 0 (by omega)).1]; exact h2, fun i hi => ?_, fun i hi => ?_, fun i hi => ?_⟩
  · by_cases hir : i = r
    · subst hir
      rw [pe i (by omega), at'.1, at'.2.1, at'.2.2]
      exact hp
    · have g := lo i (by omega)
      rw [pe i (by omega), g.1, g.2.1, g.2.2]
      exact h1 i (by omega)
  · by_cases hir : i = r
    · subst hir
      rw [kr, (klo i (by omega)).1]
      have be : btr S W' L' Qs' kb' i ↔ btr S W' L' Qs' kb i := btr_eq (klo i (by omega)).1 (h5 i (by omega)) (fun _ _ => ⟨rfl, rfl, rfl⟩)
      rw [be]
      exact ⟨v1, v2⟩
    · have be : btr S W' L' Qs' kb' i ↔ btr S W L Qs kb i := btr_eq (klo i (by omega)).1 (h5 i (by omega)) (fun j hj => lo j (by omega))
      rw [be, (klo (i + 1) (by omega)).1, (klo i (by omega)).1]
      exact h3 i (by omega)
  · by_cases hir : i = r
    · subst hir
      rw [br, pe i (by omega), at'.1, at'.2.1, at'.2.2, (klo i (by omega)).2]
    · have g := lo i (by omega)
      rw [(klo (i + 1) (by omega)).2, (klo i (by omega)).2, pe i (by omega), g.1, g.2.1, g.2.2]
      exact h4 i (by omega)
  · by_cases hir : i = r + 1
    · rw [hir, kr]
      by_cases hb : btr S W' L' Qs' kb r
      · rw [v1 hb]
        omega
      · rw [v2 hb]
        have := h5 r (by omega)
        omega
    · rw [(klo i (by omega)).1]
      exact h5 i (by omega)
/-- the state between two rounds -/
def mpI (S : St) (most r : Nat) (W L Qs : Nat → Int → Int) (kb bd : Nat → Int) (x2 x3 x4 : Int) (T : St) : Prop :=
  seqP S r W L Qs kb bd ∧ (∀ i, i + 1 < r → ¬ stl S (prS S W Qs i) (W i) (Qs i)) ∧ r ≤ most ∧ kf S T ∧ (∀ s p, 0 ≤ s → s < T 0 4 → 0 ≤ p → p < T 0 14 → rcOK T T s p) ∧
  ((T 100 7 = 130 ∧ T 100 8 = 134) ∨ (T 100 7 = 134 ∧ T 100 8 = 130)) ∧ (x2 = 130 ∨ x2 = 134) ∧
  (∀ p, 0 ≤ p → p < S 0 14 → prC T p = prS S W Qs (r - 1) p) ∧
  (r = 0 → x4 = 0) ∧
  (1 ≤ r → T 100 11 = bd r ∧ pRel S T x2 (W (r - 1)) (L (r - 1)) (Qs (r - 1)) ∧ ((x4 = 1 ∧ stl S (prS S W Qs (r - 1)) (W (r - 1)) (Qs (r - 1))) ∨ (x4 = 0 ∧ ¬ stl S (prS S W Qs (r - 1)) (W (r - 1)) (Qs (r - 1))))) ∧
  ((kb r = -1 ∧ x3 = 0 ∧ x2 = T 100 8) ∨ (0 ≤ kb r ∧ kb r < r ∧ x3 = 1 ∧ pRel S T (T 100 7) (W (kb r).toNat) (L (kb r).toNat) (Qs (kb r).toNat)))
theorem pRel_k {K' : Int} (c : cR S) (ek : ∀ k, K' ≤ k → k ≤ K' + 3 → U k = T k) (h : pRel S T K' w l q) : pRel S U K' w l q := pTo_eq (by have := c.1.1.2.2.2.1; omega) (by omega) ek (fun _ _ _ => ⟨rfl, rfl, rfl⟩) h
theorem rc_k (h : kf T U) (hr : ∀ k, 200 ≤ k → U k = T k) (g : ∀ s p, 0 ≤ s → s < T 0 4 → 0 ≤ p → p < T 0 14 → rcOK T T s p) : ∀ s p, 0 ≤ s → s < U 0 4 → 0 ≤ p → p < U 0 14 → rcOK U U s p := by
  intro s p s0 s4 p0 p14
  rw [h 0 4 (by omega)] at s4
  rw [h 0 14 (by omega)] at p14
  have := g s p s0 s4 p0 p14
  unfold rcOK rcP at *
  rw [hr _ (by unfold kR; omega), h.cf.n]
  refine ⟨this.1, fun a b a0 ab bn => ?_⟩
  show b ≤ T (kR s p) a ↔ okP U s a b p
  rw [h.cf.o]
  exact this.2 a b a0 ab bn
end MP
