/-! FRAMES of the class, and that there is a plan -/
section EX
variable {S T U : St} {s a b p x : Int} {pr κ : Int → Int} {w l q : Int → Int}
/-- all told cells, and the reaches, but for the prices -/
def tf (S T : St) : Prop := ∀ k j, (k < 100 ∨ 140 ≤ k) → ¬ (140 ≤ k ∧ k < 172 ∧ j = 9) → T k j = S k j
theorem tf.rf : tf S S := fun _ _ _ _ => rfl
theorem tf.tr (h : tf S T) (g : tf T U) : tf S U := fun k j a b => (g k j a b).trans (h k j a b)
theorem tf.sy (h : tf S T) : tf T S := fun k j a b => (h k j a b).symm
theorem tf.cf (h : tf S T) : cf S T := fun k j hk => h k j (by omega) (by omega)
theorem tf.cS (h : tf S T) (s0 : 0 ≤ s) (c : crS S s) : crS T s := by
  have e : ∀ k, (k < 100 ∨ 200 ≤ k) → T k = S k := fun k hk => funext fun j => h k j (by omega) (by omega)
  unfold crS
  rw [h.cf.n, e 0 (by omega), e 5 (by omega), e 6 (by omega), e 7 (by omega), e 8 (by omega), e 9 (by omega), e 10 (by omega), e 11 (by omega), e 12 (by omega), e 13 (by omega), e (200 + 20 * s) (by omega), e (200 + 20 * s + 2) (by omega), e (200 + 20 * s + 3) (by omega), e (200 + 20 * s + 4) (by omega), e (200 + 20 * s + 5) (by omega), e (200 + 20 * s + 6) (by omega), e (200 + 20 * s + 7) (by omega), e (200 + 20 * s + 8) (by omega)]
  exact c
theorem tf.cP (h : tf S T) (p0 : 0 ≤ p) (c : crP S p) : crP T p := by
  have e : ∀ k, k < 100 → T k = S k := fun k hk => funext fun j => h k j (by omega) (by omega)
  have g : ∀ j, j ≠ 9 → T (140 + 4 * p) j = S (140 + 4 * p) j := fun j hj => h _ j (by omega) (by omega)
  obtain ⟨c1, c2, c3, c4⟩ := c
  unfold crP
  rw [e 0 (by omega), e 15 (by omega), e 16 (by omega), e 17 (by omega), e 18 (by omega), e 19 (by omega), e 20 (by omega), e 21 (by omega), e 22 (by omega), g 0 (by omega), g 8 (by omega), g 3 (by omega), g 4 (by omega), g 5 (by omega), g 6 (by omega), g 7 (by omega)]
  refine ⟨c1, fun k k0 k8 => ?_, fun d d0 d7 => ?_, c4⟩
  · rw [h _ k (by omega) (by omega)]
    exact c2 k k0 k8
  · rw [h _ d (by omega) (by omega)]
    exact c3 d d0 d7
theorem tf.cR (h : tf S T) (s0 : 0 ≤ s) (p0 : 0 ≤ p) (c : rcOK S S s p) : rcOK T T s p := by
  have e : T (kR s p) = S (kR s p) := funext fun j => h _ j (by unfold kR; omega) (by unfold kR; omega)
  unfold rcOK rcP at *
  rw [e, h.cf.n]
  refine ⟨c.1, fun a b a0 ab bn => ?_⟩
  show b ≤ S (kR s p) a ↔ okP T s a b p
  rw [h.cf.o]
  exact c.2 a b a0 ab bn
theorem noC_cf (c : cf S T) : noC T pr κ s a ↔ noC S pr κ s a := by
  unfold noC
  constructor
  · intro h b p hl
    have := h b p (c.g.2 hl)
    rw [c.l] at this
    exact this
  · intro h b p hl
    rw [c.l]
    exact h b p (c.g.1 hl)
theorem ch_cf (c : cf S T) (h : ch T pr κ s a b p) : ch S pr κ s a b p := by
  obtain ⟨h1, h2, h3⟩ := h
  rw [c.l] at h2
  refine ⟨c.g.1 h1, h2, fun b' p' hl he => ?_⟩
  rw [← c.l] at he
  exact h3 b' p' (c.g.2 hl) he
theorem ex_step (hw : wfA S) (a0 : 0 ≤ a) (an : a < stN S s) (hc : noC S pr κ s a ∨ ∃ b p, ch S pr κ s a b p) (h : plTo S pr κ s w l q a) : ∃ a' w' l' q', a < a' ∧ a' ≤ stN S s ∧ plTo S pr κ s w' l' q' a' := by
  have lb : ∀ k, lg S s k (k + l k) (q k) → k + l k ≤ toE S s (k + l k) := fun k hl => (toE_b hw hl.2.1).1
  rcases hc with hc | ⟨b, p, hc⟩
  · refine ⟨a + 1, fun k => if k = a then 2 else w k, l, q, by omega, by omega, plTo_ext h a0 (fun k k0 ka => ⟨if_neg (by omega), rfl, rfl⟩) (by omega) (Or.inr (if_pos rfl)) (fun k k1 k2 => ?_) lb⟩
    have : k = a := by omega
    subst this
    have e : (if k = k then 2 else w k) = (2 : Int) := if_pos rfl
    refine ⟨Or.inr (Or.inl e), fun _ => ⟨hc, fun h => by omega⟩, fun h => ?_⟩
    have h' := e.symm.trans h
    omega
  · have t := toE_b hw hc.1.2.1
    have hab := hc.1.1
    refine ⟨toE S s b, fun k => if k = a then 1 else if a < k ∧ k < b then 4 else if b ≤ k ∧ k < toE S s b then 3 else w k, fun k => if k = a then b - a else l k, fun k => if k = a then p else q k, by omega, by omega, plTo_ext h a0 (fun k k0 ka => ⟨?_, if_neg (by omega), if_neg (by omega)⟩) (by omega) (Or.inl (if_pos rfl)) (fun k k1 k2 => ?_) lb⟩
    · rw [if_neg (by omega), if_neg (by omega), if_neg (by omega)]
    · by_cases hk : k = a
      · subst hk
        have e1 : (if k = k then b - k else l k) = b - k := if_pos rfl
        have e2 : (if k = k then p else q k) = p := if_pos rfl
        have e3 : k + (b - k) = b := by omega
        unfold plC
        simp only [e1, e2, e3, if_true]
        refine ⟨Or.inl trivial, fun h => absurd h (by decide), fun _ => ⟨hc, fun j j1 j2 => ?_, fun j j1 j2 => ?_, by omega, fun h => by omega⟩⟩
        · rw [if_neg (by omega), if_pos (by omega)]
        · rw [if_neg (by omega), if_neg (by omega), if_pos (by omega)]
      · unfold plC
        simp only [if_neg hk]
        by_cases hb : k < b
        · have e : (if a < k ∧ k < b then (4 : Int) else if b ≤ k ∧ k < toE S s b then 3 else w k) = 4 := if_pos (by omega)
          rw [e]
          exact ⟨by omega, fun h => by omega, fun h => by omega⟩
        · have e : (if a < k ∧ k < b then (4 : Int) else if b ≤ k ∧ k < toE S s b then 3 else w k) = 3 := by rw [if_neg (by omega), if_pos (by omega)]
          rw [e]
          exact ⟨by omega, fun h => by omega, fun h => by omega⟩
theorem ex_to (hw : wfA S) (hc : ∀ y, 0 ≤ y → y < stN S s → noC S pr κ s y ∨ ∃ b p, ch S pr κ s y b p) : ∀ (d : Nat) (a : Int) (w l q : Int → Int), 0 ≤ a → a ≤ stN S s → stN S s - a ≤ d → plTo S pr κ s w l q a → ∃ w' l' q', isPl S pr κ s w' l' q' := by
  intro d
  induction d with
  | zero =>
    intro a w l q a0 an hd h
    have : a = stN S s := by omega
    subst this
    exact ⟨w, l, q, h⟩
  | succ d ih =>
    intro a w l q a0 an hd h
    by_cases he : a = stN S s
    · subst he
      exact ⟨w, l, q, h⟩
    · obtain ⟨a', w', l', q', h1, h2, h3⟩ := ex_step hw a0 (by omega) (hc a a0 (by omega)) h
      exact ih a' w' l' q' (by omega) h2 (by omega) h3
theorem ex_plan (hw : wfA S) (n0 : 0 ≤ stN S s) (hc : ∀ y, 0 ≤ y → y < stN S s → noC S pr κ s y ∨ ∃ b p, ch S pr κ s y b p) : ∃ w l q, isPl S pr κ s w l q :=
  ex_to hw hc (stN S s).toNat 0 (fun _ => 0) (fun _ => 0) (fun _ => 0) (by omega) n0 (by omega) plTo_0
end EX
