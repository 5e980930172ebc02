/-! LOGS BEYOND THE LIMITS are given up, from the last on -/
section GU
variable {S T U : St} {s a b p x K e : Int} {w l q w' g : Int → Int}
theorem lf_no {i : Int} (i0 : 0 ≤ i) (i1 : i < 81 * S 0 4) (h : ¬ isL S w i) : lf S w g i = 0 := by
  unfold lf
  rw [if_neg (fun c => h ⟨i0, i1, c.1, c.2⟩)]
theorem lf_yes {i : Int} (h : isL S w i) : lf S w g i = g i := by
  unfold lf
  rw [if_pos ⟨h.2.2.1, h.2.2.2⟩]
theorem sm_noL (a0 : 0 ≤ a) (ae : a ≤ e) (e1 : e ≤ 81 * S 0 4) (h : ∀ i, a ≤ i → i < e → ¬ isL S w i) : sm (lf S w g) e.toNat = sm (lf S w g) a.toNat := sm_gap a0 ae (fun i h1 h2 => lf_no (by omega) (by omega) (h i h1 h2))
theorem sm_one {j : Int} (hj : isL S w j) (je : j < e) (e1 : e ≤ 81 * S 0 4) (h : ∀ i, j < i → i < e → ¬ isL S w i) : sm (lf S w g) e.toNat = sm (lf S w g) j.toNat + g j := by
  rw [sm_noL (a := j + 1) (by have := hj.1; omega) (by omega) e1 (fun i h1 h2 => h i (by omega) h2), sm_s hj.1, lf_yes hj]
theorem prevL : ∀ n : Nat, (n : Int) ≤ 81 * S 0 4 → 0 < nL1 S w n → ∃ j, isL S w j ∧ j < n ∧ ∀ i, j < i → i < n → ¬ isL S w i := by
  intro n
  induction n with
  | zero => intro _ h; exact absurd h (by show ¬ 0 < (0 : Int); omega)
  | succ n ih =>
    intro hn h
    by_cases hl : isL S w n
    · exact ⟨n, hl, by omega, fun i h1 h2 => by omega⟩
    · have e : nL1 S w ((n + 1 : Nat) : Int) = nL1 S w n := sm_noL (a := n) (by omega) (by omega) hn (fun i h1 h2 => by
        have hi : i = n := by omega
        rw [hi]
        exact hl)
      rw [e] at h
      obtain ⟨j, j1, j2, j3⟩ := ih (by omega) h
      refine ⟨j, j1, by omega, fun i h1 h2 => ?_⟩
      by_cases hi : i = n
      · rw [hi]; exact hl
      · exact j3 i h1 (by omega)
theorem nextL (a0 : 0 ≤ a) : ∀ n : Nat, a + n ≤ 81 * S 0 4 → nL1 S w a < nL1 S w (a + n) → ∃ j, isL S w j ∧ a ≤ j ∧ j < a + n ∧ ∀ i, a ≤ i → i < j → ¬ isL S w i := by
  intro n
  induction n with
  | zero => intro _ h; rw [show a + ((0 : Nat) : Int) = a by omega] at h; omega
  | succ n ih =>
    intro hn h
    by_cases hx : nL1 S w a < nL1 S w (a + n)
    · obtain ⟨j, j1, j2, j3, j4⟩ := ih (by omega) hx
      exact ⟨j, j1, j2, by omega, j4⟩
    · by_cases hl : isL S w (a + n)
      · refine ⟨a + n, hl, by omega, by omega, fun i h1 h2 hi => ?_⟩
        have m1 := nL_mono (S := S) (w := w) a0 h1
        have m2 := nL_lt hi h2
        omega
      · have e : nL1 S w (a + ((n + 1 : Nat) : Int)) = nL1 S w (a + n) := sm_noL (a := a + n) (by omega) (by omega) hn (fun i h1 h2 => by
          have hi : i = a + n := by omega
          rw [hi]
          exact hl)
        omega
noncomputable def gone (S : St) (w l : Int → Int) (R : Int → Prop) : Int → Int := fun i => @ite Int (cov S w l R i) (Classical.propDecidable _) 2 (w i)
theorem gone_y {R : Int → Prop} {i : Int} (h : cov S w l R i) : gone S w l R i = 2 := if_pos h
theorem gone_n {R : Int → Prop} {i : Int} (h : ¬ cov S w l R i) : gone S w l R i = w i := if_neg h
theorem gone_brn {R : Int → Prop} : brn S w l R (gone S w l R) := fun i _ => ⟨gone_y, gone_n⟩
theorem gone_L (ho : okA S w l q) (hs : sepA S w l) {R : Int → Prop} {i : Int} : isL S (gone S w l R) i ↔ isL S w i ∧ ¬ R i := by
  constructor
  · rintro ⟨h1, h2, h3, h4⟩
    by_cases hc : cov S w l R i
    · rw [gone_y hc] at h4
      omega
    · rw [gone_n hc] at h4
      have hi : isL S w i := ⟨h1, h2, h3, h4⟩
      refine ⟨hi, fun hr => hc ?_⟩
      have := (ho i hi).1.1
      exact (cov_self hs hi).2 ⟨hr, by omega⟩
  · rintro ⟨hi, hr⟩
    refine ⟨hi.1, hi.2.1, hi.2.2.1, ?_⟩
    rw [gone_n (fun hc => hr ((cov_self hs hi).1 hc).1)]
    exact hi.2.2.2
/-- what is left of a product is what fits -/
theorem cn_left (ho : okA S w l q) (hs : sepA S w l) (h0 : 0 ≤ S 21 p) : ∀ n : Nat, (n : Int) ≤ 81 * S 0 4 → sm (lf S (gone S w l (remL S w q)) (fun i => if q i = p then 1 else 0)) n = min (sm (lf S w (fun i => if q i = p then 1 else 0)) n) (S 21 p) := by
  intro n
  induction n with
  | zero => intro _; show (0 : Int) = min 0 (S 21 p); omega
  | succ n ih =>
    intro hn
    have ih' := ih (by omega)
    have e1 : ∀ f : Int → Int, sm f (n + 1) = sm f n + f n := fun f => rfl
    rw [e1, e1, ih']
    by_cases hl : isL S w n
    · rw [lf_yes (w := w) hl]
      by_cases hq : q n = p
      · have hF : fP S w q p ((n : Int) + 1) = sm (lf S w (fun i => if q i = p then 1 else 0)) n + 1 := by
          unfold fP
          rw [show ((n : Int) + 1).toNat = n + 1 by omega, e1, lf_yes hl]
          show _ + (if q n = p then (1 : Int) else 0) = _
          rw [if_pos hq]
        have e2 : (if q n = p then (1 : Int) else 0) = 1 := if_pos hq
        by_cases hr : remL S w q n
        · rw [lf_no (by omega) (by omega) (fun h => ((gone_L ho hs).1 h).2 hr)]
          unfold remL at hr
          rw [hq, hF] at hr
          show _ = min (_ + (if q n = p then (1 : Int) else 0)) _
          rw [e2]
          omega
        · rw [lf_yes ((gone_L ho hs).2 ⟨hl, hr⟩)]
          unfold remL at hr
          rw [hq, hF] at hr
          show _ + (if q n = p then (1 : Int) else 0) = min (_ + (if q n = p then (1 : Int) else 0)) _
          rw [e2]
          omega
      · have e2 : (if q n = p then (1 : Int) else 0) = 0 := if_neg hq
        have e3 : lf S (gone S w l (remL S w q)) (fun i => if q i = p then 1 else 0) n = 0 := by
          unfold lf
          split
          · exact e2
          · rfl
        rw [e3]
        show _ = min (_ + (if q n = p then (1 : Int) else 0)) _
        rw [e2]
        omega
    · rw [lf_no (w := w) (by omega) (by omega) hl, lf_no (by omega) (by omega) (fun h => hl ((gone_L ho hs).1 h).1)]
      omega
end GU
