section R3
variable {S T : St} {s p : Int} {Q : St → Prop}
def ftP (S : St) (s p a b k : Int) : Prop := S 20 (8 * p + S 12 (20 * s + k)) = 0 ∨ b * S 0 1 ≤ S 10 (20 * s + k) ∨ S 11 (20 * s + k) ≤ a * S 0 1
theorem s_reach3 {P : Int → Int → Prop} (hm : wfM S) (hS : crS S s) (hP : crP S p) (s0 : 0 ≤ s) (s6 : s < 6) (p0 : 0 ≤ p) (p8 : p < S 0 14) (hF : ∀ k, k ≠ kR s p → T k = S k) (hR : rcP T (kR s p) (stN S s) P) (qq : ∀ U, (∀ k, k ≠ kR s p → U k = S k) → rcP U (kR s p) (stN S s) (fun a b => P a b ∧ ∀ k, 0 ≤ k → k < S 9 s → ftP S s p a b k) → Q U) : vpSt_narrowByFaults (200 + 20 * s) (kR s p) (140 + 4 * p) T Q := by
  have h14 := hm.1.2.2.2.2
  have h1 := hm.1.1
  have ws := hm.2.1 s s0 s6
  have hn := stN_0 hm.1 ws
  have n80 := ws.2.2.2.2.2.1
  have w9 := ws.2.1
  have al := al_R s0 s6 p0 (show p < 8 by omega)
  obtain ⟨⟨e0, _, e10, e11⟩, _, e5, _⟩ := id hS
  have e20 := hP.2.1
  unfold vpSt_narrowByFaults
  refine lp2 (fun n f T => vSt_narrowByFaults_2 Q n (200 + 20 * s) (kR s p) (140 + 4 * p) f T) (fun f U => 0 ≤ f ∧ f ≤ S 9 s ∧ (∀ k, k ≠ kR s p → U k = S k) ∧ rcP U (kR s p) (stN S s) (fun a b => P a b ∧ ∀ k, 0 ≤ k → k < f → ftP S s p a b k)) (fun f _ => (20 - f).toNat) (fun n f U hI ih => ?_) 0 T ⟨by omega, by omega, hF, hR.1, fun a b a0 ab bn => ?_⟩
  · obtain ⟨f0, f1, uF, uR⟩ := hI
    have u0 : U (200 + 20 * s) = S (200 + 20 * s) := uF _ (by unfold kR; omega)
    have u7 : U (200 + 20 * s + 7) = S (200 + 20 * s + 7) := uF _ (by unfold kR; omega)
    have u22 : U (140 + 4 * p + 2) = S (140 + 4 * p + 2) := uF _ (by unfold kR; omega)
    unfold vSt_narrowByFaults_2 vSt_narrowByFaults_80
    rw [u0, u7, u22, e10]
    refine ⟨fun g => ?_, fun g => ?_⟩
    · have hf : f = S 9 s := by omega
      subst hf
      exact qq U uF uR
    · have hfk := ws.2.2.2.2.2.2.1 f f0 (by omega)
      obtain ⟨_, _, e7⟩ := e5 f f0 (by omega)
      rw [e7, e20 _ hfk.2.1 (by omega)]
      have nx : ∀ (V : St) (z : Int), z = f + 1 → (∀ k, k ≠ kR s p → V k = S k) → rcP V (kR s p) (stN S s) (fun a b => (P a b ∧ ∀ k, 0 ≤ k → k < f → ftP S s p a b k) ∧ ftP S s p a b f) → vSt_narrowByFaults_2 Q n (200 + 20 * s) (kR s p) (140 + 4 * p) z V := fun V z ez vF vR => by
        subst ez
        refine ih _ _ ⟨by omega, by omega, vF, vR.1, fun a b a0 ab bn => ?_⟩ (by omega)
        rw [vR.2 a b a0 ab bn]
        constructor
        · rintro ⟨⟨q1, q2⟩, q3⟩
          refine ⟨q1, fun k k0 k1 => ?_⟩
          by_cases hk : k = f
          · rw [hk]; exact q3
          · exact q2 k k0 (by omega)
        · rintro ⟨q1, q2⟩
          exact ⟨⟨q1, fun k k0 k1 => q2 k k0 (by omega)⟩, q2 f f0 (by omega)⟩
      refine ⟨by omega, by omega, fun g1 => ⟨by constructor <;> omega, fun z ez => nx U z ez uF ⟨uR.1, fun a b a0 ab bn => ?_⟩⟩, fun g1 => ?_⟩
      · rw [uR.2 a b a0 ab bn]
        constructor
        · intro q; exact ⟨q, Or.inl g1⟩
        · intro q; exact q.1
      · refine lp2 (fun m a V => vSt_narrowByFaults_27 Q (vSt_narrowByFaults_2 Q n) m (200 + 20 * s) (kR s p) (140 + 4 * p) f a V) (fun a V => 0 ≤ a ∧ a ≤ stN S s ∧ (∀ k, k ≠ kR s p → V k = S k) ∧ ∀ x, 0 ≤ x → x < stN S s → (0 ≤ V (kR s p) x ∧ V (kR s p) x ≤ 80) ∧ ∀ b, x < b → b ≤ stN S s → (b ≤ V (kR s p) x ↔ ((P x b ∧ ∀ k, 0 ≤ k → k < f → ftP S s p x b k) ∧ (x < a → ftP S s p x b f)))) (fun a _ => (80 - a).toNat) (fun m a V hJ jh => ?_) 0 U ⟨by omega, by omega, uF, fun x x0 x1 => ⟨uR.1 x x0 x1, fun b xb bn => ?_⟩⟩
        · obtain ⟨a0, a1, vF, vR⟩ := hJ
          have v0 : V (200 + 20 * s) = S (200 + 20 * s) := vF _ (by unfold kR; omega)
          have v6 : V (200 + 20 * s + 6) = S (200 + 20 * s + 6) := vF _ (by unfold kR; omega)
          have v5 : V (200 + 20 * s + 5) = S (200 + 20 * s + 5) := vF _ (by unfold kR; omega)
          obtain ⟨e5', e6', _⟩ := e5 f f0 (by omega)
          unfold vSt_narrowByFaults_27 vSt_narrowByFaults_80
          rw [v0, v6, v5, e11, e0, e5', e6']
          have done : (∀ x, a ≤ x → x < stN S s → S 11 (20 * s + f) ≤ x * S 0 1) → rI (f + 1) ∧ ∀ z1, z1 = f + 1 → vSt_narrowByFaults_2 Q n (200 + 20 * s) (kR s p) (140 + 4 * p) z1 V := fun hh => ⟨by constructor <;> omega, fun z ez => nx V z ez vF ⟨fun x x0 x1 => (vR x x0 x1).1, fun x b x0 xb bn => by
            rw [(vR x x0 (by omega)).2 b xb bn]
            constructor
            · rintro ⟨q1, q2⟩
              refine ⟨q1, ?_⟩
              rcases Int.lt_or_le x a with q | q
              · exact q2 q
              · exact Or.inr (Or.inr (hh x q (by omega)))
            · rintro ⟨q1, q2⟩
              exact ⟨q1, fun _ => q2⟩⟩⟩
          refine ⟨fun g2 => done (fun x x0 x1 => by omega), fun g2 => ?_⟩
          have hA := mul_0 hm.1 (a := a) a0
          obtain ⟨h5, hB⟩ := stN_mul hm.1 ws (b := a + 1) (by omega) (by omega)
          have hA1 := mul_lt hm.1 (a := a) (b := a + 1) (by omega)
          have hlast := (ws.2.2.1 (S 5 s - 1) (by have := ws.1; omega) (by omega)).1
          refine ⟨by omega, by constructor <;> omega, fun g3 => done (fun x x0 x1 => ?_), fun g3 => ?_⟩
          · have := mul_le hm.1 x0
            omega
          · have db : S 10 (20 * s + f) / S 0 1 ≤ S 10 (20 * s + f) := Int.ediv_le_self _ (by omega)
            have d0 : 0 ≤ S 10 (20 * s + f) / S 0 1 := Int.ediv_nonneg (by omega) (by omega)
            have hva := (vR a a0 (by omega)).1
            refine ⟨by omega, by omega, by omega, by omega, by omega, by constructor <;> omega, by omega, by constructor <;> omega, fun V2 e2 => ⟨by constructor <;> omega, fun z ez => ?_⟩⟩
            subst ez
            refine jh _ _ ⟨by omega, by omega, fun k hk => ?_, fun x x0 x1 => ?_⟩ (by omega)
            · rw [← vF k hk, e2]
              funext j
              exact up_k hk
            · by_cases hxa : x = a
              · subst hxa
                rw [e2, up_s]
                refine ⟨by omega, fun b xb bn => ?_⟩
                have hd : b ≤ S 10 (20 * s + f) / S 0 1 ↔ b * S 0 1 ≤ S 10 (20 * s + f) := le_div (by omega)
                have hv := (vR x x0 x1).2 b xb bn
                constructor
                · intro q
                  refine ⟨(hv.mp (by omega)).1, fun _ => Or.inr (Or.inl (hd.mp (by omega)))⟩
                · rintro ⟨q1, q2⟩
                  have q3 := hv.mpr ⟨q1, fun z => by omega⟩
                  have q4 : b * S 0 1 ≤ S 10 (20 * s + f) := by
                    rcases q2 (by omega) with q | q | q
                    · exact absurd q g1
                    · exact q
                    · omega
                  have := hd.mpr q4
                  omega
              · rw [e2, up_j hxa]
                refine ⟨(vR x x0 x1).1, fun b xb bn => ?_⟩
                rw [(vR x x0 x1).2 b xb bn]
                constructor
                · rintro ⟨q1, q2⟩
                  exact ⟨q1, fun q => q2 (by omega)⟩
                · rintro ⟨q1, q2⟩
                  exact ⟨q1, fun q => q2 (by omega)⟩
        · rw [uR.2 x b x0 xb bn]
          constructor
          · intro q; exact ⟨q, fun z => by omega⟩
          · intro q; exact q.1
  · rw [hR.2 a b a0 ab bn]
    constructor
    · intro q; exact ⟨q, fun k k0 k1 => by omega⟩
    · intro q; exact q.1
theorem s_findReach (hm : wfM S) (hS : crS S s) (hP : crP S p) (s0 : 0 ≤ s) (s6 : s < 6) (p0 : 0 ≤ p) (p8 : p < S 0 14) (qq : ∀ U, (∀ k, k ≠ kR s p → U k = S k) → rcOK U S s p → Q U) : vpSt_findReach (200 + 20 * s) p (140 + 4 * p) (S 0 2) S Q := by
  have h14 := hm.1.2.2.2.2
  unfold vpSt_findReach
  refine ⟨by omega, s_reach1 hm hS hP s0 s6 p0 p8 (fun T1 f1 r1 => s_reach2 hm hS hP s0 s6 p0 p8 f1 r1 (fun T2 f2 r2 => s_reach3 hm hS hP s0 s6 p0 p8 f2 r2 (fun T3 f3 r3 => qq T3 f3 ⟨r3.1, fun a b a0 ab bn => ?_⟩)))⟩
  rw [r3.2 a b a0 ab bn]
  unfold okP fcP ftP
  constructor
  · rintro ⟨⟨⟨q1, q2⟩, q3⟩, q4⟩
    exact ⟨q1, q2, q4, q3⟩
  · rintro ⟨q1, q2, q4, q3⟩
    exact ⟨⟨⟨q1, q2⟩, q3⟩, q4⟩
end R3
