/-! THE CLASS'S WINDOWS: the ends of one product's logs, the best first -/
section WI
variable {S T : St} {w : Int}
theorem s_enter {r : Int} {Q : St → Prop} (f0 : 0 ≤ S w 1) (fb : S w 1 ≤ S w 2) (b79 : S w 2 ≤ 79) (qq : ∀ T B, (∀ k j, ¬ (k = w ∧ j = 2) → ¬ (k = w + 1) → T k j = S k j) → S w 1 ≤ B → B ≤ S w 2 → T w 2 = B + 1 → (∀ i, i < B → T (w + 1) i = S (w + 1) i) → T (w + 1) B = r → (∀ i, B ≤ i → i < S w 2 → S (w + 1) i < r) → (S w 1 < B → r ≤ S (w + 1) (B - 1)) → Q T) : vpWi_enter w r S Q := by
  unfold vpWi_enter
  have fin : ∀ U : St, (∀ k j, ¬ (k = w ∧ j = 2) → U k j = S k j) → S w 1 ≤ U w 2 → U w 2 ≤ S w 2 → (∀ i, U w 2 ≤ i → i < S w 2 → S (w + 1) i < r) → (S w 1 < U w 2 → r ≤ S (w + 1) (U w 2 - 1)) → vWi_enter_40 Q w r U := by
    intro U hF h1 h2 h3 h4
    unfold vWi_enter_40
    refine ⟨by constructor <;> omega, fun _ => by omega, fun _ => ⟨by omega, fun S4 e4 => ?_⟩⟩
    have e2 : S4 w 2 = U w 2 := by rw [e4]; exact up_k (by omega)
    rw [e2]
    refine ⟨by constructor <;> omega, fun S8 e8 => ?_⟩
    unfold vWi_enter_72
    refine qq S8 (U w 2) (fun k j n1 n2 => ?_) h1 h2 (by rw [e8]; exact up_s) (fun i hi => ?_) ?_ h3 h4
    · rw [e8]
      unfold up
      rw [if_neg n1, e4]
      unfold up
      rw [if_neg (by omega)]
      exact hF k j n1
    · rw [e8, up_k (by omega), e4, up_j (by omega)]
      exact hF _ _ (by omega)
    · rw [e8, up_k (by omega), e4, up_s]
  refine lp1 (fun n U => vWi_enter_0 Q n w r U) (fun U => (∀ k j, ¬ (k = w ∧ j = 2) → U k j = S k j) ∧ S w 1 ≤ U w 2 ∧ U w 2 ≤ S w 2 ∧ (∀ i, U w 2 ≤ i → i < S w 2 → S (w + 1) i < r)) (fun U => (U w 2).toNat) (fun n U hI ih => ?_) S ⟨fun _ _ _ => rfl, fb, by omega, fun i h1 h2 => by omega⟩
  obtain ⟨hF, h1, h2, h3⟩ := hI
  have e1 : U w 1 = S w 1 := hF w 1 (by omega)
  unfold vWi_enter_0
  rw [e1]
  refine ⟨fun h => fin U hF h1 h2 h3 (fun h4 => by omega), fun h => ⟨by omega, ?_⟩⟩
  have e2 : U (w + 1) (U w 2 - 1) = S (w + 1) (U w 2 - 1) := hF _ _ (by omega)
  rw [e2]
  refine ⟨fun h4 => fin U hF h1 h2 h3 (fun _ => h4), fun h4 => ⟨by constructor <;> omega, fun S4 e4 => ?_⟩⟩
  have e5 : S4 w 2 = U w 2 - 1 := by rw [e4]; exact up_s
  refine ih S4 ⟨fun k j n1 => ?_, by omega, by omega, fun i i1 i2 => ?_⟩ ?_
  · rw [e4]
    unfold up
    rw [if_neg n1]
    exact hF k j n1
  · by_cases hi : i = U w 2 - 1
    · subst hi
      omega
    · exact h3 i (by omega) i2
  · show (S4 w 2).toNat < (U w 2).toNat
    omega
theorem s_leave {r : Int} {Q : St → Prop} (f0 : 0 ≤ S w 1) (fb : S w 1 ≤ S w 2) (b80 : S w 2 ≤ 80) (nn : ∀ i, S w 1 ≤ i → i < S w 2 → 0 ≤ S (w + 1) i) (qq : ∀ T, (∀ k j, ¬ (k = w ∧ j = 1) → T k j = S k j) → S w 1 ≤ T w 1 → T w 1 ≤ S w 2 → (∀ i, S w 1 ≤ i → i < T w 1 → r < S (w + 1) i % 128) → (T w 1 < S w 2 → S (w + 1) (T w 1) % 128 ≤ r) → Q T) : vpWi_leaveBeyond w r S Q := by
  unfold vpWi_leaveBeyond
  refine lp1 (fun n U => vWi_leaveBeyond_0 Q n w r U) (fun U => (∀ k j, ¬ (k = w ∧ j = 1) → U k j = S k j) ∧ S w 1 ≤ U w 1 ∧ U w 1 ≤ S w 2 ∧ (∀ i, S w 1 ≤ i → i < U w 1 → r < S (w + 1) i % 128)) (fun U => (S w 2 - U w 1).toNat) (fun n U hI ih => ?_) S ⟨fun _ _ _ => rfl, by omega, by omega, fun i h1 h2 => by omega⟩
  obtain ⟨hF, h1, h2, h3⟩ := hI
  have e1 : U w 2 = S w 2 := hF w 2 (by omega)
  have e2 : U (w + 1) (U w 1) = S (w + 1) (U w 1) := hF _ _ (by omega)
  unfold vWi_leaveBeyond_0 vWi_leaveBeyond_40
  rw [e1, e2]
  refine ⟨fun h => qq U hF h1 h2 h3 (fun h4 => by omega), fun h => ⟨by omega, ?_⟩⟩
  unfold vpCu_endOf vpMa_floorMod
  have := nn (U w 1) h1 (by omega)
  refine ⟨⟨this, rfl⟩, by constructor <;> omega, fun h4 => qq U hF h1 h2 h3 (fun _ => h4), fun h4 => ⟨by constructor <;> omega, fun S9 e9 => ?_⟩⟩
  have e5 : S9 w 1 = U w 1 + 1 := by rw [e9]; exact up_s
  refine ih S9 ⟨fun k j n1 => ?_, by omega, by omega, fun i i1 i2 => ?_⟩ ?_
  · rw [e9]
    unfold up
    rw [if_neg n1]
    exact hF k j n1
  · by_cases hi : i = U w 1
    · subst hi
      omega
    · exact h3 i i1 (by omega)
  · show (S w 2 - S9 w 1).toNat < (S w 2 - U w 1).toNat
    omega
end WI
