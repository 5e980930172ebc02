section CU
variable {kk : Int → Prop} {ad : Int → Nat} {F : Int → hE} {M : Hp} {post : Hp → Prop}
theorem fA_u {f : Nat → Option Nat} {g : Nat → Nat} {p n : Nat} (hp : p < n) (hf : f = fun j => if j < p then some (g j) else none) : va_up f p (some (g p)) = fun j => if j < p + 1 then some (g j) else none := by
  funext j
  rw [hf]
  unfold va_up
  by_cases h1 : j = p
  · rw [if_pos h1, if_pos (by omega), h1]
  · rw [if_neg h1]
    show (if j < p then some (g j) else none) = _
    by_cases h2 : j < p
    · rw [if_pos h2, if_pos (by omega)]
    · rw [if_neg h2, if_neg (by omega)]
/-- the windows -/
theorem c_Cu39 {A : Nat} (h : rq kk ad F M) (hA : A = ad 103) (k3 : kk 103) (k7 : kk 107) (hn : ∀ k, 110 ≤ k → k < 126 → ¬ kk k) (a b c : Value) (hF : F 103 = .inr (4, [a, b, c, .ref (ad 107)])) (h7 : F 107 = .inl (5, 8, .inr (.inr (.inr (.inr (fun _ => none))))))
    (qq : ∀ (ad1 : Int → Nat) (F1 : Int → hE) (M1 : Hp), rq (fun k => (110 ≤ k ∧ k < 126) ∨ kk k) ad1 F1 M1 → (∀ k, kk k → ad1 k = ad k) → (∀ k, kk k → k ≠ 107 → F1 k = F k) → F1 107 = .inl (5, 8, .inr (.inr (.inr (.inr (fun j => if j < 8 then some (ad1 (110 + 2 * j)) else none))))) → (∀ p : Int, 0 ≤ p → p < 8 → F1 (110 + 2 * p) = .inr (3, [.ref (ad1 (110 + 2 * p + 1)), .int 0, .int 0]) ∧ F1 (110 + 2 * p + 1) = .inl (2, 80, .inr (.inl (fun _ => 0)))) → post M1) : ∃ n, wCu_init_39 post n A (0 : Int32) 4 249 M := by
  have key := lp4 (fun n (x : Int32) (kc ks : Nat) (M : Hp) => wCu_init_39 post n A x kc ks M) (fun x kc ks M => ∃ (p : Nat) (ad1 : Int → Nat) (F1 : Int → hE), x = Int32.ofInt p ∧ p ≤ 8 ∧ kc = 4 + 2 * p ∧ ks = 249 + 83 * p ∧ rq (fun k => (110 ≤ k ∧ k < 110 + 2 * (p : Int)) ∨ kk k) ad1 F1 M ∧ (∀ k, kk k → ad1 k = ad k) ∧ (∀ k, kk k → k ≠ 107 → F1 k = F k) ∧ F1 107 = .inl (5, 8, .inr (.inr (.inr (.inr (fun j => if j < p then some (ad1 (110 + 2 * j)) else none))))) ∧ (∀ q : Int, 0 ≤ q → q < p → F1 (110 + 2 * q) = .inr (3, [.ref (ad1 (110 + 2 * q + 1)), .int 0, .int 0]) ∧ F1 (110 + 2 * q + 1) = .inl (2, 80, .inr (.inl (fun _ => 0))))) (fun x _ _ _ => (8 - x.toInt).toNat) (fun n x kc ks M hI ih => ?_) (0 : Int32) 4 249 M ⟨0, ad, F, LI_0, by omega, rfl, rfl, r_sub h (fun k hk => hk.elim (fun q => by omega) id), fun _ _ => rfl, fun _ _ _ => rfl, ?_, fun q _ _ => by omega⟩
  · exact key
  · obtain ⟨p, ad1, F1, ex, p8, ekc, eks, h1, ea, eF, e7, ew⟩ := hI
    have rx : rI (p : Int) := by constructor <;> omega
    have c8 : (8 : Int32) ≤ x ↔ (8 : Int) ≤ p := c_le LI_8 ex LI_8r rx
    unfold wCu_init_39
    refine ⟨fun g => ?_, fun g => ?_⟩
    · have : p = 8 := by have := c8.1 g; omega
      subst this
      exact ⟨by omega, by omega, qq ad1 F1 M h1 ea eF e7 ew⟩
    · have p7 : p < 8 := by
        by_cases hp : p < 8
        · exact hp
        · exact absurd (c8.2 (by omega)) g
      have eA : A = ad1 103 := by rw [hA, ea 103 k3]
      rw [eA]
      refine r_fA h1 (Or.inr k3) ((eF 103 k3 (by omega)).trans hF) (show _ = some (Value.ref (ad1 107)) by rw [ea 107 k7]; rfl) ⟨by omega, by omega, ?_⟩
      refine r_new h1 (110 + 2 * (p : Int)) (fun q => by rcases q with q | q <;> first | omega | exact hn _ (by omega) (by omega) q) (fun ad2 F2 M2 h2 a2 c2 o2 => ⟨by omega, by omega, ?_⟩)
      refine c_Wi_init h2 (Or.inl rfl) (fun k k1 k2 q => by rcases q with q | q | q <;> first | omega | exact hn _ (by omega) (by omega) q) c2 (fun ad3 F3 M3 h3 a3 o3 c3 d3 => ?_)
      have a31 : ∀ k, ((110 ≤ k ∧ k < 110 + 2 * (p : Int)) ∨ kk k) → ad3 k = ad1 k := fun k hk => by rw [a3 k (Or.inr hk), a2 k hk]
      have o31 : ∀ k, ((110 ≤ k ∧ k < 110 + 2 * (p : Int)) ∨ kk k) → F3 k = F1 k := fun k hk => by
        have ne : k ≠ 110 + 2 * (p : Int) := fun e => by
          rcases hk with hk | hk
          · omega
          · rw [e] at hk
            exact hn _ (by omega) (by omega) hk
        rw [o3 k (Or.inr hk) ne, o2 k ne]
      rw [← a31 107 (Or.inr k7), ← a3 (110 + 2 * (p : Int)) (Or.inl rfl), ← a31 103 (Or.inr k3)]
      refine r_sA (p0 := p) h3 (Or.inr (Or.inr (Or.inr k7))) (Or.inr (Or.inl rfl)) ((o31 107 (Or.inr k7)).trans e7) c3 ex p7 (by omega) (fun F4 M4 h4 c4 o4 z ez => ?_)
      have ez' : z = Int32.ofInt ((p + 1 : Nat) : Int) := by
        rw [ez, h_add ex LI_1]
        congr 1
      have rz : rI ((p + 1 : Nat) : Int) := by constructor <;> omega
      rw [show ad3 103 = A by rw [a31 103 (Or.inr k3), ← eA]]
      refine ih z (kc + 1 + 1) (ks + 3 + 80) M4 ⟨p + 1, ad3, F4, ez', by omega, by omega, by omega, r_sub h4 (fun k hk => ?_), fun k hk => by rw [a31 k (Or.inr hk), ea k hk], fun k hk hne => ?_, ?_, fun q q0 q1 => ?_⟩ ?_
      · rcases hk with hk | hk
        · by_cases h10 : k = 110 + 2 * (p : Int)
          · exact Or.inr (Or.inl h10)
          · by_cases h11 : k = 110 + 2 * (p : Int) + 1
            · exact Or.inl (by omega)
            · exact Or.inr (Or.inr (Or.inl (by omega)))
        · exact Or.inr (Or.inr (Or.inr hk))
      · rw [o4 k hne, o31 k (Or.inr hk), eF k hk hne]
      · rw [c4]
        congr 7
        have hf : (fun j : Nat => if j < p then some (ad1 (110 + 2 * (j : Int))) else none) = fun j : Nat => if j < p then some (ad3 (110 + 2 * (j : Int))) else none := by
          funext j
          by_cases hj : j < p
          · rw [if_pos hj, if_pos hj, a31 _ (Or.inl (by omega))]
          · rw [if_neg hj, if_neg hj]
        exact fA_u (g := fun j => ad3 (110 + 2 * (j : Int))) p7 hf
      · have n107 : (110 + 2 * q : Int) ≠ 107 ∧ (110 + 2 * q + 1 : Int) ≠ 107 := by omega
        rw [o4 _ n107.1, o4 _ n107.2]
        by_cases hq : q = p
        · subst hq
          exact ⟨c3, d3⟩
        · obtain ⟨g1, g2⟩ := ew q q0 (by omega)
          rw [o31 _ (Or.inl (by omega)), o31 _ (Or.inl (by omega)), a31 _ (Or.inl (by omega))]
          exact ⟨g1, g2⟩
      · show (8 - z.toInt).toNat < (8 - x.toInt).toNat
        rw [ez', ex, o32_t rz, o32_t rx]
        omega
  · rw [h7]
    congr 7
end CU
theorem c_Cu {kk : Int → Prop} {ad : Int → Nat} {F : Int → hE} {M : Hp} {post : Hp → Prop} (h : rq kk ad F M) (hK : kk 103) (hn : ∀ k, 104 ≤ k → k < 126 → ¬ kk k) (hF : F 103 = .inr (4, [.null, .null, .null, .null]))
    (qq : ∀ (ad1 : Int → Nat) (F1 : Int → hE) (M1 : Hp), rq (fun k => ((104 ≤ k ∧ k ≤ 107) ∨ (110 ≤ k ∧ k < 126)) ∨ kk k) ad1 F1 M1 → (∀ k, kk k → ad1 k = ad k) → (∀ k, kk k → k ≠ 103 → F1 k = F k) → F1 103 = .inr (4, [.ref (ad1 104), .ref (ad1 105), .ref (ad1 106), .ref (ad1 107)]) → F1 104 = .inl (2, 81, .inr (.inl (fun _ => 0))) → F1 105 = .inl (0, 80, .inl (fun _ => 0)) → F1 106 = .inl (0, 80, .inl (fun _ => 0)) → F1 107 = .inl (5, 8, .inr (.inr (.inr (.inr (fun j => if j < 8 then some (ad1 (110 + 2 * j)) else none))))) → (∀ p : Int, 0 ≤ p → p < 8 → F1 (110 + 2 * p) = .inr (3, [.ref (ad1 (110 + 2 * p + 1)), .int 0, .int 0]) ∧ F1 (110 + 2 * p + 1) = .inl (2, 80, .inr (.inl (fun _ => 0)))) → post M1) : wpCu_init (ad 103) M post := by
  unfold wpCu_init
  refine ⟨by omega, by omega, ?_⟩
  refine r_new h 104 (hn _ (by omega) (by omega)) (fun ad1 F1 M1 h1 e1 c1 o1 => ?_)
  rw [← e1 103 hK]
  refine r_pF h1 (Or.inr hK) ((o1 103 (by omega)).trans hF) (show (0 : Nat) < 4 by decide) (fun F2 M2 h2 c2 o2 => ⟨by omega, by omega, ?_⟩)
  refine r_new h2 105 (fun q => by rcases q with q | q <;> first | omega | exact hn _ (by omega) (by omega) q) (fun ad3 F3 M3 h3 e3 c3 o3 => ?_)
  rw [← e3 103 (Or.inr hK)]
  refine r_pF h3 (Or.inr (Or.inr hK)) ((o3 103 (by omega)).trans c2) (show (1 : Nat) < 4 by decide) (fun F4 M4 h4 c4 o4 => ⟨by omega, by omega, ?_⟩)
  refine r_new h4 106 (fun q => by rcases q with q | q | q <;> first | omega | exact hn _ (by omega) (by omega) q) (fun ad5 F5 M5 h5 e5 c5 o5 => ?_)
  rw [← e5 103 (Or.inr (Or.inr hK))]
  refine r_pF h5 (Or.inr (Or.inr (Or.inr hK))) ((o5 103 (by omega)).trans c4) (show (2 : Nat) < 4 by decide) (fun F6 M6 h6 c6 o6 => ⟨by omega, by omega, ?_⟩)
  refine r_new h6 107 (fun q => by rcases q with q | q | q | q <;> first | omega | exact hn _ (by omega) (by omega) q) (fun ad7 F7 M7 h7 e7 c7 o7 => ?_)
  rw [← e7 103 (Or.inr (Or.inr (Or.inr hK)))]
  refine r_pF h7 (Or.inr (Or.inr (Or.inr (Or.inr hK)))) ((o7 103 (by omega)).trans c6) (show (3 : Nat) < 4 by decide) (fun F8 M8 h8 c8 o8 => ?_)
  have hs : rq (fun k => (104 ≤ k ∧ k ≤ 107) ∨ kk k) ad7 F8 M8 := by
    refine r_sub h8 (fun k hk => ?_)
    rcases hk with hk | hk
    · rcases (show k = 107 ∨ k = 106 ∨ k = 105 ∨ k = 104 by omega) with r | r | r | r
      · exact Or.inl r
      · exact Or.inr (Or.inl r)
      · exact Or.inr (Or.inr (Or.inl r))
      · exact Or.inr (Or.inr (Or.inr (Or.inl r)))
    · exact Or.inr (Or.inr (Or.inr (Or.inr hk)))
  have d4 : ad7 104 = ad1 104 := by rw [e7 104 (Or.inr (Or.inr (Or.inl rfl))), e5 104 (Or.inr (Or.inl rfl)), e3 104 (Or.inl rfl)]
  have d5 : ad7 105 = ad3 105 := by rw [e7 105 (Or.inr (Or.inl rfl)), e5 105 (Or.inl rfl)]
  have d6 : ad7 106 = ad5 106 := by rw [e7 106 (Or.inl rfl)]
  have c8' : F8 103 = .inr (4, [.ref (ad7 104), .ref (ad7 105), .ref (ad7 106), .ref (ad7 107)]) := by
    rw [d4, d5, d6]
    exact c8
  have g7 : F8 107 = .inl (5, 8, .inr (.inr (.inr (.inr (fun _ => none))))) := by rw [o8 _ (by omega)]; exact c7
  have g6 : F8 106 = .inl (0, 80, .inl (fun _ => 0)) := by rw [o8 _ (by omega), o7 _ (by omega), o6 _ (by omega)]; exact c5
  have g5 : F8 105 = .inl (0, 80, .inl (fun _ => 0)) := by rw [o8 _ (by omega), o7 _ (by omega), o6 _ (by omega), o5 _ (by omega), o4 _ (by omega)]; exact c3
  have g4 : F8 104 = .inl (2, 81, .inr (.inl (fun _ => 0))) := by rw [o8 _ (by omega), o7 _ (by omega), o6 _ (by omega), o5 _ (by omega), o4 _ (by omega), o3 _ (by omega), o2 _ (by omega)]; exact c1
  have ka : ∀ k, kk k → ad7 k = ad k := fun k hk => by rw [e7 k (Or.inr (Or.inr (Or.inr hk))), e5 k (Or.inr (Or.inr hk)), e3 k (Or.inr hk), e1 k hk]
  have kF : ∀ k, kk k → k ≠ 103 → F8 k = F k := fun k hk hne => by
    have ne : ∀ m, 104 ≤ m → m < 126 → k ≠ m := fun m m1 m2 e => hn m m1 m2 (e ▸ hk)
    rw [o8 k hne, o7 k (ne _ (by omega) (by omega)), o6 k hne, o5 k (ne _ (by omega) (by omega)), o4 k hne, o3 k (ne _ (by omega) (by omega)), o2 k hne, o1 k (ne _ (by omega) (by omega))]
  refine c_Cu39 hs rfl (Or.inr hK) (Or.inl (by omega)) (fun k k1 k2 q => by rcases q with q | q <;> first | omega | exact hn _ (by omega) (by omega) q) _ _ _ c8' g7 (fun ad9 F9 M9 h9 e9 o9 w7 ws => ?_)
  have m : ∀ k, 104 ≤ k → k ≤ 107 → (104 ≤ k ∧ k ≤ 107) ∨ kk k := fun k k1 k2 => Or.inl ⟨k1, k2⟩
  refine qq ad9 F9 M9 (r_sub h9 (fun k hk => ?_)) (fun k hk => by rw [e9 k (Or.inr hk), ka k hk]) (fun k hk hne => ?_) ?_ ?_ ?_ ?_ w7 ws
  · rcases hk with (hk | hk) | hk
    · exact Or.inr (Or.inl hk)
    · exact Or.inl hk
    · exact Or.inr (Or.inr hk)
  · rw [o9 k (Or.inr hk) (fun e => hn 107 (by omega) (by omega) (e ▸ hk)), kF k hk hne]
  · rw [o9 103 (Or.inr hK) (by omega), e9 104 (m _ (by omega) (by omega)), e9 105 (m _ (by omega) (by omega)), e9 106 (m _ (by omega) (by omega)), e9 107 (m _ (by omega) (by omega))]
    exact c8'
  · rw [o9 104 (m _ (by omega) (by omega)) (by omega)]; exact g4
  · rw [o9 105 (m _ (by omega) (by omega)) (by omega)]; exact g5
  · rw [o9 106 (m _ (by omega) (by omega)) (by omega)]; exact g6
