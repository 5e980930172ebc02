section BI
variable {kk : Int → Prop} {ad : Int → Nat} {F : Int → hE} {M : Hp} {post : Hp → Prop}
abbrev v1 (x : Int32) : Int32 := if (1 : Int32) < x then x else (1 : Int32)
def prdF (ad : Int → Nat) (F : Int → hE) (x : Int32) (p : Int) : Prop := F (140 + 4 * p) = .inr (2, [.int (v1 x), .ref (ad (140 + 4 * p + 2)), .ref (ad (140 + 4 * p + 3)), .int 0, .int 0, .int 0, .int 0, .long 0, .long (-1), .long 0]) ∧ F (140 + 4 * p + 2) = .inl (1, 8, .inl (fun _ => 0)) ∧ F (140 + 4 * p + 3) = .inl (2, 7, .inr (.inl (fun _ => 0)))
def stmF (ad : Int → Nat) (F : Int → hE) (x : Int32) (s : Int) : Prop := F (200 + 20 * s) = .inr (1, [.int (v1 x), .ref (ad (200 + 20 * s + 2)), .ref (ad (200 + 20 * s + 3)), .ref (ad (200 + 20 * s + 4)), .ref (ad (200 + 20 * s + 5)), .ref (ad (200 + 20 * s + 6)), .ref (ad (200 + 20 * s + 7)), .ref (ad (200 + 20 * s + 8)), .ref (ad (200 + 20 * s + 9)), .int 0, .int 0, .int 0]) ∧ (F (200 + 20 * s + 2) = .inl (0, 60, .inl (fun _ => 0)) ∧ F (200 + 20 * s + 3) = .inl (0, 60, .inl (fun _ => 0)) ∧ F (200 + 20 * s + 4) = .inl (0, 60, .inl (fun _ => 0)) ∧ F (200 + 20 * s + 5) = .inl (0, 20, .inl (fun _ => 0)) ∧ F (200 + 20 * s + 6) = .inl (0, 20, .inl (fun _ => 0)) ∧ F (200 + 20 * s + 7) = .inl (0, 20, .inl (fun _ => 0)) ∧ F (200 + 20 * s + 8) = .inl (1, 81, .inl (fun _ => 0))) ∧ F (200 + 20 * s + 9) = .inl (6, 8, .inr (.inr (.inr (.inr (fun j => if j < 8 then some (ad (200 + 20 * s + 9 + (1 + j))) else none))))) ∧ (∀ k, 200 + 20 * s + 9 < k → k ≤ 200 + 20 * s + 9 + 8 → F k = .inl (0, 80, .inl (fun _ => 0)))
theorem prdF_eq {ad1 : Int → Nat} {F1 : Int → hE} {x : Int32} {p : Int} (h : prdF ad F x p) (ea : ∀ k, 140 + 4 * p ≤ k → k ≤ 140 + 4 * p + 3 → k ≠ 140 + 4 * p + 1 → ad1 k = ad k) (eF : ∀ k, 140 + 4 * p ≤ k → k ≤ 140 + 4 * p + 3 → k ≠ 140 + 4 * p + 1 → F1 k = F k) : prdF ad1 F1 x p := by
  unfold prdF at *
  rw [eF _ (by omega) (by omega) (by omega), eF _ (by omega) (by omega) (by omega), eF _ (by omega) (by omega) (by omega), ea _ (by omega) (by omega) (by omega), ea _ (by omega) (by omega) (by omega)]
  exact h
theorem stmF_eq {ad1 : Int → Nat} {F1 : Int → hE} {x : Int32} {s : Int} (h : stmF ad F x s) (ea : ∀ k, 200 + 20 * s ≤ k → k ≤ 200 + 20 * s + 17 → k ≠ 200 + 20 * s + 1 → ad1 k = ad k) (eF : ∀ k, 200 + 20 * s ≤ k → k ≤ 200 + 20 * s + 17 → k ≠ 200 + 20 * s + 1 → F1 k = F k) : stmF ad1 F1 x s := by
  unfold stmF at *
  obtain ⟨h1, h2, h3, h4⟩ := h
  rw [eF (200 + 20 * s) (by omega) (by omega) (by omega), eF (200 + 20 * s + 2) (by omega) (by omega) (by omega), eF (200 + 20 * s + 3) (by omega) (by omega) (by omega), eF (200 + 20 * s + 4) (by omega) (by omega) (by omega), eF (200 + 20 * s + 5) (by omega) (by omega) (by omega), eF (200 + 20 * s + 6) (by omega) (by omega) (by omega), eF (200 + 20 * s + 7) (by omega) (by omega) (by omega), eF (200 + 20 * s + 8) (by omega) (by omega) (by omega), eF (200 + 20 * s + 9) (by omega) (by omega) (by omega), ea (200 + 20 * s + 2) (by omega) (by omega) (by omega), ea (200 + 20 * s + 3) (by omega) (by omega) (by omega), ea (200 + 20 * s + 4) (by omega) (by omega) (by omega), ea (200 + 20 * s + 5) (by omega) (by omega) (by omega), ea (200 + 20 * s + 6) (by omega) (by omega) (by omega), ea (200 + 20 * s + 7) (by omega) (by omega) (by omega), ea (200 + 20 * s + 8) (by omega) (by omega) (by omega), ea (200 + 20 * s + 9) (by omega) (by omega) (by omega)]
  refine ⟨h1, h2, ?_, fun k k1 k2 => by rw [eF k (by omega) (by omega) (by omega)]; exact h4 k k1 k2⟩
  rw [h3]
  congr 7
  funext j
  by_cases hj : j < 8
  · rw [if_pos hj, if_pos hj, ea _ (by omega) (by omega) (by omega)]
  · rw [if_neg hj, if_neg hj]
/-- the products -/
theorem c_BT131 {A kc0 ks0 : Nat} {x2 : Int32} {fs : List Value} (h : rq kk ad F M) (hA : A = ad 100) (k1 : kk 100) (k2 : kk 102) (hn : ∀ k, 140 ≤ k → k < 172 → ¬ kk k) (hF : F 100 = .inr (0, fs)) (hfs : fs[1]? = some (.ref (ad 102))) (h7 : F 102 = .inl (4, 8, .inr (.inr (.inr (.inr (fun _ => none)))))) (bc : kc0 ≤ 170) (bs : ks0 ≤ 19000)
    (qq : ∀ (ad1 : Int → Nat) (F1 : Int → hE) (M1 : Hp), rq (fun k => (140 ≤ k ∧ k < 172 ∧ k % 4 ≠ 1) ∨ kk k) ad1 F1 M1 → (∀ k, kk k → ad1 k = ad k) → (∀ k, kk k → k ≠ 102 → F1 k = F k) → F1 102 = .inl (4, 8, .inr (.inr (.inr (.inr (fun j => if j < 8 then some (ad1 (140 + 4 * j)) else none))))) → (∀ p : Int, 0 ≤ p → p < 8 → prdF ad1 F1 x2 p) → post M1) : ∃ n, wBT_init_131 post n A x2 (0 : Int32) kc0 ks0 M := by
  have key := lp4 (fun n (x : Int32) (kc ks : Nat) (M : Hp) => wBT_init_131 post n A x2 x kc ks M) (fun x kc ks M => ∃ (p : Nat) (ad1 : Int → Nat) (F1 : Int → hE), x = Int32.ofInt p ∧ p ≤ 8 ∧ kc = kc0 + 3 * p ∧ ks = ks0 + 25 * p ∧ rq (fun k => (140 ≤ k ∧ k < 140 + 4 * (p : Int) ∧ k % 4 ≠ 1) ∨ kk k) ad1 F1 M ∧ (∀ k, kk k → ad1 k = ad k) ∧ (∀ k, kk k → k ≠ 102 → F1 k = F k) ∧ F1 102 = .inl (4, 8, .inr (.inr (.inr (.inr (fun j => if j < p then some (ad1 (140 + 4 * j)) else none))))) ∧ (∀ q : Int, 0 ≤ q → q < p → prdF ad1 F1 x2 q)) (fun x _ _ _ => (8 - x.toInt).toNat) (fun n x kc ks M hI ih => ?_) (0 : Int32) kc0 ks0 M ⟨0, ad, F, LI_0, by omega, rfl, rfl, r_sub h (fun k hk => hk.elim (fun q => by omega) id), fun _ _ => rfl, fun _ _ _ => rfl, ?_, fun q _ _ => by omega⟩
  · exact key
  · obtain ⟨p, ad1, F1, ex, p8, ekc, eks, h1, ea, eF, e7, ew⟩ := hI
    have rx : rI (p : Int) := by constructor <;> omega
    have c8 : (8 : Int32) ≤ x ↔ (8 : Int) ≤ p := c_le LI_8 ex LI_8r rx
    unfold wBT_init_131
    refine ⟨fun g => ?_, fun g => ?_⟩
    · have : p = 8 := by have := c8.1 g; omega
      subst this
      exact ⟨by omega, by omega, qq ad1 F1 M h1 ea eF e7 ew⟩
    · have p7 : p < 8 := by
        by_cases hp : p < 8
        · exact hp
        · exact absurd (c8.2 (by omega)) g
      have eA : A = ad1 100 := by rw [hA, ea 100 k1]
      rw [eA]
      refine r_fA h1 (Or.inr k1) ((eF 100 k1 (by omega)).trans hF) (show _ = some (Value.ref (ad1 102)) by rw [ea 102 k2]; exact hfs) ⟨by omega, by omega, ?_⟩
      refine r_new h1 (140 + 4 * (p : Int)) (fun q => by rcases q with q | q <;> first | omega | exact hn _ (by omega) (by omega) q) (fun ad2 F2 M2 h2 a2 c2 o2 => ⟨by omega, by omega, ?_⟩)
      refine c_Pr_init h2 (Or.inl rfl) (fun k k1 k2 q => by rcases q with q | q | q <;> first | omega | exact hn _ (by omega) (by omega) q) c2 (fun ad3 F3 M3 h3 a3 o3 c3 d3 d4 => ?_)
      have a31 : ∀ k, ((140 ≤ k ∧ k < 140 + 4 * (p : Int) ∧ k % 4 ≠ 1) ∨ kk k) → ad3 k = ad1 k := fun k hk => by rw [a3 k (Or.inr hk), a2 k hk]
      have o31 : ∀ k, ((140 ≤ k ∧ k < 140 + 4 * (p : Int) ∧ k % 4 ≠ 1) ∨ kk k) → F3 k = F1 k := fun k hk => by
        have ne : k ≠ 140 + 4 * (p : Int) := fun e => by
          rcases hk with hk | hk
          · omega
          · rw [e] at hk
            exact hn _ (by omega) (by omega) hk
        rw [o3 k (Or.inr hk) ne, o2 k ne]
      rw [← a31 102 (Or.inr k2), ← a3 (140 + 4 * (p : Int)) (Or.inl rfl), ← a31 100 (Or.inr k1)]
      refine r_sA (p0 := p) h3 (Or.inr (Or.inr (Or.inr k2))) (Or.inr (Or.inl rfl)) ((o31 102 (Or.inr k2)).trans e7) c3 ex p7 (by omega) (fun F4 M4 h4 c4 o4 z ez => ?_)
      have ez' : z = Int32.ofInt ((p + 1 : Nat) : Int) := by
        rw [ez, h_add ex LI_1]
        congr 1
      have rz : rI ((p + 1 : Nat) : Int) := by constructor <;> omega
      rw [show ad3 100 = A by rw [a31 100 (Or.inr k1), ← eA]]
      refine ih z (kc + 1 + 2) (ks + 10 + 15) M4 ⟨p + 1, ad3, F4, ez', by omega, by omega, by omega, r_sub h4 (fun k hk => ?_), fun k hk => by rw [a31 k (Or.inr hk), ea k hk], fun k hk hne => ?_, ?_, fun q q0 q1 => ?_⟩ ?_
      · rcases hk with hk | hk
        · by_cases h10 : k = 140 + 4 * (p : Int)
          · exact Or.inr (Or.inl h10)
          · by_cases h11 : 140 + 4 * (p : Int) ≤ k
            · exact Or.inl (by omega)
            · exact Or.inr (Or.inr (Or.inl (by omega)))
        · exact Or.inr (Or.inr (Or.inr hk))
      · rw [o4 k hne, o31 k (Or.inr hk), eF k hk hne]
      · rw [c4]
        congr 7
        have hf : (fun j : Nat => if j < p then some (ad1 (140 + 4 * (j : Int))) else none) = fun j : Nat => if j < p then some (ad3 (140 + 4 * (j : Int))) else none := by
          funext j
          by_cases hj : j < p
          · rw [if_pos hj, if_pos hj, a31 _ (Or.inl (by omega))]
          · rw [if_neg hj, if_neg hj]
        exact fA_u (g := fun j => ad3 (140 + 4 * (j : Int))) p7 hf
      · by_cases hq : q = p
        · subst hq
          unfold prdF
          rw [o4 _ (by omega), o4 _ (by omega), o4 _ (by omega)]
          exact ⟨c3, d3, d4⟩
        · refine prdF_eq (ew q q0 (by omega)) (fun k k1 k2 k3 => a31 _ (Or.inl (by omega))) (fun k k1 k2 k3 => ?_)
          rw [o4 k (by omega), o31 _ (Or.inl (by omega))]
      · show (8 - z.toInt).toNat < (8 - x.toInt).toNat
        rw [ez', ex, o32_t rz, o32_t rx]
        omega
  · rw [h7]
    congr 7
/-- the stems, and then the products -/
theorem c_BT103 {A kc0 ks0 : Nat} {x2 : Int32} {fs : List Value} (h : rq kk ad F M) (hA : A = ad 100) (k1 : kk 100) (k0 : kk 101) (k2 : kk 102) (hn : ∀ k, (140 ≤ k ∧ k < 172) ∨ (200 ≤ k ∧ k < 320) → ¬ kk k) (hF : F 100 = .inr (0, fs)) (hf0 : fs[0]? = some (.ref (ad 101))) (hfs : fs[1]? = some (.ref (ad 102))) (h6 : F 101 = .inl (3, 6, .inr (.inr (.inr (.inr (fun _ => none)))))) (h7 : F 102 = .inl (4, 8, .inr (.inr (.inr (.inr (fun _ => none)))))) (bc : kc0 ≤ 60) (bs : ks0 ≤ 12000)
    (qq : ∀ (ad1 : Int → Nat) (F1 : Int → hE) (M1 : Hp), rq (fun k => ((140 ≤ k ∧ k < 172 ∧ k % 4 ≠ 1) ∨ (200 ≤ k ∧ k < 320 ∧ k % 20 ≠ 1 ∧ k % 20 ≤ 17)) ∨ kk k) ad1 F1 M1 → (∀ k, kk k → ad1 k = ad k) → (∀ k, kk k → k ≠ 101 → k ≠ 102 → F1 k = F k) → F1 101 = .inl (3, 6, .inr (.inr (.inr (.inr (fun j => if j < 6 then some (ad1 (200 + 20 * j)) else none))))) → F1 102 = .inl (4, 8, .inr (.inr (.inr (.inr (fun j => if j < 8 then some (ad1 (140 + 4 * j)) else none))))) → (∀ s : Int, 0 ≤ s → s < 6 → stmF ad1 F1 x2 s) → (∀ p : Int, 0 ≤ p → p < 8 → prdF ad1 F1 x2 p) → post M1) : ∃ n, wBT_init_103 post n A x2 (0 : Int32) kc0 ks0 M := by
  have key := lp4 (fun n (x : Int32) (kc ks : Nat) (M : Hp) => wBT_init_103 post n A x2 x kc ks M) (fun x kc ks M => ∃ (p : Nat) (ad1 : Int → Nat) (F1 : Int → hE), x = Int32.ofInt p ∧ p ≤ 6 ∧ kc = kc0 + 17 * p ∧ ks = ks0 + 981 * p ∧ rq (fun k => (200 ≤ k ∧ k < 200 + 20 * (p : Int) ∧ k % 20 ≠ 1 ∧ k % 20 ≤ 17) ∨ kk k) ad1 F1 M ∧ (∀ k, kk k → ad1 k = ad k) ∧ (∀ k, kk k → k ≠ 101 → F1 k = F k) ∧ F1 101 = .inl (3, 6, .inr (.inr (.inr (.inr (fun j => if j < p then some (ad1 (200 + 20 * j)) else none))))) ∧ (∀ q : Int, 0 ≤ q → q < p → stmF ad1 F1 x2 q)) (fun x _ _ _ => (8 - x.toInt).toNat) (fun n x kc ks M hI ih => ?_) (0 : Int32) kc0 ks0 M ⟨0, ad, F, LI_0, by omega, rfl, rfl, r_sub h (fun k hk => hk.elim (fun q => by omega) id), fun _ _ => rfl, fun _ _ _ => rfl, ?_, fun q _ _ => by omega⟩
  · exact key
  · obtain ⟨p, ad1, F1, ex, p8, ekc, eks, h1, ea, eF, e7, ew⟩ := hI
    have rx : rI (p : Int) := by constructor <;> omega
    have c8 : (6 : Int32) ≤ x ↔ (6 : Int) ≤ p := c_le LI_6 ex LI_6r rx
    have eA : A = ad1 100 := by rw [hA, ea 100 k1]
    unfold wBT_init_103
    refine ⟨fun g => ?_, fun g => ?_⟩
    · have : p = 6 := by have := c8.1 g; omega
      subst this
      refine c_BT131 h1 eA (Or.inr k1) (Or.inr k2) (fun k g1 g2 q => by rcases q with q | q <;> first | omega | exact hn _ (by omega) q) ((eF 100 k1 (by omega)).trans hF) (by rw [ea 102 k2]; exact hfs) ((eF 102 k2 (by omega)).trans h7) (by omega) (by omega) (fun ad5 F5 M5 h5 a5 o5 w5 ws => ?_)
      have m6 : ∀ k, 200 ≤ k → k < 320 → k % 20 ≠ 1 → k % 20 ≤ 17 → (200 ≤ k ∧ k < 200 + 20 * ((6 : Nat) : Int) ∧ k % 20 ≠ 1 ∧ k % 20 ≤ 17) ∨ kk k := fun k q1 q2 q3 q4 => Or.inl (by omega)
      refine qq ad5 F5 M5 (r_sub h5 (fun k hk => ?_)) (fun k hk => by rw [a5 k (Or.inr hk), ea k hk]) (fun k hk n1 n2 => by rw [o5 k (Or.inr hk) n2, eF k hk n1]) ?_ w5 (fun s s0 s6 => ?_) ws
      · rcases hk with (hk | hk) | hk
        · exact Or.inl hk
        · exact Or.inr (Or.inl (by omega))
        · exact Or.inr (Or.inr hk)
      · rw [o5 101 (Or.inr k0) (by omega), e7]
        congr 7
        funext j
        by_cases hj : j < 6
        · rw [if_pos hj, if_pos hj, a5 _ (m6 _ (by omega) (by omega) (by omega) (by omega))]
        · rw [if_neg hj, if_neg hj]
      · exact stmF_eq (ew s s0 (by omega)) (fun k q1 q2 q3 => a5 _ (m6 _ (by omega) (by omega) (by omega) (by omega))) (fun k q1 q2 q3 => o5 _ (m6 _ (by omega) (by omega) (by omega) (by omega)) (by omega))
    · have p7 : p < 6 := by
        by_cases hp : p < 6
        · exact hp
        · exact absurd (c8.2 (by omega)) g
      rw [eA]
      refine r_fA h1 (Or.inr k1) ((eF 100 k1 (by omega)).trans hF) (show _ = some (Value.ref (ad1 101)) by rw [ea 101 k0]; exact hf0) ⟨by omega, by omega, ?_⟩
      refine r_new h1 (200 + 20 * (p : Int)) (fun q => by rcases q with q | q <;> first | omega | exact hn _ (by omega) q) (fun ad2 F2 M2 h2 a2 c2 o2 => ⟨by omega, by omega, ?_⟩)
      refine c_St_init h2 (Or.inl rfl) (fun k k1 k2 q => by rcases q with q | q | q <;> first | omega | exact hn _ (by omega) q) c2 (fun ad3 F3 M3 h3 a3 o3 c3 d2 d3 d4 d5 d6 d7 d8 d9 d10 => ?_)
      have a31 : ∀ k, ((200 ≤ k ∧ k < 200 + 20 * (p : Int) ∧ k % 20 ≠ 1 ∧ k % 20 ≤ 17) ∨ kk k) → ad3 k = ad1 k := fun k hk => by rw [a3 k (Or.inr hk), a2 k hk]
      have o31 : ∀ k, ((200 ≤ k ∧ k < 200 + 20 * (p : Int) ∧ k % 20 ≠ 1 ∧ k % 20 ≤ 17) ∨ kk k) → F3 k = F1 k := fun k hk => by
        have ne : k ≠ 200 + 20 * (p : Int) := fun e => by
          rcases hk with hk | hk
          · omega
          · rw [e] at hk
            exact hn _ (by omega) hk
        rw [o3 k (Or.inr hk) ne, o2 k ne]
      rw [← a31 101 (Or.inr k0), ← a3 (200 + 20 * (p : Int)) (Or.inl rfl), ← a31 100 (Or.inr k1)]
      refine r_sA (p0 := p) h3 (Or.inr (Or.inr (Or.inr k0))) (Or.inr (Or.inl rfl)) ((o31 101 (Or.inr k0)).trans e7) c3 ex p7 (by omega) (fun F4 M4 h4 c4 o4 z ez => ?_)
      have ez' : z = Int32.ofInt ((p + 1 : Nat) : Int) := by
        rw [ez, h_add ex LI_1]
        congr 1
      have rz : rI ((p + 1 : Nat) : Int) := by constructor <;> omega
      rw [show ad3 100 = A by rw [a31 100 (Or.inr k1), ← eA]]
      refine ih z (kc + 1 + 16) (ks + 12 + 969) M4 ⟨p + 1, ad3, F4, ez', by omega, by omega, by omega, r_sub h4 (fun k hk => ?_), fun k hk => by rw [a31 k (Or.inr hk), ea k hk], fun k hk hne => ?_, ?_, fun q q0 q1 => ?_⟩ ?_
      · rcases hk with hk | hk
        · by_cases h10 : k = 200 + 20 * (p : Int)
          · exact Or.inr (Or.inl h10)
          · by_cases h11 : 200 + 20 * (p : Int) ≤ k
            · exact Or.inl (by omega)
            · exact Or.inr (Or.inr (Or.inl (by omega)))
        · exact Or.inr (Or.inr (Or.inr hk))
      · rw [o4 k hne, o31 k (Or.inr hk), eF k hk hne]
      · rw [c4]
        congr 7
        have hf : (fun j : Nat => if j < p then some (ad1 (200 + 20 * (j : Int))) else none) = fun j : Nat => if j < p then some (ad3 (200 + 20 * (j : Int))) else none := by
          funext j
          by_cases hj : j < p
          · rw [if_pos hj, if_pos hj, a31 _ (Or.inl (by omega))]
          · rw [if_neg hj, if_neg hj]
        exact fA_u (g := fun j => ad3 (200 + 20 * (j : Int))) p7 hf
      · by_cases hq : q = p
        · subst hq
          unfold stmF
          rw [o4 _ (by omega), o4 _ (by omega), o4 _ (by omega), o4 _ (by omega), o4 _ (by omega), o4 _ (by omega), o4 _ (by omega), o4 _ (by omega), o4 _ (by omega)]
          exact ⟨c3, ⟨d2, d3, d4, d5, d6, d7, d8⟩, d9, fun k g1 g2 => by rw [o4 k (by omega)]; exact d10 k g1 g2⟩
        · refine stmF_eq (ew q q0 (by omega)) (fun k k1 k2 k3 => a31 _ (Or.inl (by omega))) (fun k k1 k2 k3 => ?_)
          rw [o4 k (by omega), o31 _ (Or.inl (by omega))]
      · show (8 - z.toInt).toNat < (8 - x.toInt).toNat
        rw [ez', ex, o32_t rz, o32_t rx]
        omega
  · rw [h6]
    congr 7
end BI
