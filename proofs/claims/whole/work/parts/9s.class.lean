section BC
variable {kk : Int → Prop} {ad : Int → Nat} {F : Int → hE} {M : Hp} {post : Hp → Prop}
def plnF (ad : Int → Nat) (F : Int → hE) (K : Int) : Prop := F K = .inr (5, [.ref (ad (K + 1)), .ref (ad (K + 2)), .ref (ad (K + 3)), .int 0, .long 0]) ∧ F (K + 1) = .inl (0, 2400, .inl (fun _ => 0)) ∧ F (K + 2) = .inl (1, 480, .inl (fun _ => 0)) ∧ F (K + 3) = .inl (0, 8, .inl (fun _ => 0))
def cutF (ad : Int → Nat) (F : Int → hE) : Prop := F 103 = .inr (4, [.ref (ad 104), .ref (ad 105), .ref (ad 106), .ref (ad 107)]) ∧ F 104 = .inl (2, 81, .inr (.inl (fun _ => 0))) ∧ F 105 = .inl (0, 80, .inl (fun _ => 0)) ∧ F 106 = .inl (0, 80, .inl (fun _ => 0)) ∧ F 107 = .inl (5, 8, .inr (.inr (.inr (.inr (fun j => if j < 8 then some (ad (110 + 2 * j)) else none))))) ∧ (∀ p : Int, 0 ≤ p → p < 8 → F (110 + 2 * p) = .inr (3, [.ref (ad (110 + 2 * p + 1)), .int 0, .int 0]) ∧ F (110 + 2 * p + 1) = .inl (2, 80, .inr (.inl (fun _ => 0))))
theorem plnF_eq {ad1 : Int → Nat} {F1 : Int → hE} {K : Int} (h : plnF ad F K) (ea : ∀ k, K ≤ k → k ≤ K + 3 → ad1 k = ad k) (eF : ∀ k, K ≤ k → k ≤ K + 3 → F1 k = F k) : plnF ad1 F1 K := by
  unfold plnF at *
  rw [eF _ (by omega) (by omega), eF _ (by omega) (by omega), eF _ (by omega) (by omega), eF _ (by omega) (by omega), ea _ (by omega) (by omega), ea _ (by omega) (by omega), ea _ (by omega) (by omega)]
  exact h
theorem cutF_eq {ad1 : Int → Nat} {F1 : Int → hE} (h : cutF ad F) (ea : ∀ k, (103 ≤ k ∧ k ≤ 107) ∨ (110 ≤ k ∧ k < 126) → ad1 k = ad k) (eF : ∀ k, (103 ≤ k ∧ k ≤ 107) ∨ (110 ≤ k ∧ k < 126) → F1 k = F k) : cutF ad1 F1 := by
  unfold cutF at *
  obtain ⟨h1, h2, h3, h4, h5, h6⟩ := h
  rw [eF 103 (by omega), eF 104 (by omega), eF 105 (by omega), eF 106 (by omega), eF 107 (by omega), ea 104 (by omega), ea 105 (by omega), ea 106 (by omega), ea 107 (by omega)]
  refine ⟨h1, h2, h3, h4, ?_, fun p p0 p8 => ?_⟩
  · rw [h5]
    congr 7
    funext j
    by_cases hj : j < 8
    · rw [if_pos hj, if_pos hj, ea _ (by omega)]
    · rw [if_neg hj, if_neg hj]
  · rw [eF _ (by omega), eF _ (by omega), ea _ (by omega)]
    exact h6 p p0 p8
theorem c_BT {p0 : Int32} (h : rq kk ad F M) (hK : kk 100) (hn : ∀ k, 101 ≤ k → k < 330 → ¬ kk k) (hF : F 100 = .inr (0, [.null, .null, .null, .int 0, .int 0, .int 0, .int 0, .null, .null, .int 0, .int 0, .long 0]))
    (qq : ∀ (ad1 : Int → Nat) (F1 : Int → hE) (M1 : Hp) (x2 : Int32), x2 = (if (1 : Int32) < (if (65536 : Int32) < p0 then (65536 : Int32) else p0) then (if (65536 : Int32) < p0 then (65536 : Int32) else p0) else (1 : Int32)) → rq (fun k => ((101 ≤ k ∧ k ≤ 107) ∨ (110 ≤ k ∧ k < 126) ∨ (130 ≤ k ∧ k ≤ 137) ∨ (140 ≤ k ∧ k < 172 ∧ k % 4 ≠ 1) ∨ (200 ≤ k ∧ k < 320 ∧ k % 20 ≠ 1 ∧ k % 20 ≤ 17)) ∨ kk k) ad1 F1 M1 → (∀ k, kk k → ad1 k = ad k) → (∀ k, kk k → k ≠ 100 → F1 k = F k) → F1 100 = .inr (0, [.ref (ad1 101), .ref (ad1 102), .ref (ad1 103), .int 1, .int 0, .int 0, .int 0, .ref (ad1 130), .ref (ad1 134), .int 0, .int 0, .long 0]) → F1 101 = .inl (3, 6, .inr (.inr (.inr (.inr (fun j => if j < 6 then some (ad1 (200 + 20 * j)) else none))))) → F1 102 = .inl (4, 8, .inr (.inr (.inr (.inr (fun j => if j < 8 then some (ad1 (140 + 4 * j)) else none))))) → cutF ad1 F1 → plnF ad1 F1 130 → plnF ad1 F1 134 → (∀ s : Int, 0 ≤ s → s < 6 → stmF ad1 F1 x2 s) → (∀ p : Int, 0 ≤ p → p < 8 → prdF ad1 F1 x2 p) → post M1) : wpBT_init (ad 100) p0 M post := by
  have ne : ∀ k m, kk k → 101 ≤ m → m < 330 → k ≠ m := fun k m hk m1 m2 e => hn m m1 m2 (e ▸ hk)
  unfold wpBT_init
  refine ⟨by omega, by omega, ?_⟩
  refine r_new h 101 (hn _ (by omega) (by omega)) (fun a1 F1 M1 h1 e1 c1 o1 => ?_)
  rw [← e1 100 hK]
  refine r_pF h1 (Or.inr hK) ((o1 100 (by omega)).trans hF) (show (0 : Nat) < 12 by decide) (fun F2 M2 h2 c2 o2 => ⟨by omega, by omega, ?_⟩)
  refine r_new h2 102 (fun q => by rcases q with q | q <;> first | omega | exact hn _ (by omega) (by omega) q) (fun a3 F3 M3 h3 e3 c3 o3 => ?_)
  rw [← e3 100 (Or.inr hK)]
  refine r_pF h3 (Or.inr (Or.inr hK)) ((o3 100 (by omega)).trans c2) (show (1 : Nat) < 12 by decide) (fun F4 M4 h4 c4 o4 => ⟨by omega, by omega, ?_⟩)
  refine r_new h4 103 (fun q => by rcases q with q | q | q <;> first | omega | exact hn _ (by omega) (by omega) q) (fun a5 F5 M5 h5 e5 c5 o5 => ⟨by omega, by omega, ?_⟩)
  rw [← e5 100 (Or.inr (Or.inr hK))]
  refine c_Cu h5 (Or.inl rfl) (fun k k1 k2 q => by rcases q with q | q | q | q <;> first | omega | exact hn _ (by omega) (by omega) q) c5 (fun a6 F6 M6 h6 e6 o6 g3 g4 g5 g6 g7 gw => ?_)
  have cut6 : cutF a6 F6 := ⟨g3, g4, g5, g6, g7, gw⟩
  rw [← e6 100 (Or.inr (Or.inr (Or.inr hK))), ← e6 103 (Or.inl rfl)]
  have m0 : ((104 ≤ (100 : Int) ∧ (100 : Int) ≤ 107) ∨ (110 ≤ (100 : Int) ∧ (100 : Int) < 126)) ∨ ((100 : Int) = 103 ∨ ((100 : Int) = 102 ∨ ((100 : Int) = 101 ∨ kk 100))) := Or.inr (Or.inr (Or.inr (Or.inr hK)))
  have f6 : F6 100 = _ := (o6 100 (Or.inr (Or.inr (Or.inr hK))) (by omega)).trans ((o5 100 (by omega)).trans c4)
  refine r_pF h6 m0 f6 (show (2 : Nat) < 12 by decide) (fun F7 M7 h7 c7 o7 => ?_)
  refine r_pF h7 m0 c7 (show (3 : Nat) < 12 by decide) (fun F8 M8 h8 c8 o8 => ?_)
  refine r_pF h8 m0 c8 (show (4 : Nat) < 12 by decide) (fun F9 M9 h9 c9 o9 => ?_)
  refine r_pF h9 m0 c9 (show (5 : Nat) < 12 by decide) (fun F10 M10 h10 c10 o10 => ?_)
  refine r_pF h10 m0 c10 (show (6 : Nat) < 12 by decide) (fun F11 M11 h11 c11 o11 => ⟨by omega, by omega, ?_⟩)
  have o611 : ∀ k, k ≠ 100 → F11 k = F6 k := fun k hk => by rw [o11 k hk, o10 k hk, o9 k hk, o8 k hk, o7 k hk]
  have hs : rq (fun k => ((101 ≤ k ∧ k ≤ 107) ∨ (110 ≤ k ∧ k < 126)) ∨ kk k) a6 F11 M11 := by
    refine r_sub h11 (fun k hk => ?_)
    rcases hk with (hk | hk) | hk
    · by_cases q1 : k = 101
      · exact Or.inr (Or.inr (Or.inr (Or.inl q1)))
      · by_cases q2 : k = 102
        · exact Or.inr (Or.inr (Or.inl q2))
        · by_cases q3 : k = 103
          · exact Or.inr (Or.inl q3)
          · exact Or.inl (Or.inl (by omega))
    · exact Or.inl (Or.inr hk)
    · exact Or.inr (Or.inr (Or.inr (Or.inr hk)))
  have m1 : ((101 ≤ (100 : Int) ∧ (100 : Int) ≤ 107) ∨ (110 ≤ (100 : Int) ∧ (100 : Int) < 126)) ∨ kk 100 := Or.inr hK
  refine r_new hs 130 (fun q => by rcases q with (q | q) | q <;> first | omega | exact hn _ (by omega) (by omega) q) (fun a12 F12 M12 h12 e12 c12 o12 => ⟨by omega, by omega, ?_⟩)
  rw [← e12 100 m1]
  refine c_Pl_init h12 (Or.inl rfl) (fun k k1 k2 q => by rcases q with q | (q | q) | q <;> first | omega | exact hn _ (by omega) (by omega) q) c12 (fun a13 F13 M13 h13 e13 o13 p0' p1 p2 p3 => ?_)
  have pl13 : plnF a13 F13 130 := ⟨p0', p1, p2, p3⟩
  rw [← e13 100 (Or.inr m1), ← e13 130 (Or.inl rfl)]
  refine r_pF h13 (Or.inr (Or.inr m1)) ((o13 100 (Or.inr m1) (by omega)).trans ((o12 100 (by omega)).trans c11)) (show (7 : Nat) < 12 by decide) (fun F14 M14 h14 c14 o14 => ⟨by omega, by omega, ?_⟩)
  have hs2 : rq (fun k => ((101 ≤ k ∧ k ≤ 107) ∨ (110 ≤ k ∧ k < 126) ∨ (130 ≤ k ∧ k ≤ 133)) ∨ kk k) a13 F14 M14 := by
    refine r_sub h14 (fun k hk => ?_)
    rcases hk with (hk | hk | hk) | hk
    · exact Or.inr (Or.inr (Or.inl (Or.inl hk)))
    · exact Or.inr (Or.inr (Or.inl (Or.inr hk)))
    · by_cases q1 : k = 130
      · exact Or.inr (Or.inl q1)
      · exact Or.inl (by omega)
    · exact Or.inr (Or.inr (Or.inr hk))
  have m2 : ((101 ≤ (100 : Int) ∧ (100 : Int) ≤ 107) ∨ (110 ≤ (100 : Int) ∧ (100 : Int) < 126) ∨ (130 ≤ (100 : Int) ∧ (100 : Int) ≤ 133)) ∨ kk 100 := Or.inr hK
  refine r_new hs2 134 (fun q => by rcases q with (q | q | q) | q <;> first | omega | exact hn _ (by omega) (by omega) q) (fun a15 F15 M15 h15 e15 c15 o15 => ⟨by omega, by omega, ?_⟩)
  rw [← e15 100 m2]
  refine c_Pl_init h15 (Or.inl rfl) (fun k k1 k2 q => by rcases q with q | (q | q | q) | q <;> first | omega | exact hn _ (by omega) (by omega) q) c15 (fun a16 F16 M16 h16 e16 o16 q0 q1 q2 q3 => ?_)
  have pl16 : plnF a16 F16 134 := ⟨q0, q1, q2, q3⟩
  rw [← e16 100 (Or.inr m2), ← e16 134 (Or.inl rfl)]
  have m3 : (134 + 1 ≤ (100 : Int) ∧ (100 : Int) ≤ 134 + 3) ∨ ((100 : Int) = 134 ∨ (((101 ≤ (100 : Int) ∧ (100 : Int) ≤ 107) ∨ (110 ≤ (100 : Int) ∧ (100 : Int) < 126) ∨ (130 ≤ (100 : Int) ∧ (100 : Int) ≤ 133)) ∨ kk 100)) := Or.inr (Or.inr m2)
  refine r_pF h16 m3 ((o16 100 (Or.inr m2) (by omega)).trans ((o15 100 (by omega)).trans c14)) (show (8 : Nat) < 12 by decide) (fun F17 M17 h17 c17 o17 => ?_)
  refine r_pF h17 m3 c17 (show (9 : Nat) < 12 by decide) (fun F18 M18 h18 c18 o18 => ?_)
  refine r_pF h18 m3 c18 (show (10 : Nat) < 12 by decide) (fun F19 M19 h19 c19 o19 => ?_)
  refine r_pF h19 m3 c19 (show (11 : Nat) < 12 by decide) (fun F20 M20 h20 c20 o20 x2 ex2 => ?_)
  have hs3 : rq (fun k => ((101 ≤ k ∧ k ≤ 107) ∨ (110 ≤ k ∧ k < 126) ∨ (130 ≤ k ∧ k ≤ 137)) ∨ kk k) a16 F20 M20 := by
    refine r_sub h20 (fun k hk => ?_)
    rcases hk with (hk | hk | hk) | hk
    · exact Or.inr (Or.inr (Or.inl (Or.inl hk)))
    · exact Or.inr (Or.inr (Or.inl (Or.inr (Or.inl hk))))
    · by_cases q1 : k = 134
      · exact Or.inr (Or.inl q1)
      · by_cases q2 : k ≤ 133
        · exact Or.inr (Or.inr (Or.inl (Or.inr (Or.inr (by omega)))))
        · exact Or.inl (by omega)
    · exact Or.inr (Or.inr (Or.inr hk))
  -- all addresses, from the last back
  have b16 : ∀ k, (((101 ≤ k ∧ k ≤ 107) ∨ (110 ≤ k ∧ k < 126) ∨ (130 ≤ k ∧ k ≤ 133)) ∨ kk k) → a16 k = a13 k := fun k hk => by rw [e16 k (Or.inr hk), e15 k hk]
  have b13 : ∀ k, (((101 ≤ k ∧ k ≤ 107) ∨ (110 ≤ k ∧ k < 126)) ∨ kk k) → a16 k = a6 k := fun k hk => by
    rw [b16 k (hk.elim (fun q => Or.inl (q.elim Or.inl (fun r => Or.inr (Or.inl r)))) Or.inr), e13 k (Or.inr hk), e12 k hk]
  have f16 : ∀ k, (((101 ≤ k ∧ k ≤ 107) ∨ (110 ≤ k ∧ k < 126) ∨ (130 ≤ k ∧ k ≤ 133)) ∨ kk k) → k ≠ 100 → F20 k = F13 k := fun k hk hne => by
    have n134 : k ≠ 134 := fun e => by
      rcases hk with hk | hk
      · omega
      · exact ne k 134 hk (by omega) (by omega) e
    rw [o20 k hne, o19 k hne, o18 k hne, o17 k hne, o16 k (Or.inr hk) n134, o15 k n134, o14 k hne]
  have f13 : ∀ k, (((101 ≤ k ∧ k ≤ 107) ∨ (110 ≤ k ∧ k < 126)) ∨ kk k) → k ≠ 100 → F20 k = F6 k := fun k hk hne => by
    have n130 : k ≠ 130 := fun e => by
      rcases hk with hk | hk
      · omega
      · exact ne k 130 hk (by omega) (by omega) e
    rw [f16 k (hk.elim (fun q => Or.inl (q.elim Or.inl (fun r => Or.inr (Or.inl r)))) Or.inr) hne, o13 k (Or.inr hk) n130, o12 k n130, o611 k hne]
  have x1 : a16 101 = a1 101 := by rw [b13 101 (Or.inl (by omega)), e6 101 (Or.inr (Or.inr (Or.inl rfl))), e5 101 (Or.inr (Or.inl rfl)), e3 101 (Or.inl rfl)]
  have x2' : a16 102 = a3 102 := by rw [b13 102 (Or.inl (by omega)), e6 102 (Or.inr (Or.inl rfl)), e5 102 (Or.inl rfl)]
  have x3 : a16 103 = a6 103 := b13 103 (Or.inl (by omega))
  have x4 : a16 130 = a13 130 := b16 130 (Or.inl (by omega))
  have c20' : F20 100 = .inr (0, [.ref (a16 101), .ref (a16 102), .ref (a16 103), .int 1, .int 0, .int 0, .int 0, .ref (a16 130), .ref (a16 134), .int 0, .int 0, .long 0]) := by
    rw [x1, x2', x3, x4]
    exact c20
  have g101 : F20 101 = .inl (3, 6, .inr (.inr (.inr (.inr (fun _ => none))))) := by
    rw [f13 101 (Or.inl (by omega)) (by omega), o6 101 (Or.inr (Or.inr (Or.inl rfl))) (by omega), o5 101 (by omega), o4 101 (by omega), o3 101 (by omega), o2 101 (by omega)]
    exact c1
  have g102 : F20 102 = .inl (4, 8, .inr (.inr (.inr (.inr (fun _ => none))))) := by
    rw [f13 102 (Or.inl (by omega)) (by omega), o6 102 (Or.inr (Or.inl rfl)) (by omega), o5 102 (by omega), o4 102 (by omega)]
    exact c3
  have cut20 : cutF a16 F20 := cutF_eq cut6 (fun k hk => b13 k (Or.inl (by omega))) (fun k hk => f13 k (Or.inl (by omega)) (by omega))
  have pl20 : plnF a16 F20 130 := plnF_eq pl13 (fun k k1 k2 => b16 k (Or.inl (by omega))) (fun k k1 k2 => f16 k (Or.inl (by omega)) (by omega))
  have pl20' : plnF a16 F20 134 := plnF_eq pl16 (fun k k1 k2 => rfl) (fun k k1 k2 => by rw [o20 k (by omega), o19 k (by omega), o18 k (by omega), o17 k (by omega)])
  have kA : ∀ k, kk k → a16 k = ad k := fun k hk => by rw [b13 k (Or.inr hk), e6 k (Or.inr (Or.inr (Or.inr hk))), e5 k (Or.inr (Or.inr hk)), e3 k (Or.inr hk), e1 k hk]
  have kF : ∀ k, kk k → k ≠ 100 → F20 k = F k := fun k hk hne => by
    rw [f13 k (Or.inr hk) hne, o6 k (Or.inr (Or.inr (Or.inr hk))) (ne k 103 hk (by omega) (by omega)), o5 k (ne k 103 hk (by omega) (by omega)), o4 k hne, o3 k (ne k 102 hk (by omega) (by omega)), o2 k hne, o1 k (ne k 101 hk (by omega) (by omega))]
  refine c_BT103 hs3 rfl (Or.inr hK) (Or.inl (by omega)) (Or.inl (by omega)) (fun k hk q => by rcases q with (q | q | q) | q <;> first | omega | exact hn _ (by omega) (by omega) q) c20' rfl rfl g101 g102 (by omega) (by omega) (fun a21 F21 M21 h21 e21 o21 w1 w2 ws wp => ?_)
  have t21 : ∀ k, (101 ≤ k ∧ k ≤ 107) ∨ (110 ≤ k ∧ k < 126) ∨ (130 ≤ k ∧ k ≤ 137) → a21 k = a16 k := fun k hk => e21 k (Or.inl hk)
  have u21 : ∀ k, (101 ≤ k ∧ k ≤ 107) ∨ (110 ≤ k ∧ k < 126) ∨ (130 ≤ k ∧ k ≤ 137) → k ≠ 101 → k ≠ 102 → F21 k = F20 k := fun k hk n1 n2 => o21 k (Or.inl hk) n1 n2
  refine qq a21 F21 M21 x2 ex2 (r_sub h21 (fun k hk => ?_)) (fun k hk => by rw [e21 k (Or.inr hk), kA k hk]) (fun k hk hne => ?_) ?_ w1 w2 (cutF_eq cut20 (fun k hk => t21 k (by omega)) (fun k hk => u21 k (by omega) (by omega) (by omega))) (plnF_eq pl20 (fun k k1 k2 => t21 k (by omega)) (fun k k1 k2 => u21 k (by omega) (by omega) (by omega))) (plnF_eq pl20' (fun k k1 k2 => t21 k (by omega)) (fun k k1 k2 => u21 k (by omega) (by omega) (by omega))) ws wp
  · rcases hk with (hk | hk | hk | hk | hk) | hk
    · exact Or.inr (Or.inl (Or.inl hk))
    · exact Or.inr (Or.inl (Or.inr (Or.inl hk)))
    · exact Or.inr (Or.inl (Or.inr (Or.inr hk)))
    · exact Or.inl (Or.inl hk)
    · exact Or.inl (Or.inr hk)
    · exact Or.inr (Or.inr hk)
  · rw [o21 k (Or.inr hk) (ne k 101 hk (by omega) (by omega)) (ne k 102 hk (by omega) (by omega)), kF k hk hne]
  · rw [o21 100 (Or.inr hK) (by omega) (by omega), t21 101 (by omega), t21 102 (by omega), t21 103 (by omega), t21 130 (by omega), t21 134 (by omega)]
    exact c20'
end BC
