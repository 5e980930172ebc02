/-! THE LAW HOLDS for every run of calls -/
theorem i65536 : (65536 : Int32) = Int32.ofInt 65536 := by decide
theorem law_at (L : Nat) (xs : Nat → Int32) (hL : L ≤ 3585) : wpLa_law (fun _ => none) (L, xs) := by
  have rt := o32_r (zCell (L, xs))
  have et := o32_of (zCell (L, xs))
  generalize (zCell (L, xs)).toInt = t at rt et
  obtain ⟨st, est⟩ : ∃ st : Int, st = max 1 (min 65536 t) := ⟨_, rfl⟩
  have hst : 1 ≤ st ∧ st ≤ 65536 := by omega
  have r65 : rI 65536 := by decide
  have e1 : (if (65536 : Int32) < zCell (L, xs) then (65536 : Int32) else zCell (L, xs)) = Int32.ofInt (min 65536 t) := h_min i65536 et r65 rt
  have e2 : (if (1 : Int32) < (if (65536 : Int32) < zCell (L, xs) then (65536 : Int32) else zCell (L, xs)) then (if (65536 : Int32) < zCell (L, xs) then (65536 : Int32) else zCell (L, xs)) else (1 : Int32)) = Int32.ofInt st := by
    rw [est]
    exact h_max LI_1 e1 LI_1r (by constructor <;> omega)
  have e3 : ∀ x : Int32, x = Int32.ofInt st → v1 x = Int32.ofInt st := fun x hx => by
    have := h_max (a := 1) (b := st) LI_1 hx LI_1r (by constructor <;> omega)
    rw [show max 1 st = st by omega] at this
    exact this
  unfold wpLa_law
  refine ⟨by omega, by omega, ?_⟩
  refine r_new (kk := fun _ => False) (ad := fun _ => 0) (F := fun _ => zc 5) ⟨fun k hk => absurd hk id, fun i j hi => absurd hi id⟩ 100 id (fun a1 F1 M1 h1 _ c1 _ => ⟨by omega, by omega, ?_⟩)
  refine c_BT h1 (Or.inl rfl) (fun k k1 k2 q => by rcases q with q | q <;> first | omega | exact q) c1 (fun a2 F2 M2 x2 ex h2 d2 _ f100 f101 f102 cut pl1 pl2 stm prd => ⟨by omega, by omega, ?_⟩)
  rw [e2] at ex
  have hv := e3 x2 ex
  rw [← d2 100 (Or.inl rfl)]
  refine r_new h2 0 (fun q => by rcases q with (q | q | q | q | q) | q | q <;> first | omega | exact q) (fun a3 F3 M3 h3 d3 c3 o3 => ⟨by omega, by omega, ?_⟩)
  rw [← d3 100 (Or.inr (Or.inl rfl))]
  refine c_Mo h3 (Or.inl rfl) (fun k k1 k2 q => by rcases q with q | (q | q | q | q | q) | q | q <;> first | omega | exact q) c3 (fun a4 F4 M4 y0 fs y1 y2 y3 h4 d4 o4 z4 z21 f0 fl fr g1 g4 fo => ⟨by omega, by omega, ?_⟩)
  rw [← d4 100 (Or.inr (Or.inr (Or.inl rfl))), ← d4 0 (Or.inl rfl)]
  refine r_new h4 330 (fun q => by rcases q with q | q | (q | q | q | q | q) | q | q <;> first | omega | exact q) (fun a5 F5 M5 h5 d5 c5 o5 => ?_)
  rw [← d5 100 (Or.inr (Or.inr (Or.inr (Or.inl rfl)))), ← d5 0 (Or.inr (Or.inl rfl))]
  have hy : y0 = Int32.ofInt st := by
    by_cases q1 : (1 : Int32) ≤ zCell (L, xs)
    · have q1' : 1 ≤ t := (c_le LI_1 et LI_1r rt).1 q1
      by_cases q2 : zCell (L, xs) ≤ (65536 : Int32)
      · have q2' : t ≤ 65536 := (c_le et i65536 rt r65).1 q2
        rw [y1 q1 q2, et]
        congr 1
        omega
      · have q2' : ¬ t ≤ 65536 := fun g => q2 ((c_le et i65536 rt r65).2 g)
        rw [y2 q1 q2, i65536]
        congr 1
        omega
    · have q1' : ¬ 1 ≤ t := fun g => q1 ((c_le LI_1 et LI_1r rt).2 g)
      rw [y3 q1, LI_1]
      congr 1
      omega
  -- the keys of the class
  have mc : ∀ k, ((101 ≤ k ∧ k ≤ 107) ∨ (110 ≤ k ∧ k < 126) ∨ (130 ≤ k ∧ k ≤ 137) ∨ (140 ≤ k ∧ k < 172 ∧ k % 4 ≠ 1) ∨ (200 ≤ k ∧ k < 320 ∧ k % 20 ≠ 1 ∧ k % 20 ≤ 17)) ∨ (k = 100 ∨ False) → a5 k = a2 k ∧ F5 k = F2 k := fun k hk => by
    have n0 : k ≠ 0 := by
      rcases hk with hk | hk | hk
      · omega
      · omega
      · exact absurd hk id
    have n330 : k ≠ 330 := by
      rcases hk with hk | hk | hk
      · omega
      · omega
      · exact absurd hk id
    exact ⟨by rw [d5 k (Or.inr (Or.inr hk)), d4 k (Or.inr hk), d3 k hk], by rw [o5 k n330, o4 k (Or.inr hk) n0, o3 k n0]⟩
  have mA : ∀ k, (101 ≤ k ∧ k ≤ 107) ∨ (110 ≤ k ∧ k < 126) ∨ (130 ≤ k ∧ k ≤ 137) ∨ (140 ≤ k ∧ k < 172 ∧ k % 4 ≠ 1) ∨ (200 ≤ k ∧ k < 320 ∧ k % 20 ≠ 1 ∧ k % 20 ≤ 17) → a5 k = a2 k := fun k hk => (mc k (Or.inl hk)).1
  have mF : ∀ k, (101 ≤ k ∧ k ≤ 107) ∨ (110 ≤ k ∧ k < 126) ∨ (130 ≤ k ∧ k ≤ 137) ∨ (140 ≤ k ∧ k < 172 ∧ k % 4 ≠ 1) ∨ (200 ≤ k ∧ k < 320 ∧ k % 20 ≠ 1 ∧ k % 20 ≤ 17) → F5 k = F2 k := fun k hk => (mc k (Or.inl hk)).2
  have mr : ∀ k, (5 ≤ k ∧ k ≤ 32 ∧ k ≠ 14) → a5 k = a4 k ∧ F5 k = F4 k := fun k hk => ⟨d5 k (Or.inl hk), o5 k (by omega)⟩
  have a50 : a5 0 = a4 0 := d5 0 (Or.inr (Or.inl rfl))
  have hF : ∀ k, ¬ (kd k).1 = 0 → F5 k = cel a5 (S0 st) k := by
    intro k hk
    rcases kd_cls hk with q | q | q | q | q | q | q | q
    · rw [q]
      refine z_ref hy (by rw [o5 0 (by omega)]; exact f0) fl (fun i i1 i2 i3 => ?_) g1 g4 fo
      rw [(mr i (by omega)).1]
      exact fr i i1 i2 i3
    · by_cases e21 : k = 21
      · rw [e21, (mr 21 (by omega)).2, z21, ce_3 (show kt 3 21 by decide), show (kd 21).2 = 8 by decide]
        congr 4
        congr 1
        funext j
        rw [S0_21]
        by_cases hj : j < 8
        · rw [if_pos hj, if_pos (by omega)]
          rfl
        · rw [if_neg hj, if_neg (by omega)]
          rfl
      · rw [(mr k q).2, z4 k q.1 q.2.1 q.2.2 e21]
        refine zc_cel ?_ (fun j => S0_z (by omega))
        have g : ∀ n : Nat, n < 33 → (decide (n < 5) || (decide (n = 14) || (decide ((kdN n).1 = 1) || (decide ((kdN n).1 = 2) || decide ((kdN n).1 = 3))))) = true := by decide +kernel
        have g2 := g k.toNat (by omega)
        simp only [Bool.or_eq_true, decide_eq_true_eq] at g2
        rw [show k = ((k.toNat : Nat) : Int) by omega, kd_c]
        omega
    · by_cases e0 : k = 100
      · rw [e0]
        refine z_class ?_
        rw [(mc 100 (Or.inr (Or.inl rfl))).2, mA 101 (by omega), mA 102 (by omega), mA 103 (by omega), mA 130 (by omega), mA 134 (by omega)]
        exact f100
      by_cases e1 : k = 101
      · rw [e1]
        refine z_rows 101 (Or.inl ⟨rfl, ?_⟩)
        rw [mF 101 (by omega), f101]
        congr 7
        funext j
        by_cases hj : j < 6
        · rw [if_pos hj, if_pos hj, mA _ (by omega)]
        · rw [if_neg hj, if_neg hj]
      by_cases e2 : k = 102
      · rw [e2]
        refine z_rows 102 (Or.inr ⟨rfl, ?_⟩)
        rw [mF 102 (by omega), f102]
        congr 7
        funext j
        by_cases hj : j < 8
        · rw [if_pos hj, if_pos hj, mA _ (by omega)]
        · rw [if_neg hj, if_neg hj]
      · exact z_cut (cutF_eq cut (fun k hk => mA k (by omega)) (fun k hk => mF k (by omega))) k (by omega)
    · exact z_cut (cutF_eq cut (fun k hk => mA k (by omega)) (fun k hk => mF k (by omega))) k (by omega)
    · by_cases e3 : k ≤ 133
      · exact z_plan (Or.inl rfl) (plnF_eq pl1 (fun k k1 k2 => mA k (by omega)) (fun k k1 k2 => mF k (by omega))) k (by omega) (by omega)
      · exact z_plan (Or.inr rfl) (plnF_eq pl2 (fun k k1 k2 => mA k (by omega)) (fun k k1 k2 => mF k (by omega))) k (by omega) (by omega)
    · exact z_prod (p := (k - 140) / 4) (by omega) (by omega) hv (prdF_eq (prd ((k - 140) / 4) (by omega) (by omega)) (fun k k1 k2 k3 => mA k (by omega)) (fun k k1 k2 k3 => mF k (by omega))) k (by omega) (by omega) (by omega)
    · exact z_stem (s := (k - 200) / 20) (by omega) (by omega) hv (stmF_eq (stm ((k - 200) / 20) (by omega) (by omega)) (fun k k1 k2 k3 => mA k (by omega)) (fun k k1 k2 k3 => mF k (by omega))) k (by omega) (by omega) (by omega)
    · rw [q, c5]
      exact (cz3 (show kd 330 = (3, 1) by decide) (fun j => S0_z (by omega))).symm
  have hm : ∀ k, ¬ (kd k).1 = 0 → k = 330 ∨ ((5 ≤ k ∧ k ≤ 32 ∧ k ≠ 14) ∨ (k = 0 ∨ (((101 ≤ k ∧ k ≤ 107) ∨ (110 ≤ k ∧ k < 126) ∨ (130 ≤ k ∧ k ≤ 137) ∨ (140 ≤ k ∧ k < 172 ∧ k % 4 ≠ 1) ∨ (200 ≤ k ∧ k < 320 ∧ k % 20 ≠ 1 ∧ k % 20 ≤ 17)) ∨ (k = 100 ∨ False)))) := by
    intro k hk
    rcases kd_cls hk with q | q | q | q | q | q | q | q
    · exact Or.inr (Or.inr (Or.inl q))
    · exact Or.inr (Or.inl q)
    · by_cases e0 : k = 100
      · exact Or.inr (Or.inr (Or.inr (Or.inr (Or.inl e0))))
      · exact Or.inr (Or.inr (Or.inr (Or.inl (Or.inl (by omega)))))
    · exact Or.inr (Or.inr (Or.inr (Or.inl (Or.inr (Or.inl q)))))
    · exact Or.inr (Or.inr (Or.inr (Or.inl (Or.inr (Or.inr (Or.inl q))))))
    · exact Or.inr (Or.inr (Or.inr (Or.inl (Or.inr (Or.inr (Or.inr (Or.inl q)))))))
    · exact Or.inr (Or.inr (Or.inr (Or.inl (Or.inr (Or.inr (Or.inr (Or.inr q)))))))
    · exact Or.inl q
  have us : US a5 (S0 st) M5 := ⟨⟨fun k hk => by rw [h5.1 k (hm k hk), hF k hk], fun i j hi hj => h5.2 i j (hm i hi) (hm j hj)⟩, S0_rng hst⟩
  exact law_loop hL us (S0_Inv hst) (by omega) (by omega)
