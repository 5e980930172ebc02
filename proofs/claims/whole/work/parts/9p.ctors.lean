/-! CONSTRUCTORS (by ctorgen.py) -/
theorem c_Wi_init {kk : Int → Prop} {ad : Int → Nat} {F : Int → hE} {M : Hp} {K : Int}  {post : Hp → Prop} (h : rq kk ad F M) (hK : kk K) (hn : ∀ k, K + 1 ≤ k → k ≤ K + 1 → ¬ kk k) (hF : F K = .inr (3, [.null, .int 0, .int 0])) (qq : ∀ (ad1 : Int → Nat) (F1 : Int → hE) (M1 : Hp), rq (fun k => (K + 1 ≤ k ∧ k ≤ K + 1) ∨ kk k) ad1 F1 M1 → (∀ k, kk k → ad1 k = ad k) → (∀ k, kk k → k ≠ K → F1 k = F k) → F1 K = .inr (3, [.ref (ad1 (K + 1)), .int (0 : Int32), .int (0 : Int32)]) → F1 (K + 1) = (.inl (2, 80, .inr (.inl (fun _ => 0)))) → post M1) : wpWi_init (ad K)  M post := by
  unfold wpWi_init
  refine r_new h (K + 1) (hn _ (by omega) (by omega)) (fun ad1 F1 M1 h1 e1 c1 o1 => ?_)
  rw [← e1 K (hK)]
  refine r_pF h1 (Or.inr (hK)) ((o1 K (by omega)).trans hF) (show (0 : Nat) < 3 by decide) (fun F2 M2 h2 c2 o2 => ?_)
  refine r_pF h2 (Or.inr (hK)) c2 (show (1 : Nat) < 3 by decide) (fun F3 M3 h3 c3 o3 => ?_)
  refine r_pF h3 (Or.inr (hK)) c3 (show (2 : Nat) < 3 by decide) (fun F4 M4 h4 c4 o4 => ?_)
  have hfin : rq (fun k => (K + 1 ≤ k ∧ k ≤ K + 1) ∨ kk k) ad1 F4 M4 := by
    refine r_sub h4 (fun k hk => ?_)
    rcases hk with hk | hk
    · exact Or.inl (by omega)
    · exact Or.inr (hk)
  exact qq ad1 F4 M4 hfin (fun k hk => by rw [e1 k (hk)]) (fun k hk hne => by rw [o4 k (by omega), o3 k (by omega), o2 k (by omega), o1 k (fun q => by subst q; exact hn _ (by omega) (by omega) hk)]) c4 (by rw [o4 _ (by omega), o3 _ (by omega), o2 _ (by omega)]; exact c1)
theorem c_Pl_init {kk : Int → Prop} {ad : Int → Nat} {F : Int → hE} {M : Hp} {K : Int}  {post : Hp → Prop} (h : rq kk ad F M) (hK : kk K) (hn : ∀ k, K + 1 ≤ k → k ≤ K + 3 → ¬ kk k) (hF : F K = .inr (5, [.null, .null, .null, .int 0, .long 0])) (qq : ∀ (ad1 : Int → Nat) (F1 : Int → hE) (M1 : Hp), rq (fun k => (K + 1 ≤ k ∧ k ≤ K + 3) ∨ kk k) ad1 F1 M1 → (∀ k, kk k → ad1 k = ad k) → (∀ k, kk k → k ≠ K → F1 k = F k) → F1 K = .inr (5, [.ref (ad1 (K + 1)), .ref (ad1 (K + 2)), .ref (ad1 (K + 3)), .int (0 : Int32), .long (0 : Int64)]) → F1 (K + 1) = (.inl (0, 2400, .inl (fun _ => 0))) → F1 (K + 2) = (.inl (1, 480, .inl (fun _ => 0))) → F1 (K + 3) = (.inl (0, 8, .inl (fun _ => 0))) → post M1) : wpPl_init (ad K)  M post := by
  unfold wpPl_init
  refine r_new h (K + 1) (hn _ (by omega) (by omega)) (fun ad1 F1 M1 h1 e1 c1 o1 => ?_)
  rw [← e1 K (hK)]
  refine r_pF h1 (Or.inr (hK)) ((o1 K (by omega)).trans hF) (show (0 : Nat) < 5 by decide) (fun F2 M2 h2 c2 o2 => ?_)
  refine r_new h2 (K + 2) (fun q => by rcases q with q | q <;> first | omega | exact hn _ (by omega) (by omega) q) (fun ad2 F3 M3 h3 e2 c3 o3 => ?_)
  rw [← e2 K (Or.inr (hK))]
  refine r_pF h3 (Or.inr (Or.inr (hK))) ((o3 K (by omega)).trans c2) (show (1 : Nat) < 5 by decide) (fun F4 M4 h4 c4 o4 => ?_)
  refine r_new h4 (K + 3) (fun q => by rcases q with q | q | q <;> first | omega | exact hn _ (by omega) (by omega) q) (fun ad3 F5 M5 h5 e3 c5 o5 => ?_)
  rw [← e3 K (Or.inr (Or.inr (hK)))]
  refine r_pF h5 (Or.inr (Or.inr (Or.inr (hK)))) ((o5 K (by omega)).trans c4) (show (2 : Nat) < 5 by decide) (fun F6 M6 h6 c6 o6 => ?_)
  refine r_pF h6 (Or.inr (Or.inr (Or.inr (hK)))) c6 (show (3 : Nat) < 5 by decide) (fun F7 M7 h7 c7 o7 => ?_)
  refine r_pF h7 (Or.inr (Or.inr (Or.inr (hK)))) c7 (show (4 : Nat) < 5 by decide) (fun F8 M8 h8 c8 o8 => ?_)
  have hfin : rq (fun k => (K + 1 ≤ k ∧ k ≤ K + 3) ∨ kk k) ad3 F8 M8 := by
    refine r_sub h8 (fun k hk => ?_)
    rcases hk with hk | hk
    · rcases (show k = K + 1 ∨ k = K + 2 ∨ k = K + 3 by omega) with r | r | r
      · exact Or.inr (Or.inr (Or.inl r))
      · exact Or.inr (Or.inl r)
      · exact Or.inl r
    · exact Or.inr (Or.inr (Or.inr (hk)))
  exact qq ad3 F8 M8 hfin (fun k hk => by rw [e3 k (Or.inr (Or.inr (hk))), e2 k (Or.inr (hk)), e1 k (hk)]) (fun k hk hne => by rw [o8 k (by omega), o7 k (by omega), o6 k (by omega), o5 k (fun q => by subst q; exact hn _ (by omega) (by omega) hk), o4 k (by omega), o3 k (fun q => by subst q; exact hn _ (by omega) (by omega) hk), o2 k (by omega), o1 k (fun q => by subst q; exact hn _ (by omega) (by omega) hk)]) (by rw [e3 (K + 1) (Or.inr (Or.inl rfl)), e2 (K + 1) (Or.inl rfl), e3 (K + 2) (Or.inl rfl)]; exact c8) (by rw [o8 _ (by omega), o7 _ (by omega), o6 _ (by omega), o5 _ (by omega), o4 _ (by omega), o3 _ (by omega), o2 _ (by omega)]; exact c1) (by rw [o8 _ (by omega), o7 _ (by omega), o6 _ (by omega), o5 _ (by omega), o4 _ (by omega)]; exact c3) (by rw [o8 _ (by omega), o7 _ (by omega), o6 _ (by omega)]; exact c5)
theorem c_Pr_init {kk : Int → Prop} {ad : Int → Nat} {F : Int → hE} {M : Hp} {K : Int} {p0 : Int32} {post : Hp → Prop} (h : rq kk ad F M) (hK : kk K) (hn : ∀ k, K + 2 ≤ k → k ≤ K + 3 → ¬ kk k) (hF : F K = .inr (2, [.int 0, .null, .null, .int 0, .int 0, .int 0, .int 0, .long 0, .long 0, .long 0])) (qq : ∀ (ad1 : Int → Nat) (F1 : Int → hE) (M1 : Hp), rq (fun k => (K + 2 ≤ k ∧ k ≤ K + 3) ∨ kk k) ad1 F1 M1 → (∀ k, kk k → ad1 k = ad k) → (∀ k, kk k → k ≠ K → F1 k = F k) → F1 K = .inr (2, [.int (if (1 : Int32) < p0 then p0 else (1 : Int32)), .ref (ad1 (K + 2)), .ref (ad1 (K + 3)), .int (0 : Int32), .int (0 : Int32), .int (0 : Int32), .int (0 : Int32), .long (0 : Int64), .long (-1 : Int64), .long (0 : Int64)]) → F1 (K + 2) = (.inl (1, 8, .inl (fun _ => 0))) → F1 (K + 3) = (.inl (2, 7, .inr (.inl (fun _ => 0)))) → post M1) : wpPr_init (ad K) p0 M post := by
  unfold wpPr_init
  refine r_new h (K + 2) (hn _ (by omega) (by omega)) (fun ad1 F1 M1 h1 e1 c1 o1 => ?_)
  rw [← e1 K (hK)]
  refine r_pF h1 (Or.inr (hK)) ((o1 K (by omega)).trans hF) (show (1 : Nat) < 10 by decide) (fun F2 M2 h2 c2 o2 => ?_)
  refine r_new h2 (K + 3) (fun q => by rcases q with q | q <;> first | omega | exact hn _ (by omega) (by omega) q) (fun ad2 F3 M3 h3 e2 c3 o3 => ?_)
  rw [← e2 K (Or.inr (hK))]
  refine r_pF h3 (Or.inr (Or.inr (hK))) ((o3 K (by omega)).trans c2) (show (2 : Nat) < 10 by decide) (fun F4 M4 h4 c4 o4 => ?_)
  refine r_pF h4 (Or.inr (Or.inr (hK))) c4 (show (3 : Nat) < 10 by decide) (fun F5 M5 h5 c5 o5 => ?_)
  refine r_pF h5 (Or.inr (Or.inr (hK))) c5 (show (4 : Nat) < 10 by decide) (fun F6 M6 h6 c6 o6 => ?_)
  refine r_pF h6 (Or.inr (Or.inr (hK))) c6 (show (5 : Nat) < 10 by decide) (fun F7 M7 h7 c7 o7 => ?_)
  refine r_pF h7 (Or.inr (Or.inr (hK))) c7 (show (6 : Nat) < 10 by decide) (fun F8 M8 h8 c8 o8 => ?_)
  refine r_pF h8 (Or.inr (Or.inr (hK))) c8 (show (7 : Nat) < 10 by decide) (fun F9 M9 h9 c9 o9 => ?_)
  refine r_pF h9 (Or.inr (Or.inr (hK))) c9 (show (8 : Nat) < 10 by decide) (fun F10 M10 h10 c10 o10 => ?_)
  refine r_pF h10 (Or.inr (Or.inr (hK))) c10 (show (9 : Nat) < 10 by decide) (fun F11 M11 h11 c11 o11 => ?_)
  refine r_pF h11 (Or.inr (Or.inr (hK))) c11 (show (0 : Nat) < 10 by decide) (fun F12 M12 h12 c12 o12 => ?_)
  have hfin : rq (fun k => (K + 2 ≤ k ∧ k ≤ K + 3) ∨ kk k) ad2 F12 M12 := by
    refine r_sub h12 (fun k hk => ?_)
    rcases hk with hk | hk
    · rcases (show k = K + 2 ∨ k = K + 3 by omega) with r | r
      · exact Or.inr (Or.inl r)
      · exact Or.inl r
    · exact Or.inr (Or.inr (hk))
  exact qq ad2 F12 M12 hfin (fun k hk => by rw [e2 k (Or.inr (hk)), e1 k (hk)]) (fun k hk hne => by rw [o12 k (by omega), o11 k (by omega), o10 k (by omega), o9 k (by omega), o8 k (by omega), o7 k (by omega), o6 k (by omega), o5 k (by omega), o4 k (by omega), o3 k (fun q => by subst q; exact hn _ (by omega) (by omega) hk), o2 k (by omega), o1 k (fun q => by subst q; exact hn _ (by omega) (by omega) hk)]) (by rw [e2 (K + 2) (Or.inl rfl)]; exact c12) (by rw [o12 _ (by omega), o11 _ (by omega), o10 _ (by omega), o9 _ (by omega), o8 _ (by omega), o7 _ (by omega), o6 _ (by omega), o5 _ (by omega), o4 _ (by omega), o3 _ (by omega), o2 _ (by omega)]; exact c1) (by rw [o12 _ (by omega), o11 _ (by omega), o10 _ (by omega), o9 _ (by omega), o8 _ (by omega), o7 _ (by omega), o6 _ (by omega), o5 _ (by omega), o4 _ (by omega)]; exact c3)
theorem c_St_init {kk : Int → Prop} {ad : Int → Nat} {F : Int → hE} {M : Hp} {K : Int} {p0 : Int32} {post : Hp → Prop} (h : rq kk ad F M) (hK : kk K) (hn : ∀ k, K + 2 ≤ k → k ≤ K + 17 → ¬ kk k) (hF : F K = .inr (1, [.int 0, .null, .null, .null, .null, .null, .null, .null, .null, .int 0, .int 0, .int 0])) (qq : ∀ (ad1 : Int → Nat) (F1 : Int → hE) (M1 : Hp), rq (fun k => (K + 2 ≤ k ∧ k ≤ K + 17) ∨ kk k) ad1 F1 M1 → (∀ k, kk k → ad1 k = ad k) → (∀ k, kk k → k ≠ K → F1 k = F k) → F1 K = .inr (1, [.int (if (1 : Int32) < p0 then p0 else (1 : Int32)), .ref (ad1 (K + 2)), .ref (ad1 (K + 3)), .ref (ad1 (K + 4)), .ref (ad1 (K + 5)), .ref (ad1 (K + 6)), .ref (ad1 (K + 7)), .ref (ad1 (K + 8)), .ref (ad1 (K + 9)), .int (0 : Int32), .int (0 : Int32), .int (0 : Int32)]) → F1 (K + 2) = (.inl (0, 60, .inl (fun _ => 0))) → F1 (K + 3) = (.inl (0, 60, .inl (fun _ => 0))) → F1 (K + 4) = (.inl (0, 60, .inl (fun _ => 0))) → F1 (K + 5) = (.inl (0, 20, .inl (fun _ => 0))) → F1 (K + 6) = (.inl (0, 20, .inl (fun _ => 0))) → F1 (K + 7) = (.inl (0, 20, .inl (fun _ => 0))) → F1 (K + 8) = (.inl (1, 81, .inl (fun _ => 0))) → F1 (K + 9) = .inl (6, 8, .inr (.inr (.inr (.inr (fun j => if j < 8 then some (ad1 (K + 9 + (1 + j))) else none))))) → (∀ k, K + 9 < k → k ≤ K + 9 + 8 → F1 k = .inl (0, 80, .inl (fun _ => 0))) → post M1) : wpSt_init (ad K) p0 M post := by
  unfold wpSt_init
  refine r_new h (K + 2) (hn _ (by omega) (by omega)) (fun ad1 F1 M1 h1 e1 c1 o1 => ?_)
  rw [← e1 K (hK)]
  refine r_pF h1 (Or.inr (hK)) ((o1 K (by omega)).trans hF) (show (1 : Nat) < 12 by decide) (fun F2 M2 h2 c2 o2 => ?_)
  refine r_new h2 (K + 3) (fun q => by rcases q with q | q <;> first | omega | exact hn _ (by omega) (by omega) q) (fun ad2 F3 M3 h3 e2 c3 o3 => ?_)
  rw [← e2 K (Or.inr (hK))]
  refine r_pF h3 (Or.inr (Or.inr (hK))) ((o3 K (by omega)).trans c2) (show (2 : Nat) < 12 by decide) (fun F4 M4 h4 c4 o4 => ?_)
  refine r_new h4 (K + 4) (fun q => by rcases q with q | q | q <;> first | omega | exact hn _ (by omega) (by omega) q) (fun ad3 F5 M5 h5 e3 c5 o5 => ?_)
  rw [← e3 K (Or.inr (Or.inr (hK)))]
  refine r_pF h5 (Or.inr (Or.inr (Or.inr (hK)))) ((o5 K (by omega)).trans c4) (show (3 : Nat) < 12 by decide) (fun F6 M6 h6 c6 o6 => ?_)
  refine r_new h6 (K + 5) (fun q => by rcases q with q | q | q | q <;> first | omega | exact hn _ (by omega) (by omega) q) (fun ad4 F7 M7 h7 e4 c7 o7 => ?_)
  rw [← e4 K (Or.inr (Or.inr (Or.inr (hK))))]
  refine r_pF h7 (Or.inr (Or.inr (Or.inr (Or.inr (hK))))) ((o7 K (by omega)).trans c6) (show (4 : Nat) < 12 by decide) (fun F8 M8 h8 c8 o8 => ?_)
  refine r_new h8 (K + 6) (fun q => by rcases q with q | q | q | q | q <;> first | omega | exact hn _ (by omega) (by omega) q) (fun ad5 F9 M9 h9 e5 c9 o9 => ?_)
  rw [← e5 K (Or.inr (Or.inr (Or.inr (Or.inr (hK)))))]
  refine r_pF h9 (Or.inr (Or.inr (Or.inr (Or.inr (Or.inr (hK)))))) ((o9 K (by omega)).trans c8) (show (5 : Nat) < 12 by decide) (fun F10 M10 h10 c10 o10 => ?_)
  refine r_new h10 (K + 7) (fun q => by rcases q with q | q | q | q | q | q <;> first | omega | exact hn _ (by omega) (by omega) q) (fun ad6 F11 M11 h11 e6 c11 o11 => ?_)
  rw [← e6 K (Or.inr (Or.inr (Or.inr (Or.inr (Or.inr (hK))))))]
  refine r_pF h11 (Or.inr (Or.inr (Or.inr (Or.inr (Or.inr (Or.inr (hK))))))) ((o11 K (by omega)).trans c10) (show (6 : Nat) < 12 by decide) (fun F12 M12 h12 c12 o12 => ?_)
  refine r_new h12 (K + 8) (fun q => by rcases q with q | q | q | q | q | q | q <;> first | omega | exact hn _ (by omega) (by omega) q) (fun ad7 F13 M13 h13 e7 c13 o13 => ?_)
  rw [← e7 K (Or.inr (Or.inr (Or.inr (Or.inr (Or.inr (Or.inr (hK)))))))]
  refine r_pF h13 (Or.inr (Or.inr (Or.inr (Or.inr (Or.inr (Or.inr (Or.inr (hK)))))))) ((o13 K (by omega)).trans c12) (show (7 : Nat) < 12 by decide) (fun F14 M14 h14 c14 o14 => ?_)
  refine r_mna h14 (K + 9) (fun k k1 k2 q => by rcases q with q | q | q | q | q | q | q | q <;> first | omega | exact hn _ (by omega) (by omega) q) (fun ad8 F15 M15 h15 e8 c15 b15 o15 => ?_)
  rw [← e8 K (Or.inr (Or.inr (Or.inr (Or.inr (Or.inr (Or.inr (Or.inr (hK))))))))]
  refine r_pF h15 (Or.inr (Or.inr (Or.inr (Or.inr (Or.inr (Or.inr (Or.inr (Or.inr (hK))))))))) ((o15 K (by omega)).trans c14) (show (8 : Nat) < 12 by decide) (fun F16 M16 h16 c16 o16 => ?_)
  refine r_pF h16 (Or.inr (Or.inr (Or.inr (Or.inr (Or.inr (Or.inr (Or.inr (Or.inr (hK))))))))) c16 (show (9 : Nat) < 12 by decide) (fun F17 M17 h17 c17 o17 => ?_)
  refine r_pF h17 (Or.inr (Or.inr (Or.inr (Or.inr (Or.inr (Or.inr (Or.inr (Or.inr (hK))))))))) c17 (show (10 : Nat) < 12 by decide) (fun F18 M18 h18 c18 o18 => ?_)
  refine r_pF h18 (Or.inr (Or.inr (Or.inr (Or.inr (Or.inr (Or.inr (Or.inr (Or.inr (hK))))))))) c18 (show (11 : Nat) < 12 by decide) (fun F19 M19 h19 c19 o19 => ?_)
  refine r_pF h19 (Or.inr (Or.inr (Or.inr (Or.inr (Or.inr (Or.inr (Or.inr (Or.inr (hK))))))))) c19 (show (0 : Nat) < 12 by decide) (fun F20 M20 h20 c20 o20 => ?_)
  have hfin : rq (fun k => (K + 2 ≤ k ∧ k ≤ K + 17) ∨ kk k) ad8 F20 M20 := by
    refine r_sub h20 (fun k hk => ?_)
    rcases hk with hk | hk
    · rcases (show k = K + 2 ∨ k = K + 3 ∨ k = K + 4 ∨ k = K + 5 ∨ k = K + 6 ∨ k = K + 7 ∨ k = K + 8 ∨ (K + 9 ≤ k ∧ k ≤ K + 9 + 8) by omega) with r | r | r | r | r | r | r | r
      · exact Or.inr (Or.inr (Or.inr (Or.inr (Or.inr (Or.inr (Or.inr (Or.inl r)))))))
      · exact Or.inr (Or.inr (Or.inr (Or.inr (Or.inr (Or.inr (Or.inl r))))))
      · exact Or.inr (Or.inr (Or.inr (Or.inr (Or.inr (Or.inl r)))))
      · exact Or.inr (Or.inr (Or.inr (Or.inr (Or.inl r))))
      · exact Or.inr (Or.inr (Or.inr (Or.inl r)))
      · exact Or.inr (Or.inr (Or.inl r))
      · exact Or.inr (Or.inl r)
      · exact Or.inl r
    · exact Or.inr (Or.inr (Or.inr (Or.inr (Or.inr (Or.inr (Or.inr (Or.inr (hk))))))))
  exact qq ad8 F20 M20 hfin (fun k hk => by rw [e8 k (Or.inr (Or.inr (Or.inr (Or.inr (Or.inr (Or.inr (Or.inr (hk)))))))), e7 k (Or.inr (Or.inr (Or.inr (Or.inr (Or.inr (Or.inr (hk))))))), e6 k (Or.inr (Or.inr (Or.inr (Or.inr (Or.inr (hk)))))), e5 k (Or.inr (Or.inr (Or.inr (Or.inr (hk))))), e4 k (Or.inr (Or.inr (Or.inr (hk)))), e3 k (Or.inr (Or.inr (hk))), e2 k (Or.inr (hk)), e1 k (hk)]) (fun k hk hne => by rw [o20 k (by omega), o19 k (by omega), o18 k (by omega), o17 k (by omega), o16 k (by omega), o15 k (fun q => hn _ (by omega) (by omega) hk), o14 k (by omega), o13 k (fun q => by subst q; exact hn _ (by omega) (by omega) hk), o12 k (by omega), o11 k (fun q => by subst q; exact hn _ (by omega) (by omega) hk), o10 k (by omega), o9 k (fun q => by subst q; exact hn _ (by omega) (by omega) hk), o8 k (by omega), o7 k (fun q => by subst q; exact hn _ (by omega) (by omega) hk), o6 k (by omega), o5 k (fun q => by subst q; exact hn _ (by omega) (by omega) hk), o4 k (by omega), o3 k (fun q => by subst q; exact hn _ (by omega) (by omega) hk), o2 k (by omega), o1 k (fun q => by subst q; exact hn _ (by omega) (by omega) hk)]) (by rw [e8 (K + 2) (Or.inr (Or.inr (Or.inr (Or.inr (Or.inr (Or.inr (Or.inl rfl))))))), e7 (K + 2) (Or.inr (Or.inr (Or.inr (Or.inr (Or.inr (Or.inl rfl)))))), e6 (K + 2) (Or.inr (Or.inr (Or.inr (Or.inr (Or.inl rfl))))), e5 (K + 2) (Or.inr (Or.inr (Or.inr (Or.inl rfl)))), e4 (K + 2) (Or.inr (Or.inr (Or.inl rfl))), e3 (K + 2) (Or.inr (Or.inl rfl)), e2 (K + 2) (Or.inl rfl), e8 (K + 3) (Or.inr (Or.inr (Or.inr (Or.inr (Or.inr (Or.inl rfl)))))), e7 (K + 3) (Or.inr (Or.inr (Or.inr (Or.inr (Or.inl rfl))))), e6 (K + 3) (Or.inr (Or.inr (Or.inr (Or.inl rfl)))), e5 (K + 3) (Or.inr (Or.inr (Or.inl rfl))), e4 (K + 3) (Or.inr (Or.inl rfl)), e3 (K + 3) (Or.inl rfl), e8 (K + 4) (Or.inr (Or.inr (Or.inr (Or.inr (Or.inl rfl))))), e7 (K + 4) (Or.inr (Or.inr (Or.inr (Or.inl rfl)))), e6 (K + 4) (Or.inr (Or.inr (Or.inl rfl))), e5 (K + 4) (Or.inr (Or.inl rfl)), e4 (K + 4) (Or.inl rfl), e8 (K + 5) (Or.inr (Or.inr (Or.inr (Or.inl rfl)))), e7 (K + 5) (Or.inr (Or.inr (Or.inl rfl))), e6 (K + 5) (Or.inr (Or.inl rfl)), e5 (K + 5) (Or.inl rfl), e8 (K + 6) (Or.inr (Or.inr (Or.inl rfl))), e7 (K + 6) (Or.inr (Or.inl rfl)), e6 (K + 6) (Or.inl rfl), e8 (K + 7) (Or.inr (Or.inl rfl)), e7 (K + 7) (Or.inl rfl), e8 (K + 8) (Or.inl rfl)]; exact c20) (by rw [o20 _ (by omega), o19 _ (by omega), o18 _ (by omega), o17 _ (by omega), o16 _ (by omega), o15 _ (by omega), o14 _ (by omega), o13 _ (by omega), o12 _ (by omega), o11 _ (by omega), o10 _ (by omega), o9 _ (by omega), o8 _ (by omega), o7 _ (by omega), o6 _ (by omega), o5 _ (by omega), o4 _ (by omega), o3 _ (by omega), o2 _ (by omega)]; exact c1) (by rw [o20 _ (by omega), o19 _ (by omega), o18 _ (by omega), o17 _ (by omega), o16 _ (by omega), o15 _ (by omega), o14 _ (by omega), o13 _ (by omega), o12 _ (by omega), o11 _ (by omega), o10 _ (by omega), o9 _ (by omega), o8 _ (by omega), o7 _ (by omega), o6 _ (by omega), o5 _ (by omega), o4 _ (by omega)]; exact c3) (by rw [o20 _ (by omega), o19 _ (by omega), o18 _ (by omega), o17 _ (by omega), o16 _ (by omega), o15 _ (by omega), o14 _ (by omega), o13 _ (by omega), o12 _ (by omega), o11 _ (by omega), o10 _ (by omega), o9 _ (by omega), o8 _ (by omega), o7 _ (by omega), o6 _ (by omega)]; exact c5) (by rw [o20 _ (by omega), o19 _ (by omega), o18 _ (by omega), o17 _ (by omega), o16 _ (by omega), o15 _ (by omega), o14 _ (by omega), o13 _ (by omega), o12 _ (by omega), o11 _ (by omega), o10 _ (by omega), o9 _ (by omega), o8 _ (by omega)]; exact c7) (by rw [o20 _ (by omega), o19 _ (by omega), o18 _ (by omega), o17 _ (by omega), o16 _ (by omega), o15 _ (by omega), o14 _ (by omega), o13 _ (by omega), o12 _ (by omega), o11 _ (by omega), o10 _ (by omega)]; exact c9) (by rw [o20 _ (by omega), o19 _ (by omega), o18 _ (by omega), o17 _ (by omega), o16 _ (by omega), o15 _ (by omega), o14 _ (by omega), o13 _ (by omega), o12 _ (by omega)]; exact c11) (by rw [o20 _ (by omega), o19 _ (by omega), o18 _ (by omega), o17 _ (by omega), o16 _ (by omega), o15 _ (by omega), o14 _ (by omega)]; exact c13) (by rw [o20 _ (by omega), o19 _ (by omega), o18 _ (by omega), o17 _ (by omega), o16 _ (by omega)]; exact c15) (fun k k1 k2 => by rw [o20 _ (by omega), o19 _ (by omega), o18 _ (by omega), o17 _ (by omega), o16 _ (by omega)]; exact b15 k k1 k2)
