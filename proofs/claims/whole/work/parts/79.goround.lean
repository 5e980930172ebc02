/-! THE ROUNDS AS A SEQUENCE: W, L, Q the plans of the rounds, kb the round whose plan is kept, bd the bound -/
def prS (S : St) (W Qs : Nat → Int → Int) : Nat → Int → Int
  | 0 => fun _ => 0
  | r + 1 => nxp S (prS S W Qs r) (fun p => cn S (W r) (Qs r) p) ((r : Int) + 1)
def btr (S : St) (W L Qs : Nat → Int → Int) (kb : Nat → Int) (r : Nat) : Prop := hld S (W r) (Qs r) ∧ (kb r = -1 ∨ wt S (W (kb r).toNat) (L (kb r).toNat) (Qs (kb r).toNat) < wt S (W r) (L r) (Qs r))
def seqOK (S : St) (most R : Nat) (W L Qs : Nat → Int → Int) (kb bd : Nat → Int) : Prop := (∀ r, r < R → plOK S (prS S W Qs r) (W r) (L r) (Qs r)) ∧ (1 ≤ R ∧ R ≤ most ∧ most ≤ 10) ∧ kb 0 = -1 ∧ (∀ r, r < R → (btr S W L Qs kb r → kb (r + 1) = r) ∧ (¬ btr S W L Qs kb r → kb (r + 1) = kb r)) ∧ (∀ r, r + 1 < R → ¬ stl S (prS S W Qs r) (W r) (Qs r)) ∧ (R = most ∨ stl S (prS S W Qs (R - 1)) (W (R - 1)) (Qs (R - 1))) ∧ (∀ r, r < R → bd (r + 1) = if r = 0 then pvl S (prS S W Qs r) (W r) (L r) (Qs r) else min (bd r) (pvl S (prS S W Qs r) (W r) (L r) (Qs r)))
def finA (S : St) (R : Nat) (W L Qs : Nat → Int → Int) (kb : Nat → Int) (w l q : Int → Int) : Prop := (0 ≤ kb R ∧ agr S (W (kb R).toNat) (L (kb R).toNat) (Qs (kb R).toNat) w l q) ∨ (kb R = -1 ∧ ∃ w0, plOK S (prS S W Qs (R - 1)) w0 l q ∧ brn S w0 l (remL S w0 q) w)
section SQ
variable {S T : St} {most R : Nat} {W L Qs : Nat → Int → Int} {kb bd : Nat → Int} {w l q w' l' q' pr pr' : Int → Int}
theorem hld_cf (c : cf S T) : hld T w q ↔ hld S w q := by
  unfold hld
  rw [c.j (j := 14) (by omega), c.k (k := 21) (by omega)]
  simp only [cn_cf c]
theorem stl_cf (c : cf S T) : stl T pr w q ↔ stl S pr w q := by
  unfold stl
  rw [hld_cf c, c.j (j := 14) (by omega), c.k (k := 21) (by omega)]
  simp only [cn_cf c]
theorem hld_agr (h4 : 0 ≤ S 0 4) (h : agr S w l q w' l' q') : hld S w' q' ↔ hld S w q := by
  unfold hld
  simp only [cn_agr h4 h]
theorem stl_agr (h4 : 0 ≤ S 0 4) (h : agr S w l q w' l' q') (e : ∀ p, 0 ≤ p → p < S 0 14 → pr' p = pr p) : stl S pr' w' q' ↔ stl S pr w q := by
  unfold stl
  rw [hld_agr h4 h]
  simp only [cn_agr h4 h]
  constructor
  · rintro ⟨a, b⟩
    exact ⟨a, fun p p0 p1 => by rw [← e p p0 p1]; exact b p p0 p1⟩
  · rintro ⟨a, b⟩
    exact ⟨a, fun p p0 p1 => by rw [e p p0 p1]; exact b p p0 p1⟩
theorem prS_b (hm : wfM S) : ∀ (r : Nat) (p : Int), 0 ≤ p → p < S 0 14 → 0 ≤ prS S W Qs r p ∧ prS S W Qs r p ≤ 500000 * r ∧ (S 21 p < 0 → prS S W Qs r p = 0) := by
  intro r
  induction r with
  | zero => intro p _ _; exact ⟨Int.le_refl 0, Int.le_refl 0, fun _ => rfl⟩
  | succ r ih =>
    intro p p0 p1
    have h14 := hm.1.2.2.2.2
    have hi := ih p p0 p1
    have hl := (hm.2.2 p p0 (by omega)).1
    have hc := cn_b (S := S) (w := W r) (q := Qs r) (p := p) hm
    have hp := pull_b (r := (r : Int) + 1) (by omega)
    have hb := mul_bs (x := cn S (W r) (Qs r) p - S 21 p) (y := max 1 (1024 / ((r : Int) + 1))) (by omega) (by omega) (by omega) (by omega)
    show 0 ≤ nxp S (prS S W Qs r) (fun p => cn S (W r) (Qs r) p) ((r : Int) + 1) p ∧ _ ∧ _
    have e : prS S W Qs (r + 1) p = nxp S (prS S W Qs r) (fun p => cn S (W r) (Qs r) p) ((r : Int) + 1) p := rfl
    rw [e]
    unfold nxp
    by_cases h : S 21 p < 0
    · rw [if_pos h]
      exact ⟨by omega, by omega, fun _ => rfl⟩
    · rw [if_neg h]
      show 0 ≤ max 0 (prS S W Qs r p + (cn S (W r) (Qs r) p - S 21 p) * max 1 (1024 / ((r : Int) + 1))) ∧ max 0 (prS S W Qs r p + (cn S (W r) (Qs r) p - S 21 p) * max 1 (1024 / ((r : Int) + 1))) ≤ _ ∧ _
      exact ⟨by omega, by omega, fun z => absurd z h⟩
theorem kb_b (h : seqOK S most R W L Qs kb bd) : ∀ r, r ≤ R → kb r = -1 ∨ (0 ≤ kb r ∧ kb r < r) := by
  intro r
  induction r with
  | zero => intro _; exact Or.inl h.2.2.1
  | succ r ih =>
    intro hr
    have := h.2.2.2.1 r (by omega)
    by_cases hb : btr S W L Qs kb r
    · have e := this.1 hb
      exact Or.inr ⟨by omega, by omega⟩
    · have e := this.2 hb
      have := ih (by omega)
      omega
theorem s_g54 {x1 x2 x3 x6 c0 : Int} {Q : Int → St → Prop} {K31 : Int → Int → Int → Int → Int → Int → St → Prop} (hm : wfM T) (hpr : prB T) (hc0 : -100000000000 ≤ c0 ∧ c0 ≤ 100000000000) (hE : ∀ v, v = c0 + sm (fun p => if T 21 p < 0 then 0 else T 23 p * T 21 p) (T 0 14).toNat → vMo_goRounds_131 Q K31 0 x1 x2 x3 x6 (if x6 = 1 then v else min (T 0 35) v) 0 T) : ∃ n, vMo_goRounds_54 Q K31 n 0 x1 x2 x3 x6 c0 0 T := by
  have h14 := hm.1.2.2.2.2
  have fb : ∀ p, 0 ≤ p → p < T 0 14 → 0 ≤ (if T 21 p < 0 then 0 else T 23 p * T 21 p) ∧ (if T 21 p < 0 then 0 else T 23 p * T 21 p) ≤ 10000000000 := fun p p0 p1 => by
    have h1 := hpr p p0 p1
    have h2 := (hm.2.2 p p0 (by omega)).1
    split
    · omega
    · have := mul_bd h1.1 h1.2 (show 0 ≤ T 21 p by omega) h2.2
      omega
  refine lp2 (fun n c x => vMo_goRounds_54 Q K31 n 0 x1 x2 x3 x6 c x T) (fun c x => 0 ≤ x ∧ x ≤ T 0 14 ∧ c = c0 + sm (fun p => if T 21 p < 0 then 0 else T 23 p * T 21 p) x.toNat) (fun _ x => (8 - x).toNat) (fun n c x hI ih => ?_) c0 0 ⟨by omega, by omega, (Int.add_zero _).symm⟩
  obtain ⟨y0, y1, hc⟩ := hI
  have sb := sm_b (f := fun p => if T 21 p < 0 then 0 else T 23 p * T 21 p) 10000000000 x.toNat (fun i i0 i1 => fb i i0 (by omega))
  unfold vMo_goRounds_54 vMo_goRounds_96 vMo_goRounds_122
  refine ⟨fun g => ?_, fun g => ?_⟩
  · have hx : x = T 0 14 := by omega
    rw [hx] at hc
    have := hE c hc
    refine ⟨fun g1 => ?_, fun g1 => ⟨fun g2 => ?_, fun g2 => ?_⟩⟩
    · rw [if_pos g1] at this
      exact this
    · rw [if_neg g1, show min (T 0 35) c = T 0 35 by omega] at this
      exact this
    · rw [if_neg g1, show min (T 0 35) c = c by omega] at this
      exact this
  · have st := sm_s (f := fun p => if T 21 p < 0 then 0 else T 23 p * T 21 p) y0
    have fx := fb x y0 (by omega)
    have st2 : sm (fun p => if T 21 p < 0 then 0 else T 23 p * T 21 p) (x + 1).toNat = sm (fun p => if T 21 p < 0 then 0 else T 23 p * T 21 p) x.toNat + (if T 21 x < 0 then 0 else T 23 x * T 21 x) := st
    have nx : ∀ v z, v = c + (if T 21 x < 0 then 0 else T 23 x * T 21 x) → z = x + 1 → vMo_goRounds_54 Q K31 n 0 x1 x2 x3 x6 v z T := fun v z ev ez => by
      subst ez
      refine ih _ _ ⟨by omega, by omega, ?_⟩ (by omega)
      rw [st2]
      omega
    refine ⟨by omega, fun g1 => ?_, fun g1 => ?_⟩
    · rw [if_neg (by omega)] at fx nx
      exact ⟨by omega, by omega, by constructor <;> omega, by constructor <;> omega, fun v ev => ⟨by constructor <;> omega, fun z ez => nx v z ev ez⟩⟩
    · rw [if_pos (by omega)] at fx nx
      exact ⟨by constructor <;> omega, fun v ev => ⟨by constructor <;> omega, fun z ez => nx v z ev ez⟩⟩
def gfr (S T : St) : Prop := (∀ k, k ≠ 0 → k ≠ 23 → k ≠ 24 → k ≠ 25 → k ≠ 26 → k ≠ 27 → k ≠ 28 → k ≠ 29 → k ≠ 30 → k ≠ 31 → k ≠ 32 → T k = S k) ∧ ∀ j, j ≠ 35 → T 0 j = S 0 j
theorem gfr.cf (h : gfr S T) : cf S T := fun k j hk => by
  rcases hk with ⟨rfl, hk⟩ | hk
  · exact h.2 j (by omega)
  · rw [h.1 k (by omega) (by omega) (by omega) (by omega) (by omega) (by omega) (by omega) (by omega) (by omega) (by omega) (by omega)]
/-- where the reference stands after r rounds -/
def grI (S : St) (R : Nat) (W L Qs : Nat → Int → Int) (kb bd : Nat → Int) (r : Nat) (x2 x3 x5 : Int) (T : St) : Prop := gfr S T ∧ r ≤ R ∧ (∀ p, 0 ≤ p → p < S 0 14 → T 23 p = prS S W Qs r p) ∧ (r = 0 → x5 = 0) ∧ (1 ≤ r → (∀ p, 0 ≤ p → p < S 0 14 → T 24 p = prS S W Qs (r - 1) p) ∧ T 0 35 = bd r ∧ plOK S (prS S W Qs (r - 1)) (T 25) (T 26) (T 27) ∧ ((x5 = 1 ∧ stl S (prS S W Qs (r - 1)) (W (r - 1)) (Qs (r - 1))) ∨ (x5 = 0 ∧ ¬ stl S (prS S W Qs (r - 1)) (W (r - 1)) (Qs (r - 1))))) ∧ ((kb r = -1 ∧ x2 = 0) ∨ (0 ≤ kb r ∧ kb r < r ∧ x2 = 1 ∧ x3 = wt S (W (kb r).toNat) (L (kb r).toNat) (Qs (kb r).toNat) ∧ agr S (W (kb r).toNat) (L (kb r).toNat) (Qs (kb r).toNat) (T 28) (T 29) (T 30)))
theorem s_g31 {x2 x3 x5 : Int} {r : Nat} {Q : Int → St → Prop} (hm : wfM S) (hq : seqOK S most R W L Qs kb bd) (hE : ∀ x2 x3 x5 T, grI S R W L Qs kb bd R x2 x3 x5 T → vMo_goRounds_212 Q 0 most x2 R T) (hI : grI S R W L Qs kb bd r x2 x3 x5 T) : ∃ n, vMo_goRounds_31 Q n 0 most x2 x3 x5 r T := by
  have h4 := hm.1.2.2.2.1
  have h14 := hm.1.2.2.2.2
  have hR := hq.2.1
  refine lp5 (fun n x2 x3 x5 r T => vMo_goRounds_31 Q n 0 most x2 x3 x5 r T) (fun x2 x3 x5 r T => ∃ r' : Nat, r = r' ∧ grI S R W L Qs kb bd r' x2 x3 x5 T) (fun _ _ _ r _ => (10 - r).toNat) (fun n x2 x3 x5 r T hI ih => ?_) x2 x3 x5 r T ⟨r, rfl, hI⟩
  obtain ⟨r, rfl, hI⟩ := hI
  obtain ⟨hF, hr, hp, h0, h1, hk⟩ := id hI
  have last : r = R → vMo_goRounds_212 Q 0 most x2 r T := fun e => by
    subst e
    exact hE x2 x3 x5 T hI
  have hx5 : r < R → x5 = 0 := fun hlt => by
    by_cases hr0 : r = 0
    · exact h0 hr0
    · rcases (h1 (by omega)).2.2.2 with ⟨_, a⟩ | ⟨a, _⟩
      · have := hq.2.2.2.2.1 (r - 1) (by omega)
        exact absurd a this
      · exact a
  have hend : r = R → (most : Int) ≤ r ∨ x5 ≠ 0 := fun e => by
    subst e
    rcases hq.2.2.2.2.2.1 with a | a
    · exact Or.inl (by omega)
    · rcases (h1 (by omega)).2.2.2 with ⟨b, _⟩ | ⟨_, b⟩
      · exact Or.inr (by omega)
      · exact absurd a b
  have cT := hF.cf
  have wT := cT.w hm
  unfold vMo_goRounds_31
  refine ⟨fun g => last (by omega), fun g => ⟨fun g1 => ?_, fun g1 => last ?_⟩⟩
  · have hlt : r < R := by
      rcases Nat.lt_or_ge r R with a | a
      · exact a
      · rcases hend (by omega) with b | b
        · exact absurd b g
        · exact absurd g1 b
    clear hend last
    have e14 : T 0 14 = S 0 14 := cT.j (by omega)
    have e4 : T 0 4 = S 0 4 := cT.j (by omega)
    have prT : prB T := fun p p0 p1 => by
      have := prS_b (S := S) (W := W) (Qs := Qs) hm r p p0 (by omega)
      rw [hp p p0 (by omega)]
      omega
    refine ⟨by constructor <;> omega, fun z ez => s_plan wT prT (fun U uF uP => ?_)⟩
    have cU0 := uF.cf
    have cU : cf S U := cT.tr cU0
    have wU := cU.w hm
    have uP2 : plOK S (prS S W Qs r) (U 25) (U 26) (U 27) := plOK_pr (fun p p0 p1 => (hp p p0 p1).symm) (plOK_cf cT.sy uP)
    have aU := plOK_agr hm (hq.1 r hlt) uP2
    have oU := plOK_okA hm uP2
    have U23 : U 23 = T 23 := uF 23 (by omega) (by omega) (by omega) (by omega) (by omega)
    have prU : prB U := fun p p0 p1 => by
      rw [U23]
      exact prT p p0 (by rw [← cU0.j (j := 14) (by omega)]; exact p1)
    have ev := val_eq (S := S) (w := U 25) (l := U 26) (q := U 27) (pr := T 23) hm oU (fun p p0 p1 p2 => by rw [hp p p0 p1]; exact (prS_b hm r p p0 p1).2.2 p2)
    have esum : sm (lf T (U 25) (fun i => wv T (i / 81) (U 26 i) (U 27 i) - T 23 (U 27 i))) (81 * T 0 4).toNat = sm (lf S (U 25) (fun i => wv S (i / 81) (U 26 i) (U 27 i) - T 23 (U 27 i))) (81 * S 0 4).toNat := by
      rw [lf_cf cT, e4, show (fun i => wv T (i / 81) (U 26 i) (U 27 i) - T 23 (U 27 i)) = fun i => wv S (i / 81) (U 26 i) (U 27 i) - T 23 (U 27 i) from funext fun i => by rw [cT.v]]
    have hwb := wt_b hm oU
    have hs1 : sm (lf S (U 25) (fun i => wv S (i / 81) (U 26 i) (U 27 i) - T 23 (U 27 i))) (81 * S 0 4).toNat = wt S (U 25) (U 26) (U 27) - sm (lf S (U 25) (fun i => T 23 (U 27 i))) (81 * S 0 4).toNat := by
      rw [lf_sub, sm_sub]
      rfl
    have hs2 := lf_b (S := S) (w := U 25) (g := fun i => T 23 (U 27 i)) 10000000 (by omega) (81 * S 0 4).toNat (by omega) (fun i hi => by
      have := (oU i hi).2
      exact prT _ this.1 (by omega))
    have pveq : pvl S (T 23) (U 25) (U 26) (U 27) = pvl S (prS S W Qs r) (W r) (L r) (Qs r) := by
      unfold pvl
      rw [wt_agr (by omega) aU]
      congr 1
      refine sm_eq _ (fun p p0 p1 => ?_)
      rw [cn_agr (by omega) aU, hp p p0 (by omega)]
    rw [esum]
    refine s_g54 wU prU (by omega) (fun v hv => ?_)
    have e21 : U 21 = S 21 := cU.k (by omega)
    have e14' : U 0 14 = S 0 14 := cU.j (by omega)
    rw [e21, U23, e14', ev, pveq] at hv
    have U0 : ∀ j, U 0 j = T 0 j := fun j => by rw [uF 0 (by omega) (by omega) (by omega) (by omega) (by omega)]
    have eb : (if z = 1 then v else min (U 0 35) v) = bd (r + 1) := by
      rw [hq.2.2.2.2.2.2 r hlt, ← hv]
      by_cases hr0 : r = 0
      · rw [if_pos (by omega), if_pos hr0]
      · rw [if_neg (by omega), if_neg hr0, U0, (h1 (by omega)).2.1]
    rw [eb]
    unfold vMo_goRounds_131
    intro V eV
    have Vk : ∀ k, k ≠ 0 → V k = U k := fun k hk => by
      rw [eV]
      funext j
      exact up_k hk
    have V0 : ∀ j, j ≠ 35 → V 0 j = T 0 j := fun j hj => by
      rw [eV, up_j hj]
      exact U0 j
    have V35 : V 0 35 = bd (r + 1) := by rw [eV]; exact up_s
    have cV0 : cf U V := fun k j hk => by
      rw [eV]
      unfold up
      rw [if_neg (by omega)]
    have cV : cf S V := cU.tr cV0
    have wV := cV.w hm
    have oV : okA V (V 25) (V 26) (V 27) := by
      rw [Vk 25 (by omega), Vk 26 (by omega), Vk 27 (by omega)]
      exact okA_cf cV oU
    have hldV : hld V (V 25) (V 27) ↔ hld S (W r) (Qs r) := by
      rw [hld_cf cV, Vk 25 (by omega), Vk 27 (by omega), hld_agr (by omega) aU]
    have wtV : wt V (V 25) (V 26) (V 27) = wt S (W r) (L r) (Qs r) := by
      rw [wt_cf cV, Vk 25 (by omega), Vk 26 (by omega), Vk 27 (by omega), wt_agr (by omega) aU]
    -- what follows the keeping
    have tail : ∀ (y2 y3 : Int) (X : St), (∀ k, k ≠ 28 → k ≠ 29 → k ≠ 30 → X k = V k) → ((kb (r + 1) = -1 ∧ y2 = 0) ∨ (0 ≤ kb (r + 1) ∧ kb (r + 1) < (r : Int) + 1 ∧ y2 = 1 ∧ y3 = wt S (W (kb (r + 1)).toNat) (L (kb (r + 1)).toNat) (Qs (kb (r + 1)).toNat) ∧ agr S (W (kb (r + 1)).toNat) (L (kb (r + 1)).toNat) (Qs (kb (r + 1)).toNat) (X 28) (X 29) (X 30))) → vMo_goRounds_197 Q (vMo_goRounds_31 Q n) 0 most y2 y3 z X := fun y2 y3 X xF hkb => by
      have cX0 : cf V X := fun k j hk => by rw [xF k (by omega) (by omega) (by omega)]
      have cX : cf S X := cV.tr cX0
      have wX := cX.w hm
      have X23 : X 23 = T 23 := by rw [xF 23 (by omega) (by omega) (by omega), Vk 23 (by omega), U23]
      have X25 : X 25 = U 25 := by rw [xF 25 (by omega) (by omega) (by omega), Vk 25 (by omega)]
      have X26 : X 26 = U 26 := by rw [xF 26 (by omega) (by omega) (by omega), Vk 26 (by omega)]
      have X27 : X 27 = U 27 := by rw [xF 27 (by omega) (by omega) (by omega), Vk 27 (by omega)]
      have prX : prB X := fun p p0 p1 => by
        rw [X23]
        exact prT p p0 (by rw [e14, ← cX.j (j := 14) (by omega)]; exact p1)
      have stX : stl X (X 23) (X 25) (X 27) ↔ stl S (prS S W Qs r) (W r) (Qs r) := by
        rw [stl_cf cX, X23, X25, X27]
        exact stl_agr (by omega) aU (fun p p0 p1 => hp p p0 p1)
      unfold vMo_goRounds_197
      have fin : ∀ x5', ((x5' = 1 ∧ stl S (prS S W Qs r) (W r) (Qs r)) ∨ (x5' = 0 ∧ ¬ stl S (prS S W Qs r) (W r) (Qs r))) → vpMo_setPrices 0 z X (fun S7 => vMo_goRounds_31 Q n 0 most y2 y3 x5' z S7) := fun x5' hx => by
        refine s_setPrices wX (by omega) (by omega) prX (fun Y yF yP => ?_)
        have eX14 : X 0 14 = S 0 14 := cX.j (by omega)
        rw [ez]
        refine ih _ _ _ _ _ ⟨r + 1, by omega, ⟨fun k k0 k1 k2 k3 k4 k5 k6 k7 k8 k9 k10 => ?_, fun j hj => ?_⟩, by omega, fun p p0 p1 => ?_, fun q => by omega, fun _ => ⟨fun p p0 p1 => ?_, ?_, ?_, hx⟩, ?_⟩ (by omega)
        · rw [yF k k1 k2, xF k k6 k7 k8, Vk k k0, uF k k3 k4 k5 k9 k10]
          exact hF.1 k k0 k1 k2 k3 k4 k5 k6 k7 k8 k9 k10
        · rw [yF 0 (by omega) (by omega), xF 0 (by omega) (by omega) (by omega), V0 j hj]
          exact hF.2 j hj
        · rw [(yP p p0 (by omega)).2]
          show nxp X (X 23) (fun p => cn X (X 25) (X 27) p) z p = nxp S (prS S W Qs r) (fun p => cn S (W r) (Qs r) p) ((r : Int) + 1) p
          unfold nxp
          rw [cX.k (k := 21) (by omega), X23, hp p p0 p1, ez]
          show (if S 21 p < 0 then 0 else max 0 (prS S W Qs r p + (cn X (X 25) (X 27) p - S 21 p) * max 1 (1024 / ((r : Int) + 1)))) = if S 21 p < 0 then 0 else max 0 (prS S W Qs r p + (cn S (W r) (Qs r) p - S 21 p) * max 1 (1024 / ((r : Int) + 1)))
          rw [cn_cf cX, X25, X27, cn_agr (by omega) aU]
        · rw [(yP p p0 (by omega)).1, X23]
          exact hp p p0 p1
        · rw [yF 0 (by omega) (by omega), xF 0 (by omega) (by omega) (by omega)]
          exact V35
        · rw [yF 25 (by omega) (by omega), yF 26 (by omega) (by omega), yF 27 (by omega) (by omega), X25, X26, X27]
          exact uP2
        · rw [yF 28 (by omega) (by omega), yF 29 (by omega) (by omega), yF 30 (by omega) (by omega)]
          exact hkb
      exact s_isSettled wX (fun hs => fin 1 (Or.inl ⟨rfl, stX.mp hs⟩)) (fun hs => fin 0 (Or.inr ⟨rfl, fun z => hs (stX.mpr z)⟩))
    have keep : btr S W L Qs kb r → vMo_goRounds_154 Q (vMo_goRounds_31 Q n) 0 most z V := fun hb => by
      unfold vMo_goRounds_154
      have ek := (hq.2.2.2.1 r hlt).1 hb
      refine s_trueWorth wV oV ?_
      refine s_copy (by decide) (by decide) (by decide) (fun X1 f1 g1 => s_copy (by decide) (by decide) (by decide) (fun X2 f2 g2 => s_copy (by decide) (by decide) (by decide) (fun X3 f3 g3 => ?_)))
      refine tail 1 _ X3 (fun k k1 k2 k3 => by rw [f3 k k3, f2 k k2, f1 k k1]) (Or.inr ⟨by omega, by omega, rfl, ?_, ?_⟩)
      · rw [ek, show ((r : Int)).toNat = r by omega, wtV]
      · rw [ek, show ((r : Int)).toNat = r by omega]
        intro i i0 i1 i2
        have a := aU i i0 i1 i2
        have b28 : X3 28 i = U 25 i := by rw [f3 28 (by omega), f2 28 (by omega), g1 i i0 (by omega), Vk 25 (by omega)]
        have b29 : X3 29 i = U 26 i := by rw [f3 29 (by omega), g2 i i0 (by omega), f1 26 (by omega), Vk 26 (by omega)]
        have b30 : X3 30 i = U 27 i := by rw [g3 i i0 (by omega), f2 27 (by omega), f1 27 (by omega), Vk 27 (by omega)]
        rw [b28, b29, b30]
        exact a
    have drop : ¬ btr S W L Qs kb r → vMo_goRounds_197 Q (vMo_goRounds_31 Q n) 0 most x2 x3 z V := fun hb => by
      have ek := (hq.2.2.2.1 r hlt).2 hb
      refine tail x2 x3 V (fun _ _ _ _ => rfl) ?_
      rw [ek]
      rcases hk with ⟨a, b⟩ | ⟨a, b, c, d, e⟩
      · exact Or.inl ⟨a, b⟩
      · refine Or.inr ⟨a, by omega, c, d, ?_⟩
        rw [Vk 28 (by omega), Vk 29 (by omega), Vk 30 (by omega), uF 28 (by omega) (by omega) (by omega) (by omega) (by omega), uF 29 (by omega) (by omega) (by omega) (by omega) (by omega), uF 30 (by omega) (by omega) (by omega) (by omega) (by omega)]
        exact e
    refine s_allHold wV (fun hh => ⟨fun q => absurd q (by decide), fun _ => ⟨fun g2 => ?_, fun g2 => s_trueWorth wV oV ⟨fun g3 => ?_, fun g3 => ?_⟩⟩⟩) (fun hh => ⟨fun _ => drop (fun hb => hh (hldV.mpr hb.1)), fun q => absurd rfl q⟩)
    · rcases hk with ⟨a, b⟩ | ⟨a, b, c, d, e⟩
      · exact keep ⟨hldV.mp hh, Or.inl a⟩
      · omega
    · rw [wtV] at g3
      refine drop (fun hb => ?_)
      rcases hk with ⟨a, b⟩ | ⟨a, b, c, d, e⟩
      · omega
      · rcases hb.2 with f | f
        · omega
        · omega
    · rw [wtV] at g3
      rcases hk with ⟨a, b⟩ | ⟨a, b, c, d, e⟩
      · omega
      · exact keep ⟨hldV.mp hh, Or.inr (by omega)⟩
  · rcases Nat.lt_or_ge r R with a | a
    · exact absurd (hx5 a) g1
    · omega
end SQ
