/-! MAKING A PLAN, both sides -/
section MK
variable {S T U X : St} {s p v m B K : Int} {w l q w' l' q' pr : Int → Int} {W L Qs : Nat → Int → Int} {kb bd : Nat → Int} {R most : Nat}
theorem nxp_cf (c : cf S T) {cnt : Int → Int} {r : Int} : nxp T pr cnt r = nxp S pr cnt r := by
  unfold nxp
  rw [c.k (show (5 : Int) ≤ 21 ∧ (21 : Int) ≤ 22 by omega)]
theorem prS_cf (c : cf S T) : ∀ r : Nat, prS T W Qs r = prS S W Qs r := by
  intro r
  induction r with
  | zero => rfl
  | succ r ih =>
    show nxp T (prS T W Qs r) (fun p => cn T (W r) (Qs r) p) ((r : Int) + 1) = nxp S (prS S W Qs r) (fun p => cn S (W r) (Qs r) p) ((r : Int) + 1)
    rw [ih, nxp_cf c]
    congr 1
    funext p
    exact cn_cf c
theorem pvl_cf (c : cf S T) : pvl T pr w l q = pvl S pr w l q := by
  unfold pvl
  rw [wt_cf c, c.k (show (5 : Int) ≤ 21 ∧ (21 : Int) ≤ 22 by omega), c.j (show (14 : Int) = 1 ∨ (14 : Int) = 2 ∨ (14 : Int) = 3 ∨ (14 : Int) = 4 ∨ (14 : Int) = 14 by omega)]
  congr 1
  refine sm_eq _ (fun p _ _ => ?_)
  show (if S 21 p < 0 then 0 else pr p * (S 21 p - cn T w q p)) = if S 21 p < 0 then 0 else pr p * (S 21 p - cn S w q p)
  rw [cn_cf c]
theorem btr_cf (c : cf S T) {r : Nat} : btr T W L Qs kb r ↔ btr S W L Qs kb r := by
  unfold btr
  rw [hld_cf c, wt_cf c, wt_cf c]
theorem seqOK_cf (c : cf S T) (h : seqOK S most R W L Qs kb bd) : seqOK T most R W L Qs kb bd := by
  obtain ⟨h1, h2, h3, h4, h5, h6, h7⟩ := h
  refine ⟨fun r hr => by rw [prS_cf c]; exact plOK_cf c (h1 r hr), h2, h3, fun r hr => by rw [btr_cf c]; exact h4 r hr, fun r hr => by rw [prS_cf c, stl_cf c]; exact h5 r hr, by rw [prS_cf c, stl_cf c]; exact h6, fun r hr => by rw [prS_cf c, pvl_cf c]; exact h7 r hr⟩
theorem agr_cf (c : cf S T) (h : agr T w l q w' l' q') : agr S w l q w' l' q' := by
  unfold agr at *
  intro i i0 i1 i2
  rw [← c.n] at i2
  exact h i i0 (by rw [c.j (by omega)]; exact i1) i2
theorem finA_cf (c : cf S T) (h : finA T R W L Qs kb w l q) : finA S R W L Qs kb w l q := by
  rcases h with ⟨h1, h2⟩ | ⟨h1, w0, h2, h3⟩
  · exact Or.inl ⟨h1, agr_cf c h2⟩
  · rw [prS_cf c] at h2
    exact Or.inr ⟨h1, w0, plOK_cf c.sy h2, brn_cf c h3⟩
theorem InvS.mk2 (c : cR S) (kT : kf S T) (hk : (T 100 7 = 130 ∧ T 100 8 = 134) ∨ (T 100 7 = 134 ∧ T 100 8 = 130)) (e9 : T 100 9 = 1) (e10 : T 100 10 = m) (m0 : 0 ≤ m ∧ m ≤ 10) (e11 : T 100 11 = B) (hp : ∀ p, 0 ≤ p → p < S 0 14 → prC T p = pr p) (rel : pRel S T (T 100 7) w l q) (fX : ∀ k j, ¬ (k = 0 ∧ j = 0) → k ≠ 330 → X k j = T k j) (fU : rfr X U) (u33 : U 0 33 = 1) (u34 : U 0 34 = m) (u35 : U 0 35 = B) (u24 : ∀ p, 0 ≤ p → p < S 0 14 → U 24 p = pr p) (ag : agr S w l q (U 25) (U 26) (U 27)) (ok : okA S (U 25) (U 26) (U 27)) (sp : sepA S (U 25) (U 26)) : InvS U := by
  have fu : ∀ k j, ¬ (k = 0 ∧ (j = 0 ∨ j = 33 ∨ j = 34 ∨ j = 35)) → ¬ (23 ≤ k ∧ k ≤ 32) → k ≠ 330 → U k j = T k j := fun k j a1 a2 a3 => by
    by_cases h0 : k = 0
    · subst h0
      rw [fU.2 j (by omega) (by omega) (by omega) (by omega)]
      exact fX 0 j (by omega) (by omega)
    · rw [fU.1 k h0 (by omega) (by omega) (by omega) (by omega) (by omega) (by omega) (by omega) (by omega) (by omega) (by omega)]
      exact fX k j (by omega) a3
  have tf : tof S U := fun k j hk => by rw [fu k j (by omega) (by omega) (by omega)]; exact kT k j (by omega)
  have f100 : ∀ j, U 100 j = T 100 j := fun j => fu _ _ (by omega) (by omega) (by omega)
  have e14 : U 0 14 = S 0 14 := tf 0 14 (by omega)
  have e04 : U 0 4 = S 0 4 := tf 0 4 (by omega)
  have h4 := c.1.1.2.2.2.1
  refine ⟨tf.c c, by rw [f100, f100]; exact hk, Or.inr u33, by rw [f100, e9, u33], by rw [u34]; exact m0, fun _ => ⟨by rw [f100, e10, u34], by rw [f100, e11, u35], fun p p0 p8 => ?_, okA_cf tf.cf ok, fun i j hi => sp i j ((isL_cf tf.cf).1 hi), ?_⟩⟩
  · have h14 := c.1.1.2.2.2.2
    rw [e14] at p8
    rw [u24 p p0 p8, ← hp p p0 p8]
    unfold prC
    exact fu _ _ (by omega) (by omega) (by omega)
  · rw [f100]
    have r1 : pTo S T (T 100 7) (U 25) (U 26) (U 27) (81 * S 0 4) := pTo_agr (by omega) (by omega) (by omega) ag rel
    have r2 : pTo S U (T 100 7) (U 25) (U 26) (U 27) (81 * S 0 4) := pTo_eq (by omega) (by omega) (fun k k1 k2 => funext fun j => fu k j (by omega) (by omega) (by omega)) (fun _ _ _ => ⟨rfl, rfl, rfl⟩) r1
    have r3 := pTo_cf (U := U) tf.cf r2
    rw [← e04] at r3
    exact r3
theorem op_run (h : InvS S) : vpBT_run 100 S (fun r1 S1 => vpMo_run 0 S1 (fun r2 S2 => r1 = r2 ∧ InvS S2)) := by
  have c := h.1
  have hk := h.2.1
  unfold vpBT_run
  refine s_makePlain c (by omega) (fun T w l q kT e7 e8 e9 e10 e11 pr0 plo rel => ?_)
  have ct := kT.cf
  refine s_run (ct.w c.1) (fun U rU u0 u33 u34 u24 plU u35 => ?_)
  have plU' := plOK_cf ct.sy plU
  have ag := plOK_agr c.1 plo plU'
  have h4 := c.1.1.2.2.2.1
  refine ⟨?_, InvS.mk2 c kT (by rw [e7, e8]; exact hk) e9 e10 (by omega) e11 pr0 (by rw [e7]; exact rel) (fun _ _ _ _ => rfl) rU u33 u34 ?_ (fun p p0 p8 => u24 p p0 (by have := c.1.1.2.2.2.2; omega)) ag (plOK_okA c.1 plU') (plOK_sep c.1 plU')⟩
  · rw [e7, rel.1, lc_cf ct]
    exact (lc_agr (by omega) ag).symm
  · rw [u35, wt_cf ct]
    exact wt_agr (by omega) ag
/-- the reference's rounds, after the class's -/
theorem s_rounds {Q : Int → St → Prop} (c : cR S) (kT : kf S T) (hk : (T 100 7 = 130 ∧ T 100 8 = 134) ∨ (T 100 7 = 134 ∧ T 100 8 = 130)) (e9 : T 100 9 = 1) (e10 : T 100 10 = most) (e11 : T 100 11 = bd R) (hq : seqOK S most R W L Qs kb bd) (hp : ∀ p, 0 ≤ p → p < S 0 14 → prC T p = prS S W Qs (R - 1) p) (hf : finA S R W L Qs kb w l q) (rel : pRel S T (T 100 7) w l q) (fX : ∀ k j, ¬ (k = 0 ∧ j = 0) → k ≠ 330 → X k j = T k j) (qq : ∀ U, rfr X U → U 0 0 = X 0 0 → InvS U → wt S (U 25) (U 26) (U 27) = wt S w l q → okA S (U 25) (U 26) (U 27) → sepA S (U 25) (U 26) → Q R U) : vpMo_goRounds 0 most X Q := by
  have h4 := c.1.1.2.2.2.1
  have cx : cf S X := fun k j hk => by rw [fX k j (by omega) (by omega)]; exact kT k j (by omega)
  have e14 : X 0 14 = S 0 14 := cx.j (by omega)
  refine s_goRounds (cx.w c.1) (seqOK_cf cx hq) (fun U rU u0 u33 u34 u24 u35 fU => ?_)
  have fU' := finA_cf cx fU
  have ag := fin_agr c.1 hf fU'
  have m10 := hq.2.1
  have oU := fin_okA c.1 hq fU'
  have sU := fin_sep c.1 hq fU'
  refine qq U rU u0 (InvS.mk2 (m := most) c kT hk e9 e10 (by omega) e11 hp rel fX rU u33 u34 u35 (fun p p0 p8 => ?_) ag oU sU) (wt_agr (by omega) ag) oU sU
  rw [u24 p p0 (by rw [e14]; exact p8), prS_cf cx]
theorem op_priced (h : InvS S) : vpLa_priced 100 v 330 S (fun r1 S1 => vpMo_priced 0 v S1 (fun r2 S2 => okR r1 r2 S2)) := by
  have c := h.1
  have hk := h.2.1
  have err : v < 1 ∨ 10 < v → vpMo_priced 0 v S (fun r2 S2 => okR 1 r2 S2) := by
    intro hv
    unfold vpMo_priced vMo_priced_18 vMo_priced_37
    refine s_isIn (fun _ => ⟨fun _ => fun S1 e1 => ?_, fun g => absurd rfl g⟩) (fun _ _ => by omega)
    have e0 : S1 0 0 = 1 := by rw [e1, up_s]
    exact ⟨fun g => by omega, fun _ => okR_e h (by omega) (fun k j hk => by rw [e1, up_n hk]) e0⟩
  unfold vpLa_priced vpBT_priced vBT_priced_11
  refine ⟨fun g => ⟨fun _ => err (Or.inl g), rfl⟩, fun g1 => ⟨fun g2 => ?_, fun g => ⟨fun _ => err (Or.inr (by omega)), rfl⟩⟩⟩
  have go := s_makePriced (S := S) (most := v.toNat) (Q := fun r3 S4 => ((0 : Int) ≤ 0 ∧ (0 : Int) < alen 330) ∧ ∀ S10 : St, S10 = up S4 330 0 r3 → vpMo_priced 0 v S10 (fun r2 S2 => okR 0 r2 S2)) c hk (by omega) (by omega) (fun T R W L Qs kb bd w l q kT hkT e9 e10 e11 hq hp hf rel => ⟨al_out, fun S10 es10 => ?_⟩)
  · rw [show ((v.toNat : Nat) : Int) = v by omega] at go
    exact go
  · unfold vpMo_priced vMo_priced_18 vMo_priced_37
    refine s_isIn (fun _ => by omega) (fun _ _ => ⟨fun g => by omega, fun _ => fun X eX => ⟨fun _ => ?_, fun g => ?_⟩⟩)
    · have fX : ∀ k j, ¬ (k = 0 ∧ j = 0) → k ≠ 330 → X k j = T k j := fun k j a1 a2 => by rw [eX, up_n a1, es10, up_n (by omega)]
      have rr := s_rounds (Q := fun r6 S7 => okR 0 r6 S7) c kT hkT e9 e10 e11 hq hp hf rel fX (fun U rU u0 iU _ _ _ => ⟨by rw [u0, eX, up_s], fun _ => ?_, iU⟩)
      · rw [show ((v.toNat : Nat) : Int) = v by omega] at rr
        exact rr
      · rw [rU.1 330 (by omega) (by omega) (by omega) (by omega) (by omega) (by omega) (by omega) (by omega) (by omega) (by omega) (by omega), eX, up_n (by omega), es10, up_s]
    · rw [eX, up_s] at g
      omega
end MK
