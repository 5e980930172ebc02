section MI
variable {kk : Int → Prop} {ad ad0 : Int → Nat} {F F0 : Int → hE} {M : Hp} {post : Hp → Prop} {A : Nat} {fs0 : List Value}
/-- a cell of zeros, by its kind -/
def zc (k : Int) : hE := if (kd k).1 = 1 then .inl (0, (kd k).2, .inl (fun _ => 0)) else if (kd k).1 = 2 then .inl (1, (kd k).2, .inl (fun _ => 0)) else .inl (2, (kd k).2, .inr (.inl (fun _ => 0)))
def moI (kk : Int → Prop) (ad0 : Int → Nat) (F0 : Int → hE) (A : Nat) (fs0 : List Value) (j : Int) (ad : Int → Nat) (F : Int → hE) (M : Hp) : Prop := rq (fun k => (5 ≤ k ∧ k ≤ j ∧ k ≠ 14) ∨ kk k) ad F M ∧ ad 0 = A ∧ (∀ k, kk k → ad k = ad0 k) ∧ (∀ k, kk k → k ≠ 0 → F k = F0 k) ∧ (∀ k, 5 ≤ k → k ≤ j → k ≠ 14 → F k = zc k) ∧ ∃ fs : List Value, F 0 = .inr (6, fs) ∧ fs.length = 36 ∧ (∀ i : Nat, 5 ≤ (i : Int) → (i : Int) ≤ j → (i : Int) ≠ 14 → fs[i]? = some (.ref (ad i))) ∧ (∀ i : Nat, ¬ (5 ≤ (i : Int) ∧ (i : Int) ≤ j ∧ (i : Int) ≠ 14) → fs[i]? = fs0[i]?)
theorem mo_step {P : Hp → Prop} (jn : Nat) (hj : 5 ≤ (jn : Int) ∧ (jn : Int) ≤ 32 ∧ (jn : Int) ≠ 14) {c : hE} (hc : c = zc jn) (h0 : kk 0) (hn : ∀ k, 1 ≤ k → k ≤ 32 → ¬ kk k) (h : moI kk ad0 F0 A fs0 ((jn : Int) - 1) ad F M) (p : ∀ (ad1 : Int → Nat) (F1 : Int → hE) (M1 : Hp), moI kk ad0 F0 A fs0 jn ad1 F1 M1 → P M1) : ∀ a : Nat, M a = none → ∀ M1 : Hp, M1 = va_up M a (some c) → ∃ M2 : Hp, pF M1 A 6 jn (.ref a) M2 ∧ P M2 := by
  obtain ⟨hr, hA, ka, kF, hz, fs, e0, hl, h1, h2⟩ := h
  refine r_new hr (jn : Int) (fun q => by rcases q with q | q <;> first | omega | exact hn _ (by omega) (by omega) q) (fun ad1 F1 M1 h3 a1 c1 o1 => ?_)
  have m0 : (5 ≤ (0 : Int) ∧ (0 : Int) ≤ (jn : Int) - 1 ∧ (0 : Int) ≠ 14) ∨ kk 0 := Or.inr h0
  have hA1 : ad1 0 = A := by rw [a1 0 m0, hA]
  rw [← hA1]
  refine r_pF h3 (Or.inr m0) ((o1 0 (by omega)).trans e0) (by rw [hl]; omega) (fun F2 M2 h4 c4 o4 => ?_)
  have ne : ∀ k, kk k → k ≠ jn := fun k hk e => hn jn (by omega) (by omega) (e ▸ hk)
  refine p ad1 F2 M2 ⟨r_sub h4 (fun k hk => ?_), hA1, fun k hk => by rw [a1 k (Or.inr hk), ka k hk], fun k hk hne => by rw [o4 k hne, o1 k (ne k hk), kF k hk hne], fun k k1 k2 k3 => ?_, _, c4, by rw [List.length_set]; exact hl, fun i i1 i2 i3 => ?_, fun i hi => ?_⟩
  · rcases hk with hk | hk
    · by_cases e : k = jn
      · exact Or.inl e
      · exact Or.inr (Or.inl (by omega))
    · exact Or.inr (Or.inr hk)
  · rw [o4 k (by omega)]
    by_cases e : k = jn
    · rw [e, c1, hc]
    · rw [o1 k e]
      exact hz k k1 (by omega) k3
  · by_cases e : i = jn
    · subst e
      rw [List.getElem?_set_self (by omega)]
    · rw [List.getElem?_set_ne (fun q => e q.symm), h1 i i1 (by omega) i3, a1 (i : Int) (Or.inl (by omega))]
  · rw [List.getElem?_set_ne (by omega)]
    exact h2 i (by omega)
/-- one number of an array of longs -/
theorem r_sJ {P : Hp → Prop} {n p0 : Nat} {f : Nat → Int64} {x : Int32} {y : Int64} (h : rq kk ad F M) {i : Int} (hi : kk i) (hF : F i = .inl (2, n, .inr (.inl f))) (hx : x = Int32.ofInt p0) (hp : p0 < n) (hn : n < 2147483648) (p : ∀ (F1 : Int → hE) (M1 : Hp), rq kk ad F1 M1 → F1 i = .inl (2, n, .inr (.inl (vp_updL f p0 y))) → (∀ k, k ≠ i → F1 k = F k) → P M1) : ∃ M1 : Hp, sJ M (ad i) x y M1 ∧ P M1 := by
  have e : x = nI p0 := by rw [hx, o32_n]
  have ec : x.toNatClampNeg = p0 := by
    rw [e]
    unfold nI
    have := Int32.toInt_ofNat_of_lt (n := p0) (by omega)
    show (Int32.ofNat p0).toInt.toNat = p0
    omega
  refine ⟨_, ⟨n, f, by rw [h.1 i hi, hF], ?_, rfl⟩, ?_⟩
  · rw [e]
    exact vp_in_nI hp (by omega)
  · rw [ec]
    exact r_upd h hi p
theorem c_Mo262 (h : rq kk ad F M) (hA : A = ad 0) (h0 : kk 0) (h21 : kk 21) {fs : List Value} (hF : F 0 = .inr (6, fs)) (hf : fs[21]? = some (.ref (ad 21))) (hz : F 21 = .inl (2, 8, .inr (.inl (fun _ => 0)))) (qq : ∀ (F1 : Int → hE) (M1 : Hp), rq kk ad F1 M1 → (∀ k, k ≠ 21 → F1 k = F k) → F1 21 = .inl (2, 8, .inr (.inl (fun i => if i < 8 then -1 else 0))) → post M1) : ∃ n, wMo_init_262 post n A (0 : Int32) M := by
  have key := lp2 (fun n (x : Int32) (M : Hp) => wMo_init_262 post n A x M) (fun x M => ∃ (p : Nat) (F1 : Int → hE), x = Int32.ofInt p ∧ p ≤ 8 ∧ rq kk ad F1 M ∧ (∀ k, k ≠ 21 → F1 k = F k) ∧ F1 21 = .inl (2, 8, .inr (.inl (fun i => if i < p then -1 else 0)))) (fun x _ => (8 - x.toInt).toNat) (fun n x M hI ih => ?_) (0 : Int32) M ⟨0, F, LI_0, by omega, h, fun _ _ => rfl, ?_⟩
  · exact key
  · obtain ⟨p, F1, ex, p8, h1, o1, c1⟩ := hI
    have rx : rI (p : Int) := by constructor <;> omega
    have c8 : (8 : Int32) ≤ x ↔ (8 : Int) ≤ p := c_le LI_8 ex LI_8r rx
    unfold wMo_init_262
    refine ⟨fun g => ?_, fun g => ?_⟩
    · have : p = 8 := by have := c8.1 g; omega
      subst this
      exact qq F1 M h1 o1 c1
    · have p7 : p < 8 := by
        by_cases hp : p < 8
        · exact hp
        · exact absurd (c8.2 (by omega)) g
      rw [hA]
      refine r_fA h1 h0 ((o1 0 (by omega)).trans hF) hf ?_
      refine r_sJ (p0 := p) h1 h21 c1 ex p7 (by omega) (fun F2 M2 h2 c2 o2 z ez => ?_)
      have ez' : z = Int32.ofInt ((p + 1 : Nat) : Int) := by
        rw [ez, h_add ex LI_1]
        congr 1
      have rz : rI ((p + 1 : Nat) : Int) := by constructor <;> omega
      rw [← hA]
      refine ih z M2 ⟨p + 1, F2, ez', by omega, h2, fun k hk => by rw [o2 k hk, o1 k hk], ?_⟩ ?_
      · rw [c2]
        congr 5
        funext i
        unfold vp_updL
        by_cases hi : i = p
        · rw [if_pos hi, if_pos (by omega)]
        · rw [if_neg hi]
          show (if i < p then (-1 : Int64) else 0) = _
          by_cases hl : i < p
          · rw [if_pos hl, if_pos (by omega)]
          · rw [if_neg hl, if_neg (by omega)]
      · show (8 - z.toInt).toNat < (8 - x.toInt).toNat
        rw [ez', ex, o32_t rz, o32_t rx]
        omega
  · rw [hz]
    congr 4
theorem c_Mo {p0 : Int32} (h : rq kk ad F M) (h0 : kk 0) (hn : ∀ k, 1 ≤ k → k ≤ 32 → ¬ kk k) (hF : F 0 = .inr (6, [.int 0, .int 0, .int 0, .int 0, .int 0, .null, .null, .null, .null, .null, .null, .null, .null, .null, .int 0, .null, .null, .null, .null, .null, .null, .null, .null, .null, .null, .null, .null, .null, .null, .null, .null, .null, .null, .int 0, .int 0, .long 0]))
    (qq : ∀ (ad1 : Int → Nat) (F1 : Int → hE) (M1 : Hp) (y0 : Int32) (fs : List Value), ((1 : Int32) ≤ p0 → p0 ≤ (65536 : Int32) → y0 = p0) → ((1 : Int32) ≤ p0 → ¬ p0 ≤ (65536 : Int32) → y0 = 65536) → (¬ (1 : Int32) ≤ p0 → y0 = 1) → rq (fun k => (5 ≤ k ∧ k ≤ 32 ∧ k ≠ 14) ∨ kk k) ad1 F1 M1 → (∀ k, kk k → ad1 k = ad k) → (∀ k, kk k → k ≠ 0 → F1 k = F k) → (∀ k, 5 ≤ k → k ≤ 32 → k ≠ 14 → k ≠ 21 → F1 k = zc k) → F1 21 = .inl (2, 8, .inr (.inl (fun i => if i < 8 then -1 else 0))) → F1 0 = .inr (6, fs) → fs.length = 36 → (∀ i : Nat, 5 ≤ (i : Int) → (i : Int) ≤ 32 → (i : Int) ≠ 14 → fs[i]? = some (.ref (ad1 i))) → fs[1]? = some (.int y0) → fs[4]? = some (.int 1) → (∀ i : Nat, ¬ (5 ≤ (i : Int) ∧ (i : Int) ≤ 32 ∧ (i : Int) ≠ 14) → i ≠ 1 → i ≠ 4 → fs[i]? = ([.int 0, .int 0, .int 0, .int 0, .int 0, .null, .null, .null, .null, .null, .null, .null, .null, .null, .int 0, .null, .null, .null, .null, .null, .null, .null, .null, .null, .null, .null, .null, .null, .null, .null, .null, .null, .null, .int 0, .int 0, .long 0] : List Value)[i]?) → post M1) : wpMo_init (ad 0) p0 M post := by
  unfold wpMo_init
  refine r_pF h h0 hF (show (4 : Nat) < 36 by decide) (fun F1 M1 h1 c1 o1 => ?_)
  have i4 : moI kk ad F (ad 0) (([.int 0, .int 0, .int 0, .int 0, .int 0, .null, .null, .null, .null, .null, .null, .null, .null, .null, .int 0, .null, .null, .null, .null, .null, .null, .null, .null, .null, .null, .null, .null, .null, .null, .null, .null, .null, .null, .int 0, .int 0, .long 0] : List Value).set 4 (.int 1)) 4 ad F1 M1 := ⟨r_sub h1 (fun k hk => hk.elim (fun q => by omega) id), rfl, fun _ _ => rfl, fun k hk hne => o1 k hne, fun k k1 k2 => by omega, _, c1, rfl, fun i i1 i2 => by omega, fun i hi => rfl⟩
  generalize eA : ad 0 = A at i4 ⊢
  generalize ef : ([.int 0, .int 0, .int 0, .int 0, .int 0, .null, .null, .null, .null, .null, .null, .null, .null, .null, .int 0, .null, .null, .null, .null, .null, .null, .null, .null, .null, .null, .null, .null, .null, .null, .null, .null, .null, .null, .int 0, .int 0, .long 0] : List Value).set 4 (.int 1) = fs1 at i4
  refine mo_step 5 (by decide) rfl h0 hn i4 (fun a5 F5 M5 i5 => ?_)
  refine mo_step 6 (by decide) rfl h0 hn i5 (fun a6 F6 M6 i6 => ?_)
  refine mo_step 7 (by decide) rfl h0 hn i6 (fun a7 F7 M7 i7 => ?_)
  refine mo_step 8 (by decide) rfl h0 hn i7 (fun a8 F8 M8 i8 => ?_)
  refine mo_step 9 (by decide) rfl h0 hn i8 (fun a9 F9 M9 i9 => ?_)
  refine mo_step 10 (by decide) rfl h0 hn i9 (fun a10 F10 M10 i10 => ?_)
  refine mo_step 11 (by decide) rfl h0 hn i10 (fun a11 F11 M11 i11 => ?_)
  refine mo_step 12 (by decide) rfl h0 hn i11 (fun a12 F12 M12 i12 => ?_)
  refine mo_step 13 (by decide) rfl h0 hn i12 (fun a13 F13 M13 i13 => ?_)
  have i14 : moI kk ad F A fs1 ((15 : Nat) - 1 : Int) a13 F13 M13 := ⟨r_sub i13.1 (fun k hk => hk.elim (fun q => Or.inl (by omega)) Or.inr), i13.2.1, i13.2.2.1, i13.2.2.2.1, fun k k1 k2 k3 => i13.2.2.2.2.1 k k1 (by omega) k3, by obtain ⟨fs, q1, q2, q3, q4⟩ := i13.2.2.2.2.2; exact ⟨fs, q1, q2, fun i i1 i2 i3 => q3 i i1 (by omega) i3, fun i hi => q4 i (by omega)⟩⟩
  refine mo_step 15 (by decide) rfl h0 hn i14 (fun a15 F15 M15 i15 => ?_)
  refine mo_step 16 (by decide) rfl h0 hn i15 (fun a16 F16 M16 i16 => ?_)
  refine mo_step 17 (by decide) rfl h0 hn i16 (fun a17 F17 M17 i17 => ?_)
  refine mo_step 18 (by decide) rfl h0 hn i17 (fun a18 F18 M18 i18 => ?_)
  refine mo_step 19 (by decide) rfl h0 hn i18 (fun a19 F19 M19 i19 => ?_)
  refine mo_step 20 (by decide) rfl h0 hn i19 (fun a20 F20 M20 i20 => ?_)
  refine mo_step 21 (by decide) rfl h0 hn i20 (fun a21 F21 M21 i21 => ?_)
  refine mo_step 22 (by decide) rfl h0 hn i21 (fun a22 F22 M22 i22 => ?_)
  refine mo_step 23 (by decide) rfl h0 hn i22 (fun a23 F23 M23 i23 => ?_)
  refine mo_step 24 (by decide) rfl h0 hn i23 (fun a24 F24 M24 i24 => ?_)
  refine mo_step 25 (by decide) rfl h0 hn i24 (fun a25 F25 M25 i25 => ?_)
  refine mo_step 26 (by decide) rfl h0 hn i25 (fun a26 F26 M26 i26 => ?_)
  refine mo_step 27 (by decide) rfl h0 hn i26 (fun a27 F27 M27 i27 => ?_)
  refine mo_step 28 (by decide) rfl h0 hn i27 (fun a28 F28 M28 i28 => ?_)
  refine mo_step 29 (by decide) rfl h0 hn i28 (fun a29 F29 M29 i29 => ?_)
  refine mo_step 30 (by decide) rfl h0 hn i29 (fun a30 F30 M30 i30 => ?_)
  refine mo_step 31 (by decide) rfl h0 hn i30 (fun a31 F31 M31 i31 => ?_)
  refine mo_step 32 (by decide) rfl h0 hn i31 (fun a32 F32 M32 i32 => ?_)
  obtain ⟨hr, hA, ka, kF, hz, fs, e0, hl, g1, g2⟩ := i32
  have r00 : (5 ≤ (0 : Int) ∧ (0 : Int) ≤ ((32 : Nat) : Int) ∧ (0 : Int) ≠ 14) ∨ kk 0 := Or.inr h0
  have r21 : (5 ≤ (21 : Int) ∧ (21 : Int) ≤ ((32 : Nat) : Int) ∧ (21 : Int) ≠ 14) ∨ kk 21 := Or.inl (by omega)
  have fin : ∀ y0 : Int32, ((1 : Int32) ≤ p0 → p0 ≤ (65536 : Int32) → y0 = p0) → ((1 : Int32) ≤ p0 → ¬ p0 ≤ (65536 : Int32) → y0 = 65536) → (¬ (1 : Int32) ≤ p0 → y0 = 1) → wMo_init_257 post A y0 A M32 := by
    intro y0 y1 y2 y3
    unfold wMo_init_257
    rw [← hA]
    refine r_pF hr r00 e0 (by rw [hl]; omega) (fun F33 M33 h33 c33 o33 => ?_)
    refine c_Mo262 h33 rfl r00 r21 c33 (by rw [List.getElem?_set_ne (by omega)]; exact g1 21 (by decide) (by decide) (by decide)) (by rw [o33 21 (by omega), hz 21 (by omega) (by omega) (by omega)]; rfl) (fun F34 M34 h34 o34 c34 => ?_)
    refine qq a32 F34 M34 y0 (fs.set 1 (.int y0)) y1 y2 y3 (r_sub h34 (fun k hk => hk.elim (fun q => Or.inl (by omega)) Or.inr)) ka (fun k hk hne => ?_) (fun k k1 k2 k3 k4 => ?_) c34 ?_ (by rw [List.length_set]; exact hl) (fun i i1 i2 i3 => ?_) (List.getElem?_set_self (by omega)) ?_ (fun i hi i1 i4 => ?_)
    · rw [o34 k (fun e => hn 21 (by omega) (by omega) (e ▸ hk)), o33 k hne, kF k hk hne]
    · rw [o34 k k4, o33 k (by omega), hz k k1 (by omega) k3]
    · rw [o34 0 (by omega), c33]
    · rw [List.getElem?_set_ne (by omega)]
      exact g1 i i1 (by omega) i3
    · rw [List.getElem?_set_ne (by omega), g2 4 (by decide), ← ef]
      rfl
    · rw [List.getElem?_set_ne (by omega), g2 i (by omega), ← ef, List.getElem?_set_ne (by omega)]
  exact ⟨fun q1 => ⟨fun q2 => fin p0 (fun _ _ => rfl) (fun _ q => absurd q2 q) (fun q => absurd q1 q), fun q2 => fin 65536 (fun _ q => absurd q q2) (fun _ _ => rfl) (fun q => absurd q1 q)⟩, fun q1 => fin 1 (fun q => absurd q q1) (fun q => absurd q q1) (fun _ => rfl)⟩
end MI
