section AF
variable {S T U : St} {s p v k d c i : Int} {w : Int → Int}
abbrev isF (S : St) (w : Int → Int) (i : Int) : Prop := 0 ≤ i ∧ i < 81 * S 0 4 ∧ i % 81 < stN S (i / 81) ∧ w i = 2
def fR (S : St) (w : Int → Int) (i : Int) : Int := if isF S w i ∧ (i % 81 = 0 ∨ ¬ isF S w (i - 1)) then 1 else 0
def fC (S : St) (w : Int → Int) (c : Int) : Int := fR S w (81 * (c / 80) + c % 80)
theorem fR_01 : fR S w i = 0 ∨ fR S w i = 1 := by
  unfold fR
  split <;> omega
theorem fR_80 (hm : wfM S) (h : i % 81 = 80) : fR S w i = 0 := by
  unfold fR
  rw [if_neg]
  rintro ⟨⟨h1, h2, h3, _⟩, _⟩
  have h4 := hm.1.2.2.2.1
  have := (hm.2.1 (i / 81) (by omega) (by omega)).2.2.2.2.2.1
  omega
theorem sm_nn (f : Int → Int) (h : ∀ i, f i = 0 ∨ f i = 1) {a b : Int} (a0 : 0 ≤ a) (ab : a ≤ b) : sm f a.toNat ≤ sm f b.toNat := by
  have e := sm_app (f := f) a0 (b - a).toNat
  rw [show a + ((b - a).toNat : Int) = b by omega] at e
  have g := sm_b (f := fun k => f (a + k)) 1 (b - a).toNat (fun i _ _ => by show 0 ≤ f (a + i) ∧ f (a + i) ≤ 1; have := h (a + i); omega)
  omega
theorem sm_uq (f : Int → Int) (h : ∀ i, f i = 0 ∨ f i = 1) {a b : Int} (a0 : 0 ≤ a) (b0 : 0 ≤ b) (ha : f a = 1) (hb : f b = 1) (e : sm f a.toNat = sm f b.toNat) : a = b := by
  have sa := sm_s (f := f) a0
  have sb := sm_s (f := f) b0
  by_cases h1 : a < b
  · have := sm_nn f h (show 0 ≤ a + 1 by omega) (show a + 1 ≤ b by omega)
    omega
  · by_cases h2 : b < a
    · have := sm_nn f h (show 0 ≤ b + 1 by omega) (show b + 1 ≤ a by omega)
      omega
    · omega
theorem fC_sum (hm : wfM S) : ∀ t : Nat, ∀ a : Nat, a ≤ 80 → sm (fC S w) (80 * (t : Int) + a).toNat = sm (fR S w) (81 * (t : Int) + a).toNat := by
  have inn : ∀ (t : Int) (a : Nat), 0 ≤ t → a ≤ 80 → sm (fC S w) (80 * t).toNat = sm (fR S w) (81 * t).toNat → sm (fC S w) (80 * t + a).toNat = sm (fR S w) (81 * t + a).toNat := by
    intro t a t0 ha he
    rw [sm_app (by omega), sm_app (by omega), he]
    congr 1
    refine sm_eq a (fun j j0 j1 => ?_)
    show fR S w (81 * ((80 * t + j) / 80) + (80 * t + j) % 80) = fR S w (81 * t + j)
    congr 1
    omega
  intro t
  induction t with
  | zero => exact fun a ha => inn 0 a (by omega) ha rfl
  | succ t ih =>
    intro a ha
    have e := ih 80 (by omega)
    refine inn _ a (by omega) ha ?_
    rw [show 80 * ((t + 1 : Nat) : Int) = 80 * (t : Int) + ((80 : Nat) : Int) by omega, e, show 81 * ((t + 1 : Nat) : Int) = 81 * (t : Int) + ((80 : Nat) : Int) + 1 by omega, sm_s (by omega), fR_80 hm (by omega)]
    omega
theorem fC_at (hm : wfM S) (c0 : 0 ≤ c) : sm (fC S w) c.toNat = sm (fR S w) (81 * (c / 80) + c % 80).toNat := by
  have := fC_sum (w := w) hm (c / 80).toNat (c % 80).toNat (by omega)
  rw [show 80 * (((c / 80).toNat : Nat) : Int) + ((c % 80).toNat : Nat) = c by omega, show 81 * (((c / 80).toNat : Nat) : Int) + ((c % 80).toNat : Nat) = 81 * (c / 80) + c % 80 by omega] at this
  exact this
theorem fR_end (hm : wfM S) : sm (fC S w) 480 = sm (fR S w) (81 * S 0 4).toNat := by
  have h4 := hm.1.2.2.2.1
  have h := fC_sum (w := w) hm 6 0 (by omega)
  have e1 : (80 * ((6 : Nat) : Int) + ((0 : Nat) : Int)).toNat = 480 := rfl
  rw [e1] at h
  rw [h]
  refine sm_gap (by omega) (by omega) (fun i i1 i2 => ?_)
  unfold fR
  rw [if_neg]
  rintro ⟨⟨_, h2, _⟩, _⟩
  omega
/-- the class's FUEL -/
def fuB (S T : St) (K : Int) (w : Int → Int) : Prop := ∀ t k, 0 ≤ t → t < 6 → 0 ≤ k → k < 80 → (T (K + 2) (80 * t + k) = 0 ∨ T (K + 2) (80 * t + k) = 1) ∧ (T (K + 2) (80 * t + k) = 1 ↔ isF S w (81 * t + k))
theorem fuB_of {K : Int} {l q : Int → Int} (h : pRel S T K w l q) : fuB S T K w := fun t k t0 t6 k0 k8 => by
  have g := h.2.2.2.2 t k t0 t6 k0 k8
  refine ⟨g.1, ?_⟩
  rw [g.2]
  have d1 : (81 * t + k) / 81 = t := by omega
  have d2 : (81 * t + k) % 81 = k := by omega
  unfold isF
  rw [d1, d2]
  constructor
  · rintro ⟨a1, a2, a3, a4⟩
    exact ⟨by omega, a1, a3, a4⟩
  · rintro ⟨a1, a2, a3, a4⟩
    exact ⟨a2, by omega, a3, a4⟩
theorem fu_c {K : Int} (h : fuB S T K w) (c0 : 0 ≤ c) (c1 : c < 480) : (T (K + 2) c = 0 ∨ T (K + 2) c = 1) ∧ (T (K + 2) c = 1 ↔ isF S w (81 * (c / 80) + c % 80)) := by
  have := h (c / 80) (c % 80) (by omega) (by omega) (by omega) (by omega)
  rw [show 80 * (c / 80) + c % 80 = c by omega] at this
  exact this
theorem s_beginsRow {K : Int} {Q : Int → St → Prop} (h : fuB S T K w) (c0 : 0 ≤ c) (c1 : c < 480) (q1 : fC S w c = 1 → Q 1 T) (q0 : fC S w c = 0 → Q 0 T) : vpPl_beginsFuelRow K c T Q := by
  obtain ⟨b1, b2⟩ := fu_c h c0 c1
  unfold fC fR at q0 q1
  have dm : (81 * (c / 80) + c % 80) % 81 = c % 80 := by omega
  unfold vpPl_beginsFuelRow vPl_beginsFuelRow_27 vPl_beginsFuelRow_31 vPl_beginsFuelRow_32
  refine ⟨by omega, fun hz => ⟨Or.inl rfl, q0 (if_neg (fun g => by have := b2.2 g.1; omega))⟩, fun hz => ⟨by omega, by omega, by constructor <;> omega, fun hc => ⟨Or.inr rfl, q1 (if_pos ⟨b2.1 (by omega), Or.inl (dm.trans hc)⟩)⟩, fun hc => ⟨by omega, ?_⟩⟩⟩
  obtain ⟨d1, d2⟩ := fu_c h (show 0 ≤ c - 1 by omega) (by omega)
  rw [show 81 * ((c - 1) / 80) + (c - 1) % 80 = 81 * (c / 80) + c % 80 - 1 by omega] at d2
  refine ⟨fun hp => ⟨Or.inr rfl, q1 (if_pos ⟨b2.1 (by omega), Or.inr (fun g => by have := d2.2 g; omega)⟩)⟩, fun hp => ⟨Or.inl rfl, q0 (if_neg (fun g => ?_))⟩⟩
  rcases g.2 with g2 | g2
  · exact hc (dm.symm.trans g2)
  · exact g2 (d2.1 (by omega))
theorem cnt_b (n : Nat) : 0 ≤ sm (fC S w) n ∧ sm (fC S w) n ≤ n := by
  have := sm_b (f := fC S w) 1 n (fun i _ _ => by have := fR_01 (S := S) (w := w) (i := 81 * (i / 80) + i % 80); unfold fC; omega)
  omega
theorem s_countRows {K : Int} {Q : Int → St → Prop} (h : fuB S T K w) (qq : Q (sm (fC S w) 480) T) : vpPl_countFuelRows K T Q := by
  unfold vpPl_countFuelRows
  refine lp2 (fun n x c => vPl_countFuelRows_4 Q n K x c T) (fun x c => (0 ≤ c ∧ c ≤ 480) ∧ x = sm (fC S w) c.toNat) (fun _ c => (480 - c).toNat) (fun n x c hI ih => ?_) 0 0 ⟨by omega, rfl⟩
  obtain ⟨hc, ex⟩ := hI
  have cb := cnt_b (S := S) (w := w) c.toNat
  have es := sm_s (f := fC S w) hc.1
  unfold vPl_countFuelRows_4
  refine ⟨by constructor <;> omega, fun he => ?_, fun he => ?_⟩
  · have : c = 480 := by omega
    subst this
    rw [ex]
    exact qq
  · have nx : ∀ x', x' = sm (fC S w) (c + 1).toNat → vPl_countFuelRows_24 Q (vPl_countFuelRows_4 Q n) K x' c T := fun x' e' => by
      unfold vPl_countFuelRows_24
      refine ⟨by constructor <;> omega, fun z ez => ?_⟩
      subst ez
      exact ih x' (c + 1) ⟨by omega, e'⟩ (by show (480 - (c + 1)).toNat < (480 - c).toNat; omega)
    refine s_beginsRow h hc.1 (by omega) (fun g => ⟨fun g2 => by omega, fun _ => ⟨by constructor <;> omega, fun z ez => nx z (by omega)⟩⟩) (fun g => ⟨fun _ => nx x (by omega), fun g2 => absurd rfl g2⟩)
theorem s_rowBegin {K : Int} {Q : Int → St → Prop} (h : fuB S T K w) (k0 : 0 ≤ k) (k1 : k < sm (fC S w) 480) (qq : ∀ c, 0 ≤ c → c < 480 → fC S w c = 1 → sm (fC S w) c.toNat = k → Q c T) : vpPl_fuelRowBegin K k T Q := by
  unfold vpPl_fuelRowBegin
  refine lp2 (fun n x c => vPl_fuelRowBegin_4 Q n K k x c T) (fun x c => (0 ≤ c ∧ c ≤ 480) ∧ x = sm (fC S w) c.toNat ∧ x ≤ k) (fun _ c => (480 - c).toNat) (fun n x c hI ih => ?_) 0 0 ⟨by omega, rfl, k0⟩
  obtain ⟨hc, ex, xk⟩ := hI
  have cb := cnt_b (S := S) (w := w) c.toNat
  have es := sm_s (f := fC S w) hc.1
  unfold vPl_fuelRowBegin_4
  refine ⟨by constructor <;> omega, fun he => ?_, fun he => ?_⟩
  · have : c = 480 := by omega
    subst this
    have : sm (fC S w) (480 : Int).toNat = sm (fC S w) 480 := rfl
    omega
  · have nx : ∀ x', x' = sm (fC S w) (c + 1).toNat → x' ≤ k → vPl_fuelRowBegin_31 Q (vPl_fuelRowBegin_4 Q n) K k x' c T := fun x' e' l' => by
      unfold vPl_fuelRowBegin_31
      refine ⟨by constructor <;> omega, fun z ez => ?_⟩
      subst ez
      exact ih x' (c + 1) ⟨by omega, e', l'⟩ (by show (480 - (c + 1)).toNat < (480 - c).toNat; omega)
    refine s_beginsRow h hc.1 (by omega) (fun g => ⟨fun g2 => by omega, fun _ => ⟨fun hx => qq c hc.1 (by omega) g (by omega), fun hx => ⟨by constructor <;> omega, fun z ez => nx z (by omega) (by omega)⟩⟩⟩) (fun g => ⟨fun _ => nx x (by omega) xk, fun g2 => absurd rfl g2⟩)
/-- how long a row of FUEL is -/
def runL (S : St) (w : Int → Int) (i m : Int) : Prop := 1 ≤ m ∧ i % 81 + m ≤ 80 ∧ (∀ x, 1 ≤ x → x < m → isF S w (i + x)) ∧ (i % 81 + m = 80 ∨ ¬ isF S w (i + m))
theorem run_uq {m m' : Int} (hm : wfM S) (h : runL S w i m) (h' : runL S w i m') : m = m' := by
  have h4 := hm.1.2.2.2.1
  have no80 : ∀ x, i % 81 + x = 80 → ¬ isF S w (i + x) := fun x hx hF => by
    have a1 := hF.1
    have a2 := hF.2.1
    have a3 := hF.2.2.1
    have n := (hm.2.1 ((i + x) / 81) (by omega) (by omega)).2.2.2.2.2.1
    omega
  obtain ⟨a1, a2, a3, a4⟩ := h
  obtain ⟨b1, b2, b3, b4⟩ := h'
  by_cases c1 : m < m'
  · have := b3 m a1 c1
    rcases a4 with a4 | a4
    · exact absurd this (no80 m a4)
    · exact absurd this a4
  · by_cases c2 : m' < m
    · have := a3 m' b1 c2
      rcases b4 with b4 | b4
      · exact absurd this (no80 m' b4)
      · exact absurd this b4
    · omega
theorem s_rowSteps {K : Int} {Q : Int → St → Prop} (h : fuB S T K w) (c0 : 0 ≤ c) (c1 : c < 480) (qq : ∀ m, runL S w (81 * (c / 80) + c % 80) m → Q m T) : vpPl_fuelRowSteps K c T Q := by
  unfold vpPl_fuelRowSteps
  refine ⟨by constructor <;> omega, fun z ez => ?_⟩
  subst ez
  have d81 : (81 * (c / 80) + c % 80) % 81 = c % 80 := by omega
  refine lp1 (fun n x => vPl_fuelRowSteps_4 Q n K c x T) (fun x => (c + 1 ≤ x ∧ c % 80 + (x - c) ≤ 80) ∧ ∀ y, 1 ≤ y → y < x - c → isF S w (81 * (c / 80) + c % 80 + y)) (fun x => (480 - x).toNat) (fun n x hI ih => ?_) (c + 1) ⟨by omega, fun y _ _ => by omega⟩
  obtain ⟨hx, hy⟩ := hI
  have stop : (c % 80 + (x - c) = 80 ∨ ¬ isF S w (81 * (c / 80) + c % 80 + (x - c))) → vPl_fuelRowSteps_35 Q c x T := fun hs => by
    unfold vPl_fuelRowSteps_35
    refine ⟨by constructor <;> omega, qq (x - c) ⟨by omega, by rw [d81]; omega, hy, ?_⟩⟩
    rw [d81]
    exact hs
  unfold vPl_fuelRowSteps_4
  refine ⟨by constructor <;> omega, fun he => stop (Or.inl (by omega)), fun he => ⟨by omega, by omega, by constructor <;> omega, fun hz => stop (Or.inl (by omega)), fun hz => ⟨by omega, ?_⟩⟩⟩
  obtain ⟨b1, b2⟩ := fu_c h (show 0 ≤ x by omega) (by omega)
  rw [show 81 * (x / 80) + x % 80 = 81 * (c / 80) + c % 80 + (x - c) by omega] at b2
  refine ⟨fun hf => stop (Or.inr (fun g => by have := b2.2 g; omega)), fun hf => ⟨by constructor <;> omega, fun z ez => ?_⟩⟩
  subst ez
  refine ih (x + 1) ⟨by omega, fun y y1 y2 => ?_⟩ (by show (480 - (x + 1)).toNat < (480 - x).toNat; omega)
  by_cases hyx : y = x - c
  · rw [hyx]
    exact b2.1 (by omega)
  · exact hy y y1 (by omega)
/-- the reference's FUEL -/
theorem s_isFuel {Q : Int → St → Prop} (hm : wfM S) (i0 : 0 ≤ i) (i1 : i < 486) (h6 : i < 81 * S 0 4) (q1 : isF S (S 25) i → Q 1 S) (q0 : ¬ isF S (S 25) i → Q 0 S) : vpMo_isFuel 0 i S Q := by
  unfold vpMo_isFuel vMo_isFuel_29 vMo_isFuel_30
  refine ⟨by omega, by omega, by constructor <;> omega, ?_⟩
  refine s_stepsOf hm.1 (hm.2.1 (i / 81) (by omega) (by omega)) (by omega) (by omega) ⟨by omega, by omega, by constructor <;> omega, fun g => ⟨Or.inl rfl, q0 (fun hF => by have := hF.2.2.1; omega)⟩, fun g => ⟨by omega, fun hw => ⟨Or.inr rfl, q1 ⟨i0, h6, by omega, hw⟩⟩, fun hw => ⟨Or.inl rfl, q0 (fun hF => hw hF.2.2.2)⟩⟩⟩
theorem s_beginsFuel {Q : Int → St → Prop} (hm : wfM S) (i0 : 0 ≤ i) (h6 : i < 81 * S 0 4) (q1 : fR S (S 25) i = 1 → Q 1 S) (q0 : fR S (S 25) i = 0 → Q 0 S) : vpMo_beginsFuel 0 i S Q := by
  have h4 := hm.1.2.2.2.1
  unfold fR at q0 q1
  unfold vpMo_beginsFuel vMo_beginsFuel_25 vMo_beginsFuel_29 vMo_beginsFuel_30
  refine s_isFuel hm i0 (by omega) h6 (fun hF => ⟨fun g => by omega, fun _ => ⟨by omega, by omega, by constructor <;> omega, fun hz => ⟨Or.inr rfl, q1 (if_pos ⟨hF, Or.inl hz⟩)⟩, fun hz => ⟨by constructor <;> omega, ?_⟩⟩⟩) (fun hF => ⟨fun _ => ⟨Or.inl rfl, q0 (if_neg (fun g => hF g.1))⟩, fun g => absurd rfl g⟩)
  refine s_isFuel hm (by omega) (by omega) (by omega) (fun hP => ⟨fun g => by omega, fun _ => ⟨Or.inl rfl, q0 (if_neg (fun g => g.2.elim hz (fun n => n hP)))⟩⟩) (fun hP => ⟨fun _ => ⟨Or.inr rfl, q1 (if_pos ⟨hF, Or.inr hP⟩)⟩, fun g => absurd rfl g⟩)
theorem rnt_b (n : Nat) : 0 ≤ sm (fR S w) n ∧ sm (fR S w) n ≤ n := by
  have := sm_b (f := fR S w) 1 n (fun i _ _ => by have := fR_01 (S := S) (w := w) (i := i); omega)
  omega
theorem s_fuelCount {Q : Int → St → Prop} (hm : wfM S) (qq : Q (sm (fR S (S 25)) (81 * S 0 4).toNat) S) : vpMo_fuelCount 0 S Q := by
  have h4 := hm.1.2.2.2.1
  unfold vpMo_fuelCount
  refine lp2 (fun n x i => vMo_fuelCount_4 Q n 0 x i S) (fun x i => (0 ≤ i ∧ i ≤ 81 * S 0 4) ∧ x = sm (fR S (S 25)) i.toNat) (fun _ i => (81 * S 0 4 - i).toNat) (fun n x i hI ih => ?_) 0 0 ⟨by omega, rfl⟩
  obtain ⟨hi, ex⟩ := hI
  have cb := rnt_b (S := S) (w := S 25) i.toNat
  have es := sm_s (f := fR S (S 25)) hi.1
  unfold vMo_fuelCount_4
  refine ⟨by constructor <;> omega, fun he => ?_, fun he => ?_⟩
  · have : i = 81 * S 0 4 := by omega
    subst this
    rw [ex]
    exact qq
  · have nx : ∀ x', x' = sm (fR S (S 25)) (i + 1).toNat → vMo_fuelCount_30 Q (vMo_fuelCount_4 Q n) 0 i x' S := fun x' e' => by
      unfold vMo_fuelCount_30
      refine ⟨by constructor <;> omega, fun z ez => ?_⟩
      subst ez
      exact ih x' (i + 1) ⟨by omega, e'⟩ (by show (81 * S 0 4 - (i + 1)).toNat < (81 * S 0 4 - i).toNat; omega)
    exact s_beginsFuel hm hi.1 (by omega) (fun g => ⟨fun g2 => by omega, fun _ => ⟨by constructor <;> omega, nx _ (by omega)⟩⟩) (fun g => ⟨fun _ => nx x (by omega), fun g2 => absurd rfl g2⟩)
theorem s_f118 {Q : Int → St → Prop} (hm : wfM S) (hF : isF S (S 25) i) (qq : ∀ m, runL S (S 25) i m → vMo_fuel_152 Q d i m S) : ∃ n, vMo_fuel_118 Q n 0 d i 1 S := by
  have h4 := hm.1.2.2.2.1
  have a1 := hF.1
  have a2 := hF.2.1
  have a3 := hF.2.2.1
  have n80 := (hm.2.1 (i / 81) (by omega) (by omega)).2.2.2.2.2.1
  refine lp1 (fun n m => vMo_fuel_118 Q n 0 d i m S) (fun m => (1 ≤ m ∧ i % 81 + m ≤ 80) ∧ ∀ x, 1 ≤ x → x < m → isF S (S 25) (i + x)) (fun m => (81 - m).toNat) (fun n m hI ih => ?_) 1 ⟨by omega, fun x _ _ => by omega⟩
  obtain ⟨hmm, hx⟩ := hI
  unfold vMo_fuel_118
  refine ⟨by constructor <;> omega, s_isFuel hm (by omega) (by omega) (by omega) (fun hF2 => ⟨fun g => by omega, fun _ => ⟨by omega, by omega, by omega, by omega, by constructor <;> omega, by constructor <;> omega, fun hd => ⟨by constructor <;> omega, fun z ez => ?_⟩, fun hd => ?_⟩⟩) (fun hF2 => ⟨fun _ => qq m ⟨hmm.1, hmm.2, hx, Or.inr hF2⟩, fun g => absurd rfl g⟩)⟩
  · subst ez
    have b3 := hF2.2.2.1
    refine ih (m + 1) ⟨⟨by omega, ?_⟩, fun x x1 x2 => ?_⟩ (by show (81 - (m + 1)).toNat < (81 - m).toNat; omega)
    · rw [hd] at b3
      omega
    · by_cases hxm : x = m
      · rw [hxm]; exact hF2
      · exact hx x x1 (by omega)
  · omega
theorem s_f80 {Q : Int → St → Prop} (hm : wfM S) (k0 : 0 ≤ k) (k1 : k < sm (fR S (S 25)) (81 * S 0 4).toNat) (qq : ∀ i m, 0 ≤ i → i < 81 * S 0 4 → fR S (S 25) i = 1 → sm (fR S (S 25)) i.toNat = k → runL S (S 25) i m → vMo_fuel_152 Q d i m S) : ∃ n, vMo_fuel_80 Q n 0 k d 0 0 S := by
  have h4 := hm.1.2.2.2.1
  refine lp2 (fun n i x => vMo_fuel_80 Q n 0 k d i x S) (fun i x => (0 ≤ i ∧ i ≤ 81 * S 0 4) ∧ x = sm (fR S (S 25)) i.toNat ∧ (x ≤ k ∨ (x = k + 1 ∧ 1 ≤ i ∧ fR S (S 25) (i - 1) = 1 ∧ sm (fR S (S 25)) (i - 1).toNat = k))) (fun i _ => (81 * S 0 4 - i).toNat) (fun n i x hI ih => ?_) 0 0 ⟨by omega, rfl, Or.inl k0⟩
  obtain ⟨hi, ex, hx⟩ := hI
  have cb := rnt_b (S := S) (w := S 25) i.toNat
  have es := sm_s (f := fR S (S 25)) hi.1
  unfold vMo_fuel_80
  refine ⟨fun hlt => ⟨by constructor <;> omega, fun z ez => ?_⟩, fun hlt => ?_⟩
  · obtain ⟨x1, x2, x3, x4⟩ : x = k + 1 ∧ 1 ≤ i ∧ fR S (S 25) (i - 1) = 1 ∧ sm (fR S (S 25)) (i - 1).toNat = k := by
      rcases hx with hx | hx
      · omega
      · exact hx
    rw [show z = i - 1 by omega]
    have hF : isF S (S 25) (i - 1) := by
      unfold fR at x3
      by_cases hh : isF S (S 25) (i - 1) ∧ ((i - 1) % 81 = 0 ∨ ¬ isF S (S 25) (i - 1 - 1))
      · exact hh.1
      · rw [if_neg hh] at x3
        omega
    exact s_f118 hm hF (fun m hr => qq (i - 1) m (by omega) (by omega) x3 x4 hr)
  · have hlt' : i < 81 * S 0 4 := by
      by_cases he : i = 81 * S 0 4
      · rw [he] at ex
        omega
      · omega
    have nx : ∀ x', x' = sm (fR S (S 25)) (i + 1).toNat → (x' ≤ k ∨ (x' = k + 1 ∧ fR S (S 25) i = 1 ∧ sm (fR S (S 25)) i.toNat = k)) → vMo_fuel_104 Q (vMo_fuel_80 Q n) 0 k d i x' S := fun x' e' l' => by
      unfold vMo_fuel_104
      refine ⟨by constructor <;> omega, fun z ez => ?_⟩
      subst ez
      refine ih (i + 1) x' ⟨by omega, e', ?_⟩ (by show (81 * S 0 4 - (i + 1)).toNat < (81 * S 0 4 - i).toNat; omega)
      rw [show i + 1 - 1 = i by omega]
      rcases l' with l' | l'
      · exact Or.inl l'
      · exact Or.inr ⟨l'.1, by omega, l'.2⟩
    refine s_beginsFuel hm hi.1 hlt' (fun g => ⟨fun g2 => by omega, fun _ => ⟨by constructor <;> omega, nx _ (by omega) ?_⟩⟩) (fun g => ⟨fun _ => nx x (by omega) (Or.inl (by omega)), fun g2 => absurd rfl g2⟩)
    by_cases hxk : x = k
    · exact Or.inr ⟨by omega, g, by omega⟩
    · exact Or.inl (by omega)
end AF
