/-! THE LAYER: a heap as a partial map from addresses to cells; one row an access; calls hand the whole map over. -/
abbrev hE : Type := (Nat × vp_A) ⊕ (Nat × List Value)
abbrev Hp : Type := Nat → Option hE
/-- a cell of the map stands in the heap: an array by its place in tys, an object by its place in cl -/
def hcell (D : va_G) (cl : List vw_C) (tys : List (ClassId × FieldType)) (a : Nat) (x : hE) (H : Heap) : Prop := match x with
  | .inl v => ∃ q : ClassId × FieldType, tys[v.1]? = some q ∧ va_at D cl (a, .inl (q.1, v.2)) H
  | .inr o => va_at D cl (a, .inr o) H
def hw (D : va_G) (cl : List vw_C) (tys : List (ClassId × FieldType)) (A : Nat → Prop) (M : Hp) (H : Heap) : Prop := ∀ (a : Nat) (x : hE), M a = some x → hcell D cl tys a x H ∧ A a
/-- what a method may change: the map's cells and new ones -/
def hAx (M : Hp) (sz : Nat) : Nat → Prop := fun q => M q ≠ none ∨ sz ≤ q
def hob (M : Hp) (a ci : Nat) : Prop := ∃ fs : List Value, M a = some (.inr (ci, fs))
section HL
variable {D : va_G} {cl : List vw_C} {tys : List (ClassId × FieldType)} {A : Nat → Prop} {M : Hp} {H H1 : Heap}
theorem hcell.kept {a : Nat} {x : hE} (h : hcell D cl tys a x H) (hq : H1[a]? = H[a]?) : hcell D cl tys a x H1 := by
  cases x with
  | inl v =>
    obtain ⟨q, h1, h2⟩ := h
    exact ⟨q, h1, va_at.kept h2 hq⟩
  | inr o => exact (show va_at D cl (a, .inr o) H1 from va_at.kept (q := (a, .inr o)) h hq)
theorem hcell.lt {a : Nat} {x : hE} (h : hcell D cl tys a x H) : a < H.size := by
  cases x with
  | inl v =>
    obtain ⟨q, h1, h2⟩ := h
    exact va_at.lt h2
  | inr o => exact (va_at.lt (D := D) (cl := cl) (q := (a, .inr o)) h)
theorem hw.ob (h : hw D cl tys A M H) {a ci : Nat} {fs : List Value} (he : M a = some (.inr (ci, fs))) : va_P D cl [(a, .inr (ci, fs))] H := by
  intro k q hk
  match k, hk with
  | 0, hk =>
    cases hk
    exact (h a _ he).1
  | k + 1, hk => simp at hk
theorem hw.ar (h : hw D cl tys A M H) {a t : Nat} {x : vp_A} (he : M a = some (.inl (t, x))) : ∃ q : ClassId × FieldType, tys[t]? = some q ∧ va_P D cl [(a, .inl (q.1, x))] H := by
  obtain ⟨⟨q, h1, h2⟩, -⟩ := h a _ he
  refine ⟨q, h1, ?_⟩
  intro k z hk
  match k, hk with
  | 0, hk =>
    cases hk
    exact h2
  | k + 1, hk => simp at hk
theorem hw.set (h : hw D cl tys A M H) {a : Nat} {x : hE} (ha : A a) (he : hcell D cl tys a x H1) (oq : ∀ q : Nat, q ≠ a → H1[q]? = H[q]?) : hw D cl tys A (va_up M a (some x)) H1 := by
  intro b y hb
  by_cases hba : b = a
  · subst hba
    rw [va_up, if_pos rfl] at hb
    cases hb
    exact ⟨he, ha⟩
  · rw [va_up, if_neg hba] at hb
    exact ⟨(h b y hb).1.kept (oq b hba), (h b y hb).2⟩
theorem hw.kept (h : hw D cl tys A M H) (oq : ∀ q : Nat, q < H.size → H1[q]? = H[q]?) : hw D cl tys A M H1 := by
  intro b y hb
  exact ⟨(h b y hb).1.kept (oq b (h b y hb).1.lt), (h b y hb).2⟩
theorem hw.fresh (h : hw D cl tys A M H) {a : Nat} (ha : H.size ≤ a) : M a = none := by
  cases hm : M a with
  | none => rfl
  | some x => exact absurd (h a x hm).1.lt (Nat.not_lt.mpr ha)
theorem hw.weaken {B : Nat → Prop} (h : hw D cl tys A M H) (hAB : ∀ q, A q → B q) : hw D cl tys B M H := fun a x hx => ⟨(h a x hx).1, hAB a (h a x hx).2⟩
theorem hw.self {sz : Nat} (h : hw D cl tys A M H) : hw D cl tys (hAx M sz) M H := fun a x hx => ⟨(h a x hx).1, Or.inl (by rw [hx]; exact fun z => by cases z)⟩
theorem hAx.sub (h : hw D cl tys A M H) {H0 : Heap} {locs : List Loc} (hS : va_S A H0 H locs) (hA : ∀ q, H0.size ≤ q → A q) : ∀ q, hAx M H.size q → A q := by
  intro q hq
  rcases hq with hq | hq
  · cases hm : M q with
    | none => exact absurd hm hq
    | some x => exact (h q x hm).2
  · exact hA q (Nat.le_trans hS.1 hq)
end HL
section HR
variable {p : Program} {l : Launch} {e : Env} {R : Room} {s : State} {m : MethodId} {args : Array Value} {below : List Frame} {meth : Method} {c : Code} {H : Heap} {locs : List Loc} {cells slots : Nat} {Q : State → Prop}
variable {cc : ByteArray} {pc : Nat} {ls : Array Slot} {rest : List Value} {D : va_G} {cl : List vw_C} {A : Nat → Prop} {a : Nat} {tys : List (ClassId × FieldType)} {M : Hp} {H0 : Heap}
theorem h_get (hexec : p.tables.exec = Jvm.exec) (hb : c.code = cc) {own ref C : String} {T : u_T} {N ci index : Nat} {Ts : List Cond} (hts : ∀ w ∈ Ts, w.before args s = true) (hin : ∀ w ∈ u_ws C T N, w ∈ Ts) (hown : s.vm.findClass own = some m.cls) (hK : va_K D cl tys s) (hM : hw D cl tys A M H) {fs : List Value} (he : M a = some (.inr (ci, fs))) (hc : cl[ci]? = some (C, T, N)) (k : Nat) (hk : k < N) (hlink : (Cond.fieldLink own index ref (T k).2.1 (T k).2.2.1).before args s = true) (hsame : ∀ x, s.fieldFound? (T k).1 (T k).2.1 (T k).2.2.1 = some x → s.fieldFound? ref (T k).2.1 (T k).2.2.1 = some x) {v : Value} (hv : fs[k]? = some v) (hdg : decode cc pc = .ok (.getfield index, 3))
    (kk : W p l e R s m args below meth c H locs cells slots Q (F0 m (pc + 3) ls (v :: rest))) : W p l e R s m args below meth c H locs cells slots Q (F0 m pc ls (.ref a :: rest)) :=
  va_get hexec hb hts hin hown hK (hM.ob he) 0 rfl hc k hk hlink hsame hv hdg kk
theorem h_put (hexec : p.tables.exec = Jvm.exec) (hb : c.code = cc) {own ref C : String} {T : u_T} {N ci index : Nat} {Ts : List Cond} (hts : ∀ w ∈ Ts, w.before args s = true) (hin : ∀ w ∈ u_ws C T N, w ∈ Ts) (ty0 : Nat → FieldType) (hty : ∀ k, k < N → parseFieldDescriptor (T k).2.2.1 = some (ty0 k)) (hnm : ∀ a, a < N → ∀ b, b < N → a ≠ b → (T a).2.1 ≠ (T b).2.1) (hown : s.vm.findClass own = some m.cls) (hK : va_K D cl tys s) (hM : hw D cl tys A M H) (hS0 : va_S A H0 H locs) {fs : List Value} (he : M a = some (.inr (ci, fs))) (hc : cl[ci]? = some (C, T, N)) (k : Nat) (hk : k < N) (hlink : (Cond.fieldLink own index ref (T k).2.1 (T k).2.2.1).before args s = true) (hsame : ∀ x, s.fieldFound? (T k).1 (T k).2.1 (T k).2.2.1 = some x → s.fieldFound? ref (T k).2.1 (T k).2.2.1 = some x) (hfin : (T k).2.2.2 = false) {ty : FieldType} {v : Value} (hd : parseFieldDescriptor (T k).2.2.1 = some ty) (hn : narrow ty v = v) (hfit : fits ty v = true) (hl : k < fs.length)
    (hdg : decode cc pc = .ok (.putfield index, 3)) (kk : ∀ (H1 : Heap) (locs1 : List Loc), hw D cl tys A (va_up M a (some (.inr (ci, fs.set k v)))) H1 → va_S A H0 H1 locs1 → W p l e R s m args below meth c H1 locs1 cells slots Q (F0 m (pc + 3) ls rest)) : W p l e R s m args below meth c H locs cells slots Q (F0 m pc ls (v :: .ref a :: rest)) := by
  have hap := va_apart (own := own) hts hin ty0 hty hnm hK hc
  obtain ⟨r, h1, cell, q1, q2, q3, q4⟩ := (hM a _ he).1
  have hr : r = (C, T, N) := Option.some.inj (h1.symm.trans hc)
  subst hr
  obtain ⟨hS, hfc, kC, hkC, hkind⟩ := hK.1 ci _ hc
  obtain ⟨cf, kf, fi, f, hi, hsl⟩ := hS k hk
  have hlay := hts _ (hin _ (u_in_lay hk))
  unfold u_lay at hlay
  rw [if_neg (by rw [hfin]; decide)] at hlay
  have hst := (u_facts hfc hkC (u_lays hts hin hk) hi).1
  have h6 := u_store hfc hkC hkind hlay hi hd hn hfit
  refine W.putK hexec hb (f := f) ⟨hown, hlink, ⟨_, _, _, hsame _ hi⟩, hst⟩ (by rw [q2]; exact h6) q1 q3 (by rw [hsl]; exact k2_hasslot (q4 k hk)) rfl rfl hdg fun H' e1 e2 e3 => ?_
  rw [hsl] at e1 ⊢
  exact kk H' _ (hM.set (hM a _ he).2 ⟨_, hc, t_OB.to (V := updV (vp_V fs) k v) ⟨_, e1, q2, q3, t_set q4 hap hk v⟩ (fun j _ => vp_updV_set hl v j)⟩ e3) (hS0.put e2 e3 (hM a _ he).2)
theorem h_putF (hexec : p.tables.exec = Jvm.exec) (hb : c.code = cc) {own ref C : String} {T : u_T} {N ci index : Nat} {Ts : List Cond} (hts : ∀ w ∈ Ts, w.before args s = true) (hin : ∀ w ∈ u_ws C T N, w ∈ Ts) (ty0 : Nat → FieldType) (hty : ∀ k, k < N → parseFieldDescriptor (T k).2.2.1 = some (ty0 k)) (hnm : ∀ a, a < N → ∀ b, b < N → a ≠ b → (T a).2.1 ≠ (T b).2.1) (hown : s.vm.findClass own = some m.cls) (hK : va_K D cl tys s) (hM : hw D cl tys A M H) (hS0 : va_S A H0 H locs) {fs : List Value} (he : M a = some (.inr (ci, fs))) (hc : cl[ci]? = some (C, T, N)) (k : Nat) (hk : k < N) (hlink : (Cond.fieldLink own index ref (T k).2.1 (T k).2.2.1).before args s = true) (hsame : ∀ x, s.fieldFound? (T k).1 (T k).2.1 (T k).2.2.1 = some x → s.fieldFound? ref (T k).2.1 (T k).2.2.1 = some x) (hfin : (T k).2.2.2 = true) (hin2 : meth.name = "<init>") (hdecl : (T k).1 = own) {ty : FieldType} {v : Value} (hd : parseFieldDescriptor (T k).2.2.1 = some ty) (hn : narrow ty v = v) (hfit : fits ty v = true) (hl : k < fs.length)
    (hdg : decode cc pc = .ok (.putfield index, 3)) (kk : ∀ (H1 : Heap) (locs1 : List Loc), hw D cl tys A (va_up M a (some (.inr (ci, fs.set k v)))) H1 → va_S A H0 H1 locs1 → W p l e R s m args below meth c H1 locs1 cells slots Q (F0 m (pc + 3) ls rest)) : W p l e R s m args below meth c H locs cells slots Q (F0 m pc ls (v :: .ref a :: rest)) := by
  have hap := va_apart (own := own) hts hin ty0 hty hnm hK hc
  obtain ⟨r, h1, cell, q1, q2, q3, q4⟩ := (hM a _ he).1
  have hr : r = (C, T, N) := Option.some.inj (h1.symm.trans hc)
  subst hr
  obtain ⟨hS, hfc, kC, hkC, hkind⟩ := hK.1 ci _ hc
  obtain ⟨cf, kf, fi, f, hi, hsl⟩ := hS k hk
  have hlay := hts _ (hin _ (u_in_lay hk))
  unfold u_lay at hlay
  rw [if_pos hfin] at hlay
  have hst := (u_facts hfc hkC (u_lays hts hin hk) hi).1
  have hcf : m.cls = cf := by
    obtain ⟨_, _, c', _, _, _, -, -, hf', -, -, -, hown2, -⟩ := Cond.laysFinal_spec hlay
    have e1 : c' = cf := by have := hi.symm.trans hf'; simp at this; exact this.1.symm
    rw [hdecl] at hown2
    rw [← e1]; exact Option.some.inj (hown.symm.trans hown2)
  have h6 := u_fits hfc hkC hkind (Or.inr hlay) hi hd hn hfit
  refine W.putFinK hexec hb hown hlink (hsame _ hi) hst hcf hin2 (by rw [q2]; exact h6) q1 q3 (by rw [hsl]; exact k2_hasslot (q4 k hk)) rfl rfl hdg fun H' e1 e2 e3 => ?_
  rw [hsl] at e1 ⊢
  exact kk H' _ (hM.set (hM a _ he).2 ⟨_, hc, t_OB.to (V := updV (vp_V fs) k v) ⟨_, e1, q2, q3, t_set q4 hap hk v⟩ (fun j _ => vp_updV_set hl v j)⟩ e3) (hS0.put e2 e3 (hM a _ he).2)
theorem h_ty {t : Nat} {ty : FieldType} {q : ClassId × FieldType} (h1 : tys[t]? = some q) (hty : tys.map (·.2) = tys.map (·.2)) (h2 : (tys[t]?).map (·.2) = some ty) : tys[t]? = some (q.1, ty) := by
  rw [h1] at h2 ⊢
  have : q.2 = ty := by simpa using h2
  rw [← this]
theorem h_iald (hexec : p.tables.exec = Jvm.exec) (hb : c.code = cc) (hK : va_K D cl tys s) (hM : hw D cl tys A M H) {t n : Nat} {f : Nat → Int32} (ha : M a = some (.inl (t, n, .inl f))) (ht : (tys[t]?).map (·.2) = some .int) {i : Int32} (hin : vp_in i n) (hdg : decode cc pc = .ok (.iaload, 1))
    (kk : W p l e R s m args below meth c H locs cells slots Q (F0 m (pc + 1) ls (.int (f i.toNatClampNeg) :: rest))) : W p l e R s m args below meth c H locs cells slots Q (F0 m pc ls (.int i :: .ref a :: rest)) := by
  obtain ⟨q, h1, hP⟩ := hM.ar ha
  exact va_iald hexec hb hK hP 0 t rfl (h_ty h1 rfl ht) hin hdg kk
theorem h_zald (hexec : p.tables.exec = Jvm.exec) (hb : c.code = cc) (hK : va_K D cl tys s) (hM : hw D cl tys A M H) {t n : Nat} {f : Nat → Int32} (ha : M a = some (.inl (t, n, .inl f))) (ht : (tys[t]?).map (·.2) = some .boolean) {i : Int32} (hin : vp_in i n) (hdg : decode cc pc = .ok (.baload, 1))
    (kk : W p l e R s m args below meth c H locs cells slots Q (F0 m (pc + 1) ls (.int (f i.toNatClampNeg) :: rest))) : W p l e R s m args below meth c H locs cells slots Q (F0 m pc ls (.int i :: .ref a :: rest)) := by
  obtain ⟨q, h1, hP⟩ := hM.ar ha
  exact va_zald hexec hb hK hP 0 t rfl (h_ty h1 rfl ht) hin hdg kk
theorem h_lald (hexec : p.tables.exec = Jvm.exec) (hb : c.code = cc) (hK : va_K D cl tys s) (hM : hw D cl tys A M H) {t n : Nat} {f : Nat → Int64} (ha : M a = some (.inl (t, n, .inr (.inl f)))) (ht : (tys[t]?).map (·.2) = some .long) {i : Int32} (hin : vp_in i n) (hdg : decode cc pc = .ok (.laload, 1))
    (kk : W p l e R s m args below meth c H locs cells slots Q (F0 m (pc + 1) ls (.long (f i.toNatClampNeg) :: rest))) : W p l e R s m args below meth c H locs cells slots Q (F0 m pc ls (.int i :: .ref a :: rest)) := by
  obtain ⟨q, h1, hP⟩ := hM.ar ha
  exact va_lald hexec hb hK hP 0 t rfl (h_ty h1 rfl ht) hin hdg kk
theorem h_alen (hexec : p.tables.exec = Jvm.exec) (hb : c.code = cc) (hK : va_K D cl tys s) (hM : hw D cl tys A M H) {t : Nat} {x : vp_A} (ha : M a = some (.inl (t, x))) (hdg : decode cc pc = .ok (.arraylength, 1))
    (kk : W p l e R s m args below meth c H locs cells slots Q (F0 m (pc + 1) ls (.int (nI x.1) :: rest))) : W p l e R s m args below meth c H locs cells slots Q (F0 m pc ls (.ref a :: rest)) := by
  obtain ⟨q, h1, hP⟩ := hM.ar ha
  exact va_alen hexec hb hK hP 0 t rfl (ty := q.2) h1 rfl hdg kk
theorem h_iast (hexec : p.tables.exec = Jvm.exec) (hb : c.code = cc) (hK : va_K D cl tys s) (hM : hw D cl tys A M H) (hS : va_S A H0 H locs) {t n : Nat} {f : Nat → Int32} (ha : M a = some (.inl (t, n, .inl f))) (ht : (tys[t]?).map (·.2) = some .int) {i : Int32} {x : Int32} (hin : vp_in i n) (hdg : decode cc pc = .ok (.iastore, 1))
    (kk : ∀ (H1 : Heap) (locs1 : List Loc), hw D cl tys A (va_up M a (some (.inl (t, n, .inl (upd f i.toNatClampNeg x))))) H1 → va_S A H0 H1 locs1 → W p l e R s m args below meth c H1 locs1 cells slots Q (F0 m (pc + 1) ls rest)) : W p l e R s m args below meth c H locs cells slots Q (F0 m pc ls (.int x :: .int i :: .ref a :: rest)) := by
  obtain ⟨⟨q, h1, h2⟩, hAa⟩ := hM a _ ha
  have h1' := h_ty h1 rfl ht
  refine W.iast hexec hb h2 ((hK.2 t _ h1').1 n (fun j => .int (f j))) (fun q => by cases q) (by show ¬ (i < 0 ∨ (arrV _ _ _).slots.size ≤ _); rw [arrV_size]; exact hin) rfl rfl hdg fun H1 e z oq => ?_
  refine kk H1 _ (hM.set hAa ⟨_, h1, ?_⟩ oq) (hS.put z oq hAa)
  show H1[a]? = some (vp_cell _ _)
  rw [e]
  rw [vp_cell_i, vp_cell_i, arrV_store]
  congr 2
  funext q
  by_cases hq : q = i.toNatClampNeg
  · subst hq
    simp [updV, upd]
  · simp [updV, upd, hq]
theorem h_zast (hexec : p.tables.exec = Jvm.exec) (hb : c.code = cc) (hK : va_K D cl tys s) (hM : hw D cl tys A M H) (hS : va_S A H0 H locs) {t n : Nat} {f : Nat → Int32} (ha : M a = some (.inl (t, n, .inl f))) (ht : (tys[t]?).map (·.2) = some .boolean) {i : Int32} {x : Int32} (hin : vp_in i n) (hdg : decode cc pc = .ok (.bastore, 1))
    (kk : ∀ (H1 : Heap) (locs1 : List Loc), hw D cl tys A (va_up M a (some (.inl (t, n, .inl (upd f i.toNatClampNeg (vp_nar .boolean x)))))) H1 → va_S A H0 H1 locs1 → W p l e R s m args below meth c H1 locs1 cells slots Q (F0 m (pc + 1) ls rest)) : W p l e R s m args below meth c H locs cells slots Q (F0 m pc ls (.int x :: .int i :: .ref a :: rest)) := by
  obtain ⟨⟨q, h1, h2⟩, hAa⟩ := hM a _ ha
  have h1' := h_ty h1 rfl ht
  refine W.zast hexec hb h2 ((hK.2 t _ h1').1 n (fun j => .int (f j))) (fun q => by cases q) (by show ¬ (i < 0 ∨ (arrV _ _ _).slots.size ≤ _); rw [arrV_size]; exact hin) rfl rfl hdg fun H1 e z oq => ?_
  refine kk H1 _ (hM.set hAa ⟨_, h1, ?_⟩ oq) (hS.put z oq hAa)
  show H1[a]? = some (vp_cell _ _)
  rw [e]
  rw [vp_cell_i, vp_cell_i, arrV_store]
  congr 2
  funext q
  by_cases hq : q = i.toNatClampNeg
  · subst hq
    simp [updV, upd, vp_nar]
    try rfl
  · simp [updV, upd, hq]
theorem h_last (hexec : p.tables.exec = Jvm.exec) (hb : c.code = cc) (hK : va_K D cl tys s) (hM : hw D cl tys A M H) (hS : va_S A H0 H locs) {t n : Nat} {f : Nat → Int64} (ha : M a = some (.inl (t, n, .inr (.inl f)))) (ht : (tys[t]?).map (·.2) = some .long) {i : Int32} {x : Int64} (hin : vp_in i n) (hdg : decode cc pc = .ok (.lastore, 1))
    (kk : ∀ (H1 : Heap) (locs1 : List Loc), hw D cl tys A (va_up M a (some (.inl (t, n, .inr (.inl (vp_updL f i.toNatClampNeg x)))))) H1 → va_S A H0 H1 locs1 → W p l e R s m args below meth c H1 locs1 cells slots Q (F0 m (pc + 1) ls rest)) : W p l e R s m args below meth c H locs cells slots Q (F0 m pc ls (.long x :: .int i :: .ref a :: rest)) := by
  obtain ⟨⟨q, h1, h2⟩, hAa⟩ := hM a _ ha
  have h1' := h_ty h1 rfl ht
  refine W.last hexec hb h2 ((hK.2 t _ h1').1 n (fun j => .long (f j))) (fun q => by cases q) (by show ¬ (i < 0 ∨ (arrV _ _ _).slots.size ≤ _); rw [arrV_size]; exact hin) rfl rfl hdg fun H1 e z oq => ?_
  refine kk H1 _ (hM.set hAa ⟨_, h1, ?_⟩ oq) (hS.put z oq hAa)
  show H1[a]? = some (vp_cell _ _)
  rw [e]
  rw [vp_cell_l, vp_cell_l, arrV_store]
  congr 2
  funext q
  by_cases hq : q = i.toNatClampNeg
  · subst hq
    simp [updV, vp_updL]
  · simp [updV, vp_updL, hq]
theorem h_aald (hexec : p.tables.exec = Jvm.exec) (hb : c.code = cc) (hK : va_K D cl tys s) (hM : hw D cl tys A M H) {t n y : Nat} {C : String} {f : Nat → Option Nat} (ha : M a = some (.inl (t, n, .inr (.inr (.inr (.inr f)))))) (ht : (tys[t]?).map (·.2) = some (.object C)) {i : Int32} (hin : vp_in i n) (hy : f i.toNatClampNeg = some y) (hdg : decode cc pc = .ok (.aaload, 1))
    (kk : W p l e R s m args below meth c H locs cells slots Q (F0 m (pc + 1) ls (.ref y :: rest))) : W p l e R s m args below meth c H locs cells slots Q (F0 m pc ls (.int i :: .ref a :: rest)) := by
  obtain ⟨q, h1, hP⟩ := hM.ar ha
  refine va_aldq hexec hb hK hP 0 t (C := C) rfl (h_ty h1 rfl ht) hin hdg ?_
  rw [hy]
  exact kk
theorem h_aalA (hexec : p.tables.exec = Jvm.exec) (hb : c.code = cc) (hK : va_K D cl tys s) (hM : hw D cl tys A M H) {t n y : Nat} {f : Nat → Option Nat} (ha : M a = some (.inl (t, n, .inr (.inr (.inr (.inr f)))))) (ht : (tys[t]?).map (·.2) = some (.array .int)) {i : Int32} (hin : vp_in i n) (hy : f i.toNatClampNeg = some y) (hdg : decode cc pc = .ok (.aaload, 1))
    (kk : W p l e R s m args below meth c H locs cells slots Q (F0 m (pc + 1) ls (.ref y :: rest))) : W p l e R s m args below meth c H locs cells slots Q (F0 m pc ls (.int i :: .ref a :: rest)) := by
  obtain ⟨q, h1, hP⟩ := hM.ar ha
  have h1' := h_ty h1 rfl ht
  have hlt : i.toNatClampNeg < n := Nat.not_le.mp fun q => hin (Or.inr q)
  refine W.aald (v := va_rf (f i.toNatClampNeg)) (ty := .array .int) hexec hb (hP 0 _ rfl) ((hK.2 t _ h1').1 n (fun j => va_rf (f j))) rfl (fun q => by cases q) (by show ¬ (i < 0 ∨ (arrV _ _ _).slots.size ≤ _); rw [arrV_size]; exact hin) (by show (arrV _ _ _).slots[_]? = _; rw [arrV_read _ _ hlt]) rfl rfl hdg ?_
  rw [hy]
  exact kk
theorem h_aast (hexec : p.tables.exec = Jvm.exec) (hb : c.code = cc) (hK : va_K D cl tys s) (hM : hw D cl tys A M H) (hS : va_S A H0 H locs) {t n v ci : Nat} {r : vw_C} {f : Nat → Option Nat} (ha : M a = some (.inl (t, n, .inr (.inr (.inr (.inr f)))))) (ht : (tys[t]?).map (·.2) = some (.object r.1)) (hv : hob M v ci) (hc : cl[ci]? = some r) {i : Int32} (hin : vp_in i n) (hdg : decode cc pc = .ok (.aastore, 1))
    (kk : ∀ (H1 : Heap) (locs1 : List Loc), hw D cl tys A (va_up M a (some (.inl (t, n, .inr (.inr (.inr (.inr (va_up f i.toNatClampNeg (some v))))))))) H1 → va_S A H0 H1 locs1 → W p l e R s m args below meth c H1 locs1 cells slots Q (F0 m (pc + 1) ls rest)) : W p l e R s m args below meth c H locs cells slots Q (F0 m pc ls (.ref v :: .int i :: .ref a :: rest)) := by
  obtain ⟨vs, hv⟩ := hv
  obtain ⟨⟨q, h1, h2⟩, hAa⟩ := hM a _ ha
  have h1' := h_ty h1 rfl ht
  have hlt : i.toNatClampNeg < n := Nat.not_le.mp fun q => hin (Or.inr q)
  have h0 : ¬ i < 0 := fun q => hin (Or.inl q)
  obtain ⟨r', hr', cellV, g1, g2, g3, -⟩ := (hM v _ hv).1
  have hcls := (hK.1 ci r hc).2
  obtain ⟨kA, comp, k1, k2, k3, -⟩ := (hK.2 t _ h1').2
  have hcomp : comp = D.1 ci := Option.some.inj (k3.symm.trans hcls.1)
  subst hcomp
  obtain ⟨kC, hkC, -⟩ := hcls.2
  refine W.aast hexec hb h2 (fun q h => by cases h) (fun h => by cases h) k1 k2 rfl hkC ⟨h0, by show _ < (arrV _ _ _).slots.size; rw [arrV_size]; exact hlt⟩ g1 (fun q h => by rw [g3] at h; cases h) (by rw [g2]; exact hkC) (by rw [g2]; exact va_assign hcls) rfl rfl hdg fun H1 e z oq => ?_
  refine kk H1 _ (hM.set hAa ⟨_, h1, ?_⟩ oq) (hS.put z oq hAa)
  show H1[a]? = some (vp_cell _ _)
  rw [e]
  rw [vp_cell_q, vp_cell_q, arrV_store]
  congr 2
  funext q
  by_cases hq : q = i.toNatClampNeg
  · subst hq
    simp [updV, va_up, va_rf]
  · simp [updV, va_up, hq]
end HR
section HN
variable {p : Program} {l : Launch} {e : Env} {R : Room} {s : State} {m : MethodId} {args : Array Value} {below : List Frame} {meth : Method} {c : Code} {H : Heap} {locs : List Loc} {cells slots : Nat} {Q : State → Prop}
variable {cc : ByteArray} {pc : Nat} {ls : Array Slot} {rest : List Value} {D : va_G} {cl : List vw_C} {A : Nat → Prop} {a : Nat} {tys : List (ClassId × FieldType)} {M : Hp} {H0 H1 : Heap}
theorem hw.push (h : hw D cl tys A M H) {x : hE} (ha : A H.size) (he : hcell D cl tys H.size x H1) (o1 : ∀ q : Nat, q < H.size → H1[q]? = H[q]?) : hw D cl tys A (va_up M H.size (some x)) H1 := by
  intro b y hb
  by_cases hba : b = H.size
  · subst hba
    rw [va_up, if_pos rfl] at hb
    cases hb
    exact ⟨he, ha⟩
  · rw [va_up, if_neg hba] at hb
    exact ⟨(h b y hb).1.kept (o1 b (h b y hb).1.lt), (h b y hb).2⟩
theorem h_new (hexec : p.tables.exec = Jvm.exec) (hb : c.code = cc) {own C : String} {T : u_T} {N ci index : Nat} {Ts : List Cond} (hts : ∀ w ∈ Ts, w.before args s = true) (hin : ∀ w ∈ u_ws C T N, w ∈ Ts) (ty : Nat → FieldType) (hty : ∀ k, k < N → parseFieldDescriptor (T k).2.2.1 = some (ty k)) (hown : s.vm.findClass own = some m.cls) (hcl : (Cond.classLink own index C).before args s = true) (hinst : (Cond.instantiable C N).before args s = true) (hini : (Cond.initialized C).before args s = true)
    (hK : va_K D cl tys s) (hM : hw D cl tys A M H) (hS : va_S A H0 H locs) (hA : ∀ q, H0.size ≤ q → A q) (hc : cl[ci]? = some (C, T, N)) {fs : List Value} (hfs : ∀ j, j < N → defaultValue (ty j) = vp_V fs j) (hcells : cells + 1 ≤ R.cells) (hslots : slots + N ≤ R.slots) (hdg : decode cc pc = .ok (.new index, 3))
    (kk : ∀ (q : Nat) (H1 : Heap), M q = none → hw D cl tys A (va_up M q (some (.inr (ci, fs)))) H1 → va_S A H0 H1 locs →
      W p l e R s m args below meth c H1 locs (cells + 1) (slots + N) Q (F0 m (pc + 3) ls (.ref q :: rest))) : W p l e R s m args below meth c H locs cells slots Q (F0 m pc ls rest) := by
  have hKn := hK.1 ci _ hc
  refine W.newcK hexec hb hown hcl hinst hini rfl hdg hcells hslots hKn.2.1 rfl fun H1 kC hkC e1 z1 o1 => ?_
  exact kk H.size H1 (hM.fresh (Nat.le_refl _)) (hM.push (hA _ hS.1) ⟨_, hc, (u_born ty hts hin hKn hkC e1 hty).to hfs⟩ o1) ⟨Nat.le_trans hS.1 (by omega), fun x h1 h2 => (o1 x (Nat.lt_of_lt_of_le h1 hS.1)).trans (hS.2.1 x h1 h2), hS.2.2⟩
theorem h_newa (hexec : p.tables.exec = Jvm.exec) (hb : c.code = cc) {atype : ArrayType} (harr : (Cond.arrayClass (newarray.typeOf atype)).before args s = true) (hK : va_K D cl tys s) (hM : hw D cl tys A M H) (hS : va_S A H0 H locs) (hA : ∀ q, H0.size ≤ q → A q)
    {n : Int32} {N' t : Nat} {a0 : vp_A} (ht : (tys[t]?).map (·.2) = some (newarray.typeOf atype)) (ha : ∀ cA : ClassId, vp_cell cA a0 = arrV cA N' (fun _ => defaultValue (newarray.typeOf atype))) (hn : ¬ n < 0) (hN : n.toNatClampNeg = N') (hbytes : N' * componentBytes (newarray.typeOf atype) ≤ 536870912) (hcells : cells + 1 ≤ R.cells) (hslots : slots + N' ≤ R.slots) (hdg : decode cc pc = .ok (.newarray atype, 2))
    (kk : ∀ (q : Nat) (H1 : Heap), M q = none → hw D cl tys A (va_up M q (some (.inl (t, a0)))) H1 → va_S A H0 H1 locs →
      W p l e R s m args below meth c H1 locs (cells + 1) (slots + N') Q (F0 m (pc + 2) ls (.ref q :: rest))) : W p l e R s m args below meth c H locs cells slots Q (F0 m pc ls (.int n :: rest)) := by
  refine va_newaK hexec hb harr rfl hdg rfl hn hN hbytes hcells hslots rfl fun H1 cA e1 z1 o1 hAr hNm => ?_
  refine kk H.size H1 (hM.fresh (Nat.le_refl _)) (hM.push (hA _ hS.1) ?_ o1) ⟨Nat.le_trans hS.1 (by omega), fun x h1 h2 => (o1 x (Nat.lt_of_lt_of_le h1 hS.1)).trans (hS.2.1 x h1 h2), hS.2.2⟩
  cases htt : tys[t]? with
  | none => rw [htt] at ht; cases ht
  | some q =>
    rw [htt] at ht
    have hq2 : q.2 = newarray.typeOf atype := Option.some.inj ht
    have hra := (hK.2 t q htt).2
    rw [hq2] at hra
    have hcA : q.1 = cA := by
      have h9 : s.vm.findClass ("[" ++ (newarray.typeOf atype).toString) = some q.1 := by cases atype <;> exact hra
      exact Option.some.inj (h9.symm.trans hNm)
    refine ⟨q, htt, ?_⟩
    show H1[H.size]? = some (vp_cell _ _)
    rw [ha, hcA]
    exact e1
theorem h_newq (hexec : p.tables.exec = Jvm.exec) (hb : c.code = cc) {own C : String} {index : Nat} (hown : s.vm.findClass own = some m.cls) (hclink : (Cond.classLink own index C).before args s = true) (hover : va_AO C s) (hK : va_K D cl tys s) (hM : hw D cl tys A M H) (hS : va_S A H0 H locs) (hA : ∀ q, H0.size ≤ q → A q)
    {n : Int32} {N' t : Nat} (ht : (tys[t]?).map (·.2) = some (.object C)) (hn : ¬ n < 0) (hN : n.toNatClampNeg = N') (hbytes : N' * 4 ≤ 536870912) (hcells : cells + 1 ≤ R.cells) (hslots : slots + N' ≤ R.slots) (hdg : decode cc pc = .ok (.anewarray index, 3))
    (kk : ∀ (q : Nat) (H1 : Heap), M q = none → hw D cl tys A (va_up M q (some (.inl (t, N', .inr (.inr (.inr (.inr (fun _ => none)))))))) H1 → va_S A H0 H1 locs →
      W p l e R s m args below meth c H1 locs (cells + 1) (slots + N') Q (F0 m (pc + 3) ls (.ref q :: rest))) : W p l e R s m args below meth c H locs cells slots Q (F0 m pc ls (.int n :: rest)) := by
  subst hN
  refine W.anew hexec hb hown hclink (va_AO.use hover) rfl hdg rfl hn hbytes hcells hslots fun cA kA comp f1 f2 f3 f4 => ?_
  generalize hH1 : H.push ({ cls := cA, slots := Array.replicate n.toNatClampNeg .null, vm := .none } : Cell) = H1
  have z1 : H1.size = H.size + 1 := by rw [← hH1, Array.size_push]
  have e1 : H1[H.size]? = some (arrV cA n.toNatClampNeg (fun _ => .null)) := by rw [← hH1, Array.getElem?_push_size, ← arrV_new]
  have o1 : ∀ q : Nat, q < H.size → H1[q]? = H[q]? := fun q hq => by rw [← hH1, Array.getElem?_push, if_neg (Nat.ne_of_lt hq)]
  refine kk H.size H1 (hM.fresh (Nat.le_refl _)) (hM.push (hA _ hS.1) ?_ o1) ⟨Nat.le_trans hS.1 (by omega), fun x h1 h2 => (o1 x (Nat.lt_of_lt_of_le h1 hS.1)).trans (hS.2.1 x h1 h2), hS.2.2⟩
  cases htt : tys[t]? with
  | none => rw [htt] at ht; cases ht
  | some q =>
    rw [htt] at ht
    have hq2 : q.2 = .object C := Option.some.inj ht
    have hra := (hK.2 t q htt).2
    rw [hq2] at hra
    obtain ⟨kA', comp', g1, g2, g3, g4⟩ := hra
    have hcA : q.1 = cA := Option.some.inj (g4.symm.trans f1)
    refine ⟨q, htt, ?_⟩
    show H1[H.size]? = some (vp_cell _ _)
    rw [vp_cell_q, hcA]
    exact e1
end HN
section HC
variable {p : Program} {l : Launch} {e : Env} {R : Room} {s : State} {m : MethodId} {args : Array Value} {below : List Frame} {meth : Method} {c : Code} {H : Heap} {locs : List Loc} {cells slots : Nat} {Q : State → Prop}
variable {pc : Nat} {ls : Array Slot} {rest st0 : List Value} {D : va_G} {cl : List vw_C} {A : Nat → Prop} {tys : List (ClassId × FieldType)} {M : Hp} {mc ms : Nat} {av : Array Value}
/-- the words that a throw asks of the heap: the statics of Throwable -/
def thrW : List Cond := [.isRef (.static "java/lang/Throwable" "UNASSIGNED_STACK" "[Ljava/lang/StackTraceElement;"), .isRef (.static "java/lang/Throwable" "SUPPRESSED_SENTINEL" "Ljava/util/List;"), .laysStatic "java/lang/Throwable" "UNASSIGNED_STACK" "[Ljava/lang/StackTraceElement;", .laysStatic "java/lang/Throwable" "SUPPRESSED_SENTINEL" "Ljava/util/List;"]
def thrOk (s0 : State) (q : Nat) : Prop := ∀ V : State, s0.WarmedH V.vm → V.heap[q]? = s0.heap[q]? → ∀ w ∈ thrW, ∀ a : Array Value, w.before a V = true
/-- where all began: a state in which every word of the tables holds, of which this one's tables are a warmer form; the statics' cell is as it was, and nobody's to write -/
def hX (A : Nat → Prop) (U : State) : Prop := ∃ (s0 : State) (a0 : Array Value) (q : Nat), (∀ w ∈ lw_tbl, w.before a0 s0 = true) ∧ thrOk s0 q ∧ s0.WarmedH U.vm ∧ ¬ A q ∧ q < U.heap.size ∧ U.heap[q]? = s0.heap[q]?
def hEnv (D : va_G) (cl : List vw_C) (tys : List (ClassId × FieldType)) (A : Nat → Prop) (U : State) : Prop := va_K D cl tys U ∧ hX A U
/-- a contract's start and end over the map -/
abbrev hPc (D : va_G) (cl : List vw_C) (tys : List (ClassId × FieldType)) (M : Hp) (sz : Nat) (av : List Value) : Array Value → State → Prop := va_Pc av (fun U => U.heap.size = sz ∧ hEnv D cl tys (hAx M sz) U ∧ hw D cl tys (fun _ => True) M U.heap)
abbrev hB (D : va_G) (cl : List vw_C) (tys : List (ClassId × FieldType)) (A : Nat → Prop) : Hp → State → Prop := fun M' t => hw D cl tys A M' t.heap
theorem hEnv.go (hE : hEnv D cl tys A s) (hM : hw D cl tys A M H) (hS : va_S A s.heap H locs) {U : State} (hU : U.heap = H) (hW : s.WarmedH U.vm) : hEnv D cl tys (hAx M H.size) U := by
  obtain ⟨hK, s0, a0, q, h1, h2, h3, h4, h5, h6⟩ := hE
  refine ⟨va_K.moved hW.alike hK, s0, a0, q, h1, h2, State.WarmedH.trans h3 hW, ?_, by rw [hU]; exact Nat.lt_of_lt_of_le h5 hS.1, by rw [hU, hS.2.1 q h5 h4]; exact h6⟩
  intro h
  rcases h with h | h
  · cases hm : M q with
    | none => exact h hm
    | some x => exact h4 (hM q x hm).2
  · exact absurd (Nat.lt_of_lt_of_le h5 hS.1) (Nat.not_lt.mpr h)
theorem h_blind {sz : Nat} {As : List Value} : FrameBlind (hPc D cl tys M sz As) := fun a U g mk q => by
  obtain ⟨q0, q1, ⟨qK, s0, a0, r, h1, h2, h3, h4, h5, h6⟩, qM⟩ := q
  exact ⟨q0, q1, ⟨va_K.moved (u := U) (U := U.calling g mk a) (Vm.Alike.refl U.vm) qK, s0, a0, r, h1, h2, h3, h4, h5, h6⟩, qM⟩
theorem h_preS (hE : hEnv D cl tys A s) (hM : hw D cl tys A M H) (hS : va_S A s.heap H locs) {As : List Value} : PreS s H (hPc D cl tys M H.size As) As :=
  ⟨h_blind, fun U hU hW => ⟨rfl, by rw [hU], hE.go hM hS hU hW, by rw [hU]; exact hM.weaken (fun _ _ => trivial)⟩⟩
theorem h_preV (hE : hEnv D cl tys A s) (hM : hw D cl tys A M H) (hS : va_S A s.heap H locs) {b ci : Nat} {r : vw_C} (ho : hob M b ci) (hc : cl[ci]? = some r) {As : List Value} : PreV s H r.1 b (hPc D cl tys M H.size (.ref b :: As)) As := by
  obtain ⟨fs, he⟩ := ho
  exact ⟨h_blind, va_recv hE.1 (hM.ob he) hc (q0 := 0) rfl, fun U hU hW => ⟨rfl, by rw [hU], hE.go hM hS hU hW, by rw [hU]; exact hM.weaken (fun _ _ => trivial)⟩⟩
theorem h_calli {post : Int32 → Hp → Prop} (hM : hw D cl tys A M H) (hS : va_S A s.heap H locs) (hA : ∀ q, s.heap.size ≤ q → A q) (hr : va_Run p l e R s m args below meth c H locs cells slots mc ms (F0 m pc ls st0) rest (va_Qi post (hB D cl tys (hAx M H.size)) (hAx M H.size) av) (hAx M H.size))
    (kk : ∀ (r : Int32) (M1 : Hp) (H1 : Heap) (locs1 : List Loc), post r M1 → hw D cl tys A M1 H1 → va_S A s.heap H1 locs1 → W p l e R s m args below meth c H1 locs1 (cells + mc) (slots + ms) Q (F0 m (pc + 3) ls (.int r :: rest))) : W p l e R s m args below meth c H locs cells slots Q (F0 m pc ls st0) :=
  va_calli hr hS (fun q _ h => hAx.sub hM hS hA q h) (fun q h => hAx.sub hM hS hA q h) (fun r u t H1 locs1 ht _ hp hb _ _ hS1 => kk r u H1 locs1 hp (by rw [← ht]; exact hw.weaken hb (fun q h => hAx.sub hM hS hA q h)) hS1)
theorem h_calll {post : Int64 → Hp → Prop} (hM : hw D cl tys A M H) (hS : va_S A s.heap H locs) (hA : ∀ q, s.heap.size ≤ q → A q) (hr : va_Run p l e R s m args below meth c H locs cells slots mc ms (F0 m pc ls st0) rest (va_Ql post (hB D cl tys (hAx M H.size)) (hAx M H.size) av) (hAx M H.size))
    (kk : ∀ (r : Int64) (M1 : Hp) (H1 : Heap) (locs1 : List Loc), post r M1 → hw D cl tys A M1 H1 → va_S A s.heap H1 locs1 → W p l e R s m args below meth c H1 locs1 (cells + mc) (slots + ms) Q (F0 m (pc + 3) ls (.long r :: rest))) : W p l e R s m args below meth c H locs cells slots Q (F0 m pc ls st0) :=
  va_calll hr hS (fun q _ h => hAx.sub hM hS hA q h) (fun q h => hAx.sub hM hS hA q h) (fun r u t H1 locs1 ht _ hp hb _ _ hS1 => kk r u H1 locs1 hp (by rw [← ht]; exact hw.weaken hb (fun q h => hAx.sub hM hS hA q h)) hS1)
theorem h_callv {post : Hp → Prop} (hM : hw D cl tys A M H) (hS : va_S A s.heap H locs) (hA : ∀ q, s.heap.size ≤ q → A q) (hr : va_Run p l e R s m args below meth c H locs cells slots mc ms (F0 m pc ls st0) rest (va_Qv post (hB D cl tys (hAx M H.size)) (hAx M H.size) av) (hAx M H.size))
    (kk : ∀ (M1 : Hp) (H1 : Heap) (locs1 : List Loc), post M1 → hw D cl tys A M1 H1 → va_S A s.heap H1 locs1 → W p l e R s m args below meth c H1 locs1 (cells + mc) (slots + ms) Q (F0 m (pc + 3) ls rest)) : W p l e R s m args below meth c H locs cells slots Q (F0 m pc ls st0) :=
  va_callv hr hS (fun q _ h => hAx.sub hM hS hA q h) (fun q h => hAx.sub hM hS hA q h) (fun u t H1 locs1 ht _ hp hb _ _ hS1 => kk u H1 locs1 hp (by rw [← ht]; exact hw.weaken hb (fun q h => hAx.sub hM hS hA q h)) hS1)
theorem h_callr {post : Nat → Hp → Prop} (hM : hw D cl tys A M H) (hS : va_S A s.heap H locs) (hA : ∀ q, s.heap.size ≤ q → A q) (hr : va_Run p l e R s m args below meth c H locs cells slots mc ms (F0 m pc ls st0) rest (va_Qr (fun u : Nat × Hp => post u.1 u.2) (fun u a t => u.1 = a ∧ hB D cl tys (hAx M H.size) u.2 t) (hAx M H.size) av) (hAx M H.size))
    (kk : ∀ (r : Nat) (M1 : Hp) (H1 : Heap) (locs1 : List Loc), post r M1 → hw D cl tys A M1 H1 → va_S A s.heap H1 locs1 → W p l e R s m args below meth c H1 locs1 (cells + mc) (slots + ms) Q (F0 m (pc + 3) ls (.ref r :: rest))) : W p l e R s m args below meth c H locs cells slots Q (F0 m pc ls st0) :=
  va_callr hr hS (fun q _ h => hAx.sub hM hS hA q h) (fun q h => hAx.sub hM hS hA q h) (fun u ra t H1 locs1 ht _ hp hb _ _ hS1 => by
    obtain ⟨r, M1⟩ := u
    obtain ⟨rfl, hb⟩ := hb
    exact kk r M1 H1 locs1 hp (by rw [← ht]; exact hw.weaken hb (fun q h => hAx.sub hM hS hA q h)) hS1)
/-- the walk's standing at a place, over every heap that holds the map -/
def Y (p : Program) (l : Launch) (e : Env) (R : Room) (s : State) (m : MethodId) (args : Array Value) (below : List Frame) (meth : Method) (c : Code) (D : va_G) (cl : List vw_C) (tys : List (ClassId × FieldType)) (A : Nat → Prop) (nL : Nat) (cells slots : Nat) (Q : State → Prop) (M : Hp) (pc : Nat) (lv : List (Nat × Value)) (st : List Value) : Prop :=
  ∀ (H : Heap) (locs : List Loc) (ls : Array Slot), hw D cl tys A M H → va_S A s.heap H locs → lv_has ls nL lv → W p l e R s m args below meth c H locs cells slots Q (F0 m pc ls st)
end HC
theorem lc_lt (x y : Int64) : lg_cmp x y < 0 ↔ x < y := by
  unfold lg_cmp
  rcases lg_tri x y with h | h | h
  · rw [if_neg (lg_lt_not h), if_neg (lg_lt_ne h)]
    exact ⟨fun _ => h, fun _ => by decide⟩
  · subst h
    have h0 : ¬ x < x := fun h => lg_lt_not h h
    rw [if_neg h0, if_pos rfl]
    exact ⟨fun h => absurd h (by decide), fun h => absurd h h0⟩
  · rw [if_pos h]
    exact ⟨fun h2 => absurd h2 (by decide), fun h2 => absurd h (lg_lt_not h2)⟩
theorem lc_gt (x y : Int64) : 0 < lg_cmp x y ↔ y < x := by
  unfold lg_cmp
  rcases lg_tri x y with h | h | h
  · rw [if_neg (lg_lt_not h), if_neg (lg_lt_ne h)]
    exact ⟨fun h2 => absurd h2 (by decide), fun h2 => absurd h (lg_lt_not h2)⟩
  · subst h
    have h0 : ¬ x < x := fun h => lg_lt_not h h
    rw [if_neg h0, if_pos rfl]
    exact ⟨fun h => absurd h (by decide), fun h => absurd h h0⟩
  · rw [if_pos h]
    exact ⟨fun _ => h, fun _ => by decide⟩
theorem lc_ge (x y : Int64) : 0 ≤ lg_cmp x y ↔ y ≤ x := by
  unfold lg_cmp
  rcases lg_tri x y with h | h | h
  · rw [if_neg (lg_lt_not h), if_neg (lg_lt_ne h)]
    exact ⟨fun h2 => absurd h2 (by decide), fun h2 => absurd h2 (lg_lt_not_le h)⟩
  · subst h
    have h0 : ¬ x < x := fun h => lg_lt_not h h
    rw [if_neg h0, if_pos rfl]
    exact ⟨fun _ => Int64.le_iff_toInt_le.mpr (Int.le_refl _), fun _ => by decide⟩
  · rw [if_pos h]
    exact ⟨fun _ => Int64.le_iff_toInt_le.mpr (Int.le_of_lt (Int64.lt_iff_toInt_lt.mp h)), fun _ => by decide⟩
theorem lc_le (x y : Int64) : lg_cmp x y ≤ 0 ↔ x ≤ y := by
  unfold lg_cmp
  rcases lg_tri x y with h | h | h
  · rw [if_neg (lg_lt_not h), if_neg (lg_lt_ne h)]
    exact ⟨fun _ => Int64.le_iff_toInt_le.mpr (Int.le_of_lt (Int64.lt_iff_toInt_lt.mp h)), fun _ => by decide⟩
  · subst h
    have h0 : ¬ x < x := fun h => lg_lt_not h h
    rw [if_neg h0, if_pos rfl]
    exact ⟨fun _ => Int64.le_iff_toInt_le.mpr (Int.le_refl _), fun _ => by decide⟩
  · rw [if_pos h]
    exact ⟨fun h2 => absurd h2 (by decide), fun h2 => absurd h2 (lg_lt_not_le h)⟩
theorem lc_eq (x y : Int64) : lg_cmp x y = 0 ↔ x = y := by
  unfold lg_cmp
  rcases lg_tri x y with h | h | h
  · rw [if_neg (lg_lt_not h), if_neg (lg_lt_ne h)]
    exact ⟨fun h2 => absurd h2 (by decide), fun h2 => absurd h2 (lg_lt_ne h)⟩
  · subst h
    have h0 : ¬ x < x := fun h => lg_lt_not h h
    rw [if_neg h0, if_pos rfl]
    exact ⟨fun _ => rfl, fun _ => rfl⟩
  · rw [if_pos h]
    exact ⟨fun h2 => absurd h2 (by decide), fun h2 => absurd h2.symm (lg_lt_ne h)⟩
/-! what an access asks of the map -/
def fI (M : Hp) (a ci k : Nat) (x : Int32) : Prop := ∃ fs : List Value, M a = some (.inr (ci, fs)) ∧ fs[k]? = some (.int x)
def fJ (M : Hp) (a ci k : Nat) (x : Int64) : Prop := ∃ fs : List Value, M a = some (.inr (ci, fs)) ∧ fs[k]? = some (.long x)
def fA (M : Hp) (a ci k : Nat) (x : Nat) : Prop := ∃ fs : List Value, M a = some (.inr (ci, fs)) ∧ fs[k]? = some (.ref x)
def pF (M : Hp) (a ci k : Nat) (v : Value) (M1 : Hp) : Prop := ∃ fs : List Value, M a = some (.inr (ci, fs)) ∧ k < fs.length ∧ M1 = va_up M a (some (.inr (ci, fs.set k v)))
def aI (M : Hp) (a : Nat) (i x : Int32) : Prop := ∃ (n : Nat) (f : Nat → Int32), M a = some (.inl (0, n, .inl f)) ∧ vp_in i n ∧ x = f i.toNatClampNeg
def aZ (M : Hp) (a : Nat) (i x : Int32) : Prop := ∃ (n : Nat) (f : Nat → Int32), M a = some (.inl (1, n, .inl f)) ∧ vp_in i n ∧ x = f i.toNatClampNeg
def aJ (M : Hp) (a : Nat) (i : Int32) (x : Int64) : Prop := ∃ (n : Nat) (f : Nat → Int64), M a = some (.inl (2, n, .inr (.inl f))) ∧ vp_in i n ∧ x = f i.toNatClampNeg
def sI (M : Hp) (a : Nat) (i x : Int32) (M1 : Hp) : Prop := ∃ (n : Nat) (f : Nat → Int32), M a = some (.inl (0, n, .inl f)) ∧ vp_in i n ∧ M1 = va_up M a (some (.inl (0, n, .inl (upd f i.toNatClampNeg x))))
def sZ (M : Hp) (a : Nat) (i x : Int32) (M1 : Hp) : Prop := ∃ (n : Nat) (f : Nat → Int32), M a = some (.inl (1, n, .inl f)) ∧ vp_in i n ∧ M1 = va_up M a (some (.inl (1, n, .inl (upd f i.toNatClampNeg (vp_nar .boolean x)))))
def sJ (M : Hp) (a : Nat) (i : Int32) (x : Int64) (M1 : Hp) : Prop := ∃ (n : Nat) (f : Nat → Int64), M a = some (.inl (2, n, .inr (.inl f))) ∧ vp_in i n ∧ M1 = va_up M a (some (.inl (2, n, .inr (.inl (vp_updL f i.toNatClampNeg x)))))
def aA (t : Nat) (M : Hp) (a : Nat) (i : Int32) (x : Nat) : Prop := ∃ (n : Nat) (f : Nat → Option Nat), M a = some (.inl (t, n, .inr (.inr (.inr (.inr f))))) ∧ vp_in i n ∧ f i.toNatClampNeg = some x
def aL (t : Nat) (M : Hp) (a n : Nat) : Prop := ∃ x : vp_A, M a = some (.inl (t, x)) ∧ x.1 = n
