abbrev rm_Mo_fuelCount : Room := { frames := 3, cells := 0, slots := 0, locals := 63 }
def Cx_Mo_fuelCount (p : Program) (s : State) (m : MethodId) (args : Array Value) (meth : Method) (c : Code) (D : va_G) (κ : Nat → ClassId) (A : Nat → Prop) : Prop := p.tables.exec = Jvm.exec ∧ c.code = prog_8_method_43_code ∧ c.maxLocals = 3 ∧ meth.sig.returnType = (some .int) ∧ s.vm.findClass "BuckTablesModel" = some m.cls ∧ (∀ w ∈ WG, w.before args s = true) ∧ meth.locks = false ∧ hEnv D kCl (hTys κ) A s ∧ (∀ q, s.heap.size ≤ q → A q)
def wMo_fuelCount_30 (post : Int32 → Hp → Prop) (k4 : Nat → Int32 → Int32 → Hp → Prop) (x0 : Nat) (x2 : Int32) (y0 : Int32) (M : Hp) : Prop := (∀ z1 : Int32, z1 = x2 + 1 → (k4 x0 y0 z1 M))
set_option maxRecDepth 100000 in
set_option maxHeartbeats 4000000 in
theorem tMo_fuelCount_30 {p : Program} {l : Launch} {e : Env} {s : State} {m : MethodId} {args : Array Value} {below : List Frame} {meth : Method} {c : Code} {D : va_G} {κ : Nat → ClassId} {A : Nat → Prop} (C : Cx_Mo_fuelCount p s m args meth c D κ A) (post : Int32 → Hp → Prop) (k4 : Nat → Int32 → Int32 → Hp → Prop) (hk4 : ∀ (x0 : Nat) (x1 : Int32) (x2 : Int32) (M : Hp), k4 x0 x1 x2 M → Y p l e rm_Mo_fuelCount s m args below meth c D kCl (hTys κ) A 3 0 0 (MQ below (va_Qi post (hB D kCl (hTys κ) A) A) args s 0 0 A) M 4 [(0, .ref x0), (1, .int x1), (2, .int x2)] []) (x0 : Nat) (x2 : Int32) (y0 : Int32) (M : Hp) (hwp : wMo_fuelCount_30 post k4 x0 x2 y0 M) : Y p l e rm_Mo_fuelCount s m args below meth c D kCl (hTys κ) A 3 0 0 (MQ below (va_Qi post (hB D kCl (hTys κ) A) A) args s 0 0 A) M 30 [(0, .ref x0), (2, .int x2)] [.int y0] := by
  obtain ⟨hx, hb, hml, hr, hown, hts, hlocks, hE, hA⟩ := id C
  have hK := hE.1
  intro H locs ls hM hS hl
  unfold wMo_fuelCount_30 at hwp
  refine lv_istore_n (lv' := [(1, .int y0), (0, .ref x0), (2, .int x2)]) hx hb d_Mo_fuelCount_30 rfl hl (by decide) rfl (fun ls hl => ?_)
  obtain ⟨z1, ez1⟩ : ∃ y : Int32, y = x2 + 1 := ⟨_, rfl⟩
  replace hwp := hwp z1 ez1
  refine lv_iinc (v := z1) (lv' := [(2, .int z1), (1, .int y0), (0, .ref x0)]) hx hb d_Mo_fuelCount_31 hl (k := 2) rfl (by rw [ez1]; rfl) (by decide) rfl (fun ls hl => ?_)
  refine lv_goto (tgt := 4) hx hb d_Mo_fuelCount_34 (by decide) ?_
  exact hk4 x0 y0 z1 M hwp H locs ls hM hS (lv_sub hl [2, 1, 0] rfl)
def wMo_fuelCount_4 (post : Int32 → Hp → Prop)  : Nat → Nat → Int32 → Int32 → Hp → Prop
  | 0 => fun _ _ _ _ => False
  | n + 1 => fun x0 x1 x2 M => (∃ v2 : Int32, fI M x0 6 4 v2 ∧ ((((81 : Int32) * v2) ≤ x2 → (post x1 M)) ∧ (¬ ((81 : Int32) * v2) ≤ x2 → (hob M x0 6 ∧ (wpMo_beginsFuel x0 x2 M (fun (r9 : Int32) (M7 : Hp) => ((r9 = 0 → (wMo_fuelCount_30 post (wMo_fuelCount_4 post n) x0 x2 x1 M7)) ∧ (¬ r9 = 0 → (wMo_fuelCount_30 post (wMo_fuelCount_4 post n) x0 x2 (x1 + (1 : Int32)) M7)))))))))
set_option maxRecDepth 100000 in
set_option maxHeartbeats 4000000 in
theorem tMo_fuelCount_4 {p : Program} {l : Launch} {e : Env} {s : State} {m : MethodId} {args : Array Value} {below : List Frame} {meth : Method} {c : Code} {D : va_G} {κ : Nat → ClassId} {A : Nat → Prop} (C : Cx_Mo_fuelCount p s m args meth c D κ A) (post : Int32 → Hp → Prop)  : ∀ (n : Nat) (x0 : Nat) (x1 : Int32) (x2 : Int32) (M : Hp), wMo_fuelCount_4 post n x0 x1 x2 M → Y p l e rm_Mo_fuelCount s m args below meth c D kCl (hTys κ) A 3 0 0 (MQ below (va_Qi post (hB D kCl (hTys κ) A) A) args s 0 0 A) M 4 [(0, .ref x0), (1, .int x1), (2, .int x2)] [] := by
  obtain ⟨hx, hb, hml, hr, hown, hts, hlocks, hE, hA⟩ := id C
  have hK := hE.1
  intro n
  induction n with
  | zero => intro x0 x1 x2 M hwp; exact hwp.elim
  | succ n ih =>
    intro x0 x1 x2 M hwp H locs ls hM hS hl
    unfold wMo_fuelCount_4 at hwp
    refine lv_iload_n hx hb d_Mo_fuelCount_4 rfl (lv_at hl 2 rfl) ?_
    refine lv_bipush (v := 81) hx hb d_Mo_fuelCount_5 (by decide) ?_
    refine lv_aload_n hx hb d_Mo_fuelCount_7 rfl (lv_at hl 0 rfl) ?_
    obtain ⟨v2, ⟨fs3, he4, hv5⟩, hwp⟩ := hwp
    refine h_get (C := "BuckTablesModel") (T := Tc6) (N := 36) hx hb hts inc6 hown hK hM he4 rfl 4 (by decide) (hts _ kw_724) (fun _ h9 => h9) hv5 d_Mo_fuelCount_8 ?_
    refine lv_imul hx hb d_Mo_fuelCount_11 ?_
    refine lv_icmp_ge (tgt := 37) hx hb d_Mo_fuelCount_12 (by decide) (fun c6 => ?_) (fun c6 => ?_)
    · replace hwp := hwp.1 c6
      refine lv_iload_n hx hb d_Mo_fuelCount_37 rfl (lv_at hl 1 rfl) ?_
      exact W.iret (v := x1) hx hb hr (fun t ht hW => ⟨⟨x1, M, rfl, hwp, by show hw D kCl (hTys κ) A M t.heap; rw [ht]; exact hM⟩, hS.F ht⟩) hS.2.2 d_Mo_fuelCount_38
    · replace hwp := hwp.2 c6
      refine lv_aload_n hx hb d_Mo_fuelCount_15 rfl (lv_at hl 0 rfl) ?_
      refine lv_iload_n hx hb d_Mo_fuelCount_16 rfl (lv_at hl 2 rfl) ?_
      obtain ⟨ho8, hwp⟩ := hwp
      refine h_calli hM hS hA (va_runV (As := [.int x2]) (rest := []) ⟨hx, hb, hml, hown, hts⟩ (metMo_beginsFuel l D κ H.size x0 x2 M _ hwp) (cwV 1 hts (gV kw_1000 kw_1002 kp_47 kw_8 kw_1003) rfl rfl rfl (by decide +kernel) ⟨(Nat.le_of_ble_eq_true rfl), (Nat.le_of_ble_eq_true rfl)⟩) (h_preV hE hM hS ho8 (r := ("BuckTablesModel", Tc6, 36)) rfl) rfl rfl hl.1 rfl (lv_room (Nat.le_of_ble_eq_true rfl)) d_Mo_fuelCount_17 ⟨(Nat.le_of_ble_eq_true rfl), (Nat.le_of_ble_eq_true rfl)⟩) (fun r9 M7 H locs hwp hM hS => ?_)
      refine lv_if_eq (tgt := 29) hx hb d_Mo_fuelCount_20 (by decide) (fun c10 => ?_) (fun c10 => ?_)
      · replace hwp := hwp.1 c10
        refine lv_iload_n hx hb d_Mo_fuelCount_29 rfl (lv_at hl 1 rfl) ?_
        exact tMo_fuelCount_30 C post (wMo_fuelCount_4 post n) ih x0 x2 x1 M7 hwp H locs ls hM hS (lv_sub hl [0, 2] rfl)
      · replace hwp := hwp.2 c10
        refine lv_iload_n hx hb d_Mo_fuelCount_23 rfl (lv_at hl 1 rfl) ?_
        refine lv_iconst (v := 1) hx hb d_Mo_fuelCount_24 (by decide) ?_
        refine lv_iadd hx hb d_Mo_fuelCount_25 ?_
        refine lv_goto (tgt := 30) hx hb d_Mo_fuelCount_26 (by decide) ?_
        exact tMo_fuelCount_30 C post (wMo_fuelCount_4 post n) ih x0 x2 (x1 + (1 : Int32)) M7 hwp H locs ls hM hS (lv_sub hl [0, 2] rfl)
def wpMo_fuelCount (self : Nat) (M : Hp) (post : Int32 → Hp → Prop) : Prop := (∃ n11 : Nat, wMo_fuelCount_4 post n11 self (0 : Int32) (0 : Int32) M)
set_option maxRecDepth 100000 in
set_option maxHeartbeats 4000000 in
theorem eMo_fuelCount {p : Program} {l : Launch} {e : Env} {s : State} {m : MethodId} {args : Array Value} {below : List Frame} {meth : Method} {c : Code} {D : va_G} {κ : Nat → ClassId} {A : Nat → Prop} (C : Cx_Mo_fuelCount p s m args meth c D κ A) (post : Int32 → Hp → Prop) (self : Nat) (M : Hp) (hwp : wpMo_fuelCount self M post) : Y p l e rm_Mo_fuelCount s m args below meth c D kCl (hTys κ) A 3 0 0 (MQ below (va_Qi post (hB D kCl (hTys κ) A) A) args s 0 0 A) M 0 [(0, .ref self)] [] := by
  obtain ⟨hx, hb, hml, hr, hown, hts, hlocks, hE, hA⟩ := id C
  have hK := hE.1
  intro H locs ls hM hS hl
  unfold wpMo_fuelCount at hwp
  refine lv_iconst (v := 0) hx hb d_Mo_fuelCount_0 (by decide) ?_
  refine lv_istore_n (lv' := [(1, .int (0 : Int32)), (0, .ref self)]) hx hb d_Mo_fuelCount_1 rfl hl (by decide) rfl (fun ls hl => ?_)
  refine lv_iconst (v := 0) hx hb d_Mo_fuelCount_2 (by decide) ?_
  refine lv_istore_n (lv' := [(2, .int (0 : Int32)), (1, .int (0 : Int32)), (0, .ref self)]) hx hb d_Mo_fuelCount_3 rfl hl (by decide) rfl (fun ls hl => ?_)
  obtain ⟨n11, hwp⟩ := hwp
  exact tMo_fuelCount_4 C post n11 self (0 : Int32) (0 : Int32) M hwp H locs ls hM hS (lv_sub hl [2, 1, 0] rfl)
set_option maxRecDepth 100000 in
set_option maxHeartbeats 4000000 in
theorem metMo_fuelCount (l : Launch) (D : va_G) (κ : Nat → ClassId) (sz : Nat) (self : Nat) (M : Hp) (post : Int32 → Hp → Prop) (hwp : wpMo_fuelCount self M post) : Met l y_Mo_fuelCount ws_Mo_fuelCount rm_Mo_fuelCount (hPc D kCl (hTys κ) M sz [.ref self]) (va_Qi post (hB D kCl (hTys κ) (hAx M sz)) (hAx M sz)) 0 0 (hAx M sz) := by
  refine Met.ofW (cc := prog_8_method_43_code) (maxL := 3) (ret := (some .int)) (by decide +kernel) rfl ?_
  intro p e s m args below meth c s₁ B hml hv
  obtain ⟨rfl, hsz, hE, hM0⟩ := hv
  have hts : ∀ w ∈ WG, w.before _ s = true := fun w h => atoms_spec (ws := ws_Mo_fuelCount) B.pre w (List.mem_cons_of_mem _ h)
  subst hsz
  have C : Cx_Mo_fuelCount p s m _ meth c D κ (hAx M s.heap.size) := ⟨B.exec, B.bytes, hml, B.returns, findClass_of_methodNamed B.named, hts, B.notSynchronized, hE, fun q h => Or.inr h⟩
  have hl := lv_entry ([.ref self]) (n := 3) (Nat.le_of_ble_eq_true rfl)
  rw [lg_entry_eq]
  generalize (lg_sl ([.ref self]) ++ List.replicate (3 - (lg_sl ([.ref self])).length) Slot.unset).toArray = ls at hl ⊢
  exact eMo_fuelCount C post self M hwp s.heap [] ls (hM0.self (sz := s.heap.size)) va_S.rf hl
abbrev rm_Mo_fuel : Room := { frames := 4, cells := 0, slots := 0, locals := 85 }
def Cx_Mo_fuel (p : Program) (s : State) (m : MethodId) (args : Array Value) (meth : Method) (c : Code) (D : va_G) (κ : Nat → ClassId) (A : Nat → Prop) : Prop := p.tables.exec = Jvm.exec ∧ c.code = prog_8_method_44_code ∧ c.maxLocals = 7 ∧ meth.sig.returnType = (some .int) ∧ s.vm.findClass "BuckTablesModel" = some m.cls ∧ (∀ w ∈ WG, w.before args s = true) ∧ meth.locks = false ∧ hEnv D kCl (hTys κ) A s ∧ (∀ q, s.heap.size ≤ q → A q)
def wMo_fuel_179 (post : Int32 → Hp → Prop)   (y0 : Int32) (M : Hp) : Prop := (post y0 M)
set_option maxRecDepth 100000 in
set_option maxHeartbeats 4000000 in
theorem tMo_fuel_179 {p : Program} {l : Launch} {e : Env} {s : State} {m : MethodId} {args : Array Value} {below : List Frame} {meth : Method} {c : Code} {D : va_G} {κ : Nat → ClassId} {A : Nat → Prop} (C : Cx_Mo_fuel p s m args meth c D κ A) (post : Int32 → Hp → Prop)   (y0 : Int32) (M : Hp) (hwp : wMo_fuel_179 post y0 M) : Y p l e rm_Mo_fuel s m args below meth c D kCl (hTys κ) A 7 0 0 (MQ below (va_Qi post (hB D kCl (hTys κ) A) A) args s 0 0 A) M 179 [] [.int y0] := by
  obtain ⟨hx, hb, hml, hr, hown, hts, hlocks, hE, hA⟩ := id C
  have hK := hE.1
  intro H locs ls hM hS hl
  unfold wMo_fuel_179 at hwp
  exact W.iret (v := y0) hx hb hr (fun t ht hW => ⟨⟨y0, M, rfl, hwp, by show hw D kCl (hTys κ) A M t.heap; rw [ht]; exact hM⟩, hS.F ht⟩) hS.2.2 d_Mo_fuel_179
def wMo_fuel_152 (post : Int32 → Hp → Prop)  (x2 : Int32) (x4 : Int32) (x6 : Int32) (M : Hp) : Prop := ((x2 = 0 → (wMo_fuel_179 post (x4 / (81 : Int32)) M)) ∧ (¬ x2 = 0 → ((x2 = (1 : Int32) → (wMo_fuel_179 post (x4 - x4 / (81 : Int32) * (81 : Int32)) M)) ∧ (¬ x2 = (1 : Int32) → (wMo_fuel_179 post x6 M)))))
set_option maxRecDepth 100000 in
set_option maxHeartbeats 4000000 in
theorem tMo_fuel_152 {p : Program} {l : Launch} {e : Env} {s : State} {m : MethodId} {args : Array Value} {below : List Frame} {meth : Method} {c : Code} {D : va_G} {κ : Nat → ClassId} {A : Nat → Prop} (C : Cx_Mo_fuel p s m args meth c D κ A) (post : Int32 → Hp → Prop)  (x2 : Int32) (x4 : Int32) (x6 : Int32) (M : Hp) (hwp : wMo_fuel_152 post x2 x4 x6 M) : Y p l e rm_Mo_fuel s m args below meth c D kCl (hTys κ) A 7 0 0 (MQ below (va_Qi post (hB D kCl (hTys κ) A) A) args s 0 0 A) M 152 [(2, .int x2), (4, .int x4), (6, .int x6)] [] := by
  obtain ⟨hx, hb, hml, hr, hown, hts, hlocks, hE, hA⟩ := id C
  have hK := hE.1
  intro H locs ls hM hS hl
  unfold wMo_fuel_152 at hwp
  refine lv_iload_n hx hb d_Mo_fuel_152 rfl (lv_at hl 0 rfl) ?_
  refine lv_if_ne (tgt := 164) hx hb d_Mo_fuel_153 (by decide) (fun c1 => ?_) (fun c1 => ?_)
  · replace hwp := hwp.2 c1
    refine lv_iload_n hx hb d_Mo_fuel_164 rfl (lv_at hl 0 rfl) ?_
    refine lv_iconst (v := 1) hx hb d_Mo_fuel_165 (by decide) ?_
    refine lv_icmp_ne (tgt := 177) hx hb d_Mo_fuel_166 (by decide) (fun c2 => ?_) (fun c2 => ?_)
    · replace hwp := hwp.2 c2
      refine lv_iload hx hb d_Mo_fuel_177 (lv_at hl 2 rfl) ?_
      exact tMo_fuel_179 C post x6 M hwp H locs ls hM hS (lv_sub hl [] rfl)
    · replace hwp := hwp.1 c2
      refine lv_iload hx hb d_Mo_fuel_169 (lv_at hl 1 rfl) ?_
      refine lv_bipush (v := 81) hx hb d_Mo_fuel_171 (by decide) ?_
      refine lv_irem hx hb d_Mo_fuel_173 (by decide) ?_
      refine lv_goto (tgt := 179) hx hb d_Mo_fuel_174 (by decide) ?_
      exact tMo_fuel_179 C post (x4 - x4 / (81 : Int32) * (81 : Int32)) M hwp H locs ls hM hS (lv_sub hl [] rfl)
  · replace hwp := hwp.1 c1
    refine lv_iload hx hb d_Mo_fuel_156 (lv_at hl 1 rfl) ?_
    refine lv_bipush (v := 81) hx hb d_Mo_fuel_158 (by decide) ?_
    refine lv_idiv hx hb d_Mo_fuel_160 (by decide) ?_
    refine lv_goto (tgt := 179) hx hb d_Mo_fuel_161 (by decide) ?_
    exact tMo_fuel_179 C post (x4 / (81 : Int32)) M hwp H locs ls hM hS (lv_sub hl [] rfl)
def wMo_fuel_118 (post : Int32 → Hp → Prop)  : Nat → Nat → Int32 → Int32 → Int32 → Hp → Prop
  | 0 => fun _ _ _ _ _ => False
  | n + 1 => fun x0 x2 x4 x6 M => (hob M x0 6 ∧ (wpMo_isFuel x0 (x4 + x6) M (fun (r5 : Int32) (M3 : Hp) => ((r5 = 0 → (wMo_fuel_152 post x2 x4 x6 M3)) ∧ (¬ r5 = 0 → ((((x4 + x6) / (81 : Int32)) = (x4 / (81 : Int32)) → (∀ z8 : Int32, z8 = x6 + 1 → ((wMo_fuel_118 post n) x0 x2 x4 z8 M3))) ∧ (¬ ((x4 + x6) / (81 : Int32)) = (x4 / (81 : Int32)) → (wMo_fuel_152 post x2 x4 x6 M3))))))))
set_option maxRecDepth 100000 in
set_option maxHeartbeats 4000000 in
theorem tMo_fuel_118 {p : Program} {l : Launch} {e : Env} {s : State} {m : MethodId} {args : Array Value} {below : List Frame} {meth : Method} {c : Code} {D : va_G} {κ : Nat → ClassId} {A : Nat → Prop} (C : Cx_Mo_fuel p s m args meth c D κ A) (post : Int32 → Hp → Prop)  : ∀ (n : Nat) (x0 : Nat) (x2 : Int32) (x4 : Int32) (x6 : Int32) (M : Hp), wMo_fuel_118 post n x0 x2 x4 x6 M → Y p l e rm_Mo_fuel s m args below meth c D kCl (hTys κ) A 7 0 0 (MQ below (va_Qi post (hB D kCl (hTys κ) A) A) args s 0 0 A) M 118 [(0, .ref x0), (2, .int x2), (4, .int x4), (6, .int x6)] [] := by
  obtain ⟨hx, hb, hml, hr, hown, hts, hlocks, hE, hA⟩ := id C
  have hK := hE.1
  intro n
  induction n with
  | zero => intro x0 x2 x4 x6 M hwp; exact hwp.elim
  | succ n ih =>
    intro x0 x2 x4 x6 M hwp H locs ls hM hS hl
    unfold wMo_fuel_118 at hwp
    refine lv_aload_n hx hb d_Mo_fuel_118 rfl (lv_at hl 0 rfl) ?_
    refine lv_iload hx hb d_Mo_fuel_119 (lv_at hl 2 rfl) ?_
    refine lv_iload hx hb d_Mo_fuel_121 (lv_at hl 3 rfl) ?_
    refine lv_iadd hx hb d_Mo_fuel_123 ?_
    obtain ⟨ho4, hwp⟩ := hwp
    refine h_calli hM hS hA (va_runV (As := [.int (x4 + x6)]) (rest := []) ⟨hx, hb, hml, hown, hts⟩ (metMo_isFuel l D κ H.size x0 (x4 + x6) M _ hwp) (cwV 1 hts (gV kw_1004 kw_1006 kp_48 kw_8 kw_1007) rfl rfl rfl (by decide +kernel) ⟨(Nat.le_of_ble_eq_true rfl), (Nat.le_of_ble_eq_true rfl)⟩) (h_preV hE hM hS ho4 (r := ("BuckTablesModel", Tc6, 36)) rfl) rfl rfl hl.1 rfl (lv_room (Nat.le_of_ble_eq_true rfl)) d_Mo_fuel_124 ⟨(Nat.le_of_ble_eq_true rfl), (Nat.le_of_ble_eq_true rfl)⟩) (fun r5 M3 H locs hwp hM hS => ?_)
    refine lv_if_eq (tgt := 152) hx hb d_Mo_fuel_127 (by decide) (fun c6 => ?_) (fun c6 => ?_)
    · replace hwp := hwp.1 c6
      exact tMo_fuel_152 C post x2 x4 x6 M3 hwp H locs ls hM hS (lv_sub hl [1, 2, 3] rfl)
    · replace hwp := hwp.2 c6
      refine lv_iload hx hb d_Mo_fuel_130 (lv_at hl 2 rfl) ?_
      refine lv_iload hx hb d_Mo_fuel_132 (lv_at hl 3 rfl) ?_
      refine lv_iadd hx hb d_Mo_fuel_134 ?_
      refine lv_bipush (v := 81) hx hb d_Mo_fuel_135 (by decide) ?_
      refine lv_idiv hx hb d_Mo_fuel_137 (by decide) ?_
      refine lv_iload hx hb d_Mo_fuel_138 (lv_at hl 2 rfl) ?_
      refine lv_bipush (v := 81) hx hb d_Mo_fuel_140 (by decide) ?_
      refine lv_idiv hx hb d_Mo_fuel_142 (by decide) ?_
      refine lv_icmp_ne (tgt := 152) hx hb d_Mo_fuel_143 (by decide) (fun c7 => ?_) (fun c7 => ?_)
      · replace hwp := hwp.2 c7
        exact tMo_fuel_152 C post x2 x4 x6 M3 hwp H locs ls hM hS (lv_sub hl [1, 2, 3] rfl)
      · replace hwp := hwp.1 c7
        obtain ⟨z8, ez8⟩ : ∃ y : Int32, y = x6 + 1 := ⟨_, rfl⟩
        replace hwp := hwp z8 ez8
        refine lv_iinc (v := z8) (lv' := [(6, .int z8), (0, .ref x0), (2, .int x2), (4, .int x4)]) hx hb d_Mo_fuel_146 hl (k := 3) rfl (by rw [ez8]; rfl) (by decide) rfl (fun ls hl => ?_)
        refine lv_goto (tgt := 118) hx hb d_Mo_fuel_149 (by decide) ?_
        exact ih x0 x2 x4 z8 M3 hwp H locs ls hM hS (lv_sub hl [1, 2, 3, 0] rfl)
def wMo_fuel_104 (post : Int32 → Hp → Prop) (k80 : Nat → Int32 → Int32 → Int32 → Int32 → Hp → Prop) (x0 : Nat) (x1 : Int32) (x2 : Int32) (x4 : Int32) (y0 : Int32) (M : Hp) : Prop := (∀ z9 : Int32, z9 = x4 + 1 → (k80 x0 x1 x2 z9 y0 M))
set_option maxRecDepth 100000 in
set_option maxHeartbeats 4000000 in
theorem tMo_fuel_104 {p : Program} {l : Launch} {e : Env} {s : State} {m : MethodId} {args : Array Value} {below : List Frame} {meth : Method} {c : Code} {D : va_G} {κ : Nat → ClassId} {A : Nat → Prop} (C : Cx_Mo_fuel p s m args meth c D κ A) (post : Int32 → Hp → Prop) (k80 : Nat → Int32 → Int32 → Int32 → Int32 → Hp → Prop) (hk80 : ∀ (x0 : Nat) (x1 : Int32) (x2 : Int32) (x4 : Int32) (x5 : Int32) (M : Hp), k80 x0 x1 x2 x4 x5 M → Y p l e rm_Mo_fuel s m args below meth c D kCl (hTys κ) A 7 0 0 (MQ below (va_Qi post (hB D kCl (hTys κ) A) A) args s 0 0 A) M 80 [(0, .ref x0), (1, .int x1), (2, .int x2), (4, .int x4), (5, .int x5)] []) (x0 : Nat) (x1 : Int32) (x2 : Int32) (x4 : Int32) (y0 : Int32) (M : Hp) (hwp : wMo_fuel_104 post k80 x0 x1 x2 x4 y0 M) : Y p l e rm_Mo_fuel s m args below meth c D kCl (hTys κ) A 7 0 0 (MQ below (va_Qi post (hB D kCl (hTys κ) A) A) args s 0 0 A) M 104 [(0, .ref x0), (1, .int x1), (2, .int x2), (4, .int x4)] [.int y0] := by
  obtain ⟨hx, hb, hml, hr, hown, hts, hlocks, hE, hA⟩ := id C
  have hK := hE.1
  intro H locs ls hM hS hl
  unfold wMo_fuel_104 at hwp
  refine lv_istore (lv' := [(5, .int y0), (0, .ref x0), (1, .int x1), (2, .int x2), (4, .int x4)]) hx hb d_Mo_fuel_104 hl (by decide) rfl (fun ls hl => ?_)
  obtain ⟨z9, ez9⟩ : ∃ y : Int32, y = x4 + 1 := ⟨_, rfl⟩
  replace hwp := hwp z9 ez9
  refine lv_iinc (v := z9) (lv' := [(4, .int z9), (5, .int y0), (0, .ref x0), (1, .int x1), (2, .int x2)]) hx hb d_Mo_fuel_106 hl (k := 4) rfl (by rw [ez9]; rfl) (by decide) rfl (fun ls hl => ?_)
  refine lv_goto (tgt := 80) hx hb d_Mo_fuel_109 (by decide) ?_
  exact hk80 x0 x1 x2 z9 y0 M hwp H locs ls hM hS (lv_sub hl [2, 3, 4, 0, 1] rfl)
def wMo_fuel_80 (post : Int32 → Hp → Prop)  : Nat → Nat → Int32 → Int32 → Int32 → Int32 → Hp → Prop
  | 0 => fun _ _ _ _ _ _ => False
  | n + 1 => fun x0 x1 x2 x4 x5 M => ((x1 < x5 → (∀ z11 : Int32, z11 = x4 + (-1) → (∃ n12 : Nat, wMo_fuel_118 post n12 x0 x2 z11 (1 : Int32) M))) ∧ (¬ x1 < x5 → (hob M x0 6 ∧ (wpMo_beginsFuel x0 x4 M (fun (r15 : Int32) (M13 : Hp) => ((r15 = 0 → (wMo_fuel_104 post (wMo_fuel_80 post n) x0 x1 x2 x4 x5 M13)) ∧ (¬ r15 = 0 → (wMo_fuel_104 post (wMo_fuel_80 post n) x0 x1 x2 x4 (x5 + (1 : Int32)) M13))))))))
set_option maxRecDepth 100000 in
set_option maxHeartbeats 4000000 in
theorem tMo_fuel_80 {p : Program} {l : Launch} {e : Env} {s : State} {m : MethodId} {args : Array Value} {below : List Frame} {meth : Method} {c : Code} {D : va_G} {κ : Nat → ClassId} {A : Nat → Prop} (C : Cx_Mo_fuel p s m args meth c D κ A) (post : Int32 → Hp → Prop)  : ∀ (n : Nat) (x0 : Nat) (x1 : Int32) (x2 : Int32) (x4 : Int32) (x5 : Int32) (M : Hp), wMo_fuel_80 post n x0 x1 x2 x4 x5 M → Y p l e rm_Mo_fuel s m args below meth c D kCl (hTys κ) A 7 0 0 (MQ below (va_Qi post (hB D kCl (hTys κ) A) A) args s 0 0 A) M 80 [(0, .ref x0), (1, .int x1), (2, .int x2), (4, .int x4), (5, .int x5)] [] := by
  obtain ⟨hx, hb, hml, hr, hown, hts, hlocks, hE, hA⟩ := id C
  have hK := hE.1
  intro n
  induction n with
  | zero => intro x0 x1 x2 x4 x5 M hwp; exact hwp.elim
  | succ n ih =>
    intro x0 x1 x2 x4 x5 M hwp H locs ls hM hS hl
    unfold wMo_fuel_80 at hwp
    refine lv_iload hx hb d_Mo_fuel_80 (lv_at hl 4 rfl) ?_
    refine lv_iload_n hx hb d_Mo_fuel_82 rfl (lv_at hl 1 rfl) ?_
    refine lv_icmp_gt (tgt := 112) hx hb d_Mo_fuel_83 (by decide) (fun c10 => ?_) (fun c10 => ?_)
    · replace hwp := hwp.1 c10
      obtain ⟨z11, ez11⟩ : ∃ y : Int32, y = x4 + (-1) := ⟨_, rfl⟩
      replace hwp := hwp z11 ez11
      refine lv_iinc (v := z11) (lv' := [(4, .int z11), (0, .ref x0), (1, .int x1), (2, .int x2), (5, .int x5)]) hx hb d_Mo_fuel_112 hl (k := 3) rfl (by rw [ez11]; rfl) (by decide) rfl (fun ls hl => ?_)
      refine lv_iconst (v := 1) hx hb d_Mo_fuel_115 (by decide) ?_
      refine lv_istore (lv' := [(6, .int (1 : Int32)), (4, .int z11), (0, .ref x0), (1, .int x1), (2, .int x2), (5, .int x5)]) hx hb d_Mo_fuel_116 hl (by decide) rfl (fun ls hl => ?_)
      obtain ⟨n12, hwp⟩ := hwp
      exact tMo_fuel_118 C post n12 x0 x2 z11 (1 : Int32) M hwp H locs ls hM hS (lv_sub hl [2, 4, 1, 0] rfl)
    · replace hwp := hwp.2 c10
      refine lv_aload_n hx hb d_Mo_fuel_86 rfl (lv_at hl 0 rfl) ?_
      refine lv_iload hx hb d_Mo_fuel_87 (lv_at hl 3 rfl) ?_
      obtain ⟨ho14, hwp⟩ := hwp
      refine h_calli hM hS hA (va_runV (As := [.int x4]) (rest := []) ⟨hx, hb, hml, hown, hts⟩ (metMo_beginsFuel l D κ H.size x0 x4 M _ hwp) (cwV 1 hts (gV kw_1000 kw_1002 kp_47 kw_8 kw_1003) rfl rfl rfl (by decide +kernel) ⟨(Nat.le_of_ble_eq_true rfl), (Nat.le_of_ble_eq_true rfl)⟩) (h_preV hE hM hS ho14 (r := ("BuckTablesModel", Tc6, 36)) rfl) rfl rfl hl.1 rfl (lv_room (Nat.le_of_ble_eq_true rfl)) d_Mo_fuel_89 ⟨(Nat.le_of_ble_eq_true rfl), (Nat.le_of_ble_eq_true rfl)⟩) (fun r15 M13 H locs hwp hM hS => ?_)
      refine lv_if_eq (tgt := 102) hx hb d_Mo_fuel_92 (by decide) (fun c16 => ?_) (fun c16 => ?_)
      · replace hwp := hwp.1 c16
        refine lv_iload hx hb d_Mo_fuel_102 (lv_at hl 4 rfl) ?_
        exact tMo_fuel_104 C post (wMo_fuel_80 post n) ih x0 x1 x2 x4 x5 M13 hwp H locs ls hM hS (lv_sub hl [0, 1, 2, 3] rfl)
      · replace hwp := hwp.2 c16
        refine lv_iload hx hb d_Mo_fuel_95 (lv_at hl 4 rfl) ?_
        refine lv_iconst (v := 1) hx hb d_Mo_fuel_97 (by decide) ?_
        refine lv_iadd hx hb d_Mo_fuel_98 ?_
        refine lv_goto (tgt := 104) hx hb d_Mo_fuel_99 (by decide) ?_
        exact tMo_fuel_104 C post (wMo_fuel_80 post n) ih x0 x1 x2 x4 (x5 + (1 : Int32)) M13 hwp H locs ls hM hS (lv_sub hl [0, 1, 2, 3] rfl)
def wMo_fuel_73 (post : Int32 → Hp → Prop)   (y0 : Int32) (M : Hp) : Prop := (post y0 M)
set_option maxRecDepth 100000 in
set_option maxHeartbeats 4000000 in
theorem tMo_fuel_73 {p : Program} {l : Launch} {e : Env} {s : State} {m : MethodId} {args : Array Value} {below : List Frame} {meth : Method} {c : Code} {D : va_G} {κ : Nat → ClassId} {A : Nat → Prop} (C : Cx_Mo_fuel p s m args meth c D κ A) (post : Int32 → Hp → Prop)   (y0 : Int32) (M : Hp) (hwp : wMo_fuel_73 post y0 M) : Y p l e rm_Mo_fuel s m args below meth c D kCl (hTys κ) A 7 0 0 (MQ below (va_Qi post (hB D kCl (hTys κ) A) A) args s 0 0 A) M 73 [] [.int y0] := by
  obtain ⟨hx, hb, hml, hr, hown, hts, hlocks, hE, hA⟩ := id C
  have hK := hE.1
  intro H locs ls hM hS hl
  unfold wMo_fuel_73 at hwp
  exact W.iret (v := y0) hx hb hr (fun t ht hW => ⟨⟨y0, M, rfl, hwp, by show hw D kCl (hTys κ) A M t.heap; rw [ht]; exact hM⟩, hS.F ht⟩) hS.2.2 d_Mo_fuel_73
def wMo_fuel_61 (post : Int32 → Hp → Prop)  (x0 : Nat) (x3 : Int32) (M : Hp) : Prop := (∃ v17 : Int32, fI M x0 6 0 v17 ∧ ((v17 ≤ 0 → (wMo_fuel_73 post x3 M)) ∧ (¬ v17 ≤ 0 → (wMo_fuel_73 post (0 : Int32) M))))
set_option maxRecDepth 100000 in
set_option maxHeartbeats 4000000 in
theorem tMo_fuel_61 {p : Program} {l : Launch} {e : Env} {s : State} {m : MethodId} {args : Array Value} {below : List Frame} {meth : Method} {c : Code} {D : va_G} {κ : Nat → ClassId} {A : Nat → Prop} (C : Cx_Mo_fuel p s m args meth c D κ A) (post : Int32 → Hp → Prop)  (x0 : Nat) (x3 : Int32) (M : Hp) (hwp : wMo_fuel_61 post x0 x3 M) : Y p l e rm_Mo_fuel s m args below meth c D kCl (hTys κ) A 7 0 0 (MQ below (va_Qi post (hB D kCl (hTys κ) A) A) args s 0 0 A) M 61 [(0, .ref x0), (3, .int x3)] [] := by
  obtain ⟨hx, hb, hml, hr, hown, hts, hlocks, hE, hA⟩ := id C
  have hK := hE.1
  intro H locs ls hM hS hl
  unfold wMo_fuel_61 at hwp
  refine lv_aload_n hx hb d_Mo_fuel_61 rfl (lv_at hl 0 rfl) ?_
  obtain ⟨v17, ⟨fs18, he19, hv20⟩, hwp⟩ := hwp
  refine h_get (C := "BuckTablesModel") (T := Tc6) (N := 36) hx hb hts inc6 hown hK hM he19 rfl 0 (by decide) (hts _ kw_720) (fun _ h9 => h9) hv20 d_Mo_fuel_62 ?_
  refine lv_if_le (tgt := 72) hx hb d_Mo_fuel_65 (by decide) (fun c21 => ?_) (fun c21 => ?_)
  · replace hwp := hwp.1 c21
    refine lv_iload_n hx hb d_Mo_fuel_72 rfl (lv_at hl 1 rfl) ?_
    exact tMo_fuel_73 C post x3 M hwp H locs ls hM hS (lv_sub hl [] rfl)
  · replace hwp := hwp.2 c21
    refine lv_iconst (v := 0) hx hb d_Mo_fuel_68 (by decide) ?_
    refine lv_goto (tgt := 73) hx hb d_Mo_fuel_69 (by decide) ?_
    exact tMo_fuel_73 C post (0 : Int32) M hwp H locs ls hM hS (lv_sub hl [] rfl)
def wMo_fuel_46 (post : Int32 → Hp → Prop)  (x0 : Nat) (x1 : Int32) (x2 : Int32) (x3 : Int32) (y0 : Int32) (y1 : Nat) (M : Hp) : Prop := (∃ M22 : Hp, pF M y1 6 0 (.int y0) M22 ∧ (∃ v26 : Int32, fI M22 x0 6 0 v26 ∧ ((0 < v26 → (wMo_fuel_61 post x0 x3 M22)) ∧ (¬ 0 < v26 → ((x1 = (-1 : Int32) → (wMo_fuel_61 post x0 x3 M22)) ∧ (¬ x1 = (-1 : Int32) → (∃ n32 : Nat, wMo_fuel_80 post n32 x0 x1 x2 (0 : Int32) (0 : Int32) M22)))))))
set_option maxRecDepth 100000 in
set_option maxHeartbeats 4000000 in
theorem tMo_fuel_46 {p : Program} {l : Launch} {e : Env} {s : State} {m : MethodId} {args : Array Value} {below : List Frame} {meth : Method} {c : Code} {D : va_G} {κ : Nat → ClassId} {A : Nat → Prop} (C : Cx_Mo_fuel p s m args meth c D κ A) (post : Int32 → Hp → Prop)  (x0 : Nat) (x1 : Int32) (x2 : Int32) (x3 : Int32) (y0 : Int32) (y1 : Nat) (M : Hp) (hwp : wMo_fuel_46 post x0 x1 x2 x3 y0 y1 M) : Y p l e rm_Mo_fuel s m args below meth c D kCl (hTys κ) A 7 0 0 (MQ below (va_Qi post (hB D kCl (hTys κ) A) A) args s 0 0 A) M 46 [(0, .ref x0), (1, .int x1), (2, .int x2), (3, .int x3)] [.int y0, .ref y1] := by
  obtain ⟨hx, hb, hml, hr, hown, hts, hlocks, hE, hA⟩ := id C
  have hK := hE.1
  intro H locs ls hM hS hl
  unfold wMo_fuel_46 at hwp
  obtain ⟨M22, ⟨fs23, he24, hl25, eM22⟩, hwp⟩ := hwp
  refine h_put (C := "BuckTablesModel") (T := Tc6) (N := 36) (v := .int y0) (ty := .int) hx hb hts inc6 tyc6 tyc6_ok nmc6 hown hK hM hS he24 rfl 0 (by decide) (hts _ kw_720) (fun _ h9 => h9) rfl (by decide +kernel) rfl rfl hl25 d_Mo_fuel_46 (fun H locs hM hS => ?_)
  rw [← eM22] at hM
  refine lv_aload_n hx hb d_Mo_fuel_49 rfl (lv_at hl 0 rfl) ?_
  obtain ⟨v26, ⟨fs27, he28, hv29⟩, hwp⟩ := hwp
  refine h_get (C := "BuckTablesModel") (T := Tc6) (N := 36) hx hb hts inc6 hown hK hM he28 rfl 0 (by decide) (hts _ kw_720) (fun _ h9 => h9) hv29 d_Mo_fuel_50 ?_
  refine lv_if_gt (tgt := 61) hx hb d_Mo_fuel_53 (by decide) (fun c30 => ?_) (fun c30 => ?_)
  · replace hwp := hwp.1 c30
    exact tMo_fuel_61 C post x0 x3 M22 hwp H locs ls hM hS (lv_sub hl [0, 3] rfl)
  · replace hwp := hwp.2 c30
    refine lv_iload_n hx hb d_Mo_fuel_56 rfl (lv_at hl 1 rfl) ?_
    refine lv_iconst (v := -1) hx hb d_Mo_fuel_57 (by decide) ?_
    refine lv_icmp_ne (tgt := 74) hx hb d_Mo_fuel_58 (by decide) (fun c31 => ?_) (fun c31 => ?_)
    · replace hwp := hwp.2 c31
      refine lv_iconst (v := 0) hx hb d_Mo_fuel_74 (by decide) ?_
      refine lv_istore (lv' := [(4, .int (0 : Int32)), (0, .ref x0), (1, .int x1), (2, .int x2), (3, .int x3)]) hx hb d_Mo_fuel_75 hl (by decide) rfl (fun ls hl => ?_)
      refine lv_iconst (v := 0) hx hb d_Mo_fuel_77 (by decide) ?_
      refine lv_istore (lv' := [(5, .int (0 : Int32)), (4, .int (0 : Int32)), (0, .ref x0), (1, .int x1), (2, .int x2), (3, .int x3)]) hx hb d_Mo_fuel_78 hl (by decide) rfl (fun ls hl => ?_)
      obtain ⟨n32, hwp⟩ := hwp
      exact tMo_fuel_80 C post n32 x0 x1 x2 (0 : Int32) (0 : Int32) M22 hwp H locs ls hM hS (lv_sub hl [2, 3, 4, 1, 0] rfl)
    · replace hwp := hwp.1 c31
      exact tMo_fuel_61 C post x0 x3 M22 hwp H locs ls hM hS (lv_sub hl [0, 3] rfl)
def wMo_fuel_25 (post : Int32 → Hp → Prop)  (x0 : Nat) (x1 : Int32) (x2 : Int32) (x3 : Int32) (y0 : Nat) (M : Hp) : Prop := (wMo_fuel_46 post x0 x1 x2 x3 (2 : Int32) y0 M)
set_option maxRecDepth 100000 in
set_option maxHeartbeats 4000000 in
theorem tMo_fuel_25 {p : Program} {l : Launch} {e : Env} {s : State} {m : MethodId} {args : Array Value} {below : List Frame} {meth : Method} {c : Code} {D : va_G} {κ : Nat → ClassId} {A : Nat → Prop} (C : Cx_Mo_fuel p s m args meth c D κ A) (post : Int32 → Hp → Prop)  (x0 : Nat) (x1 : Int32) (x2 : Int32) (x3 : Int32) (y0 : Nat) (M : Hp) (hwp : wMo_fuel_25 post x0 x1 x2 x3 y0 M) : Y p l e rm_Mo_fuel s m args below meth c D kCl (hTys κ) A 7 0 0 (MQ below (va_Qi post (hB D kCl (hTys κ) A) A) args s 0 0 A) M 25 [(0, .ref x0), (1, .int x1), (2, .int x2), (3, .int x3)] [.ref y0] := by
  obtain ⟨hx, hb, hml, hr, hown, hts, hlocks, hE, hA⟩ := id C
  have hK := hE.1
  intro H locs ls hM hS hl
  unfold wMo_fuel_25 at hwp
  refine lv_iconst (v := 2) hx hb d_Mo_fuel_25 (by decide) ?_
  refine lv_goto (tgt := 46) hx hb d_Mo_fuel_26 (by decide) ?_
  exact tMo_fuel_46 C post x0 x1 x2 x3 (2 : Int32) y0 M hwp H locs ls hM hS (lv_sub hl [0, 1, 2, 3] rfl)
def wpMo_fuel (self : Nat) (p0 : Int32) (p1 : Int32) (M : Hp) (post : Int32 → Hp → Prop) : Prop := (hob M self 6 ∧ (wpMo_none self M (fun (r35 : Int32) (M33 : Hp) => ((r35 = 0 → (hob M33 self 6 ∧ (wpMo_fuelCount self M33 (fun (r39 : Int32) (M37 : Hp) => ((p0 < (-1 : Int32) → (wMo_fuel_25 post self p0 p1 r39 self M37)) ∧ (¬ p0 < (-1 : Int32) → ((p0 < r39 → (wpMo_isIn (p1.toInt64) (0 : Int64) (2 : Int64) M37 (fun (r43 : Int32) (M42 : Hp) => ((r43 = 0 → (wMo_fuel_46 post self p0 p1 r39 (3 : Int32) self M42)) ∧ (¬ r43 = 0 → (wMo_fuel_46 post self p0 p1 r39 (0 : Int32) self M42)))))) ∧ (¬ p0 < r39 → (wMo_fuel_25 post self p0 p1 r39 self M37))))))))) ∧ (¬ r35 = 0 → (post (0 : Int32) M33))))))
set_option maxRecDepth 100000 in
set_option maxHeartbeats 4000000 in
theorem eMo_fuel {p : Program} {l : Launch} {e : Env} {s : State} {m : MethodId} {args : Array Value} {below : List Frame} {meth : Method} {c : Code} {D : va_G} {κ : Nat → ClassId} {A : Nat → Prop} (C : Cx_Mo_fuel p s m args meth c D κ A) (post : Int32 → Hp → Prop) (self : Nat) (p0 : Int32) (p1 : Int32) (M : Hp) (hwp : wpMo_fuel self p0 p1 M post) : Y p l e rm_Mo_fuel s m args below meth c D kCl (hTys κ) A 7 0 0 (MQ below (va_Qi post (hB D kCl (hTys κ) A) A) args s 0 0 A) M 0 [(0, .ref self), (1, .int p0), (2, .int p1)] [] := by
  obtain ⟨hx, hb, hml, hr, hown, hts, hlocks, hE, hA⟩ := id C
  have hK := hE.1
  intro H locs ls hM hS hl
  unfold wpMo_fuel at hwp
  refine lv_aload_n hx hb d_Mo_fuel_0 rfl (lv_at hl 0 rfl) ?_
  obtain ⟨ho34, hwp⟩ := hwp
  refine h_calli hM hS hA (va_runV (As := []) (rest := []) ⟨hx, hb, hml, hown, hts⟩ (metMo_none l D κ H.size self M _ hwp) (cwV 0 hts (gV kw_979 kw_981 kp_44 kw_8 kw_982) rfl rfl rfl (by decide +kernel) ⟨(Nat.le_of_ble_eq_true rfl), (Nat.le_of_ble_eq_true rfl)⟩) (h_preV hE hM hS ho34 (r := ("BuckTablesModel", Tc6, 36)) rfl) rfl rfl hl.1 rfl (lv_room (Nat.le_of_ble_eq_true rfl)) d_Mo_fuel_1 ⟨(Nat.le_of_ble_eq_true rfl), (Nat.le_of_ble_eq_true rfl)⟩) (fun r35 M33 H locs hwp hM hS => ?_)
  refine lv_if_eq (tgt := 9) hx hb d_Mo_fuel_4 (by decide) (fun c36 => ?_) (fun c36 => ?_)
  · replace hwp := hwp.1 c36
    refine lv_aload_n hx hb d_Mo_fuel_9 rfl (lv_at hl 0 rfl) ?_
    obtain ⟨ho38, hwp⟩ := hwp
    refine h_calli hM hS hA (va_runV (As := []) (rest := []) ⟨hx, hb, hml, hown, hts⟩ (metMo_fuelCount l D κ H.size self M33 _ hwp) (cwV 0 hts (gV kw_996 kw_998 kp_46 kw_8 kw_999) rfl rfl rfl (by decide +kernel) ⟨(Nat.le_of_ble_eq_true rfl), (Nat.le_of_ble_eq_true rfl)⟩) (h_preV hE hM hS ho38 (r := ("BuckTablesModel", Tc6, 36)) rfl) rfl rfl hl.1 rfl (lv_room (Nat.le_of_ble_eq_true rfl)) d_Mo_fuel_10 ⟨(Nat.le_of_ble_eq_true rfl), (Nat.le_of_ble_eq_true rfl)⟩) (fun r39 M37 H locs hwp hM hS => ?_)
    refine lv_istore_n (lv' := [(3, .int r39), (0, .ref self), (1, .int p0), (2, .int p1)]) hx hb d_Mo_fuel_13 rfl hl (by decide) rfl (fun ls hl => ?_)
    refine lv_aload_n hx hb d_Mo_fuel_14 rfl (lv_at hl 1 rfl) ?_
    refine lv_iload_n hx hb d_Mo_fuel_15 rfl (lv_at hl 2 rfl) ?_
    refine lv_iconst (v := -1) hx hb d_Mo_fuel_16 (by decide) ?_
    refine lv_icmp_lt (tgt := 25) hx hb d_Mo_fuel_17 (by decide) (fun c40 => ?_) (fun c40 => ?_)
    · replace hwp := hwp.1 c40
      exact tMo_fuel_25 C post self p0 p1 r39 self M37 hwp H locs ls hM hS (lv_sub hl [1, 2, 3, 0] rfl)
    · replace hwp := hwp.2 c40
      refine lv_iload_n hx hb d_Mo_fuel_20 rfl (lv_at hl 2 rfl) ?_
      refine lv_iload_n hx hb d_Mo_fuel_21 rfl (lv_at hl 0 rfl) ?_
      refine lv_icmp_lt (tgt := 29) hx hb d_Mo_fuel_22 (by decide) (fun c41 => ?_) (fun c41 => ?_)
      · replace hwp := hwp.1 c41
        refine lv_iload_n hx hb d_Mo_fuel_29 rfl (lv_at hl 3 rfl) ?_
        refine lv_i2l hx hb d_Mo_fuel_30 rfl ?_
        refine lv_lconst (v := 0) hx hb d_Mo_fuel_31 (by decide) ?_
        refine lv_ldc2 (v := (2)) hx hb hown (hts _ kw_1008) d_Mo_fuel_32 ?_
        refine h_calli hM hS hA (va_runS (As := [.long (p1.toInt64), .long (0 : Int64), .long (2 : Int64)]) (rest := [.ref self]) ⟨hx, hb, hml, hown, hts⟩ (metMo_isIn l D κ H.size (p1.toInt64) (0 : Int64) (2 : Int64) M37 _ hwp) (cwS 3 hts (gS kw_838 kw_839 kw_8 kw_840) rfl rfl rfl (by decide +kernel) ⟨(Nat.le_of_ble_eq_true rfl), (Nat.le_of_ble_eq_true rfl)⟩) (h_preS hE hM hS) rfl rfl hl.1 rfl (lv_room (Nat.le_of_ble_eq_true rfl)) d_Mo_fuel_35 ⟨(Nat.le_of_ble_eq_true rfl), (Nat.le_of_ble_eq_true rfl)⟩) (fun r43 M42 H locs hwp hM hS => ?_)
        refine lv_if_eq (tgt := 45) hx hb d_Mo_fuel_38 (by decide) (fun c44 => ?_) (fun c44 => ?_)
        · replace hwp := hwp.1 c44
          refine lv_iconst (v := 3) hx hb d_Mo_fuel_45 (by decide) ?_
          exact tMo_fuel_46 C post self p0 p1 r39 (3 : Int32) self M42 hwp H locs ls hM hS (lv_sub hl [1, 2, 3, 0] rfl)
        · replace hwp := hwp.2 c44
          refine lv_iconst (v := 0) hx hb d_Mo_fuel_41 (by decide) ?_
          refine lv_goto (tgt := 46) hx hb d_Mo_fuel_42 (by decide) ?_
          exact tMo_fuel_46 C post self p0 p1 r39 (0 : Int32) self M42 hwp H locs ls hM hS (lv_sub hl [1, 2, 3, 0] rfl)
      · replace hwp := hwp.2 c41
        exact tMo_fuel_25 C post self p0 p1 r39 self M37 hwp H locs ls hM hS (lv_sub hl [1, 2, 3, 0] rfl)
  · replace hwp := hwp.2 c36
    refine lv_iconst (v := 0) hx hb d_Mo_fuel_7 (by decide) ?_
    exact W.iret (v := (0 : Int32)) hx hb hr (fun t ht hW => ⟨⟨(0 : Int32), M33, rfl, hwp, by show hw D kCl (hTys κ) A M33 t.heap; rw [ht]; exact hM⟩, hS.F ht⟩) hS.2.2 d_Mo_fuel_8
set_option maxRecDepth 100000 in
set_option maxHeartbeats 4000000 in
theorem metMo_fuel (l : Launch) (D : va_G) (κ : Nat → ClassId) (sz : Nat) (self : Nat) (p0 : Int32) (p1 : Int32) (M : Hp) (post : Int32 → Hp → Prop) (hwp : wpMo_fuel self p0 p1 M post) : Met l y_Mo_fuel ws_Mo_fuel rm_Mo_fuel (hPc D kCl (hTys κ) M sz [.ref self, .int p0, .int p1]) (va_Qi post (hB D kCl (hTys κ) (hAx M sz)) (hAx M sz)) 0 0 (hAx M sz) := by
  refine Met.ofW (cc := prog_8_method_44_code) (maxL := 7) (ret := (some .int)) (by decide +kernel) rfl ?_
  intro p e s m args below meth c s₁ B hml hv
  obtain ⟨rfl, hsz, hE, hM0⟩ := hv
  have hts : ∀ w ∈ WG, w.before _ s = true := fun w h => atoms_spec (ws := ws_Mo_fuel) B.pre w (List.mem_cons_of_mem _ h)
  subst hsz
  have C : Cx_Mo_fuel p s m _ meth c D κ (hAx M s.heap.size) := ⟨B.exec, B.bytes, hml, B.returns, findClass_of_methodNamed B.named, hts, B.notSynchronized, hE, fun q h => Or.inr h⟩
  have hl := lv_entry ([.ref self, .int p0, .int p1]) (n := 7) (Nat.le_of_ble_eq_true rfl)
  rw [lg_entry_eq]
  generalize (lg_sl ([.ref self, .int p0, .int p1]) ++ List.replicate (7 - (lg_sl ([.ref self, .int p0, .int p1])).length) Slot.unset).toArray = ls at hl ⊢
  exact eMo_fuel C post self p0 p1 M hwp s.heap [] ls (hM0.self (sz := s.heap.size)) va_S.rf hl
abbrev rm_Mo_bound : Room := { frames := 1, cells := 0, slots := 0, locals := 20 }
def Cx_Mo_bound (p : Program) (s : State) (m : MethodId) (args : Array Value) (meth : Method) (c : Code) (D : va_G) (κ : Nat → ClassId) (A : Nat → Prop) : Prop := p.tables.exec = Jvm.exec ∧ c.code = prog_8_method_45_code ∧ c.maxLocals = 1 ∧ meth.sig.returnType = (some .long) ∧ s.vm.findClass "BuckTablesModel" = some m.cls ∧ (∀ w ∈ WG, w.before args s = true) ∧ meth.locks = false ∧ hEnv D kCl (hTys κ) A s ∧ (∀ q, s.heap.size ≤ q → A q)
def wMo_bound_15 (post : Int64 → Hp → Prop)   (y0 : Int64) (M : Hp) : Prop := (post y0 M)
set_option maxRecDepth 100000 in
set_option maxHeartbeats 4000000 in
theorem tMo_bound_15 {p : Program} {l : Launch} {e : Env} {s : State} {m : MethodId} {args : Array Value} {below : List Frame} {meth : Method} {c : Code} {D : va_G} {κ : Nat → ClassId} {A : Nat → Prop} (C : Cx_Mo_bound p s m args meth c D κ A) (post : Int64 → Hp → Prop)   (y0 : Int64) (M : Hp) (hwp : wMo_bound_15 post y0 M) : Y p l e rm_Mo_bound s m args below meth c D kCl (hTys κ) A 1 0 0 (MQ below (va_Ql post (hB D kCl (hTys κ) A) A) args s 0 0 A) M 15 [] [.long y0] := by
  obtain ⟨hx, hb, hml, hr, hown, hts, hlocks, hE, hA⟩ := id C
  have hK := hE.1
  intro H locs ls hM hS hl
  unfold wMo_bound_15 at hwp
  exact W.lret (v := y0) hx hb hr (fun t ht hW => ⟨⟨y0, M, rfl, hwp, by show hw D kCl (hTys κ) A M t.heap; rw [ht]; exact hM⟩, hS.F ht⟩) hS.2.2 d_Mo_bound_15
def wpMo_bound (self : Nat) (M : Hp) (post : Int64 → Hp → Prop) : Prop := (hob M self 6 ∧ (wpMo_none self M (fun (r3 : Int32) (M1 : Hp) => ((r3 = 0 → (∃ v5 : Int64, fJ M1 self 6 35 v5 ∧ (wMo_bound_15 post v5 M1))) ∧ (¬ r3 = 0 → (wMo_bound_15 post (0 : Int64) M1))))))
set_option maxRecDepth 100000 in
set_option maxHeartbeats 4000000 in
theorem eMo_bound {p : Program} {l : Launch} {e : Env} {s : State} {m : MethodId} {args : Array Value} {below : List Frame} {meth : Method} {c : Code} {D : va_G} {κ : Nat → ClassId} {A : Nat → Prop} (C : Cx_Mo_bound p s m args meth c D κ A) (post : Int64 → Hp → Prop) (self : Nat) (M : Hp) (hwp : wpMo_bound self M post) : Y p l e rm_Mo_bound s m args below meth c D kCl (hTys κ) A 1 0 0 (MQ below (va_Ql post (hB D kCl (hTys κ) A) A) args s 0 0 A) M 0 [(0, .ref self)] [] := by
  obtain ⟨hx, hb, hml, hr, hown, hts, hlocks, hE, hA⟩ := id C
  have hK := hE.1
  intro H locs ls hM hS hl
  unfold wpMo_bound at hwp
  refine lv_aload_n hx hb d_Mo_bound_0 rfl (lv_at hl 0 rfl) ?_
  obtain ⟨ho2, hwp⟩ := hwp
  refine h_calli hM hS hA (va_runV (As := []) (rest := []) ⟨hx, hb, hml, hown, hts⟩ (metMo_none l D κ H.size self M _ hwp) (cwV 0 hts (gV kw_979 kw_981 kp_44 kw_8 kw_982) rfl rfl rfl (by decide +kernel) ⟨(Nat.le_of_ble_eq_true rfl), (Nat.le_of_ble_eq_true rfl)⟩) (h_preV hE hM hS ho2 (r := ("BuckTablesModel", Tc6, 36)) rfl) rfl rfl hl.1 rfl (lv_room (Nat.le_of_ble_eq_true rfl)) d_Mo_bound_1 ⟨(Nat.le_of_ble_eq_true rfl), (Nat.le_of_ble_eq_true rfl)⟩) (fun r3 M1 H locs hwp hM hS => ?_)
  refine lv_if_eq (tgt := 11) hx hb d_Mo_bound_4 (by decide) (fun c4 => ?_) (fun c4 => ?_)
  · replace hwp := hwp.1 c4
    refine lv_aload_n hx hb d_Mo_bound_11 rfl (lv_at hl 0 rfl) ?_
    obtain ⟨v5, ⟨fs6, he7, hv8⟩, hwp⟩ := hwp
    refine h_get (C := "BuckTablesModel") (T := Tc6) (N := 36) hx hb hts inc6 hown hK hM he7 rfl 35 (by decide) (hts _ kw_755) (fun _ h9 => h9) hv8 d_Mo_bound_12 ?_
    exact tMo_bound_15 C post v5 M1 hwp H locs ls hM hS (lv_sub hl [] rfl)
  · replace hwp := hwp.2 c4
    refine lv_lconst (v := 0) hx hb d_Mo_bound_7 (by decide) ?_
    refine lv_goto (tgt := 15) hx hb d_Mo_bound_8 (by decide) ?_
    exact tMo_bound_15 C post (0 : Int64) M1 hwp H locs ls hM hS (lv_sub hl [] rfl)
set_option maxRecDepth 100000 in
set_option maxHeartbeats 4000000 in
theorem metMo_bound (l : Launch) (D : va_G) (κ : Nat → ClassId) (sz : Nat) (self : Nat) (M : Hp) (post : Int64 → Hp → Prop) (hwp : wpMo_bound self M post) : Met l y_Mo_bound ws_Mo_bound rm_Mo_bound (hPc D kCl (hTys κ) M sz [.ref self]) (va_Ql post (hB D kCl (hTys κ) (hAx M sz)) (hAx M sz)) 0 0 (hAx M sz) := by
  refine Met.ofW (cc := prog_8_method_45_code) (maxL := 1) (ret := (some .long)) (by decide +kernel) rfl ?_
  intro p e s m args below meth c s₁ B hml hv
  obtain ⟨rfl, hsz, hE, hM0⟩ := hv
  have hts : ∀ w ∈ WG, w.before _ s = true := fun w h => atoms_spec (ws := ws_Mo_bound) B.pre w (List.mem_cons_of_mem _ h)
  subst hsz
  have C : Cx_Mo_bound p s m _ meth c D κ (hAx M s.heap.size) := ⟨B.exec, B.bytes, hml, B.returns, findClass_of_methodNamed B.named, hts, B.notSynchronized, hE, fun q h => Or.inr h⟩
  have hl := lv_entry ([.ref self]) (n := 1) (Nat.le_of_ble_eq_true rfl)
  rw [lg_entry_eq]
  generalize (lg_sl ([.ref self]) ++ List.replicate (1 - (lg_sl ([.ref self])).length) Slot.unset).toArray = ls at hl ⊢
  exact eMo_bound C post self M hwp s.heap [] ls (hM0.self (sz := s.heap.size)) va_S.rf hl
abbrev rm_Mo_price : Room := { frames := 2, cells := 0, slots := 0, locals := 45 }
def Cx_Mo_price (p : Program) (s : State) (m : MethodId) (args : Array Value) (meth : Method) (c : Code) (D : va_G) (κ : Nat → ClassId) (A : Nat → Prop) : Prop := p.tables.exec = Jvm.exec ∧ c.code = prog_8_method_46_code ∧ c.maxLocals = 3 ∧ meth.sig.returnType = (some .long) ∧ s.vm.findClass "BuckTablesModel" = some m.cls ∧ (∀ w ∈ WG, w.before args s = true) ∧ meth.locks = false ∧ hEnv D kCl (hTys κ) A s ∧ (∀ q, s.heap.size ≤ q → A q)
def wMo_price_83 (post : Int64 → Hp → Prop)   (y0 : Int64) (M : Hp) : Prop := (post y0 M)
set_option maxRecDepth 100000 in
set_option maxHeartbeats 4000000 in
theorem tMo_price_83 {p : Program} {l : Launch} {e : Env} {s : State} {m : MethodId} {args : Array Value} {below : List Frame} {meth : Method} {c : Code} {D : va_G} {κ : Nat → ClassId} {A : Nat → Prop} (C : Cx_Mo_price p s m args meth c D κ A) (post : Int64 → Hp → Prop)   (y0 : Int64) (M : Hp) (hwp : wMo_price_83 post y0 M) : Y p l e rm_Mo_price s m args below meth c D kCl (hTys κ) A 3 0 0 (MQ below (va_Ql post (hB D kCl (hTys κ) A) A) args s 0 0 A) M 83 [] [.long y0] := by
  obtain ⟨hx, hb, hml, hr, hown, hts, hlocks, hE, hA⟩ := id C
  have hK := hE.1
  intro H locs ls hM hS hl
  unfold wMo_price_83 at hwp
  exact W.lret (v := y0) hx hb hr (fun t ht hW => ⟨⟨y0, M, rfl, hwp, by show hw D kCl (hTys κ) A M t.heap; rw [ht]; exact hM⟩, hS.F ht⟩) hS.2.2 d_Mo_price_83
def wMo_price_36 (post : Int64 → Hp → Prop)  (x0 : Nat) (x1 : Int32) (x2 : Int32) (y0 : Int32) (y1 : Nat) (M : Hp) : Prop := (∃ M1 : Hp, pF M y1 6 0 (.int y0) M1 ∧ (∃ v5 : Int32, fI M1 x0 6 0 v5 ∧ ((v5 ≤ 0 → ((x2 = 0 → (∃ a24 : Nat, fA M1 x0 6 24 a24 ∧ (∃ v28 : Int64, aJ M1 a24 x1 v28 ∧ (wMo_price_83 post v28 M1)))) ∧ (¬ x2 = 0 → ((x2 = (1 : Int32) → (hob M1 x0 6 ∧ (wpMo_countOf x0 x1 M1 (fun (r23 : Int32) (M21 : Hp) => (wMo_price_83 post (r23.toInt64) M21))))) ∧ (¬ x2 = (1 : Int32) → (∃ a12 : Nat, fA M1 x0 6 21 a12 ∧ (∃ v16 : Int64, aJ M1 a12 x1 v16 ∧ (wMo_price_83 post v16 M1)))))))) ∧ (¬ v5 ≤ 0 → (wMo_price_83 post (0 : Int64) M1)))))
set_option maxRecDepth 100000 in
set_option maxHeartbeats 4000000 in
theorem tMo_price_36 {p : Program} {l : Launch} {e : Env} {s : State} {m : MethodId} {args : Array Value} {below : List Frame} {meth : Method} {c : Code} {D : va_G} {κ : Nat → ClassId} {A : Nat → Prop} (C : Cx_Mo_price p s m args meth c D κ A) (post : Int64 → Hp → Prop)  (x0 : Nat) (x1 : Int32) (x2 : Int32) (y0 : Int32) (y1 : Nat) (M : Hp) (hwp : wMo_price_36 post x0 x1 x2 y0 y1 M) : Y p l e rm_Mo_price s m args below meth c D kCl (hTys κ) A 3 0 0 (MQ below (va_Ql post (hB D kCl (hTys κ) A) A) args s 0 0 A) M 36 [(0, .ref x0), (1, .int x1), (2, .int x2)] [.int y0, .ref y1] := by
  obtain ⟨hx, hb, hml, hr, hown, hts, hlocks, hE, hA⟩ := id C
  have hK := hE.1
  intro H locs ls hM hS hl
  unfold wMo_price_36 at hwp
  obtain ⟨M1, ⟨fs2, he3, hl4, eM1⟩, hwp⟩ := hwp
  refine h_put (C := "BuckTablesModel") (T := Tc6) (N := 36) (v := .int y0) (ty := .int) hx hb hts inc6 tyc6 tyc6_ok nmc6 hown hK hM hS he3 rfl 0 (by decide) (hts _ kw_720) (fun _ h9 => h9) rfl (by decide +kernel) rfl rfl hl4 d_Mo_price_36 (fun H locs hM hS => ?_)
  rw [← eM1] at hM
  refine lv_aload_n hx hb d_Mo_price_39 rfl (lv_at hl 0 rfl) ?_
  obtain ⟨v5, ⟨fs6, he7, hv8⟩, hwp⟩ := hwp
  refine h_get (C := "BuckTablesModel") (T := Tc6) (N := 36) hx hb hts inc6 hown hK hM he7 rfl 0 (by decide) (hts _ kw_720) (fun _ h9 => h9) hv8 d_Mo_price_40 ?_
  refine lv_if_le (tgt := 50) hx hb d_Mo_price_43 (by decide) (fun c9 => ?_) (fun c9 => ?_)
  · replace hwp := hwp.1 c9
    refine lv_iload_n hx hb d_Mo_price_50 rfl (lv_at hl 2 rfl) ?_
    refine lv_if_ne (tgt := 63) hx hb d_Mo_price_51 (by decide) (fun c10 => ?_) (fun c10 => ?_)
    · replace hwp := hwp.2 c10
      refine lv_iload_n hx hb d_Mo_price_63 rfl (lv_at hl 2 rfl) ?_
      refine lv_iconst (v := 1) hx hb d_Mo_price_64 (by decide) ?_
      refine lv_icmp_ne (tgt := 77) hx hb d_Mo_price_65 (by decide) (fun c11 => ?_) (fun c11 => ?_)
      · replace hwp := hwp.2 c11
        refine lv_aload_n hx hb d_Mo_price_77 rfl (lv_at hl 0 rfl) ?_
        obtain ⟨a12, ⟨fs13, he14, hv15⟩, hwp⟩ := hwp
        refine h_get (C := "BuckTablesModel") (T := Tc6) (N := 36) hx hb hts inc6 hown hK hM he14 rfl 21 (by decide) (hts _ kw_741) (fun _ h9 => h9) hv15 d_Mo_price_78 ?_
        refine lv_iload_n hx hb d_Mo_price_81 rfl (lv_at hl 1 rfl) ?_
        obtain ⟨v16, ⟨n17, f18, ha19, hi20, ev16⟩, hwp⟩ := hwp
        refine h_lald hx hb hK hM ha19 rfl hi20 d_Mo_price_82 ?_
        rw [← ev16]
        exact tMo_price_83 C post v16 M1 hwp H locs ls hM hS (lv_sub hl [] rfl)
      · replace hwp := hwp.1 c11
        refine lv_aload_n hx hb d_Mo_price_68 rfl (lv_at hl 0 rfl) ?_
        refine lv_iload_n hx hb d_Mo_price_69 rfl (lv_at hl 1 rfl) ?_
        obtain ⟨ho22, hwp⟩ := hwp
        refine h_calli hM hS hA (va_runV (As := [.int x1]) (rest := []) ⟨hx, hb, hml, hown, hts⟩ (metMo_countOf l D κ H.size x0 x1 M1 _ hwp) (cwV 1 hts (gV kw_938 kw_940 kp_36 kw_8 kw_941) rfl rfl rfl (by decide +kernel) ⟨(Nat.le_of_ble_eq_true rfl), (Nat.le_of_ble_eq_true rfl)⟩) (h_preV hE hM hS ho22 (r := ("BuckTablesModel", Tc6, 36)) rfl) rfl rfl hl.1 rfl (lv_room (Nat.le_of_ble_eq_true rfl)) d_Mo_price_70 ⟨(Nat.le_of_ble_eq_true rfl), (Nat.le_of_ble_eq_true rfl)⟩) (fun r23 M21 H locs hwp hM hS => ?_)
        refine lv_i2l hx hb d_Mo_price_73 rfl ?_
        refine lv_goto (tgt := 83) hx hb d_Mo_price_74 (by decide) ?_
        exact tMo_price_83 C post (r23.toInt64) M21 hwp H locs ls hM hS (lv_sub hl [] rfl)
    · replace hwp := hwp.1 c10
      refine lv_aload_n hx hb d_Mo_price_54 rfl (lv_at hl 0 rfl) ?_
      obtain ⟨a24, ⟨fs25, he26, hv27⟩, hwp⟩ := hwp
      refine h_get (C := "BuckTablesModel") (T := Tc6) (N := 36) hx hb hts inc6 hown hK hM he26 rfl 24 (by decide) (hts _ kw_744) (fun _ h9 => h9) hv27 d_Mo_price_55 ?_
      refine lv_iload_n hx hb d_Mo_price_58 rfl (lv_at hl 1 rfl) ?_
      obtain ⟨v28, ⟨n29, f30, ha31, hi32, ev28⟩, hwp⟩ := hwp
      refine h_lald hx hb hK hM ha31 rfl hi32 d_Mo_price_59 ?_
      rw [← ev28]
      refine lv_goto (tgt := 83) hx hb d_Mo_price_60 (by decide) ?_
      exact tMo_price_83 C post v28 M1 hwp H locs ls hM hS (lv_sub hl [] rfl)
  · replace hwp := hwp.2 c9
    refine lv_lconst (v := 0) hx hb d_Mo_price_46 (by decide) ?_
    refine lv_goto (tgt := 83) hx hb d_Mo_price_47 (by decide) ?_
    exact tMo_price_83 C post (0 : Int64) M1 hwp H locs ls hM hS (lv_sub hl [] rfl)
def wMo_price_31 (post : Int64 → Hp → Prop)  (x0 : Nat) (x1 : Int32) (x2 : Int32) (y0 : Nat) (M : Hp) : Prop := (wMo_price_36 post x0 x1 x2 (2 : Int32) y0 M)
set_option maxRecDepth 100000 in
set_option maxHeartbeats 4000000 in
theorem tMo_price_31 {p : Program} {l : Launch} {e : Env} {s : State} {m : MethodId} {args : Array Value} {below : List Frame} {meth : Method} {c : Code} {D : va_G} {κ : Nat → ClassId} {A : Nat → Prop} (C : Cx_Mo_price p s m args meth c D κ A) (post : Int64 → Hp → Prop)  (x0 : Nat) (x1 : Int32) (x2 : Int32) (y0 : Nat) (M : Hp) (hwp : wMo_price_31 post x0 x1 x2 y0 M) : Y p l e rm_Mo_price s m args below meth c D kCl (hTys κ) A 3 0 0 (MQ below (va_Ql post (hB D kCl (hTys κ) A) A) args s 0 0 A) M 31 [(0, .ref x0), (1, .int x1), (2, .int x2)] [.ref y0] := by
  obtain ⟨hx, hb, hml, hr, hown, hts, hlocks, hE, hA⟩ := id C
  have hK := hE.1
  intro H locs ls hM hS hl
  unfold wMo_price_31 at hwp
  refine lv_iconst (v := 2) hx hb d_Mo_price_31 (by decide) ?_
  refine lv_goto (tgt := 36) hx hb d_Mo_price_32 (by decide) ?_
  exact tMo_price_36 C post x0 x1 x2 (2 : Int32) y0 M hwp H locs ls hM hS (lv_sub hl [0, 1, 2] rfl)
def wpMo_price (self : Nat) (p0 : Int32) (p1 : Int32) (M : Hp) (post : Int64 → Hp → Prop) : Prop := (hob M self 6 ∧ (wpMo_none self M (fun (r35 : Int32) (M33 : Hp) => ((r35 = 0 → ((p0 < 0 → (wMo_price_31 post self p0 p1 self M33)) ∧ (¬ p0 < 0 → (∃ v38 : Int32, fI M33 self 6 14 v38 ∧ ((v38 ≤ p0 → (wMo_price_31 post self p0 p1 self M33)) ∧ (¬ v38 ≤ p0 → ((p1 < 0 → (wMo_price_31 post self p0 p1 self M33)) ∧ (¬ p1 < 0 → ((p1 ≤ (2 : Int32) → (wMo_price_36 post self p0 p1 (0 : Int32) self M33)) ∧ (¬ p1 ≤ (2 : Int32) → (wMo_price_31 post self p0 p1 self M33))))))))))) ∧ (¬ r35 = 0 → (post (0 : Int64) M33))))))
set_option maxRecDepth 100000 in
set_option maxHeartbeats 4000000 in
theorem eMo_price {p : Program} {l : Launch} {e : Env} {s : State} {m : MethodId} {args : Array Value} {below : List Frame} {meth : Method} {c : Code} {D : va_G} {κ : Nat → ClassId} {A : Nat → Prop} (C : Cx_Mo_price p s m args meth c D κ A) (post : Int64 → Hp → Prop) (self : Nat) (p0 : Int32) (p1 : Int32) (M : Hp) (hwp : wpMo_price self p0 p1 M post) : Y p l e rm_Mo_price s m args below meth c D kCl (hTys κ) A 3 0 0 (MQ below (va_Ql post (hB D kCl (hTys κ) A) A) args s 0 0 A) M 0 [(0, .ref self), (1, .int p0), (2, .int p1)] [] := by
  obtain ⟨hx, hb, hml, hr, hown, hts, hlocks, hE, hA⟩ := id C
  have hK := hE.1
  intro H locs ls hM hS hl
  unfold wpMo_price at hwp
  refine lv_aload_n hx hb d_Mo_price_0 rfl (lv_at hl 0 rfl) ?_
  obtain ⟨ho34, hwp⟩ := hwp
  refine h_calli hM hS hA (va_runV (As := []) (rest := []) ⟨hx, hb, hml, hown, hts⟩ (metMo_none l D κ H.size self M _ hwp) (cwV 0 hts (gV kw_979 kw_981 kp_44 kw_8 kw_982) rfl rfl rfl (by decide +kernel) ⟨(Nat.le_of_ble_eq_true rfl), (Nat.le_of_ble_eq_true rfl)⟩) (h_preV hE hM hS ho34 (r := ("BuckTablesModel", Tc6, 36)) rfl) rfl rfl hl.1 rfl (lv_room (Nat.le_of_ble_eq_true rfl)) d_Mo_price_1 ⟨(Nat.le_of_ble_eq_true rfl), (Nat.le_of_ble_eq_true rfl)⟩) (fun r35 M33 H locs hwp hM hS => ?_)
  refine lv_if_eq (tgt := 9) hx hb d_Mo_price_4 (by decide) (fun c36 => ?_) (fun c36 => ?_)
  · replace hwp := hwp.1 c36
    refine lv_aload_n hx hb d_Mo_price_9 rfl (lv_at hl 0 rfl) ?_
    refine lv_iload_n hx hb d_Mo_price_10 rfl (lv_at hl 1 rfl) ?_
    refine lv_if_lt (tgt := 31) hx hb d_Mo_price_11 (by decide) (fun c37 => ?_) (fun c37 => ?_)
    · replace hwp := hwp.1 c37
      exact tMo_price_31 C post self p0 p1 self M33 hwp H locs ls hM hS (lv_sub hl [0, 1, 2] rfl)
    · replace hwp := hwp.2 c37
      refine lv_iload_n hx hb d_Mo_price_14 rfl (lv_at hl 1 rfl) ?_
      refine lv_aload_n hx hb d_Mo_price_15 rfl (lv_at hl 0 rfl) ?_
      obtain ⟨v38, ⟨fs39, he40, hv41⟩, hwp⟩ := hwp
      refine h_get (C := "BuckTablesModel") (T := Tc6) (N := 36) hx hb hts inc6 hown hK hM he40 rfl 14 (by decide) (hts _ kw_734) (fun _ h9 => h9) hv41 d_Mo_price_16 ?_
      refine lv_icmp_ge (tgt := 31) hx hb d_Mo_price_19 (by decide) (fun c42 => ?_) (fun c42 => ?_)
      · replace hwp := hwp.1 c42
        exact tMo_price_31 C post self p0 p1 self M33 hwp H locs ls hM hS (lv_sub hl [0, 1, 2] rfl)
      · replace hwp := hwp.2 c42
        refine lv_iload_n hx hb d_Mo_price_22 rfl (lv_at hl 2 rfl) ?_
        refine lv_if_lt (tgt := 31) hx hb d_Mo_price_23 (by decide) (fun c43 => ?_) (fun c43 => ?_)
        · replace hwp := hwp.1 c43
          exact tMo_price_31 C post self p0 p1 self M33 hwp H locs ls hM hS (lv_sub hl [0, 1, 2] rfl)
        · replace hwp := hwp.2 c43
          refine lv_iload_n hx hb d_Mo_price_26 rfl (lv_at hl 2 rfl) ?_
          refine lv_iconst (v := 2) hx hb d_Mo_price_27 (by decide) ?_
          refine lv_icmp_le (tgt := 35) hx hb d_Mo_price_28 (by decide) (fun c44 => ?_) (fun c44 => ?_)
          · replace hwp := hwp.1 c44
            refine lv_iconst (v := 0) hx hb d_Mo_price_35 (by decide) ?_
            exact tMo_price_36 C post self p0 p1 (0 : Int32) self M33 hwp H locs ls hM hS (lv_sub hl [0, 1, 2] rfl)
          · replace hwp := hwp.2 c44
            exact tMo_price_31 C post self p0 p1 self M33 hwp H locs ls hM hS (lv_sub hl [0, 1, 2] rfl)
  · replace hwp := hwp.2 c36
    refine lv_lconst (v := 0) hx hb d_Mo_price_7 (by decide) ?_
    exact W.lret (v := (0 : Int64)) hx hb hr (fun t ht hW => ⟨⟨(0 : Int64), M33, rfl, hwp, by show hw D kCl (hTys κ) A M33 t.heap; rw [ht]; exact hM⟩, hS.F ht⟩) hS.2.2 d_Mo_price_8
set_option maxRecDepth 100000 in
set_option maxHeartbeats 4000000 in
theorem metMo_price (l : Launch) (D : va_G) (κ : Nat → ClassId) (sz : Nat) (self : Nat) (p0 : Int32) (p1 : Int32) (M : Hp) (post : Int64 → Hp → Prop) (hwp : wpMo_price self p0 p1 M post) : Met l y_Mo_price ws_Mo_price rm_Mo_price (hPc D kCl (hTys κ) M sz [.ref self, .int p0, .int p1]) (va_Ql post (hB D kCl (hTys κ) (hAx M sz)) (hAx M sz)) 0 0 (hAx M sz) := by
  refine Met.ofW (cc := prog_8_method_46_code) (maxL := 3) (ret := (some .long)) (by decide +kernel) rfl ?_
  intro p e s m args below meth c s₁ B hml hv
  obtain ⟨rfl, hsz, hE, hM0⟩ := hv
  have hts : ∀ w ∈ WG, w.before _ s = true := fun w h => atoms_spec (ws := ws_Mo_price) B.pre w (List.mem_cons_of_mem _ h)
  subst hsz
  have C : Cx_Mo_price p s m _ meth c D κ (hAx M s.heap.size) := ⟨B.exec, B.bytes, hml, B.returns, findClass_of_methodNamed B.named, hts, B.notSynchronized, hE, fun q h => Or.inr h⟩
  have hl := lv_entry ([.ref self, .int p0, .int p1]) (n := 3) (Nat.le_of_ble_eq_true rfl)
  rw [lg_entry_eq]
  generalize (lg_sl ([.ref self, .int p0, .int p1]) ++ List.replicate (3 - (lg_sl ([.ref self, .int p0, .int p1])).length) Slot.unset).toArray = ls at hl ⊢
  exact eMo_price C post self p0 p1 M hwp s.heap [] ls (hM0.self (sz := s.heap.size)) va_S.rf hl
abbrev rm_Mo_override : Room := { frames := 5, cells := 0, slots := 0, locals := 134 }
def Cx_Mo_override (p : Program) (s : State) (m : MethodId) (args : Array Value) (meth : Method) (c : Code) (D : va_G) (κ : Nat → ClassId) (A : Nat → Prop) : Prop := p.tables.exec = Jvm.exec ∧ c.code = prog_8_method_47_code ∧ c.maxLocals = 5 ∧ meth.sig.returnType = (some .int) ∧ s.vm.findClass "BuckTablesModel" = some m.cls ∧ (∀ w ∈ WG, w.before args s = true) ∧ meth.locks = false ∧ hEnv D kCl (hTys κ) A s ∧ (∀ q, s.heap.size ≤ q → A q)
def wMo_override_112 (post : Int32 → Hp → Prop)  (x0 : Nat) (x2 : Int64) (M : Hp) : Prop := (hob M x0 6 ∧ (wpMo_trueWorth x0 M (fun (r3 : Int64) (M1 : Hp) => (post ((x2 - r3).toInt32) M1))))
set_option maxRecDepth 100000 in
set_option maxHeartbeats 4000000 in
theorem tMo_override_112 {p : Program} {l : Launch} {e : Env} {s : State} {m : MethodId} {args : Array Value} {below : List Frame} {meth : Method} {c : Code} {D : va_G} {κ : Nat → ClassId} {A : Nat → Prop} (C : Cx_Mo_override p s m args meth c D κ A) (post : Int32 → Hp → Prop)  (x0 : Nat) (x2 : Int64) (M : Hp) (hwp : wMo_override_112 post x0 x2 M) : Y p l e rm_Mo_override s m args below meth c D kCl (hTys κ) A 5 0 0 (MQ below (va_Qi post (hB D kCl (hTys κ) A) A) args s 0 0 A) M 112 [(0, .ref x0), (2, .long x2)] [] := by
  obtain ⟨hx, hb, hml, hr, hown, hts, hlocks, hE, hA⟩ := id C
  have hK := hE.1
  intro H locs ls hM hS hl
  unfold wMo_override_112 at hwp
  refine lv_lload_n hx hb d_Mo_override_112 rfl (lv_at hl 1 rfl) ?_
  refine lv_aload_n hx hb d_Mo_override_113 rfl (lv_at hl 0 rfl) ?_
  obtain ⟨ho2, hwp⟩ := hwp
  refine h_calll hM hS hA (va_runV (As := []) (rest := [.long x2]) ⟨hx, hb, hml, hown, hts⟩ (metMo_trueWorth l D κ H.size x0 M _ hwp) (cwV 0 hts (gV kw_955 kw_957 kp_39 kw_8 kw_958) rfl rfl rfl (by decide +kernel) ⟨(Nat.le_of_ble_eq_true rfl), (Nat.le_of_ble_eq_true rfl)⟩) (h_preV hE hM hS ho2 (r := ("BuckTablesModel", Tc6, 36)) rfl) rfl rfl hl.1 rfl (lv_room (Nat.le_of_ble_eq_true rfl)) d_Mo_override_114 ⟨(Nat.le_of_ble_eq_true rfl), (Nat.le_of_ble_eq_true rfl)⟩) (fun r3 M1 H locs hwp hM hS => ?_)
  refine lv_lsub hx hb d_Mo_override_117 ?_
  refine lv_l2i hx hb d_Mo_override_118 rfl ?_
  exact W.iret (v := ((x2 - r3).toInt32)) hx hb hr (fun t ht hW => ⟨⟨((x2 - r3).toInt32), M1, rfl, hwp, by show hw D kCl (hTys κ) A M1 t.heap; rw [ht]; exact hM⟩, hS.F ht⟩) hS.2.2 d_Mo_override_119
def wMo_override_47 (post : Int32 → Hp → Prop)  (x0 : Nat) (x1 : Int32) (y0 : Int32) (y1 : Nat) (M : Hp) : Prop := (∃ M4 : Hp, pF M y1 6 0 (.int y0) M4 ∧ (∃ v8 : Int32, fI M4 x0 6 0 v8 ∧ ((v8 ≤ 0 → (hob M4 x0 6 ∧ (wpMo_trueWorth x0 M4 (fun (r15 : Int64) (M13 : Hp) => (∃ a16 : Nat, fA M13 x0 6 13 a16 ∧ (∃ v20 : Int32, fI M13 x0 6 4 v20 ∧ (∃ v24 : Int32, fI M13 x0 6 1 v24 ∧ (¬ v24 = 0 ∧ (∃ M33 : Hp, sZ M13 a16 (((81 : Int32) * (v20 - (1 : Int32))) + (x1 / v24)) (1 : Int32) M33 ∧ (∃ v34 : Int32, fI M33 x0 6 34 v34 ∧ ((v34 = 0 → (hob M33 x0 6 ∧ (wpMo_run x0 M33 (fun (r48 : Int32) (M46 : Hp) => (wMo_override_112 post x0 r15 M46))))) ∧ (¬ v34 = 0 → (∃ v39 : Int32, fI M33 x0 6 34 v39 ∧ (hob M33 x0 6 ∧ (wpMo_goRounds x0 v39 M33 (fun (r45 : Int32) (M43 : Hp) => (wMo_override_112 post x0 r15 M43))))))))))))))))) ∧ (¬ v8 ≤ 0 → (post (0 : Int32) M4)))))
set_option maxRecDepth 100000 in
set_option maxHeartbeats 4000000 in
theorem tMo_override_47 {p : Program} {l : Launch} {e : Env} {s : State} {m : MethodId} {args : Array Value} {below : List Frame} {meth : Method} {c : Code} {D : va_G} {κ : Nat → ClassId} {A : Nat → Prop} (C : Cx_Mo_override p s m args meth c D κ A) (post : Int32 → Hp → Prop)  (x0 : Nat) (x1 : Int32) (y0 : Int32) (y1 : Nat) (M : Hp) (hwp : wMo_override_47 post x0 x1 y0 y1 M) : Y p l e rm_Mo_override s m args below meth c D kCl (hTys κ) A 5 0 0 (MQ below (va_Qi post (hB D kCl (hTys κ) A) A) args s 0 0 A) M 47 [(0, .ref x0), (1, .int x1)] [.int y0, .ref y1] := by
  obtain ⟨hx, hb, hml, hr, hown, hts, hlocks, hE, hA⟩ := id C
  have hK := hE.1
  intro H locs ls hM hS hl
  unfold wMo_override_47 at hwp
  obtain ⟨M4, ⟨fs5, he6, hl7, eM4⟩, hwp⟩ := hwp
  refine h_put (C := "BuckTablesModel") (T := Tc6) (N := 36) (v := .int y0) (ty := .int) hx hb hts inc6 tyc6 tyc6_ok nmc6 hown hK hM hS he6 rfl 0 (by decide) (hts _ kw_720) (fun _ h9 => h9) rfl (by decide +kernel) rfl rfl hl7 d_Mo_override_47 (fun H locs hM hS => ?_)
  rw [← eM4] at hM
  refine lv_aload_n hx hb d_Mo_override_50 rfl (lv_at hl 0 rfl) ?_
  obtain ⟨v8, ⟨fs9, he10, hv11⟩, hwp⟩ := hwp
  refine h_get (C := "BuckTablesModel") (T := Tc6) (N := 36) hx hb hts inc6 hown hK hM he10 rfl 0 (by decide) (hts _ kw_720) (fun _ h9 => h9) hv11 d_Mo_override_51 ?_
  refine lv_if_le (tgt := 59) hx hb d_Mo_override_54 (by decide) (fun c12 => ?_) (fun c12 => ?_)
  · replace hwp := hwp.1 c12
    refine lv_aload_n hx hb d_Mo_override_59 rfl (lv_at hl 0 rfl) ?_
    obtain ⟨ho14, hwp⟩ := hwp
    refine h_calll hM hS hA (va_runV (As := []) (rest := []) ⟨hx, hb, hml, hown, hts⟩ (metMo_trueWorth l D κ H.size x0 M4 _ hwp) (cwV 0 hts (gV kw_955 kw_957 kp_39 kw_8 kw_958) rfl rfl rfl (by decide +kernel) ⟨(Nat.le_of_ble_eq_true rfl), (Nat.le_of_ble_eq_true rfl)⟩) (h_preV hE hM hS ho14 (r := ("BuckTablesModel", Tc6, 36)) rfl) rfl rfl hl.1 rfl (lv_room (Nat.le_of_ble_eq_true rfl)) d_Mo_override_60 ⟨(Nat.le_of_ble_eq_true rfl), (Nat.le_of_ble_eq_true rfl)⟩) (fun r15 M13 H locs hwp hM hS => ?_)
    refine lv_lstore_n (lv' := [(2, .long r15), (0, .ref x0), (1, .int x1)]) hx hb d_Mo_override_63 rfl hl (by decide) rfl (fun ls hl => ?_)
    refine lv_aload_n hx hb d_Mo_override_64 rfl (lv_at hl 1 rfl) ?_
    obtain ⟨a16, ⟨fs17, he18, hv19⟩, hwp⟩ := hwp
    refine h_get (C := "BuckTablesModel") (T := Tc6) (N := 36) hx hb hts inc6 hown hK hM he18 rfl 13 (by decide) (hts _ kw_733) (fun _ h9 => h9) hv19 d_Mo_override_65 ?_
    refine lv_bipush (v := 81) hx hb d_Mo_override_68 (by decide) ?_
    refine lv_aload_n hx hb d_Mo_override_70 rfl (lv_at hl 1 rfl) ?_
    obtain ⟨v20, ⟨fs21, he22, hv23⟩, hwp⟩ := hwp
    refine h_get (C := "BuckTablesModel") (T := Tc6) (N := 36) hx hb hts inc6 hown hK hM he22 rfl 4 (by decide) (hts _ kw_724) (fun _ h9 => h9) hv23 d_Mo_override_71 ?_
    refine lv_iconst (v := 1) hx hb d_Mo_override_74 (by decide) ?_
    refine lv_isub hx hb d_Mo_override_75 ?_
    refine lv_imul hx hb d_Mo_override_76 ?_
    refine lv_iload_n hx hb d_Mo_override_77 rfl (lv_at hl 2 rfl) ?_
    refine lv_aload_n hx hb d_Mo_override_78 rfl (lv_at hl 1 rfl) ?_
    obtain ⟨v24, ⟨fs25, he26, hv27⟩, hwp⟩ := hwp
    refine h_get (C := "BuckTablesModel") (T := Tc6) (N := 36) hx hb hts inc6 hown hK hM he26 rfl 1 (by decide) (hts _ kw_721) (fun _ h9 => h9) hv27 d_Mo_override_79 ?_
    obtain ⟨h28, hwp⟩ := hwp
    refine lv_idiv hx hb d_Mo_override_82 h28 ?_
    refine lv_iadd hx hb d_Mo_override_83 ?_
    refine lv_iconst (v := 1) hx hb d_Mo_override_84 (by decide) ?_
    obtain ⟨M33, ⟨n29, f30, ha31, hi32, eM33⟩, hwp⟩ := hwp
    refine h_zast hx hb hK hM hS ha31 rfl hi32 d_Mo_override_85 (fun H locs hM hS => ?_)
    rw [← eM33] at hM
    refine lv_aload_n hx hb d_Mo_override_86 rfl (lv_at hl 1 rfl) ?_
    obtain ⟨v34, ⟨fs35, he36, hv37⟩, hwp⟩ := hwp
    refine h_get (C := "BuckTablesModel") (T := Tc6) (N := 36) hx hb hts inc6 hown hK hM he36 rfl 34 (by decide) (hts _ kw_754) (fun _ h9 => h9) hv37 d_Mo_override_87 ?_
    refine lv_if_ne (tgt := 102) hx hb d_Mo_override_90 (by decide) (fun c38 => ?_) (fun c38 => ?_)
    · replace hwp := hwp.2 c38
      refine lv_aload_n hx hb d_Mo_override_102 rfl (lv_at hl 1 rfl) ?_
      refine lv_aload_n hx hb d_Mo_override_103 rfl (lv_at hl 1 rfl) ?_
      obtain ⟨v39, ⟨fs40, he41, hv42⟩, hwp⟩ := hwp
      refine h_get (C := "BuckTablesModel") (T := Tc6) (N := 36) hx hb hts inc6 hown hK hM he41 rfl 34 (by decide) (hts _ kw_754) (fun _ h9 => h9) hv42 d_Mo_override_104 ?_
      obtain ⟨ho44, hwp⟩ := hwp
      refine h_calli hM hS hA (va_runV (As := [.int v39]) (rest := []) ⟨hx, hb, hml, hown, hts⟩ (metMo_goRounds l D κ H.size x0 v39 M33 _ hwp) (cwV 1 hts (gV kw_947 kw_949 kp_37 kw_8 kw_950) rfl rfl rfl (by decide +kernel) ⟨(Nat.le_of_ble_eq_true rfl), (Nat.le_of_ble_eq_true rfl)⟩) (h_preV hE hM hS ho44 (r := ("BuckTablesModel", Tc6, 36)) rfl) rfl rfl hl.1 rfl (lv_room (Nat.le_of_ble_eq_true rfl)) d_Mo_override_107 ⟨(Nat.le_of_ble_eq_true rfl), (Nat.le_of_ble_eq_true rfl)⟩) (fun r45 M43 H locs hwp hM hS => ?_)
      refine lv_istore (lv' := [(4, .int r45), (2, .long r15), (0, .ref x0), (1, .int x1)]) hx hb d_Mo_override_110 hl (by decide) rfl (fun ls hl => ?_)
      exact tMo_override_112 C post x0 r15 M43 hwp H locs ls hM hS (lv_sub hl [2, 1] rfl)
    · replace hwp := hwp.1 c38
      refine lv_aload_n hx hb d_Mo_override_93 rfl (lv_at hl 1 rfl) ?_
      obtain ⟨ho47, hwp⟩ := hwp
      refine h_calli hM hS hA (va_runV (As := []) (rest := []) ⟨hx, hb, hml, hown, hts⟩ (metMo_run l D κ H.size x0 M33 _ hwp) (cwV 0 hts (gV kw_1021 kw_899 kw_900 kw_8 kw_901) rfl rfl rfl (by decide +kernel) ⟨(Nat.le_of_ble_eq_true rfl), (Nat.le_of_ble_eq_true rfl)⟩) (h_preV hE hM hS ho47 (r := ("BuckTablesModel", Tc6, 36)) rfl) rfl rfl hl.1 rfl (lv_room (Nat.le_of_ble_eq_true rfl)) d_Mo_override_94 ⟨(Nat.le_of_ble_eq_true rfl), (Nat.le_of_ble_eq_true rfl)⟩) (fun r48 M46 H locs hwp hM hS => ?_)
      refine lv_istore (lv' := [(4, .int r48), (2, .long r15), (0, .ref x0), (1, .int x1)]) hx hb d_Mo_override_97 hl (by decide) rfl (fun ls hl => ?_)
      refine lv_goto (tgt := 112) hx hb d_Mo_override_99 (by decide) ?_
      exact tMo_override_112 C post x0 r15 M46 hwp H locs ls hM hS (lv_sub hl [2, 1] rfl)
  · replace hwp := hwp.2 c12
    refine lv_iconst (v := 0) hx hb d_Mo_override_57 (by decide) ?_
    exact W.iret (v := (0 : Int32)) hx hb hr (fun t ht hW => ⟨⟨(0 : Int32), M4, rfl, hwp, by show hw D kCl (hTys κ) A M4 t.heap; rw [ht]; exact hM⟩, hS.F ht⟩) hS.2.2 d_Mo_override_58
def wMo_override_42 (post : Int32 → Hp → Prop)  (x0 : Nat) (x1 : Int32) (y0 : Nat) (M : Hp) : Prop := (wMo_override_47 post x0 x1 (2 : Int32) y0 M)
set_option maxRecDepth 100000 in
set_option maxHeartbeats 4000000 in
theorem tMo_override_42 {p : Program} {l : Launch} {e : Env} {s : State} {m : MethodId} {args : Array Value} {below : List Frame} {meth : Method} {c : Code} {D : va_G} {κ : Nat → ClassId} {A : Nat → Prop} (C : Cx_Mo_override p s m args meth c D κ A) (post : Int32 → Hp → Prop)  (x0 : Nat) (x1 : Int32) (y0 : Nat) (M : Hp) (hwp : wMo_override_42 post x0 x1 y0 M) : Y p l e rm_Mo_override s m args below meth c D kCl (hTys κ) A 5 0 0 (MQ below (va_Qi post (hB D kCl (hTys κ) A) A) args s 0 0 A) M 42 [(0, .ref x0), (1, .int x1)] [.ref y0] := by
  obtain ⟨hx, hb, hml, hr, hown, hts, hlocks, hE, hA⟩ := id C
  have hK := hE.1
  intro H locs ls hM hS hl
  unfold wMo_override_42 at hwp
  refine lv_iconst (v := 2) hx hb d_Mo_override_42 (by decide) ?_
  refine lv_goto (tgt := 47) hx hb d_Mo_override_43 (by decide) ?_
  exact tMo_override_47 C post x0 x1 (2 : Int32) y0 M hwp H locs ls hM hS (lv_sub hl [0, 1] rfl)
def wpMo_override (self : Nat) (p0 : Int32) (M : Hp) (post : Int32 → Hp → Prop) : Prop := (hob M self 6 ∧ (wpMo_none self M (fun (r51 : Int32) (M49 : Hp) => ((r51 = 0 → (hob M49 self 6 ∧ (wpMo_isEnd self p0 M49 (fun (r55 : Int32) (M53 : Hp) => ((r55 = 0 → (wMo_override_42 post self p0 self M53)) ∧ (¬ r55 = 0 → (∃ a57 : Nat, fA M53 self 6 13 a57 ∧ (∃ v61 : Int32, fI M53 self 6 4 v61 ∧ (∃ v65 : Int32, fI M53 self 6 1 v65 ∧ (¬ v65 = 0 ∧ (∃ v70 : Int32, aZ M53 a57 (((81 : Int32) * (v61 - (1 : Int32))) + (p0 / v65)) v70 ∧ ((v70 = 0 → (wMo_override_47 post self p0 (0 : Int32) self M53)) ∧ (¬ v70 = 0 → (wMo_override_42 post self p0 self M53)))))))))))))) ∧ (¬ r51 = 0 → (post (0 : Int32) M49))))))
set_option maxRecDepth 100000 in
set_option maxHeartbeats 4000000 in
theorem eMo_override {p : Program} {l : Launch} {e : Env} {s : State} {m : MethodId} {args : Array Value} {below : List Frame} {meth : Method} {c : Code} {D : va_G} {κ : Nat → ClassId} {A : Nat → Prop} (C : Cx_Mo_override p s m args meth c D κ A) (post : Int32 → Hp → Prop) (self : Nat) (p0 : Int32) (M : Hp) (hwp : wpMo_override self p0 M post) : Y p l e rm_Mo_override s m args below meth c D kCl (hTys κ) A 5 0 0 (MQ below (va_Qi post (hB D kCl (hTys κ) A) A) args s 0 0 A) M 0 [(0, .ref self), (1, .int p0)] [] := by
  obtain ⟨hx, hb, hml, hr, hown, hts, hlocks, hE, hA⟩ := id C
  have hK := hE.1
  intro H locs ls hM hS hl
  unfold wpMo_override at hwp
  refine lv_aload_n hx hb d_Mo_override_0 rfl (lv_at hl 0 rfl) ?_
  obtain ⟨ho50, hwp⟩ := hwp
  refine h_calli hM hS hA (va_runV (As := []) (rest := []) ⟨hx, hb, hml, hown, hts⟩ (metMo_none l D κ H.size self M _ hwp) (cwV 0 hts (gV kw_979 kw_981 kp_44 kw_8 kw_982) rfl rfl rfl (by decide +kernel) ⟨(Nat.le_of_ble_eq_true rfl), (Nat.le_of_ble_eq_true rfl)⟩) (h_preV hE hM hS ho50 (r := ("BuckTablesModel", Tc6, 36)) rfl) rfl rfl hl.1 rfl (lv_room (Nat.le_of_ble_eq_true rfl)) d_Mo_override_1 ⟨(Nat.le_of_ble_eq_true rfl), (Nat.le_of_ble_eq_true rfl)⟩) (fun r51 M49 H locs hwp hM hS => ?_)
  refine lv_if_eq (tgt := 9) hx hb d_Mo_override_4 (by decide) (fun c52 => ?_) (fun c52 => ?_)
  · replace hwp := hwp.1 c52
    refine lv_aload_n hx hb d_Mo_override_9 rfl (lv_at hl 0 rfl) ?_
    refine lv_aload_n hx hb d_Mo_override_10 rfl (lv_at hl 0 rfl) ?_
    refine lv_iload_n hx hb d_Mo_override_11 rfl (lv_at hl 1 rfl) ?_
    obtain ⟨ho54, hwp⟩ := hwp
    refine h_calli hM hS hA (va_runV (As := [.int p0]) (rest := [.ref self]) ⟨hx, hb, hml, hown, hts⟩ (metMo_isEnd l D κ H.size self p0 M49 _ hwp) (cwV 1 hts (gV kw_871 kw_873 kp_25 kw_8 kw_874) rfl rfl rfl (by decide +kernel) ⟨(Nat.le_of_ble_eq_true rfl), (Nat.le_of_ble_eq_true rfl)⟩) (h_preV hE hM hS ho54 (r := ("BuckTablesModel", Tc6, 36)) rfl) rfl rfl hl.1 rfl (lv_room (Nat.le_of_ble_eq_true rfl)) d_Mo_override_12 ⟨(Nat.le_of_ble_eq_true rfl), (Nat.le_of_ble_eq_true rfl)⟩) (fun r55 M53 H locs hwp hM hS => ?_)
    refine lv_if_eq (tgt := 42) hx hb d_Mo_override_15 (by decide) (fun c56 => ?_) (fun c56 => ?_)
    · replace hwp := hwp.1 c56
      exact tMo_override_42 C post self p0 self M53 hwp H locs ls hM hS (lv_sub hl [0, 1] rfl)
    · replace hwp := hwp.2 c56
      refine lv_aload_n hx hb d_Mo_override_18 rfl (lv_at hl 0 rfl) ?_
      obtain ⟨a57, ⟨fs58, he59, hv60⟩, hwp⟩ := hwp
      refine h_get (C := "BuckTablesModel") (T := Tc6) (N := 36) hx hb hts inc6 hown hK hM he59 rfl 13 (by decide) (hts _ kw_733) (fun _ h9 => h9) hv60 d_Mo_override_19 ?_
      refine lv_bipush (v := 81) hx hb d_Mo_override_22 (by decide) ?_
      refine lv_aload_n hx hb d_Mo_override_24 rfl (lv_at hl 0 rfl) ?_
      obtain ⟨v61, ⟨fs62, he63, hv64⟩, hwp⟩ := hwp
      refine h_get (C := "BuckTablesModel") (T := Tc6) (N := 36) hx hb hts inc6 hown hK hM he63 rfl 4 (by decide) (hts _ kw_724) (fun _ h9 => h9) hv64 d_Mo_override_25 ?_
      refine lv_iconst (v := 1) hx hb d_Mo_override_28 (by decide) ?_
      refine lv_isub hx hb d_Mo_override_29 ?_
      refine lv_imul hx hb d_Mo_override_30 ?_
      refine lv_iload_n hx hb d_Mo_override_31 rfl (lv_at hl 1 rfl) ?_
      refine lv_aload_n hx hb d_Mo_override_32 rfl (lv_at hl 0 rfl) ?_
      obtain ⟨v65, ⟨fs66, he67, hv68⟩, hwp⟩ := hwp
      refine h_get (C := "BuckTablesModel") (T := Tc6) (N := 36) hx hb hts inc6 hown hK hM he67 rfl 1 (by decide) (hts _ kw_721) (fun _ h9 => h9) hv68 d_Mo_override_33 ?_
      obtain ⟨h69, hwp⟩ := hwp
      refine lv_idiv hx hb d_Mo_override_36 h69 ?_
      refine lv_iadd hx hb d_Mo_override_37 ?_
      obtain ⟨v70, ⟨n71, f72, ha73, hi74, ev70⟩, hwp⟩ := hwp
      refine h_zald hx hb hK hM ha73 rfl hi74 d_Mo_override_38 ?_
      rw [← ev70]
      refine lv_if_eq (tgt := 46) hx hb d_Mo_override_39 (by decide) (fun c75 => ?_) (fun c75 => ?_)
      · replace hwp := hwp.1 c75
        refine lv_iconst (v := 0) hx hb d_Mo_override_46 (by decide) ?_
        exact tMo_override_47 C post self p0 (0 : Int32) self M53 hwp H locs ls hM hS (lv_sub hl [0, 1] rfl)
      · replace hwp := hwp.2 c75
        exact tMo_override_42 C post self p0 self M53 hwp H locs ls hM hS (lv_sub hl [0, 1] rfl)
  · replace hwp := hwp.2 c52
    refine lv_iconst (v := 0) hx hb d_Mo_override_7 (by decide) ?_
    exact W.iret (v := (0 : Int32)) hx hb hr (fun t ht hW => ⟨⟨(0 : Int32), M49, rfl, hwp, by show hw D kCl (hTys κ) A M49 t.heap; rw [ht]; exact hM⟩, hS.F ht⟩) hS.2.2 d_Mo_override_8
set_option maxRecDepth 100000 in
set_option maxHeartbeats 4000000 in
theorem metMo_override (l : Launch) (D : va_G) (κ : Nat → ClassId) (sz : Nat) (self : Nat) (p0 : Int32) (M : Hp) (post : Int32 → Hp → Prop) (hwp : wpMo_override self p0 M post) : Met l y_Mo_override ws_Mo_override rm_Mo_override (hPc D kCl (hTys κ) M sz [.ref self, .int p0]) (va_Qi post (hB D kCl (hTys κ) (hAx M sz)) (hAx M sz)) 0 0 (hAx M sz) := by
  refine Met.ofW (cc := prog_8_method_47_code) (maxL := 5) (ret := (some .int)) (by decide +kernel) rfl ?_
  intro p e s m args below meth c s₁ B hml hv
  obtain ⟨rfl, hsz, hE, hM0⟩ := hv
  have hts : ∀ w ∈ WG, w.before _ s = true := fun w h => atoms_spec (ws := ws_Mo_override) B.pre w (List.mem_cons_of_mem _ h)
  subst hsz
  have C : Cx_Mo_override p s m _ meth c D κ (hAx M s.heap.size) := ⟨B.exec, B.bytes, hml, B.returns, findClass_of_methodNamed B.named, hts, B.notSynchronized, hE, fun q h => Or.inr h⟩
  have hl := lv_entry ([.ref self, .int p0]) (n := 5) (Nat.le_of_ble_eq_true rfl)
  rw [lg_entry_eq]
  generalize (lg_sl ([.ref self, .int p0]) ++ List.replicate (5 - (lg_sl ([.ref self, .int p0])).length) Slot.unset).toArray = ls at hl ⊢
  exact eMo_override C post self p0 M hwp s.heap [] ls (hM0.self (sz := s.heap.size)) va_S.rf hl
