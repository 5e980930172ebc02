abbrev rm_BT_fuel : Room := { frames := 7, cells := 3, slots := 18, locals := 111 }
def Cx_BT_fuel (p : Program) (s : State) (m : MethodId) (args : Array Value) (meth : Method) (c : Code) (D : va_G) (κ : Nat → ClassId) (A : Nat → Prop) : Prop := p.tables.exec = Jvm.exec ∧ c.code = prog_1_method_16_code ∧ c.maxLocals = 4 ∧ meth.sig.returnType = (some .int) ∧ s.vm.findClass "BuckTables" = some m.cls ∧ (∀ w ∈ WG, w.before args s = true) ∧ meth.locks = false ∧ hEnv D kCl (hTys κ) A s ∧ (∀ q, s.heap.size ≤ q → A q) ∧ c.exceptionTable.isEmpty = true
def wBT_fuel_40 (post : Int32 → Hp → Prop) (px : String → Hp → Prop)   (y0 : Int32) (M : Hp) : Prop := (post y0 M)
set_option maxRecDepth 100000 in
set_option maxHeartbeats 4000000 in
theorem tBT_fuel_40 {p : Program} {l : Launch} {e : Env} {s : State} {m : MethodId} {args : Array Value} {below : List Frame} {meth : Method} {c : Code} {D : va_G} {κ : Nat → ClassId} {A : Nat → Prop} (C : Cx_BT_fuel p s m args meth c D κ A) (hst : l.stackTraces = false) (post : Int32 → Hp → Prop) (px : String → Hp → Prop)   (y0 : Int32) (M : Hp) (hwp : wBT_fuel_40 post px y0 M) : Y p l e rm_BT_fuel s m args below meth c D kCl (hTys κ) A 4 3 18 (xMQ below (va_Qi post (hB D kCl (hTys κ) A) A) D kCl (hTys κ) A px args s 3 18) M 40 [] [.int y0] := by
  obtain ⟨hx, hb, hml, hr, hown, hts, hlocks, hE, hA, hnoex⟩ := id C
  have hK := hE.1
  intro H locs ls hM hS hl
  unfold wBT_fuel_40 at hwp
  exact x_ret (W.iret (v := y0) hx hb hr (fun t ht hW => ⟨⟨y0, M, rfl, hwp, by show hw D kCl (hTys κ) A M t.heap; rw [ht]; exact hM⟩, hS.F ht⟩) hS.2.2 d_BT_fuel_40)
def wpBT_fuel (self : Nat) (p0 : Int32) (p1 : Int32) (M : Hp) (post : Int32 → Hp → Prop) (px : String → Hp → Prop) : Prop := (hob M self 0 ∧ (wpBT_needPlan self M (fun (M1 : Hp) => (∃ a3 : Nat, fA M1 self 0 7 a3 ∧ (hob M1 a3 5 ∧ (wpPl_countFuelRows a3 M1 (fun (r9 : Int32) (M7 : Hp) => (wpBT_needRow p0 r9 M7 (fun (M10 : Hp) => (wpBT_needPart p1 (3 : Int32) M10 (fun (M11 : Hp) => ((p0 = (-1 : Int32) → (wBT_fuel_40 post px r9 M11)) ∧ (¬ p0 = (-1 : Int32) → (∃ a13 : Nat, fA M11 self 0 7 a13 ∧ (hob M11 a13 5 ∧ (wpPl_tellFuel a13 p0 p1 M11 (fun (r19 : Int32) (M17 : Hp) => (wBT_fuel_40 post px r19 M17)))))))) px)) px)))))) px))
set_option maxRecDepth 100000 in
set_option maxHeartbeats 4000000 in
theorem eBT_fuel {p : Program} {l : Launch} {e : Env} {s : State} {m : MethodId} {args : Array Value} {below : List Frame} {meth : Method} {c : Code} {D : va_G} {κ : Nat → ClassId} {A : Nat → Prop} (C : Cx_BT_fuel p s m args meth c D κ A) (hst : l.stackTraces = false) (post : Int32 → Hp → Prop) (px : String → Hp → Prop) (self : Nat) (p0 : Int32) (p1 : Int32) (M : Hp) (hwp : wpBT_fuel self p0 p1 M post px) : Y p l e rm_BT_fuel s m args below meth c D kCl (hTys κ) A 4 0 0 (xMQ below (va_Qi post (hB D kCl (hTys κ) A) A) D kCl (hTys κ) A px args s 3 18) M 0 [(0, .ref self), (1, .int p0), (2, .int p1)] [] := by
  obtain ⟨hx, hb, hml, hr, hown, hts, hlocks, hE, hA, hnoex⟩ := id C
  have hK := hE.1
  intro H locs ls hM hS hl
  unfold wpBT_fuel at hwp
  refine lv_aload_n hx hb d_BT_fuel_0 rfl (lv_at hl 0 rfl) ?_
  obtain ⟨ho2, hwp⟩ := hwp
  refine h_xcallv hM hS hA (x_runV (As := []) (rest := []) ⟨hx, hb, hml, hown, hts⟩ (metBT_needPlan l hst D κ H.size self M _ px hwp) (cwV 0 hts (gV kw_633 kw_635 kp_19 kw_1 kw_636) rfl rfl rfl (by decide +kernel) ⟨(Nat.le_of_ble_eq_true rfl), (Nat.le_of_ble_eq_true rfl)⟩) (h_preV hE hM hS ho2 (r := ("BuckTables", Tc0, 12)) rfl) rfl rfl hl.1 rfl (lv_room (Nat.le_of_ble_eq_true rfl)) d_BT_fuel_1 ⟨(Nat.le_of_ble_eq_true rfl), (Nat.le_of_ble_eq_true rfl)⟩) (fun E9 M9 q9 ce9 H locs hwp hM hS hce hcv hcl => x_out (x_empty hnoex) hlocks hM hS hwp hce hcv hcl (Nat.le_of_ble_eq_true rfl) (Nat.le_of_ble_eq_true rfl)) (fun M1 H locs hwp hM hS => ?_)
  refine lv_aload_n hx hb d_BT_fuel_4 rfl (lv_at hl 0 rfl) ?_
  obtain ⟨a3, ⟨fs4, he5, hv6⟩, hwp⟩ := hwp
  refine h_get (C := "BuckTables") (T := Tc0) (N := 12) hx hb hts inc0 hown hK hM he5 rfl 7 (by decide) (hts _ kw_209) (fun _ h9 => h9) hv6 d_BT_fuel_5 ?_
  obtain ⟨ho8, hwp⟩ := hwp
  refine h_calli hM hS hA (va_runV (As := []) (rest := []) ⟨hx, hb, hml, hown, hts⟩ (metPl_countFuelRows l D κ H.size a3 M1 _ hwp) (cwV 0 hts (gV kw_661 kw_662 kw_663 kw_4 kw_664) rfl rfl rfl (by decide +kernel) ⟨(Nat.le_of_ble_eq_true rfl), (Nat.le_of_ble_eq_true rfl)⟩) (h_preV hE hM hS ho8 (r := ("BuckTables$Plan", Tc5, 5)) rfl) rfl rfl hl.1 rfl (lv_room (Nat.le_of_ble_eq_true rfl)) d_BT_fuel_8 ⟨(Nat.le_of_ble_eq_true rfl), (Nat.le_of_ble_eq_true rfl)⟩) (fun r9 M7 H locs hwp hM hS => ?_)
  refine lv_istore_n (lv' := [(3, .int r9), (0, .ref self), (1, .int p0), (2, .int p1)]) hx hb d_BT_fuel_11 rfl hl (by decide) rfl (fun ls hl => ?_)
  refine lv_iload_n hx hb d_BT_fuel_12 rfl (lv_at hl 2 rfl) ?_
  refine lv_iload_n hx hb d_BT_fuel_13 rfl (lv_at hl 0 rfl) ?_
  refine h_xcallv hM hS hA (x_runS (As := [.int p0, .int r9]) (rest := []) ⟨hx, hb, hml, hown, hts⟩ (metBT_needRow l hst D κ H.size p0 r9 M7 _ px hwp) (cwS 2 hts (gS kw_645 kw_646 kw_1 kw_647) rfl rfl rfl (by decide +kernel) ⟨(Nat.le_of_ble_eq_true rfl), (Nat.le_of_ble_eq_true rfl)⟩) (h_preS hE hM hS) rfl rfl hl.1 rfl (lv_room (Nat.le_of_ble_eq_true rfl)) d_BT_fuel_14 ⟨(Nat.le_of_ble_eq_true rfl), (Nat.le_of_ble_eq_true rfl)⟩) (fun E9 M9 q9 ce9 H locs hwp hM hS hce hcv hcl => x_out (x_empty hnoex) hlocks hM hS hwp hce hcv hcl (Nat.le_of_ble_eq_true rfl) (Nat.le_of_ble_eq_true rfl)) (fun M10 H locs hwp hM hS => ?_)
  refine lv_iload_n hx hb d_BT_fuel_17 rfl (lv_at hl 3 rfl) ?_
  refine lv_iconst (v := 3) hx hb d_BT_fuel_18 (by decide) ?_
  refine h_xcallv hM hS hA (x_runS (As := [.int p1, .int (3 : Int32)]) (rest := []) ⟨hx, hb, hml, hown, hts⟩ (metBT_needPart l hst D κ H.size p1 (3 : Int32) M10 _ px hwp) (cwS 2 hts (gS kw_649 kw_650 kw_1 kw_651) rfl rfl rfl (by decide +kernel) ⟨(Nat.le_of_ble_eq_true rfl), (Nat.le_of_ble_eq_true rfl)⟩) (h_preS hE hM hS) rfl rfl hl.1 rfl (lv_room (Nat.le_of_ble_eq_true rfl)) d_BT_fuel_19 ⟨(Nat.le_of_ble_eq_true rfl), (Nat.le_of_ble_eq_true rfl)⟩) (fun E9 M9 q9 ce9 H locs hwp hM hS hce hcv hcl => x_out (x_empty hnoex) hlocks hM hS hwp hce hcv hcl (Nat.le_of_ble_eq_true rfl) (Nat.le_of_ble_eq_true rfl)) (fun M11 H locs hwp hM hS => ?_)
  refine lv_iload_n hx hb d_BT_fuel_22 rfl (lv_at hl 2 rfl) ?_
  refine lv_iconst (v := -1) hx hb d_BT_fuel_23 (by decide) ?_
  refine lv_icmp_ne (tgt := 31) hx hb d_BT_fuel_24 (by decide) (fun c12 => ?_) (fun c12 => ?_)
  · replace hwp := hwp.2 c12
    refine lv_aload_n hx hb d_BT_fuel_31 rfl (lv_at hl 1 rfl) ?_
    obtain ⟨a13, ⟨fs14, he15, hv16⟩, hwp⟩ := hwp
    refine h_get (C := "BuckTables") (T := Tc0) (N := 12) hx hb hts inc0 hown hK hM he15 rfl 7 (by decide) (hts _ kw_209) (fun _ h9 => h9) hv16 d_BT_fuel_32 ?_
    refine lv_iload_n hx hb d_BT_fuel_35 rfl (lv_at hl 2 rfl) ?_
    refine lv_iload_n hx hb d_BT_fuel_36 rfl (lv_at hl 3 rfl) ?_
    obtain ⟨ho18, hwp⟩ := hwp
    refine h_calli hM hS hA (va_runV (As := [.int p0, .int p1]) (rest := []) ⟨hx, hb, hml, hown, hts⟩ (metPl_tellFuel l D κ H.size a13 p0 p1 M11 _ hwp) (cwV 2 hts (gV kw_669 kw_670 kw_671 kw_4 kw_672) rfl rfl rfl (by decide +kernel) ⟨(Nat.le_of_ble_eq_true rfl), (Nat.le_of_ble_eq_true rfl)⟩) (h_preV hE hM hS ho18 (r := ("BuckTables$Plan", Tc5, 5)) rfl) rfl rfl hl.1 rfl (lv_room (Nat.le_of_ble_eq_true rfl)) d_BT_fuel_37 ⟨(Nat.le_of_ble_eq_true rfl), (Nat.le_of_ble_eq_true rfl)⟩) (fun r19 M17 H locs hwp hM hS => ?_)
    exact tBT_fuel_40 C hst post px r19 M17 hwp H locs ls hM hS (lv_sub hl [] rfl)
  · replace hwp := hwp.1 c12
    refine lv_iload_n hx hb d_BT_fuel_27 rfl (lv_at hl 0 rfl) ?_
    refine lv_goto (tgt := 40) hx hb d_BT_fuel_28 (by decide) ?_
    exact tBT_fuel_40 C hst post px r9 M11 hwp H locs ls hM hS (lv_sub hl [] rfl)
set_option maxRecDepth 100000 in
set_option maxHeartbeats 4000000 in
theorem metBT_fuel (l : Launch) (hst : l.stackTraces = false) (D : va_G) (κ : Nat → ClassId) (sz : Nat) (self : Nat) (p0 : Int32) (p1 : Int32) (M : Hp) (post : Int32 → Hp → Prop) (px : String → Hp → Prop) (hwp : wpBT_fuel self p0 p1 M post px) : xMet l y_BT_fuel ws_BT_fuel rm_BT_fuel (hPc D kCl (hTys κ) M sz [.ref self, .int p0, .int p1]) (va_Qi post (hB D kCl (hTys κ) (hAx M sz)) (hAx M sz)) D kCl (hTys κ) (hAx M sz) px 3 18 := by
  refine xMet.ofW (cc := prog_1_method_16_code) (maxL := 4) (ret := (some .int)) (by decide +kernel) rfl ?_
  intro p e s m args below meth c s₁ B hml hv
  obtain ⟨rfl, hsz, hE, hM0⟩ := hv
  have hts : ∀ w ∈ WG, w.before _ s = true := fun w h => atoms_spec (ws := ws_BT_fuel) B.pre w (List.mem_cons_of_mem _ h)
  subst hsz
  have C : Cx_BT_fuel p s m _ meth c D κ (hAx M s.heap.size) := ⟨B.exec, B.bytes, hml, B.returns, findClass_of_methodNamed B.named, hts, B.notSynchronized, hE, fun q h => Or.inr h, B.noHandlers (atoms_spec (ws := ws_BT_fuel) B.pre _ List.mem_cons_self)⟩
  have hl := lv_entry ([.ref self, .int p0, .int p1]) (n := 4) (Nat.le_of_ble_eq_true rfl)
  rw [lg_entry_eq]
  generalize (lg_sl ([.ref self, .int p0, .int p1]) ++ List.replicate (4 - (lg_sl ([.ref self, .int p0, .int p1])).length) Slot.unset).toArray = ls at hl ⊢
  exact eBT_fuel C hst post px self p0 p1 M hwp s.heap [] ls (hM0.self (sz := s.heap.size)) va_S.rf hl
abbrev rm_BT_bound : Room := { frames := 7, cells := 1, slots := 6, locals := 110 }
def Cx_BT_bound (p : Program) (s : State) (m : MethodId) (args : Array Value) (meth : Method) (c : Code) (D : va_G) (κ : Nat → ClassId) (A : Nat → Prop) : Prop := p.tables.exec = Jvm.exec ∧ c.code = prog_1_method_17_code ∧ c.maxLocals = 1 ∧ meth.sig.returnType = (some .long) ∧ s.vm.findClass "BuckTables" = some m.cls ∧ (∀ w ∈ WG, w.before args s = true) ∧ meth.locks = false ∧ hEnv D kCl (hTys κ) A s ∧ (∀ q, s.heap.size ≤ q → A q) ∧ c.exceptionTable.isEmpty = true
def wpBT_bound (self : Nat) (M : Hp) (post : Int64 → Hp → Prop) (px : String → Hp → Prop) : Prop := (hob M self 0 ∧ (wpBT_needPlan self M (fun (M1 : Hp) => (∃ v3 : Int64, fJ M1 self 0 11 v3 ∧ (post v3 M1))) px))
set_option maxRecDepth 100000 in
set_option maxHeartbeats 4000000 in
theorem eBT_bound {p : Program} {l : Launch} {e : Env} {s : State} {m : MethodId} {args : Array Value} {below : List Frame} {meth : Method} {c : Code} {D : va_G} {κ : Nat → ClassId} {A : Nat → Prop} (C : Cx_BT_bound p s m args meth c D κ A) (hst : l.stackTraces = false) (post : Int64 → Hp → Prop) (px : String → Hp → Prop) (self : Nat) (M : Hp) (hwp : wpBT_bound self M post px) : Y p l e rm_BT_bound s m args below meth c D kCl (hTys κ) A 1 0 0 (xMQ below (va_Ql post (hB D kCl (hTys κ) A) A) D kCl (hTys κ) A px args s 1 6) M 0 [(0, .ref self)] [] := by
  obtain ⟨hx, hb, hml, hr, hown, hts, hlocks, hE, hA, hnoex⟩ := id C
  have hK := hE.1
  intro H locs ls hM hS hl
  unfold wpBT_bound at hwp
  refine lv_aload_n hx hb d_BT_bound_0 rfl (lv_at hl 0 rfl) ?_
  obtain ⟨ho2, hwp⟩ := hwp
  refine h_xcallv hM hS hA (x_runV (As := []) (rest := []) ⟨hx, hb, hml, hown, hts⟩ (metBT_needPlan l hst D κ H.size self M _ px hwp) (cwV 0 hts (gV kw_633 kw_635 kp_19 kw_1 kw_636) rfl rfl rfl (by decide +kernel) ⟨(Nat.le_of_ble_eq_true rfl), (Nat.le_of_ble_eq_true rfl)⟩) (h_preV hE hM hS ho2 (r := ("BuckTables", Tc0, 12)) rfl) rfl rfl hl.1 rfl (lv_room (Nat.le_of_ble_eq_true rfl)) d_BT_bound_1 ⟨(Nat.le_of_ble_eq_true rfl), (Nat.le_of_ble_eq_true rfl)⟩) (fun E9 M9 q9 ce9 H locs hwp hM hS hce hcv hcl => x_out (x_empty hnoex) hlocks hM hS hwp hce hcv hcl (Nat.le_of_ble_eq_true rfl) (Nat.le_of_ble_eq_true rfl)) (fun M1 H locs hwp hM hS => ?_)
  refine lv_aload_n hx hb d_BT_bound_4 rfl (lv_at hl 0 rfl) ?_
  obtain ⟨v3, ⟨fs4, he5, hv6⟩, hwp⟩ := hwp
  refine h_get (C := "BuckTables") (T := Tc0) (N := 12) hx hb hts inc0 hown hK hM he5 rfl 11 (by decide) (hts _ kw_213) (fun _ h9 => h9) hv6 d_BT_bound_5 ?_
  exact x_ret (W.lret (v := v3) hx hb hr (fun t ht hW => ⟨⟨v3, M1, rfl, hwp, by show hw D kCl (hTys κ) A M1 t.heap; rw [ht]; exact hM⟩, hS.F ht⟩) hS.2.2 d_BT_bound_8)
set_option maxRecDepth 100000 in
set_option maxHeartbeats 4000000 in
theorem metBT_bound (l : Launch) (hst : l.stackTraces = false) (D : va_G) (κ : Nat → ClassId) (sz : Nat) (self : Nat) (M : Hp) (post : Int64 → Hp → Prop) (px : String → Hp → Prop) (hwp : wpBT_bound self M post px) : xMet l y_BT_bound ws_BT_bound rm_BT_bound (hPc D kCl (hTys κ) M sz [.ref self]) (va_Ql post (hB D kCl (hTys κ) (hAx M sz)) (hAx M sz)) D kCl (hTys κ) (hAx M sz) px 1 6 := by
  refine xMet.ofW (cc := prog_1_method_17_code) (maxL := 1) (ret := (some .long)) (by decide +kernel) rfl ?_
  intro p e s m args below meth c s₁ B hml hv
  obtain ⟨rfl, hsz, hE, hM0⟩ := hv
  have hts : ∀ w ∈ WG, w.before _ s = true := fun w h => atoms_spec (ws := ws_BT_bound) B.pre w (List.mem_cons_of_mem _ h)
  subst hsz
  have C : Cx_BT_bound p s m _ meth c D κ (hAx M s.heap.size) := ⟨B.exec, B.bytes, hml, B.returns, findClass_of_methodNamed B.named, hts, B.notSynchronized, hE, fun q h => Or.inr h, B.noHandlers (atoms_spec (ws := ws_BT_bound) B.pre _ List.mem_cons_self)⟩
  have hl := lv_entry ([.ref self]) (n := 1) (Nat.le_of_ble_eq_true rfl)
  rw [lg_entry_eq]
  generalize (lg_sl ([.ref self]) ++ List.replicate (1 - (lg_sl ([.ref self])).length) Slot.unset).toArray = ls at hl ⊢
  exact eBT_bound C hst post px self M hwp s.heap [] ls (hM0.self (sz := s.heap.size)) va_S.rf hl
abbrev rm_BT_price : Room := { frames := 7, cells := 3, slots := 18, locals := 111 }
def Cx_BT_price (p : Program) (s : State) (m : MethodId) (args : Array Value) (meth : Method) (c : Code) (D : va_G) (κ : Nat → ClassId) (A : Nat → Prop) : Prop := p.tables.exec = Jvm.exec ∧ c.code = prog_1_method_18_code ∧ c.maxLocals = 4 ∧ meth.sig.returnType = (some .long) ∧ s.vm.findClass "BuckTables" = some m.cls ∧ (∀ w ∈ WG, w.before args s = true) ∧ meth.locks = false ∧ hEnv D kCl (hTys κ) A s ∧ (∀ q, s.heap.size ≤ q → A q) ∧ c.exceptionTable.isEmpty = true
def wBT_price_62 (post : Int64 → Hp → Prop) (px : String → Hp → Prop)   (y0 : Int64) (M : Hp) : Prop := (post y0 M)
set_option maxRecDepth 100000 in
set_option maxHeartbeats 4000000 in
theorem tBT_price_62 {p : Program} {l : Launch} {e : Env} {s : State} {m : MethodId} {args : Array Value} {below : List Frame} {meth : Method} {c : Code} {D : va_G} {κ : Nat → ClassId} {A : Nat → Prop} (C : Cx_BT_price p s m args meth c D κ A) (hst : l.stackTraces = false) (post : Int64 → Hp → Prop) (px : String → Hp → Prop)   (y0 : Int64) (M : Hp) (hwp : wBT_price_62 post px y0 M) : Y p l e rm_BT_price s m args below meth c D kCl (hTys κ) A 4 2 12 (xMQ below (va_Ql post (hB D kCl (hTys κ) A) A) D kCl (hTys κ) A px args s 3 18) M 62 [] [.long y0] := by
  obtain ⟨hx, hb, hml, hr, hown, hts, hlocks, hE, hA, hnoex⟩ := id C
  have hK := hE.1
  intro H locs ls hM hS hl
  unfold wBT_price_62 at hwp
  refine W.widen (k := 3) (n := 18) (by omega) (by omega) ?_
  exact x_ret (W.lret (v := y0) hx hb hr (fun t ht hW => ⟨⟨y0, M, rfl, hwp, by show hw D kCl (hTys κ) A M t.heap; rw [ht]; exact hM⟩, hS.F ht⟩) hS.2.2 d_BT_price_62)
def wpBT_price (self : Nat) (p0 : Int32) (p1 : Int32) (M : Hp) (post : Int64 → Hp → Prop) (px : String → Hp → Prop) : Prop := (hob M self 0 ∧ (wpBT_needPlan self M (fun (M1 : Hp) => (hob M1 self 0 ∧ (wpBT_productAt self p0 M1 (fun (a5 : Nat) (M3 : Hp) => (wpBT_isOutside (p1.toInt64) (2 : Int64) M3 (fun (r7 : Int32) (M6 : Hp) => ((r7 = 0 → ((p1 = 0 → (∃ v28 : Int64, fJ M6 a5 2 9 v28 ∧ (post v28 M6))) ∧ (¬ p1 = 0 → ((p1 = (1 : Int32) → (∃ a15 : Nat, fA M6 self 0 7 a15 ∧ (∃ a19 : Nat, fA M6 a15 5 2 a19 ∧ (∃ v23 : Int32, aI M6 a19 p0 v23 ∧ (wBT_price_62 post px (v23.toInt64) M6))))) ∧ (¬ p1 = (1 : Int32) → (∃ v11 : Int64, fJ M6 a5 2 8 v11 ∧ (wBT_price_62 post px v11 M6))))))) ∧ (¬ r7 = 0 → (px "java/lang/IndexOutOfBoundsException" M6)))))) px))) px))
set_option maxRecDepth 100000 in
set_option maxHeartbeats 4000000 in
theorem eBT_price {p : Program} {l : Launch} {e : Env} {s : State} {m : MethodId} {args : Array Value} {below : List Frame} {meth : Method} {c : Code} {D : va_G} {κ : Nat → ClassId} {A : Nat → Prop} (C : Cx_BT_price p s m args meth c D κ A) (hst : l.stackTraces = false) (post : Int64 → Hp → Prop) (px : String → Hp → Prop) (self : Nat) (p0 : Int32) (p1 : Int32) (M : Hp) (hwp : wpBT_price self p0 p1 M post px) : Y p l e rm_BT_price s m args below meth c D kCl (hTys κ) A 4 0 0 (xMQ below (va_Ql post (hB D kCl (hTys κ) A) A) D kCl (hTys κ) A px args s 3 18) M 0 [(0, .ref self), (1, .int p0), (2, .int p1)] [] := by
  obtain ⟨hx, hb, hml, hr, hown, hts, hlocks, hE, hA, hnoex⟩ := id C
  have hK := hE.1
  intro H locs ls hM hS hl
  unfold wpBT_price at hwp
  refine lv_aload_n hx hb d_BT_price_0 rfl (lv_at hl 0 rfl) ?_
  obtain ⟨ho2, hwp⟩ := hwp
  refine h_xcallv hM hS hA (x_runV (As := []) (rest := []) ⟨hx, hb, hml, hown, hts⟩ (metBT_needPlan l hst D κ H.size self M _ px hwp) (cwV 0 hts (gV kw_633 kw_635 kp_19 kw_1 kw_636) rfl rfl rfl (by decide +kernel) ⟨(Nat.le_of_ble_eq_true rfl), (Nat.le_of_ble_eq_true rfl)⟩) (h_preV hE hM hS ho2 (r := ("BuckTables", Tc0, 12)) rfl) rfl rfl hl.1 rfl (lv_room (Nat.le_of_ble_eq_true rfl)) d_BT_price_1 ⟨(Nat.le_of_ble_eq_true rfl), (Nat.le_of_ble_eq_true rfl)⟩) (fun E9 M9 q9 ce9 H locs hwp hM hS hce hcv hcl => x_out (x_empty hnoex) hlocks hM hS hwp hce hcv hcl (Nat.le_of_ble_eq_true rfl) (Nat.le_of_ble_eq_true rfl)) (fun M1 H locs hwp hM hS => ?_)
  refine lv_aload_n hx hb d_BT_price_4 rfl (lv_at hl 0 rfl) ?_
  refine lv_iload_n hx hb d_BT_price_5 rfl (lv_at hl 1 rfl) ?_
  obtain ⟨ho4, hwp⟩ := hwp
  refine h_xcallr hM hS hA (x_runV (As := [.int p0]) (rest := []) ⟨hx, hb, hml, hown, hts⟩ (metBT_productAt l hst D κ H.size self p0 M1 _ px hwp) (cwV 1 hts (gV kw_490 kw_492 kp_10 kw_1 kw_493) rfl rfl rfl (by decide +kernel) ⟨(Nat.le_of_ble_eq_true rfl), (Nat.le_of_ble_eq_true rfl)⟩) (h_preV hE hM hS ho4 (r := ("BuckTables", Tc0, 12)) rfl) rfl rfl hl.1 rfl (lv_room (Nat.le_of_ble_eq_true rfl)) d_BT_price_6 ⟨(Nat.le_of_ble_eq_true rfl), (Nat.le_of_ble_eq_true rfl)⟩) (fun E9 M9 q9 ce9 H locs hwp hM hS hce hcv hcl => x_out (x_empty hnoex) hlocks hM hS hwp hce hcv hcl (Nat.le_of_ble_eq_true rfl) (Nat.le_of_ble_eq_true rfl)) (fun a5 M3 H locs hwp hM hS => ?_)
  refine lv_astore_n (lv' := [(3, .ref a5), (0, .ref self), (1, .int p0), (2, .int p1)]) hx hb d_BT_price_9 rfl hl (by decide) rfl (fun ls hl => ?_)
  refine lv_iload_n hx hb d_BT_price_10 rfl (lv_at hl 3 rfl) ?_
  refine lv_i2l hx hb d_BT_price_11 rfl ?_
  refine lv_ldc2 (v := (2)) hx hb hown (hts _ kw_695) d_BT_price_12 ?_
  refine h_calli hM hS hA (va_runS (As := [.long (p1.toInt64), .long (2 : Int64)]) (rest := []) ⟨hx, hb, hml, hown, hts⟩ (metBT_isOutside l D κ H.size (p1.toInt64) (2 : Int64) M3 _ hwp) (cwS 2 hts (gS kw_417 kw_418 kw_1 kw_419) rfl rfl rfl (by decide +kernel) ⟨(Nat.le_of_ble_eq_true rfl), (Nat.le_of_ble_eq_true rfl)⟩) (h_preS hE hM hS) rfl rfl hl.1 rfl (lv_room (Nat.le_of_ble_eq_true rfl)) d_BT_price_15 ⟨(Nat.le_of_ble_eq_true rfl), (Nat.le_of_ble_eq_true rfl)⟩) (fun r7 M6 H locs hwp hM hS => ?_)
  refine lv_if_eq (tgt := 31) hx hb d_BT_price_18 (by decide) (fun c8 => ?_) (fun c8 => ?_)
  · replace hwp := hwp.1 c8
    refine lv_iload_n hx hb d_BT_price_31 rfl (lv_at hl 3 rfl) ?_
    refine lv_if_ne (tgt := 40) hx hb d_BT_price_32 (by decide) (fun c9 => ?_) (fun c9 => ?_)
    · replace hwp := hwp.2 c9
      refine lv_iload_n hx hb d_BT_price_40 rfl (lv_at hl 3 rfl) ?_
      refine lv_iconst (v := 1) hx hb d_BT_price_41 (by decide) ?_
      refine lv_icmp_ne (tgt := 58) hx hb d_BT_price_42 (by decide) (fun c10 => ?_) (fun c10 => ?_)
      · replace hwp := hwp.2 c10
        refine lv_aload_n hx hb d_BT_price_58 rfl (lv_at hl 0 rfl) ?_
        obtain ⟨v11, ⟨fs12, he13, hv14⟩, hwp⟩ := hwp
        refine h_get (C := "BuckTables$Product") (T := Tc2) (N := 10) hx hb hts inc2 hown hK hM he13 rfl 8 (by decide) (hts _ kw_177) (fun _ h9 => h9) hv14 d_BT_price_59 ?_
        exact tBT_price_62 C hst post px v11 M6 hwp H locs ls hM hS (lv_sub hl [] rfl)
      · replace hwp := hwp.1 c10
        refine lv_aload_n hx hb d_BT_price_45 rfl (lv_at hl 1 rfl) ?_
        obtain ⟨a15, ⟨fs16, he17, hv18⟩, hwp⟩ := hwp
        refine h_get (C := "BuckTables") (T := Tc0) (N := 12) hx hb hts inc0 hown hK hM he17 rfl 7 (by decide) (hts _ kw_209) (fun _ h9 => h9) hv18 d_BT_price_46 ?_
        obtain ⟨a19, ⟨fs20, he21, hv22⟩, hwp⟩ := hwp
        refine h_get (C := "BuckTables$Plan") (T := Tc5) (N := 5) hx hb hts inc5 hown hK hM he21 rfl 2 (by decide) (hts _ kw_78) (fun _ h9 => h9) hv22 d_BT_price_49 ?_
        refine lv_iload_n hx hb d_BT_price_52 rfl (lv_at hl 2 rfl) ?_
        obtain ⟨v23, ⟨n24, f25, ha26, hi27, ev23⟩, hwp⟩ := hwp
        refine h_iald hx hb hK hM ha26 rfl hi27 d_BT_price_53 ?_
        rw [← ev23]
        refine lv_i2l hx hb d_BT_price_54 rfl ?_
        refine lv_goto (tgt := 62) hx hb d_BT_price_55 (by decide) ?_
        exact tBT_price_62 C hst post px (v23.toInt64) M6 hwp H locs ls hM hS (lv_sub hl [] rfl)
    · replace hwp := hwp.1 c9
      refine lv_aload_n hx hb d_BT_price_35 rfl (lv_at hl 0 rfl) ?_
      obtain ⟨v28, ⟨fs29, he30, hv31⟩, hwp⟩ := hwp
      refine h_get (C := "BuckTables$Product") (T := Tc2) (N := 10) hx hb hts inc2 hown hK hM he30 rfl 9 (by decide) (hts _ kw_180) (fun _ h9 => h9) hv31 d_BT_price_36 ?_
      refine W.widen (k := 3) (n := 18) (by omega) (by omega) ?_
      exact x_ret (W.lret (v := v28) hx hb hr (fun t ht hW => ⟨⟨v28, M6, rfl, hwp, by show hw D kCl (hTys κ) A M6 t.heap; rw [ht]; exact hM⟩, hS.F ht⟩) hS.2.2 d_BT_price_39)
  · replace hwp := hwp.2 c8
    exact x_throw (own := "BuckTables") (cls := "java/lang/IndexOutOfBoundsException") (text := "there is no such part") (names := ["java/lang/RuntimeException", "java/lang/Exception"]) (ik := 210) (is := 212) (ic := 214) hx hb hst hown (by decide +kernel) (by decide +kernel) hE.2 hS hM xin_BT_210_214 (List.mem_append_right _ (List.mem_of_getElem? (i := 696) (by decide +kernel))) (by rw [hml]; exact hl.1) d_BT_price_21 d_BT_price_24 d_BT_price_25 d_BT_price_27 d_BT_price_30 (x_empty hnoex) (Nat.le_of_ble_eq_true rfl) (Nat.le_of_ble_eq_true rfl) (Nat.le_of_ble_eq_true rfl) (Nat.le_of_ble_eq_true rfl) hlocks hwp (Nat.le_of_ble_eq_true rfl) (Nat.le_of_ble_eq_true rfl)
set_option maxRecDepth 100000 in
set_option maxHeartbeats 4000000 in
theorem metBT_price (l : Launch) (hst : l.stackTraces = false) (D : va_G) (κ : Nat → ClassId) (sz : Nat) (self : Nat) (p0 : Int32) (p1 : Int32) (M : Hp) (post : Int64 → Hp → Prop) (px : String → Hp → Prop) (hwp : wpBT_price self p0 p1 M post px) : xMet l y_BT_price ws_BT_price rm_BT_price (hPc D kCl (hTys κ) M sz [.ref self, .int p0, .int p1]) (va_Ql post (hB D kCl (hTys κ) (hAx M sz)) (hAx M sz)) D kCl (hTys κ) (hAx M sz) px 3 18 := by
  refine xMet.ofW (cc := prog_1_method_18_code) (maxL := 4) (ret := (some .long)) (by decide +kernel) rfl ?_
  intro p e s m args below meth c s₁ B hml hv
  obtain ⟨rfl, hsz, hE, hM0⟩ := hv
  have hts : ∀ w ∈ WG, w.before _ s = true := fun w h => atoms_spec (ws := ws_BT_price) B.pre w (List.mem_cons_of_mem _ h)
  subst hsz
  have C : Cx_BT_price p s m _ meth c D κ (hAx M s.heap.size) := ⟨B.exec, B.bytes, hml, B.returns, findClass_of_methodNamed B.named, hts, B.notSynchronized, hE, fun q h => Or.inr h, B.noHandlers (atoms_spec (ws := ws_BT_price) B.pre _ List.mem_cons_self)⟩
  have hl := lv_entry ([.ref self, .int p0, .int p1]) (n := 4) (Nat.le_of_ble_eq_true rfl)
  rw [lg_entry_eq]
  generalize (lg_sl ([.ref self, .int p0, .int p1]) ++ List.replicate (4 - (lg_sl ([.ref self, .int p0, .int p1])).length) Slot.unset).toArray = ls at hl ⊢
  exact eBT_price C hst post px self p0 p1 M hwp s.heap [] ls (hM0.self (sz := s.heap.size)) va_S.rf hl
abbrev rm_BT_override : Room := { frames := 7, cells := 2, slots := 12, locals := 173 }
def Cx_BT_override (p : Program) (s : State) (m : MethodId) (args : Array Value) (meth : Method) (c : Code) (D : va_G) (κ : Nat → ClassId) (A : Nat → Prop) : Prop := p.tables.exec = Jvm.exec ∧ c.code = prog_1_method_19_code ∧ c.maxLocals = 4 ∧ meth.sig.returnType = (some .int) ∧ s.vm.findClass "BuckTables" = some m.cls ∧ (∀ w ∈ WG, w.before args s = true) ∧ meth.locks = false ∧ hEnv D kCl (hTys κ) A s ∧ (∀ q, s.heap.size ≤ q → A q) ∧ c.exceptionTable.isEmpty = true
def wBT_override_53 (post : Int32 → Hp → Prop) (px : String → Hp → Prop)  (x0 : Nat) (x2 : Int64) (M : Hp) : Prop := (∃ a1 : Nat, fA M x0 0 7 a1 ∧ (∃ v5 : Int64, fJ M a1 5 4 v5 ∧ (post ((x2 - v5).toInt32) M)))
set_option maxRecDepth 100000 in
set_option maxHeartbeats 4000000 in
theorem tBT_override_53 {p : Program} {l : Launch} {e : Env} {s : State} {m : MethodId} {args : Array Value} {below : List Frame} {meth : Method} {c : Code} {D : va_G} {κ : Nat → ClassId} {A : Nat → Prop} (C : Cx_BT_override p s m args meth c D κ A) (hst : l.stackTraces = false) (post : Int32 → Hp → Prop) (px : String → Hp → Prop)  (x0 : Nat) (x2 : Int64) (M : Hp) (hwp : wBT_override_53 post px x0 x2 M) : Y p l e rm_BT_override s m args below meth c D kCl (hTys κ) A 4 1 6 (xMQ below (va_Qi post (hB D kCl (hTys κ) A) A) D kCl (hTys κ) A px args s 2 12) M 53 [(0, .ref x0), (2, .long x2)] [] := by
  obtain ⟨hx, hb, hml, hr, hown, hts, hlocks, hE, hA, hnoex⟩ := id C
  have hK := hE.1
  intro H locs ls hM hS hl
  unfold wBT_override_53 at hwp
  refine lv_lload_n hx hb d_BT_override_53 rfl (lv_at hl 1 rfl) ?_
  refine lv_aload_n hx hb d_BT_override_54 rfl (lv_at hl 0 rfl) ?_
  obtain ⟨a1, ⟨fs2, he3, hv4⟩, hwp⟩ := hwp
  refine h_get (C := "BuckTables") (T := Tc0) (N := 12) hx hb hts inc0 hown hK hM he3 rfl 7 (by decide) (hts _ kw_209) (fun _ h9 => h9) hv4 d_BT_override_55 ?_
  obtain ⟨v5, ⟨fs6, he7, hv8⟩, hwp⟩ := hwp
  refine h_get (C := "BuckTables$Plan") (T := Tc5) (N := 5) hx hb hts inc5 hown hK hM he7 rfl 4 (by decide) (hts _ kw_82) (fun _ h9 => h9) hv8 d_BT_override_58 ?_
  refine lv_lsub hx hb d_BT_override_61 ?_
  refine lv_l2i hx hb d_BT_override_62 rfl ?_
  refine W.widen (k := 2) (n := 12) (by omega) (by omega) ?_
  exact x_ret (W.iret (v := ((x2 - v5).toInt32)) hx hb hr (fun t ht hW => ⟨⟨((x2 - v5).toInt32), M, rfl, hwp, by show hw D kCl (hTys κ) A M t.heap; rw [ht]; exact hM⟩, hS.F ht⟩) hS.2.2 d_BT_override_63)
def wpBT_override (self : Nat) (p0 : Int32) (M : Hp) (post : Int32 → Hp → Prop) (px : String → Hp → Prop) : Prop := (hob M self 0 ∧ (wpBT_needPlan self M (fun (M9 : Hp) => (hob M9 self 0 ∧ (wpBT_forceLatest self p0 M9 (fun (r13 : Int32) (M11 : Hp) => ((r13 = 0 → (px "java/lang/IllegalArgumentException" M11)) ∧ (¬ r13 = 0 → (∃ a15 : Nat, fA M11 self 0 7 a15 ∧ (∃ v19 : Int64, fJ M11 a15 5 4 v19 ∧ (∃ v23 : Int32, fI M11 self 0 10 v23 ∧ ((v23 = 0 → (hob M11 self 0 ∧ (wpBT_makePlain self M11 (fun (M35 : Hp) => (wBT_override_53 post px self v19 M35))))) ∧ (¬ v23 = 0 → (∃ v28 : Int32, fI M11 self 0 10 v28 ∧ (hob M11 self 0 ∧ (wpBT_makePriced self v28 M11 (fun (r34 : Int32) (M32 : Hp) => (wBT_override_53 post px self v19 M32)))))))))))))))) px))
set_option maxRecDepth 100000 in
set_option maxHeartbeats 4000000 in
theorem eBT_override {p : Program} {l : Launch} {e : Env} {s : State} {m : MethodId} {args : Array Value} {below : List Frame} {meth : Method} {c : Code} {D : va_G} {κ : Nat → ClassId} {A : Nat → Prop} (C : Cx_BT_override p s m args meth c D κ A) (hst : l.stackTraces = false) (post : Int32 → Hp → Prop) (px : String → Hp → Prop) (self : Nat) (p0 : Int32) (M : Hp) (hwp : wpBT_override self p0 M post px) : Y p l e rm_BT_override s m args below meth c D kCl (hTys κ) A 4 0 0 (xMQ below (va_Qi post (hB D kCl (hTys κ) A) A) D kCl (hTys κ) A px args s 2 12) M 0 [(0, .ref self), (1, .int p0)] [] := by
  obtain ⟨hx, hb, hml, hr, hown, hts, hlocks, hE, hA, hnoex⟩ := id C
  have hK := hE.1
  intro H locs ls hM hS hl
  unfold wpBT_override at hwp
  refine lv_aload_n hx hb d_BT_override_0 rfl (lv_at hl 0 rfl) ?_
  obtain ⟨ho10, hwp⟩ := hwp
  refine h_xcallv hM hS hA (x_runV (As := []) (rest := []) ⟨hx, hb, hml, hown, hts⟩ (metBT_needPlan l hst D κ H.size self M _ px hwp) (cwV 0 hts (gV kw_633 kw_635 kp_19 kw_1 kw_636) rfl rfl rfl (by decide +kernel) ⟨(Nat.le_of_ble_eq_true rfl), (Nat.le_of_ble_eq_true rfl)⟩) (h_preV hE hM hS ho10 (r := ("BuckTables", Tc0, 12)) rfl) rfl rfl hl.1 rfl (lv_room (Nat.le_of_ble_eq_true rfl)) d_BT_override_1 ⟨(Nat.le_of_ble_eq_true rfl), (Nat.le_of_ble_eq_true rfl)⟩) (fun E9 M9 q9 ce9 H locs hwp hM hS hce hcv hcl => x_out (x_empty hnoex) hlocks hM hS hwp hce hcv hcl (Nat.le_of_ble_eq_true rfl) (Nat.le_of_ble_eq_true rfl)) (fun M9 H locs hwp hM hS => ?_)
  refine lv_aload_n hx hb d_BT_override_4 rfl (lv_at hl 0 rfl) ?_
  refine lv_iload_n hx hb d_BT_override_5 rfl (lv_at hl 1 rfl) ?_
  obtain ⟨ho12, hwp⟩ := hwp
  refine h_calli hM hS hA (va_runV (As := [.int p0]) (rest := []) ⟨hx, hb, hml, hown, hts⟩ (metBT_forceLatest l D κ H.size self p0 M9 _ hwp) (cwV 1 hts (gV kw_519 kw_521 kp_11 kw_1 kw_522) rfl rfl rfl (by decide +kernel) ⟨(Nat.le_of_ble_eq_true rfl), (Nat.le_of_ble_eq_true rfl)⟩) (h_preV hE hM hS ho12 (r := ("BuckTables", Tc0, 12)) rfl) rfl rfl hl.1 rfl (lv_room (Nat.le_of_ble_eq_true rfl)) d_BT_override_6 ⟨(Nat.le_of_ble_eq_true rfl), (Nat.le_of_ble_eq_true rfl)⟩) (fun r13 M11 H locs hwp hM hS => ?_)
  refine lv_if_ne (tgt := 22) hx hb d_BT_override_9 (by decide) (fun c14 => ?_) (fun c14 => ?_)
  · replace hwp := hwp.2 c14
    refine lv_aload_n hx hb d_BT_override_22 rfl (lv_at hl 0 rfl) ?_
    obtain ⟨a15, ⟨fs16, he17, hv18⟩, hwp⟩ := hwp
    refine h_get (C := "BuckTables") (T := Tc0) (N := 12) hx hb hts inc0 hown hK hM he17 rfl 7 (by decide) (hts _ kw_209) (fun _ h9 => h9) hv18 d_BT_override_23 ?_
    obtain ⟨v19, ⟨fs20, he21, hv22⟩, hwp⟩ := hwp
    refine h_get (C := "BuckTables$Plan") (T := Tc5) (N := 5) hx hb hts inc5 hown hK hM he21 rfl 4 (by decide) (hts _ kw_82) (fun _ h9 => h9) hv22 d_BT_override_26 ?_
    refine lv_lstore_n (lv' := [(2, .long v19), (0, .ref self), (1, .int p0)]) hx hb d_BT_override_29 rfl hl (by decide) rfl (fun ls hl => ?_)
    refine lv_aload_n hx hb d_BT_override_30 rfl (lv_at hl 1 rfl) ?_
    obtain ⟨v23, ⟨fs24, he25, hv26⟩, hwp⟩ := hwp
    refine h_get (C := "BuckTables") (T := Tc0) (N := 12) hx hb hts inc0 hown hK hM he25 rfl 10 (by decide) (hts _ kw_212) (fun _ h9 => h9) hv26 d_BT_override_31 ?_
    refine lv_if_ne (tgt := 44) hx hb d_BT_override_34 (by decide) (fun c27 => ?_) (fun c27 => ?_)
    · replace hwp := hwp.2 c27
      refine lv_aload_n hx hb d_BT_override_44 rfl (lv_at hl 1 rfl) ?_
      refine lv_aload_n hx hb d_BT_override_45 rfl (lv_at hl 1 rfl) ?_
      obtain ⟨v28, ⟨fs29, he30, hv31⟩, hwp⟩ := hwp
      refine h_get (C := "BuckTables") (T := Tc0) (N := 12) hx hb hts inc0 hown hK hM he30 rfl 10 (by decide) (hts _ kw_212) (fun _ h9 => h9) hv31 d_BT_override_46 ?_
      obtain ⟨ho33, hwp⟩ := hwp
      refine h_calli hM hS hA (va_runV (As := [.int v28]) (rest := []) ⟨hx, hb, hml, hown, hts⟩ (metBT_makePriced l D κ H.size self v28 M11 _ hwp) (cwV 1 hts (gV kw_570 kw_572 kp_12 kw_1 kw_573) rfl rfl rfl (by decide +kernel) ⟨(Nat.le_of_ble_eq_true rfl), (Nat.le_of_ble_eq_true rfl)⟩) (h_preV hE hM hS ho33 (r := ("BuckTables", Tc0, 12)) rfl) rfl rfl hl.1 rfl (lv_room (Nat.le_of_ble_eq_true rfl)) d_BT_override_49 ⟨(Nat.le_of_ble_eq_true rfl), (Nat.le_of_ble_eq_true rfl)⟩) (fun r34 M32 H locs hwp hM hS => ?_)
      refine lv_pop hx hb d_BT_override_52 rfl ?_
      exact tBT_override_53 C hst post px self v19 M32 hwp H locs ls hM hS (lv_sub hl [1, 0] rfl)
    · replace hwp := hwp.1 c27
      refine lv_aload_n hx hb d_BT_override_37 rfl (lv_at hl 1 rfl) ?_
      obtain ⟨ho36, hwp⟩ := hwp
      refine h_callv hM hS hA (va_runV (As := []) (rest := []) ⟨hx, hb, hml, hown, hts⟩ (metBT_makePlain l D κ H.size self M11 _ hwp) (cwV 0 hts (gV kw_243 kw_245 kp_0 kw_1 kw_246) rfl rfl rfl (by decide +kernel) ⟨(Nat.le_of_ble_eq_true rfl), (Nat.le_of_ble_eq_true rfl)⟩) (h_preV hE hM hS ho36 (r := ("BuckTables", Tc0, 12)) rfl) rfl rfl hl.1 rfl (lv_room (Nat.le_of_ble_eq_true rfl)) d_BT_override_38 ⟨(Nat.le_of_ble_eq_true rfl), (Nat.le_of_ble_eq_true rfl)⟩) (fun M35 H locs hwp hM hS => ?_)
      refine lv_goto (tgt := 53) hx hb d_BT_override_41 (by decide) ?_
      exact tBT_override_53 C hst post px self v19 M35 hwp H locs ls hM hS (lv_sub hl [1, 0] rfl)
  · replace hwp := hwp.1 c14
    exact x_throw (own := "BuckTables") (cls := "java/lang/IllegalArgumentException") (text := "at is no end of a step, or was forced") (names := ["java/lang/RuntimeException", "java/lang/Exception"]) (ik := 98) (is := 222) (ic := 102) hx hb hst hown (by decide +kernel) (by decide +kernel) hE.2 hS hM xin_BT_98_102 (List.mem_append_right _ (List.mem_of_getElem? (i := 704) (by decide +kernel))) (by rw [hml]; exact hl.1) d_BT_override_12 d_BT_override_15 d_BT_override_16 d_BT_override_18 d_BT_override_21 (x_empty hnoex) (Nat.le_of_ble_eq_true rfl) (Nat.le_of_ble_eq_true rfl) (Nat.le_of_ble_eq_true rfl) (Nat.le_of_ble_eq_true rfl) hlocks hwp (Nat.le_of_ble_eq_true rfl) (Nat.le_of_ble_eq_true rfl)
set_option maxRecDepth 100000 in
set_option maxHeartbeats 4000000 in
theorem metBT_override (l : Launch) (hst : l.stackTraces = false) (D : va_G) (κ : Nat → ClassId) (sz : Nat) (self : Nat) (p0 : Int32) (M : Hp) (post : Int32 → Hp → Prop) (px : String → Hp → Prop) (hwp : wpBT_override self p0 M post px) : xMet l y_BT_override ws_BT_override rm_BT_override (hPc D kCl (hTys κ) M sz [.ref self, .int p0]) (va_Qi post (hB D kCl (hTys κ) (hAx M sz)) (hAx M sz)) D kCl (hTys κ) (hAx M sz) px 2 12 := by
  refine xMet.ofW (cc := prog_1_method_19_code) (maxL := 4) (ret := (some .int)) (by decide +kernel) rfl ?_
  intro p e s m args below meth c s₁ B hml hv
  obtain ⟨rfl, hsz, hE, hM0⟩ := hv
  have hts : ∀ w ∈ WG, w.before _ s = true := fun w h => atoms_spec (ws := ws_BT_override) B.pre w (List.mem_cons_of_mem _ h)
  subst hsz
  have C : Cx_BT_override p s m _ meth c D κ (hAx M s.heap.size) := ⟨B.exec, B.bytes, hml, B.returns, findClass_of_methodNamed B.named, hts, B.notSynchronized, hE, fun q h => Or.inr h, B.noHandlers (atoms_spec (ws := ws_BT_override) B.pre _ List.mem_cons_self)⟩
  have hl := lv_entry ([.ref self, .int p0]) (n := 4) (Nat.le_of_ble_eq_true rfl)
  rw [lg_entry_eq]
  generalize (lg_sl ([.ref self, .int p0]) ++ List.replicate (4 - (lg_sl ([.ref self, .int p0])).length) Slot.unset).toArray = ls at hl ⊢
  exact eBT_override C hst post px self p0 M hwp s.heap [] ls (hM0.self (sz := s.heap.size)) va_S.rf hl
abbrev rm_BT_greatest : Room := { frames := 7, cells := 1, slots := 6, locals := 110 }
def Cx_BT_greatest (p : Program) (s : State) (m : MethodId) (args : Array Value) (meth : Method) (c : Code) (D : va_G) (κ : Nat → ClassId) (A : Nat → Prop) : Prop := p.tables.exec = Jvm.exec ∧ c.code = prog_1_method_20_code ∧ c.maxLocals = 1 ∧ meth.sig.returnType = (some .boolean) ∧ s.vm.findClass "BuckTables" = some m.cls ∧ (∀ w ∈ WG, w.before args s = true) ∧ meth.locks = false ∧ hEnv D kCl (hTys κ) A s ∧ (∀ q, s.heap.size ≤ q → A q) ∧ c.exceptionTable.isEmpty = true
def wBT_greatest_24 (post : Int32 → Hp → Prop) (px : String → Hp → Prop)   (y0 : Int32) (M : Hp) : Prop := ((y0 = 0 ∨ y0 = 1) ∧ post y0 M)
set_option maxRecDepth 100000 in
set_option maxHeartbeats 4000000 in
theorem tBT_greatest_24 {p : Program} {l : Launch} {e : Env} {s : State} {m : MethodId} {args : Array Value} {below : List Frame} {meth : Method} {c : Code} {D : va_G} {κ : Nat → ClassId} {A : Nat → Prop} (C : Cx_BT_greatest p s m args meth c D κ A) (hst : l.stackTraces = false) (post : Int32 → Hp → Prop) (px : String → Hp → Prop)   (y0 : Int32) (M : Hp) (hwp : wBT_greatest_24 post px y0 M) : Y p l e rm_BT_greatest s m args below meth c D kCl (hTys κ) A 1 1 6 (xMQ below (va_Qi post (hB D kCl (hTys κ) A) A) D kCl (hTys κ) A px args s 1 6) M 24 [] [.int y0] := by
  obtain ⟨hx, hb, hml, hr, hown, hts, hlocks, hE, hA, hnoex⟩ := id C
  have hK := hE.1
  intro H locs ls hM hS hl
  unfold wBT_greatest_24 at hwp
  obtain ⟨hz1, hwp⟩ := hwp
  exact x_ret (W.zret (v := y0) hx hb hr (by rcases hz1 with h | h <;> rw [h] <;> rfl) (fun t ht hW => ⟨⟨y0, M, rfl, hwp, by show hw D kCl (hTys κ) A M t.heap; rw [ht]; exact hM⟩, hS.F ht⟩) hS.2.2 d_BT_greatest_24)
def wpBT_greatest (self : Nat) (M : Hp) (post : Int32 → Hp → Prop) (px : String → Hp → Prop) : Prop := (hob M self 0 ∧ (wpBT_needPlan self M (fun (M2 : Hp) => (∃ a4 : Nat, fA M2 self 0 7 a4 ∧ (∃ v8 : Int64, fJ M2 a4 5 4 v8 ∧ (∃ v12 : Int64, fJ M2 self 0 11 v12 ∧ ((v8 = v12 → (wBT_greatest_24 post px (1 : Int32) M2)) ∧ (¬ v8 = v12 → (wBT_greatest_24 post px (0 : Int32) M2))))))) px))
set_option maxRecDepth 100000 in
set_option maxHeartbeats 4000000 in
theorem eBT_greatest {p : Program} {l : Launch} {e : Env} {s : State} {m : MethodId} {args : Array Value} {below : List Frame} {meth : Method} {c : Code} {D : va_G} {κ : Nat → ClassId} {A : Nat → Prop} (C : Cx_BT_greatest p s m args meth c D κ A) (hst : l.stackTraces = false) (post : Int32 → Hp → Prop) (px : String → Hp → Prop) (self : Nat) (M : Hp) (hwp : wpBT_greatest self M post px) : Y p l e rm_BT_greatest s m args below meth c D kCl (hTys κ) A 1 0 0 (xMQ below (va_Qi post (hB D kCl (hTys κ) A) A) D kCl (hTys κ) A px args s 1 6) M 0 [(0, .ref self)] [] := by
  obtain ⟨hx, hb, hml, hr, hown, hts, hlocks, hE, hA, hnoex⟩ := id C
  have hK := hE.1
  intro H locs ls hM hS hl
  unfold wpBT_greatest at hwp
  refine lv_aload_n hx hb d_BT_greatest_0 rfl (lv_at hl 0 rfl) ?_
  obtain ⟨ho3, hwp⟩ := hwp
  refine h_xcallv hM hS hA (x_runV (As := []) (rest := []) ⟨hx, hb, hml, hown, hts⟩ (metBT_needPlan l hst D κ H.size self M _ px hwp) (cwV 0 hts (gV kw_633 kw_635 kp_19 kw_1 kw_636) rfl rfl rfl (by decide +kernel) ⟨(Nat.le_of_ble_eq_true rfl), (Nat.le_of_ble_eq_true rfl)⟩) (h_preV hE hM hS ho3 (r := ("BuckTables", Tc0, 12)) rfl) rfl rfl hl.1 rfl (lv_room (Nat.le_of_ble_eq_true rfl)) d_BT_greatest_1 ⟨(Nat.le_of_ble_eq_true rfl), (Nat.le_of_ble_eq_true rfl)⟩) (fun E9 M9 q9 ce9 H locs hwp hM hS hce hcv hcl => x_out (x_empty hnoex) hlocks hM hS hwp hce hcv hcl (Nat.le_of_ble_eq_true rfl) (Nat.le_of_ble_eq_true rfl)) (fun M2 H locs hwp hM hS => ?_)
  refine lv_aload_n hx hb d_BT_greatest_4 rfl (lv_at hl 0 rfl) ?_
  obtain ⟨a4, ⟨fs5, he6, hv7⟩, hwp⟩ := hwp
  refine h_get (C := "BuckTables") (T := Tc0) (N := 12) hx hb hts inc0 hown hK hM he6 rfl 7 (by decide) (hts _ kw_209) (fun _ h9 => h9) hv7 d_BT_greatest_5 ?_
  obtain ⟨v8, ⟨fs9, he10, hv11⟩, hwp⟩ := hwp
  refine h_get (C := "BuckTables$Plan") (T := Tc5) (N := 5) hx hb hts inc5 hown hK hM he10 rfl 4 (by decide) (hts _ kw_82) (fun _ h9 => h9) hv11 d_BT_greatest_8 ?_
  refine lv_aload_n hx hb d_BT_greatest_11 rfl (lv_at hl 0 rfl) ?_
  obtain ⟨v12, ⟨fs13, he14, hv15⟩, hwp⟩ := hwp
  refine h_get (C := "BuckTables") (T := Tc0) (N := 12) hx hb hts inc0 hown hK hM he14 rfl 11 (by decide) (hts _ kw_213) (fun _ h9 => h9) hv15 d_BT_greatest_12 ?_
  refine W.lcmp hx hb d_BT_greatest_15 ?_
  refine lv_if_ne (tgt := 23) hx hb d_BT_greatest_16 (by decide) (fun c16 => ?_) (fun c16 => ?_)
  · replace c16 := fun h9 => c16 ((lc_eq _ _).mpr h9)
    replace hwp := hwp.2 c16
    refine lv_iconst (v := 0) hx hb d_BT_greatest_23 (by decide) ?_
    exact tBT_greatest_24 C hst post px (0 : Int32) M2 hwp H locs ls hM hS (lv_sub hl [] rfl)
  · replace c16 := (lc_eq _ _).mp c16
    replace hwp := hwp.1 c16
    refine lv_iconst (v := 1) hx hb d_BT_greatest_19 (by decide) ?_
    refine lv_goto (tgt := 24) hx hb d_BT_greatest_20 (by decide) ?_
    exact tBT_greatest_24 C hst post px (1 : Int32) M2 hwp H locs ls hM hS (lv_sub hl [] rfl)
set_option maxRecDepth 100000 in
set_option maxHeartbeats 4000000 in
theorem metBT_greatest (l : Launch) (hst : l.stackTraces = false) (D : va_G) (κ : Nat → ClassId) (sz : Nat) (self : Nat) (M : Hp) (post : Int32 → Hp → Prop) (px : String → Hp → Prop) (hwp : wpBT_greatest self M post px) : xMet l y_BT_greatest ws_BT_greatest rm_BT_greatest (hPc D kCl (hTys κ) M sz [.ref self]) (va_Qi post (hB D kCl (hTys κ) (hAx M sz)) (hAx M sz)) D kCl (hTys κ) (hAx M sz) px 1 6 := by
  refine xMet.ofW (cc := prog_1_method_20_code) (maxL := 1) (ret := (some .boolean)) (by decide +kernel) rfl ?_
  intro p e s m args below meth c s₁ B hml hv
  obtain ⟨rfl, hsz, hE, hM0⟩ := hv
  have hts : ∀ w ∈ WG, w.before _ s = true := fun w h => atoms_spec (ws := ws_BT_greatest) B.pre w (List.mem_cons_of_mem _ h)
  subst hsz
  have C : Cx_BT_greatest p s m _ meth c D κ (hAx M s.heap.size) := ⟨B.exec, B.bytes, hml, B.returns, findClass_of_methodNamed B.named, hts, B.notSynchronized, hE, fun q h => Or.inr h, B.noHandlers (atoms_spec (ws := ws_BT_greatest) B.pre _ List.mem_cons_self)⟩
  have hl := lv_entry ([.ref self]) (n := 1) (Nat.le_of_ble_eq_true rfl)
  rw [lg_entry_eq]
  generalize (lg_sl ([.ref self]) ++ List.replicate (1 - (lg_sl ([.ref self])).length) Slot.unset).toArray = ls at hl ⊢
  exact eBT_greatest C hst post px self M hwp s.heap [] ls (hM0.self (sz := s.heap.size)) va_S.rf hl
