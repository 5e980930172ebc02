abbrev rm_BT_force : Room := { frames := 6, cells := 1, slots := 6, locals := 90 }
def Cx_BT_force (p : Program) (s : State) (m : MethodId) (args : Array Value) (meth : Method) (c : Code) (D : va_G) (κ : Nat → ClassId) (A : Nat → Prop) : Prop := p.tables.exec = Jvm.exec ∧ c.code = prog_1_method_7_code ∧ c.maxLocals = 2 ∧ meth.sig.returnType = (some .boolean) ∧ s.vm.findClass "BuckTables" = some m.cls ∧ (∀ w ∈ WG, w.before args s = true) ∧ meth.locks = false ∧ hEnv D kCl (hTys κ) A s ∧ (∀ q, s.heap.size ≤ q → A q) ∧ c.exceptionTable.isEmpty = true
def wpBT_force (self : Nat) (p0 : Int32) (M : Hp) (post : Int32 → Hp → Prop) (px : String → Hp → Prop) : Prop := (wpBT_isOutside (p0.toInt64) (10000000 : Int64) M (fun (r2 : Int32) (M1 : Hp) => ((r2 = 0 → (hob M1 self 0 ∧ (wpBT_forceLatest self p0 M1 (fun (r6 : Int32) (M4 : Hp) => ((r6 = 0 → (post (0 : Int32) M4)) ∧ (¬ r6 = 0 → (∃ M8 : Hp, pF M4 self 0 9 (.int (0 : Int32)) M8 ∧ (post (1 : Int32) M8)))))))) ∧ (¬ r2 = 0 → (px "java/lang/IllegalArgumentException" M1)))))
set_option maxRecDepth 100000 in
set_option maxHeartbeats 4000000 in
theorem eBT_force {p : Program} {l : Launch} {e : Env} {s : State} {m : MethodId} {args : Array Value} {below : List Frame} {meth : Method} {c : Code} {D : va_G} {κ : Nat → ClassId} {A : Nat → Prop} (C : Cx_BT_force p s m args meth c D κ A) (hst : l.stackTraces = false) (post : Int32 → Hp → Prop) (px : String → Hp → Prop) (self : Nat) (p0 : Int32) (M : Hp) (hwp : wpBT_force self p0 M post px) : Y p l e rm_BT_force s m args below meth c D kCl (hTys κ) A 2 0 0 (xMQ below (va_Qi post (hB D kCl (hTys κ) A) A) D kCl (hTys κ) A px args s 1 6) M 0 [(0, .ref self), (1, .int p0)] [] := by
  obtain ⟨hx, hb, hml, hr, hown, hts, hlocks, hE, hA, hnoex⟩ := id C
  have hK := hE.1
  intro H locs ls hM hS hl
  unfold wpBT_force at hwp
  refine lv_iload_n hx hb d_BT_force_0 rfl (lv_at hl 1 rfl) ?_
  refine lv_i2l hx hb d_BT_force_1 rfl ?_
  refine lv_ldc2 (v := (10000000)) hx hb hown (hts _ kw_416) d_BT_force_2 ?_
  refine h_calli hM hS hA (va_runS (As := [.long (p0.toInt64), .long (10000000 : Int64)]) (rest := []) ⟨hx, hb, hml, hown, hts⟩ (metBT_isOutside l D κ H.size (p0.toInt64) (10000000 : Int64) M _ hwp) (cwS 2 hts (gS kw_417 kw_418 kw_1 kw_419) rfl rfl rfl (by decide +kernel) ⟨(Nat.le_of_ble_eq_true rfl), (Nat.le_of_ble_eq_true rfl)⟩) (h_preS hE hM hS) rfl rfl hl.1 rfl (lv_room (Nat.le_of_ble_eq_true rfl)) d_BT_force_5 ⟨(Nat.le_of_ble_eq_true rfl), (Nat.le_of_ble_eq_true rfl)⟩) (fun r2 M1 H locs hwp hM hS => ?_)
  refine lv_if_eq (tgt := 21) hx hb d_BT_force_8 (by decide) (fun c3 => ?_) (fun c3 => ?_)
  · replace hwp := hwp.1 c3
    refine lv_aload_n hx hb d_BT_force_21 rfl (lv_at hl 0 rfl) ?_
    refine lv_iload_n hx hb d_BT_force_22 rfl (lv_at hl 1 rfl) ?_
    obtain ⟨ho5, hwp⟩ := hwp
    refine h_calli hM hS hA (va_runV (As := [.int p0]) (rest := []) ⟨hx, hb, hml, hown, hts⟩ (metBT_forceLatest l D κ H.size self p0 M1 _ hwp) (cwV 1 hts (gV kw_519 kw_521 kp_11 kw_1 kw_522) rfl rfl rfl (by decide +kernel) ⟨(Nat.le_of_ble_eq_true rfl), (Nat.le_of_ble_eq_true rfl)⟩) (h_preV hE hM hS ho5 (r := ("BuckTables", Tc0, 12)) rfl) rfl rfl hl.1 rfl (lv_room (Nat.le_of_ble_eq_true rfl)) d_BT_force_23 ⟨(Nat.le_of_ble_eq_true rfl), (Nat.le_of_ble_eq_true rfl)⟩) (fun r6 M4 H locs hwp hM hS => ?_)
    refine lv_if_ne (tgt := 31) hx hb d_BT_force_26 (by decide) (fun c7 => ?_) (fun c7 => ?_)
    · replace hwp := hwp.2 c7
      refine lv_aload_n hx hb d_BT_force_31 rfl (lv_at hl 0 rfl) ?_
      refine lv_iconst (v := 0) hx hb d_BT_force_32 (by decide) ?_
      obtain ⟨M8, ⟨fs9, he10, hl11, eM8⟩, hwp⟩ := hwp
      refine h_put (C := "BuckTables") (T := Tc0) (N := 12) (v := .int (0 : Int32)) (ty := .boolean) hx hb hts inc0 tyc0 tyc0_ok nmc0 hown hK hM hS he10 rfl 9 (by decide) (hts _ kw_211) (fun _ h9 => h9) rfl (by decide +kernel) (by decide) (by decide) hl11 d_BT_force_33 (fun H locs hM hS => ?_)
      rw [← eM8] at hM
      refine lv_iconst (v := 1) hx hb d_BT_force_36 (by decide) ?_
      refine W.widen (k := 1) (n := 6) (by omega) (by omega) ?_
      exact x_ret (W.zret (v := (1 : Int32)) hx hb hr (by decide) (fun t ht hW => ⟨⟨(1 : Int32), M8, rfl, hwp, by show hw D kCl (hTys κ) A M8 t.heap; rw [ht]; exact hM⟩, hS.F ht⟩) hS.2.2 d_BT_force_37)
    · replace hwp := hwp.1 c7
      refine lv_iconst (v := 0) hx hb d_BT_force_29 (by decide) ?_
      refine W.widen (k := 1) (n := 6) (by omega) (by omega) ?_
      exact x_ret (W.zret (v := (0 : Int32)) hx hb hr (by decide) (fun t ht hW => ⟨⟨(0 : Int32), M4, rfl, hwp, by show hw D kCl (hTys κ) A M4 t.heap; rw [ht]; exact hM⟩, hS.F ht⟩) hS.2.2 d_BT_force_30)
  · replace hwp := hwp.2 c3
    exact x_throw (own := "BuckTables") (cls := "java/lang/IllegalArgumentException") (text := "at is not 0 .. 10000000") (names := ["java/lang/RuntimeException", "java/lang/Exception"]) (ik := 98) (is := 146) (ic := 102) hx hb hst hown (by decide +kernel) (by decide +kernel) hE.2 hS hM xin_BT_98_102 (List.mem_append_right _ (List.mem_of_getElem? (i := 518) (by decide +kernel))) (by rw [hml]; exact hl.1) d_BT_force_11 d_BT_force_14 d_BT_force_15 d_BT_force_17 d_BT_force_20 (x_empty hnoex) (Nat.le_of_ble_eq_true rfl) (Nat.le_of_ble_eq_true rfl) (Nat.le_of_ble_eq_true rfl) (Nat.le_of_ble_eq_true rfl) hlocks hwp (Nat.le_of_ble_eq_true rfl) (Nat.le_of_ble_eq_true rfl)
set_option maxRecDepth 100000 in
set_option maxHeartbeats 4000000 in
theorem metBT_force (l : Launch) (hst : l.stackTraces = false) (D : va_G) (κ : Nat → ClassId) (sz : Nat) (self : Nat) (p0 : Int32) (M : Hp) (post : Int32 → Hp → Prop) (px : String → Hp → Prop) (hwp : wpBT_force self p0 M post px) : xMet l y_BT_force ws_BT_force rm_BT_force (hPc D kCl (hTys κ) M sz [.ref self, .int p0]) (va_Qi post (hB D kCl (hTys κ) (hAx M sz)) (hAx M sz)) D kCl (hTys κ) (hAx M sz) px 1 6 := by
  refine xMet.ofW (cc := prog_1_method_7_code) (maxL := 2) (ret := (some .boolean)) (by decide +kernel) rfl ?_
  intro p e s m args below meth c s₁ B hml hv
  obtain ⟨rfl, hsz, hE, hM0⟩ := hv
  have hts : ∀ w ∈ WG, w.before _ s = true := fun w h => atoms_spec (ws := ws_BT_force) B.pre w (List.mem_cons_of_mem _ h)
  subst hsz
  have C : Cx_BT_force p s m _ meth c D κ (hAx M s.heap.size) := ⟨B.exec, B.bytes, hml, B.returns, findClass_of_methodNamed B.named, hts, B.notSynchronized, hE, fun q h => Or.inr h, B.noHandlers (atoms_spec (ws := ws_BT_force) B.pre _ List.mem_cons_self)⟩
  have hl := lv_entry ([.ref self, .int p0]) (n := 2) (Nat.le_of_ble_eq_true rfl)
  rw [lg_entry_eq]
  generalize (lg_sl ([.ref self, .int p0]) ++ List.replicate (2 - (lg_sl ([.ref self, .int p0])).length) Slot.unset).toArray = ls at hl ⊢
  exact eBT_force C hst post px self p0 M hwp s.heap [] ls (hM0.self (sz := s.heap.size)) va_S.rf hl
abbrev rm_BT_margin : Room := { frames := 6, cells := 1, slots := 6, locals := 90 }
def Cx_BT_margin (p : Program) (s : State) (m : MethodId) (args : Array Value) (meth : Method) (c : Code) (D : va_G) (κ : Nat → ClassId) (A : Nat → Prop) : Prop := p.tables.exec = Jvm.exec ∧ c.code = prog_1_method_8_code ∧ c.maxLocals = 2 ∧ meth.sig.returnType = (some .boolean) ∧ s.vm.findClass "BuckTables" = some m.cls ∧ (∀ w ∈ WG, w.before args s = true) ∧ meth.locks = false ∧ hEnv D kCl (hTys κ) A s ∧ (∀ q, s.heap.size ≤ q → A q) ∧ c.exceptionTable.isEmpty = true
def wpBT_margin (self : Nat) (p0 : Int32) (M : Hp) (post : Int32 → Hp → Prop) (px : String → Hp → Prop) : Prop := (wpBT_isOutside (p0.toInt64) (100000 : Int64) M (fun (r2 : Int32) (M1 : Hp) => ((r2 = 0 → (∃ v4 : Int32, fI M1 self 0 5 v4 ∧ ((v4 = p0 → (post (0 : Int32) M1)) ∧ (¬ v4 = p0 → (∃ M9 : Hp, pF M1 self 0 5 (.int p0) M9 ∧ (∃ M13 : Hp, pF M9 self 0 9 (.int (0 : Int32)) M13 ∧ (post (1 : Int32) M13))))))) ∧ (¬ r2 = 0 → (px "java/lang/IllegalArgumentException" M1)))))
set_option maxRecDepth 100000 in
set_option maxHeartbeats 4000000 in
theorem eBT_margin {p : Program} {l : Launch} {e : Env} {s : State} {m : MethodId} {args : Array Value} {below : List Frame} {meth : Method} {c : Code} {D : va_G} {κ : Nat → ClassId} {A : Nat → Prop} (C : Cx_BT_margin p s m args meth c D κ A) (hst : l.stackTraces = false) (post : Int32 → Hp → Prop) (px : String → Hp → Prop) (self : Nat) (p0 : Int32) (M : Hp) (hwp : wpBT_margin self p0 M post px) : Y p l e rm_BT_margin s m args below meth c D kCl (hTys κ) A 2 0 0 (xMQ below (va_Qi post (hB D kCl (hTys κ) A) A) D kCl (hTys κ) A px args s 1 6) M 0 [(0, .ref self), (1, .int p0)] [] := by
  obtain ⟨hx, hb, hml, hr, hown, hts, hlocks, hE, hA, hnoex⟩ := id C
  have hK := hE.1
  intro H locs ls hM hS hl
  unfold wpBT_margin at hwp
  refine lv_iload_n hx hb d_BT_margin_0 rfl (lv_at hl 1 rfl) ?_
  refine lv_i2l hx hb d_BT_margin_1 rfl ?_
  refine lv_ldc2 (v := (100000)) hx hb hown (hts _ kw_420) d_BT_margin_2 ?_
  refine h_calli hM hS hA (va_runS (As := [.long (p0.toInt64), .long (100000 : Int64)]) (rest := []) ⟨hx, hb, hml, hown, hts⟩ (metBT_isOutside l D κ H.size (p0.toInt64) (100000 : Int64) M _ hwp) (cwS 2 hts (gS kw_417 kw_418 kw_1 kw_419) rfl rfl rfl (by decide +kernel) ⟨(Nat.le_of_ble_eq_true rfl), (Nat.le_of_ble_eq_true rfl)⟩) (h_preS hE hM hS) rfl rfl hl.1 rfl (lv_room (Nat.le_of_ble_eq_true rfl)) d_BT_margin_5 ⟨(Nat.le_of_ble_eq_true rfl), (Nat.le_of_ble_eq_true rfl)⟩) (fun r2 M1 H locs hwp hM hS => ?_)
  refine lv_if_eq (tgt := 21) hx hb d_BT_margin_8 (by decide) (fun c3 => ?_) (fun c3 => ?_)
  · replace hwp := hwp.1 c3
    refine lv_aload_n hx hb d_BT_margin_21 rfl (lv_at hl 0 rfl) ?_
    obtain ⟨v4, ⟨fs5, he6, hv7⟩, hwp⟩ := hwp
    refine h_get (C := "BuckTables") (T := Tc0) (N := 12) hx hb hts inc0 hown hK hM he6 rfl 5 (by decide) (hts _ kw_207) (fun _ h9 => h9) hv7 d_BT_margin_22 ?_
    refine lv_iload_n hx hb d_BT_margin_25 rfl (lv_at hl 1 rfl) ?_
    refine lv_icmp_ne (tgt := 31) hx hb d_BT_margin_26 (by decide) (fun c8 => ?_) (fun c8 => ?_)
    · replace hwp := hwp.2 c8
      refine lv_aload_n hx hb d_BT_margin_31 rfl (lv_at hl 0 rfl) ?_
      refine lv_iload_n hx hb d_BT_margin_32 rfl (lv_at hl 1 rfl) ?_
      obtain ⟨M9, ⟨fs10, he11, hl12, eM9⟩, hwp⟩ := hwp
      refine h_put (C := "BuckTables") (T := Tc0) (N := 12) (v := .int p0) (ty := .int) hx hb hts inc0 tyc0 tyc0_ok nmc0 hown hK hM hS he11 rfl 5 (by decide) (hts _ kw_207) (fun _ h9 => h9) rfl (by decide +kernel) rfl rfl hl12 d_BT_margin_33 (fun H locs hM hS => ?_)
      rw [← eM9] at hM
      refine lv_aload_n hx hb d_BT_margin_36 rfl (lv_at hl 0 rfl) ?_
      refine lv_iconst (v := 0) hx hb d_BT_margin_37 (by decide) ?_
      obtain ⟨M13, ⟨fs14, he15, hl16, eM13⟩, hwp⟩ := hwp
      refine h_put (C := "BuckTables") (T := Tc0) (N := 12) (v := .int (0 : Int32)) (ty := .boolean) hx hb hts inc0 tyc0 tyc0_ok nmc0 hown hK hM hS he15 rfl 9 (by decide) (hts _ kw_211) (fun _ h9 => h9) rfl (by decide +kernel) (by decide) (by decide) hl16 d_BT_margin_38 (fun H locs hM hS => ?_)
      rw [← eM13] at hM
      refine lv_iconst (v := 1) hx hb d_BT_margin_41 (by decide) ?_
      refine W.widen (k := 1) (n := 6) (by omega) (by omega) ?_
      exact x_ret (W.zret (v := (1 : Int32)) hx hb hr (by decide) (fun t ht hW => ⟨⟨(1 : Int32), M13, rfl, hwp, by show hw D kCl (hTys κ) A M13 t.heap; rw [ht]; exact hM⟩, hS.F ht⟩) hS.2.2 d_BT_margin_42)
    · replace hwp := hwp.1 c8
      refine lv_iconst (v := 0) hx hb d_BT_margin_29 (by decide) ?_
      refine W.widen (k := 1) (n := 6) (by omega) (by omega) ?_
      exact x_ret (W.zret (v := (0 : Int32)) hx hb hr (by decide) (fun t ht hW => ⟨⟨(0 : Int32), M1, rfl, hwp, by show hw D kCl (hTys κ) A M1 t.heap; rw [ht]; exact hM⟩, hS.F ht⟩) hS.2.2 d_BT_margin_30)
  · replace hwp := hwp.2 c3
    exact x_throw (own := "BuckTables") (cls := "java/lang/IllegalArgumentException") (text := "v is not 0 .. 100000") (names := ["java/lang/RuntimeException", "java/lang/Exception"]) (ik := 98) (is := 152) (ic := 102) hx hb hst hown (by decide +kernel) (by decide +kernel) hE.2 hS hM xin_BT_98_102 (List.mem_append_right _ (List.mem_of_getElem? (i := 534) (by decide +kernel))) (by rw [hml]; exact hl.1) d_BT_margin_11 d_BT_margin_14 d_BT_margin_15 d_BT_margin_17 d_BT_margin_20 (x_empty hnoex) (Nat.le_of_ble_eq_true rfl) (Nat.le_of_ble_eq_true rfl) (Nat.le_of_ble_eq_true rfl) (Nat.le_of_ble_eq_true rfl) hlocks hwp (Nat.le_of_ble_eq_true rfl) (Nat.le_of_ble_eq_true rfl)
set_option maxRecDepth 100000 in
set_option maxHeartbeats 4000000 in
theorem metBT_margin (l : Launch) (hst : l.stackTraces = false) (D : va_G) (κ : Nat → ClassId) (sz : Nat) (self : Nat) (p0 : Int32) (M : Hp) (post : Int32 → Hp → Prop) (px : String → Hp → Prop) (hwp : wpBT_margin self p0 M post px) : xMet l y_BT_margin ws_BT_margin rm_BT_margin (hPc D kCl (hTys κ) M sz [.ref self, .int p0]) (va_Qi post (hB D kCl (hTys κ) (hAx M sz)) (hAx M sz)) D kCl (hTys κ) (hAx M sz) px 1 6 := by
  refine xMet.ofW (cc := prog_1_method_8_code) (maxL := 2) (ret := (some .boolean)) (by decide +kernel) rfl ?_
  intro p e s m args below meth c s₁ B hml hv
  obtain ⟨rfl, hsz, hE, hM0⟩ := hv
  have hts : ∀ w ∈ WG, w.before _ s = true := fun w h => atoms_spec (ws := ws_BT_margin) B.pre w (List.mem_cons_of_mem _ h)
  subst hsz
  have C : Cx_BT_margin p s m _ meth c D κ (hAx M s.heap.size) := ⟨B.exec, B.bytes, hml, B.returns, findClass_of_methodNamed B.named, hts, B.notSynchronized, hE, fun q h => Or.inr h, B.noHandlers (atoms_spec (ws := ws_BT_margin) B.pre _ List.mem_cons_self)⟩
  have hl := lv_entry ([.ref self, .int p0]) (n := 2) (Nat.le_of_ble_eq_true rfl)
  rw [lg_entry_eq]
  generalize (lg_sl ([.ref self, .int p0]) ++ List.replicate (2 - (lg_sl ([.ref self, .int p0])).length) Slot.unset).toArray = ls at hl ⊢
  exact eBT_margin C hst post px self p0 M hwp s.heap [] ls (hM0.self (sz := s.heap.size)) va_S.rf hl
abbrev rm_BT_saw : Room := { frames := 6, cells := 1, slots := 6, locals := 90 }
def Cx_BT_saw (p : Program) (s : State) (m : MethodId) (args : Array Value) (meth : Method) (c : Code) (D : va_G) (κ : Nat → ClassId) (A : Nat → Prop) : Prop := p.tables.exec = Jvm.exec ∧ c.code = prog_1_method_9_code ∧ c.maxLocals = 2 ∧ meth.sig.returnType = (some .boolean) ∧ s.vm.findClass "BuckTables" = some m.cls ∧ (∀ w ∈ WG, w.before args s = true) ∧ meth.locks = false ∧ hEnv D kCl (hTys κ) A s ∧ (∀ q, s.heap.size ≤ q → A q) ∧ c.exceptionTable.isEmpty = true
def wpBT_saw (self : Nat) (p0 : Int32) (M : Hp) (post : Int32 → Hp → Prop) (px : String → Hp → Prop) : Prop := (wpBT_isOutside (p0.toInt64) (3 : Int64) M (fun (r2 : Int32) (M1 : Hp) => ((r2 = 0 → (∃ v4 : Int32, fI M1 self 0 6 v4 ∧ ((v4 = p0 → (post (0 : Int32) M1)) ∧ (¬ v4 = p0 → (∃ M9 : Hp, pF M1 self 0 6 (.int p0) M9 ∧ (∃ M13 : Hp, pF M9 self 0 9 (.int (0 : Int32)) M13 ∧ (post (1 : Int32) M13))))))) ∧ (¬ r2 = 0 → (px "java/lang/IllegalArgumentException" M1)))))
set_option maxRecDepth 100000 in
set_option maxHeartbeats 4000000 in
theorem eBT_saw {p : Program} {l : Launch} {e : Env} {s : State} {m : MethodId} {args : Array Value} {below : List Frame} {meth : Method} {c : Code} {D : va_G} {κ : Nat → ClassId} {A : Nat → Prop} (C : Cx_BT_saw p s m args meth c D κ A) (hst : l.stackTraces = false) (post : Int32 → Hp → Prop) (px : String → Hp → Prop) (self : Nat) (p0 : Int32) (M : Hp) (hwp : wpBT_saw self p0 M post px) : Y p l e rm_BT_saw s m args below meth c D kCl (hTys κ) A 2 0 0 (xMQ below (va_Qi post (hB D kCl (hTys κ) A) A) D kCl (hTys κ) A px args s 1 6) M 0 [(0, .ref self), (1, .int p0)] [] := by
  obtain ⟨hx, hb, hml, hr, hown, hts, hlocks, hE, hA, hnoex⟩ := id C
  have hK := hE.1
  intro H locs ls hM hS hl
  unfold wpBT_saw at hwp
  refine lv_iload_n hx hb d_BT_saw_0 rfl (lv_at hl 1 rfl) ?_
  refine lv_i2l hx hb d_BT_saw_1 rfl ?_
  refine lv_ldc2 (v := (3)) hx hb hown (hts _ kw_542) d_BT_saw_2 ?_
  refine h_calli hM hS hA (va_runS (As := [.long (p0.toInt64), .long (3 : Int64)]) (rest := []) ⟨hx, hb, hml, hown, hts⟩ (metBT_isOutside l D κ H.size (p0.toInt64) (3 : Int64) M _ hwp) (cwS 2 hts (gS kw_417 kw_418 kw_1 kw_419) rfl rfl rfl (by decide +kernel) ⟨(Nat.le_of_ble_eq_true rfl), (Nat.le_of_ble_eq_true rfl)⟩) (h_preS hE hM hS) rfl rfl hl.1 rfl (lv_room (Nat.le_of_ble_eq_true rfl)) d_BT_saw_5 ⟨(Nat.le_of_ble_eq_true rfl), (Nat.le_of_ble_eq_true rfl)⟩) (fun r2 M1 H locs hwp hM hS => ?_)
  refine lv_if_eq (tgt := 21) hx hb d_BT_saw_8 (by decide) (fun c3 => ?_) (fun c3 => ?_)
  · replace hwp := hwp.1 c3
    refine lv_aload_n hx hb d_BT_saw_21 rfl (lv_at hl 0 rfl) ?_
    obtain ⟨v4, ⟨fs5, he6, hv7⟩, hwp⟩ := hwp
    refine h_get (C := "BuckTables") (T := Tc0) (N := 12) hx hb hts inc0 hown hK hM he6 rfl 6 (by decide) (hts _ kw_208) (fun _ h9 => h9) hv7 d_BT_saw_22 ?_
    refine lv_iload_n hx hb d_BT_saw_25 rfl (lv_at hl 1 rfl) ?_
    refine lv_icmp_ne (tgt := 31) hx hb d_BT_saw_26 (by decide) (fun c8 => ?_) (fun c8 => ?_)
    · replace hwp := hwp.2 c8
      refine lv_aload_n hx hb d_BT_saw_31 rfl (lv_at hl 0 rfl) ?_
      refine lv_iload_n hx hb d_BT_saw_32 rfl (lv_at hl 1 rfl) ?_
      obtain ⟨M9, ⟨fs10, he11, hl12, eM9⟩, hwp⟩ := hwp
      refine h_put (C := "BuckTables") (T := Tc0) (N := 12) (v := .int p0) (ty := .int) hx hb hts inc0 tyc0 tyc0_ok nmc0 hown hK hM hS he11 rfl 6 (by decide) (hts _ kw_208) (fun _ h9 => h9) rfl (by decide +kernel) rfl rfl hl12 d_BT_saw_33 (fun H locs hM hS => ?_)
      rw [← eM9] at hM
      refine lv_aload_n hx hb d_BT_saw_36 rfl (lv_at hl 0 rfl) ?_
      refine lv_iconst (v := 0) hx hb d_BT_saw_37 (by decide) ?_
      obtain ⟨M13, ⟨fs14, he15, hl16, eM13⟩, hwp⟩ := hwp
      refine h_put (C := "BuckTables") (T := Tc0) (N := 12) (v := .int (0 : Int32)) (ty := .boolean) hx hb hts inc0 tyc0 tyc0_ok nmc0 hown hK hM hS he15 rfl 9 (by decide) (hts _ kw_211) (fun _ h9 => h9) rfl (by decide +kernel) (by decide) (by decide) hl16 d_BT_saw_38 (fun H locs hM hS => ?_)
      rw [← eM13] at hM
      refine lv_iconst (v := 1) hx hb d_BT_saw_41 (by decide) ?_
      refine W.widen (k := 1) (n := 6) (by omega) (by omega) ?_
      exact x_ret (W.zret (v := (1 : Int32)) hx hb hr (by decide) (fun t ht hW => ⟨⟨(1 : Int32), M13, rfl, hwp, by show hw D kCl (hTys κ) A M13 t.heap; rw [ht]; exact hM⟩, hS.F ht⟩) hS.2.2 d_BT_saw_42)
    · replace hwp := hwp.1 c8
      refine lv_iconst (v := 0) hx hb d_BT_saw_29 (by decide) ?_
      refine W.widen (k := 1) (n := 6) (by omega) (by omega) ?_
      exact x_ret (W.zret (v := (0 : Int32)) hx hb hr (by decide) (fun t ht hW => ⟨⟨(0 : Int32), M1, rfl, hwp, by show hw D kCl (hTys κ) A M1 t.heap; rw [ht]; exact hM⟩, hS.F ht⟩) hS.2.2 d_BT_saw_30)
  · replace hwp := hwp.2 c3
    exact x_throw (own := "BuckTables") (cls := "java/lang/IllegalArgumentException") (text := "loss is not 0 .. 3") (names := ["java/lang/RuntimeException", "java/lang/Exception"]) (ik := 98) (is := 156) (ic := 102) hx hb hst hown (by decide +kernel) (by decide +kernel) hE.2 hS hM xin_BT_98_102 (List.mem_append_right _ (List.mem_of_getElem? (i := 543) (by decide +kernel))) (by rw [hml]; exact hl.1) d_BT_saw_11 d_BT_saw_14 d_BT_saw_15 d_BT_saw_17 d_BT_saw_20 (x_empty hnoex) (Nat.le_of_ble_eq_true rfl) (Nat.le_of_ble_eq_true rfl) (Nat.le_of_ble_eq_true rfl) (Nat.le_of_ble_eq_true rfl) hlocks hwp (Nat.le_of_ble_eq_true rfl) (Nat.le_of_ble_eq_true rfl)
set_option maxRecDepth 100000 in
set_option maxHeartbeats 4000000 in
theorem metBT_saw (l : Launch) (hst : l.stackTraces = false) (D : va_G) (κ : Nat → ClassId) (sz : Nat) (self : Nat) (p0 : Int32) (M : Hp) (post : Int32 → Hp → Prop) (px : String → Hp → Prop) (hwp : wpBT_saw self p0 M post px) : xMet l y_BT_saw ws_BT_saw rm_BT_saw (hPc D kCl (hTys κ) M sz [.ref self, .int p0]) (va_Qi post (hB D kCl (hTys κ) (hAx M sz)) (hAx M sz)) D kCl (hTys κ) (hAx M sz) px 1 6 := by
  refine xMet.ofW (cc := prog_1_method_9_code) (maxL := 2) (ret := (some .boolean)) (by decide +kernel) rfl ?_
  intro p e s m args below meth c s₁ B hml hv
  obtain ⟨rfl, hsz, hE, hM0⟩ := hv
  have hts : ∀ w ∈ WG, w.before _ s = true := fun w h => atoms_spec (ws := ws_BT_saw) B.pre w (List.mem_cons_of_mem _ h)
  subst hsz
  have C : Cx_BT_saw p s m _ meth c D κ (hAx M s.heap.size) := ⟨B.exec, B.bytes, hml, B.returns, findClass_of_methodNamed B.named, hts, B.notSynchronized, hE, fun q h => Or.inr h, B.noHandlers (atoms_spec (ws := ws_BT_saw) B.pre _ List.mem_cons_self)⟩
  have hl := lv_entry ([.ref self, .int p0]) (n := 2) (Nat.le_of_ble_eq_true rfl)
  rw [lg_entry_eq]
  generalize (lg_sl ([.ref self, .int p0]) ++ List.replicate (2 - (lg_sl ([.ref self, .int p0])).length) Slot.unset).toArray = ls at hl ⊢
  exact eBT_saw C hst post px self p0 M hwp s.heap [] ls (hM0.self (sz := s.heap.size)) va_S.rf hl
abbrev rm_BT_limit : Room := { frames := 7, cells := 2, slots := 12, locals := 111 }
def Cx_BT_limit (p : Program) (s : State) (m : MethodId) (args : Array Value) (meth : Method) (c : Code) (D : va_G) (κ : Nat → ClassId) (A : Nat → Prop) : Prop := p.tables.exec = Jvm.exec ∧ c.code = prog_1_method_10_code ∧ c.maxLocals = 5 ∧ meth.sig.returnType = (some .boolean) ∧ s.vm.findClass "BuckTables" = some m.cls ∧ (∀ w ∈ WG, w.before args s = true) ∧ meth.locks = false ∧ hEnv D kCl (hTys κ) A s ∧ (∀ q, s.heap.size ≤ q → A q) ∧ c.exceptionTable.isEmpty = true
def wpBT_limit (self : Nat) (p0 : Int32) (p1 : Int64) (M : Hp) (post : Int32 → Hp → Prop) (px : String → Hp → Prop) : Prop := (hob M self 0 ∧ (wpBT_productAt self p0 M (fun (a3 : Nat) (M1 : Hp) => (wpBT_isOutside p1 (1000 : Int64) M1 (fun (r5 : Int32) (M4 : Hp) => ((r5 = 0 → (∃ v7 : Int64, fJ M4 a3 2 8 v7 ∧ ((v7 = p1 → (post (0 : Int32) M4)) ∧ (¬ v7 = p1 → (∃ M12 : Hp, pF M4 a3 2 8 (.long p1) M12 ∧ (∃ M16 : Hp, pF M12 self 0 9 (.int (0 : Int32)) M16 ∧ (post (1 : Int32) M16))))))) ∧ (¬ r5 = 0 → (px "java/lang/IllegalArgumentException" M4)))))) px))
set_option maxRecDepth 100000 in
set_option maxHeartbeats 4000000 in
theorem eBT_limit {p : Program} {l : Launch} {e : Env} {s : State} {m : MethodId} {args : Array Value} {below : List Frame} {meth : Method} {c : Code} {D : va_G} {κ : Nat → ClassId} {A : Nat → Prop} (C : Cx_BT_limit p s m args meth c D κ A) (hst : l.stackTraces = false) (post : Int32 → Hp → Prop) (px : String → Hp → Prop) (self : Nat) (p0 : Int32) (p1 : Int64) (M : Hp) (hwp : wpBT_limit self p0 p1 M post px) : Y p l e rm_BT_limit s m args below meth c D kCl (hTys κ) A 5 0 0 (xMQ below (va_Qi post (hB D kCl (hTys κ) A) A) D kCl (hTys κ) A px args s 2 12) M 0 [(0, .ref self), (1, .int p0), (2, .long p1)] [] := by
  obtain ⟨hx, hb, hml, hr, hown, hts, hlocks, hE, hA, hnoex⟩ := id C
  have hK := hE.1
  intro H locs ls hM hS hl
  unfold wpBT_limit at hwp
  refine lv_aload_n hx hb d_BT_limit_0 rfl (lv_at hl 0 rfl) ?_
  refine lv_iload_n hx hb d_BT_limit_1 rfl (lv_at hl 1 rfl) ?_
  obtain ⟨ho2, hwp⟩ := hwp
  refine h_xcallr hM hS hA (x_runV (As := [.int p0]) (rest := []) ⟨hx, hb, hml, hown, hts⟩ (metBT_productAt l hst D κ H.size self p0 M _ px hwp) (cwV 1 hts (gV kw_490 kw_492 kp_10 kw_1 kw_493) rfl rfl rfl (by decide +kernel) ⟨(Nat.le_of_ble_eq_true rfl), (Nat.le_of_ble_eq_true rfl)⟩) (h_preV hE hM hS ho2 (r := ("BuckTables", Tc0, 12)) rfl) rfl rfl hl.1 rfl (lv_room (Nat.le_of_ble_eq_true rfl)) d_BT_limit_2 ⟨(Nat.le_of_ble_eq_true rfl), (Nat.le_of_ble_eq_true rfl)⟩) (fun E9 M9 q9 ce9 H locs hwp hM hS hce hcv hcl => x_out (x_empty hnoex) hlocks hM hS hwp hce hcv hcl (Nat.le_of_ble_eq_true rfl) (Nat.le_of_ble_eq_true rfl)) (fun a3 M1 H locs hwp hM hS => ?_)
  refine lv_astore (lv' := [(4, .ref a3), (0, .ref self), (1, .int p0), (2, .long p1)]) hx hb d_BT_limit_5 hl (by decide) rfl (fun ls hl => ?_)
  refine lv_lload_n hx hb d_BT_limit_7 rfl (lv_at hl 3 rfl) ?_
  refine lv_ldc2 (v := (1000)) hx hb hown (hts _ kw_551) d_BT_limit_8 ?_
  refine h_calli hM hS hA (va_runS (As := [.long p1, .long (1000 : Int64)]) (rest := []) ⟨hx, hb, hml, hown, hts⟩ (metBT_isOutside l D κ H.size p1 (1000 : Int64) M1 _ hwp) (cwS 2 hts (gS kw_417 kw_418 kw_1 kw_419) rfl rfl rfl (by decide +kernel) ⟨(Nat.le_of_ble_eq_true rfl), (Nat.le_of_ble_eq_true rfl)⟩) (h_preS hE hM hS) rfl rfl hl.1 rfl (lv_room (Nat.le_of_ble_eq_true rfl)) d_BT_limit_11 ⟨(Nat.le_of_ble_eq_true rfl), (Nat.le_of_ble_eq_true rfl)⟩) (fun r5 M4 H locs hwp hM hS => ?_)
  refine lv_if_eq (tgt := 27) hx hb d_BT_limit_14 (by decide) (fun c6 => ?_) (fun c6 => ?_)
  · replace hwp := hwp.1 c6
    refine lv_aload hx hb d_BT_limit_27 (lv_at hl 0 rfl) ?_
    obtain ⟨v7, ⟨fs8, he9, hv10⟩, hwp⟩ := hwp
    refine h_get (C := "BuckTables$Product") (T := Tc2) (N := 10) hx hb hts inc2 hown hK hM he9 rfl 8 (by decide) (hts _ kw_177) (fun _ h9 => h9) hv10 d_BT_limit_29 ?_
    refine lv_lload_n hx hb d_BT_limit_32 rfl (lv_at hl 3 rfl) ?_
    refine W.lcmp hx hb d_BT_limit_33 ?_
    refine lv_if_ne (tgt := 39) hx hb d_BT_limit_34 (by decide) (fun c11 => ?_) (fun c11 => ?_)
    · replace c11 := fun h9 => c11 ((lc_eq _ _).mpr h9)
      replace hwp := hwp.2 c11
      refine lv_aload hx hb d_BT_limit_39 (lv_at hl 0 rfl) ?_
      refine lv_lload_n hx hb d_BT_limit_41 rfl (lv_at hl 3 rfl) ?_
      obtain ⟨M12, ⟨fs13, he14, hl15, eM12⟩, hwp⟩ := hwp
      refine h_put (C := "BuckTables$Product") (T := Tc2) (N := 10) (v := .long p1) (ty := .long) hx hb hts inc2 tyc2 tyc2_ok nmc2 hown hK hM hS he14 rfl 8 (by decide) (hts _ kw_177) (fun _ h9 => h9) rfl (by decide +kernel) rfl rfl hl15 d_BT_limit_42 (fun H locs hM hS => ?_)
      rw [← eM12] at hM
      refine lv_aload_n hx hb d_BT_limit_45 rfl (lv_at hl 1 rfl) ?_
      refine lv_iconst (v := 0) hx hb d_BT_limit_46 (by decide) ?_
      obtain ⟨M16, ⟨fs17, he18, hl19, eM16⟩, hwp⟩ := hwp
      refine h_put (C := "BuckTables") (T := Tc0) (N := 12) (v := .int (0 : Int32)) (ty := .boolean) hx hb hts inc0 tyc0 tyc0_ok nmc0 hown hK hM hS he18 rfl 9 (by decide) (hts _ kw_211) (fun _ h9 => h9) rfl (by decide +kernel) (by decide) (by decide) hl19 d_BT_limit_47 (fun H locs hM hS => ?_)
      rw [← eM16] at hM
      refine lv_iconst (v := 1) hx hb d_BT_limit_50 (by decide) ?_
      refine W.widen (k := 2) (n := 12) (by omega) (by omega) ?_
      exact x_ret (W.zret (v := (1 : Int32)) hx hb hr (by decide) (fun t ht hW => ⟨⟨(1 : Int32), M16, rfl, hwp, by show hw D kCl (hTys κ) A M16 t.heap; rw [ht]; exact hM⟩, hS.F ht⟩) hS.2.2 d_BT_limit_51)
    · replace c11 := (lc_eq _ _).mp c11
      replace hwp := hwp.1 c11
      refine lv_iconst (v := 0) hx hb d_BT_limit_37 (by decide) ?_
      refine W.widen (k := 2) (n := 12) (by omega) (by omega) ?_
      exact x_ret (W.zret (v := (0 : Int32)) hx hb hr (by decide) (fun t ht hW => ⟨⟨(0 : Int32), M4, rfl, hwp, by show hw D kCl (hTys κ) A M4 t.heap; rw [ht]; exact hM⟩, hS.F ht⟩) hS.2.2 d_BT_limit_38)
  · replace hwp := hwp.2 c6
    exact x_throw (own := "BuckTables") (cls := "java/lang/IllegalArgumentException") (text := "most is not 0 .. 1000") (names := ["java/lang/RuntimeException", "java/lang/Exception"]) (ik := 98) (is := 160) (ic := 102) hx hb hst hown (by decide +kernel) (by decide +kernel) hE.2 hS hM xin_BT_98_102 (List.mem_append_right _ (List.mem_of_getElem? (i := 552) (by decide +kernel))) (by rw [hml]; exact hl.1) d_BT_limit_17 d_BT_limit_20 d_BT_limit_21 d_BT_limit_23 d_BT_limit_26 (x_empty hnoex) (Nat.le_of_ble_eq_true rfl) (Nat.le_of_ble_eq_true rfl) (Nat.le_of_ble_eq_true rfl) (Nat.le_of_ble_eq_true rfl) hlocks hwp (Nat.le_of_ble_eq_true rfl) (Nat.le_of_ble_eq_true rfl)
set_option maxRecDepth 100000 in
set_option maxHeartbeats 4000000 in
theorem metBT_limit (l : Launch) (hst : l.stackTraces = false) (D : va_G) (κ : Nat → ClassId) (sz : Nat) (self : Nat) (p0 : Int32) (p1 : Int64) (M : Hp) (post : Int32 → Hp → Prop) (px : String → Hp → Prop) (hwp : wpBT_limit self p0 p1 M post px) : xMet l y_BT_limit ws_BT_limit rm_BT_limit (hPc D kCl (hTys κ) M sz [.ref self, .int p0, .long p1]) (va_Qi post (hB D kCl (hTys κ) (hAx M sz)) (hAx M sz)) D kCl (hTys κ) (hAx M sz) px 2 12 := by
  refine xMet.ofW (cc := prog_1_method_10_code) (maxL := 5) (ret := (some .boolean)) (by decide +kernel) rfl ?_
  intro p e s m args below meth c s₁ B hml hv
  obtain ⟨rfl, hsz, hE, hM0⟩ := hv
  have hts : ∀ w ∈ WG, w.before _ s = true := fun w h => atoms_spec (ws := ws_BT_limit) B.pre w (List.mem_cons_of_mem _ h)
  subst hsz
  have C : Cx_BT_limit p s m _ meth c D κ (hAx M s.heap.size) := ⟨B.exec, B.bytes, hml, B.returns, findClass_of_methodNamed B.named, hts, B.notSynchronized, hE, fun q h => Or.inr h, B.noHandlers (atoms_spec (ws := ws_BT_limit) B.pre _ List.mem_cons_self)⟩
  have hl := lv_entry ([.ref self, .int p0, .long p1]) (n := 5) (Nat.le_of_ble_eq_true rfl)
  rw [lg_entry_eq]
  generalize (lg_sl ([.ref self, .int p0, .long p1]) ++ List.replicate (5 - (lg_sl ([.ref self, .int p0, .long p1])).length) Slot.unset).toArray = ls at hl ⊢
  exact eBT_limit C hst post px self p0 p1 M hwp s.heap [] ls (hM0.self (sz := s.heap.size)) va_S.rf hl
abbrev rm_BT_wish : Room := { frames := 7, cells := 2, slots := 12, locals := 111 }
def Cx_BT_wish (p : Program) (s : State) (m : MethodId) (args : Array Value) (meth : Method) (c : Code) (D : va_G) (κ : Nat → ClassId) (A : Nat → Prop) : Prop := p.tables.exec = Jvm.exec ∧ c.code = prog_1_method_11_code ∧ c.maxLocals = 6 ∧ meth.sig.returnType = (some .boolean) ∧ s.vm.findClass "BuckTables" = some m.cls ∧ (∀ w ∈ WG, w.before args s = true) ∧ meth.locks = false ∧ hEnv D kCl (hTys κ) A s ∧ (∀ q, s.heap.size ≤ q → A q) ∧ c.exceptionTable.isEmpty = true
def wBT_wish_28 (post : Int32 → Hp → Prop) (px : String → Hp → Prop)   (M : Hp) : Prop := (px "java/lang/IllegalArgumentException" M)
set_option maxRecDepth 100000 in
set_option maxHeartbeats 4000000 in
theorem tBT_wish_28 {p : Program} {l : Launch} {e : Env} {s : State} {m : MethodId} {args : Array Value} {below : List Frame} {meth : Method} {c : Code} {D : va_G} {κ : Nat → ClassId} {A : Nat → Prop} (C : Cx_BT_wish p s m args meth c D κ A) (hst : l.stackTraces = false) (post : Int32 → Hp → Prop) (px : String → Hp → Prop)   (M : Hp) (hwp : wBT_wish_28 post px  M) : Y p l e rm_BT_wish s m args below meth c D kCl (hTys κ) A 6 1 6 (xMQ below (va_Qi post (hB D kCl (hTys κ) A) A) D kCl (hTys κ) A px args s 2 12) M 28 [] [] := by
  obtain ⟨hx, hb, hml, hr, hown, hts, hlocks, hE, hA, hnoex⟩ := id C
  have hK := hE.1
  intro H locs ls hM hS hl
  unfold wBT_wish_28 at hwp
  exact x_throw (own := "BuckTables") (cls := "java/lang/IllegalArgumentException") (text := "day or worth2 is out of its range") (names := ["java/lang/RuntimeException", "java/lang/Exception"]) (ik := 98) (is := 167) (ic := 102) hx hb hst hown (by decide +kernel) (by decide +kernel) hE.2 hS hM xin_BT_98_102 (List.mem_append_right _ (List.mem_of_getElem? (i := 561) (by decide +kernel))) (by rw [hml]; exact hl.1) d_BT_wish_28 d_BT_wish_31 d_BT_wish_32 d_BT_wish_34 d_BT_wish_37 (x_empty hnoex) (Nat.le_of_ble_eq_true rfl) (Nat.le_of_ble_eq_true rfl) (Nat.le_of_ble_eq_true rfl) (Nat.le_of_ble_eq_true rfl) hlocks hwp (Nat.le_of_ble_eq_true rfl) (Nat.le_of_ble_eq_true rfl)
def wpBT_wish (self : Nat) (p0 : Int32) (p1 : Int32) (p2 : Int64) (M : Hp) (post : Int32 → Hp → Prop) (px : String → Hp → Prop) : Prop := (hob M self 0 ∧ (wpBT_productAt self p0 M (fun (a3 : Nat) (M1 : Hp) => (wpBT_isOutside (p1.toInt64) (6 : Int64) M1 (fun (r5 : Int32) (M4 : Hp) => ((r5 = 0 → (wpBT_isOutside p2 (100000 : Int64) M4 (fun (r8 : Int32) (M7 : Hp) => ((r8 = 0 → (∃ a10 : Nat, fA M7 a3 2 2 a10 ∧ (∃ v14 : Int64, aJ M7 a10 p1 v14 ∧ ((v14 = p2 → (post (0 : Int32) M7)) ∧ (¬ v14 = p2 → (∃ a20 : Nat, fA M7 a3 2 2 a20 ∧ (∃ M28 : Hp, sJ M7 a20 p1 p2 M28 ∧ (∃ M29 : Hp, pF M28 self 0 9 (.int (0 : Int32)) M29 ∧ (post (1 : Int32) M29))))))))) ∧ (¬ r8 = 0 → (wBT_wish_28 post px M7)))))) ∧ (¬ r5 = 0 → (wBT_wish_28 post px M4)))))) px))
set_option maxRecDepth 100000 in
set_option maxHeartbeats 4000000 in
theorem eBT_wish {p : Program} {l : Launch} {e : Env} {s : State} {m : MethodId} {args : Array Value} {below : List Frame} {meth : Method} {c : Code} {D : va_G} {κ : Nat → ClassId} {A : Nat → Prop} (C : Cx_BT_wish p s m args meth c D κ A) (hst : l.stackTraces = false) (post : Int32 → Hp → Prop) (px : String → Hp → Prop) (self : Nat) (p0 : Int32) (p1 : Int32) (p2 : Int64) (M : Hp) (hwp : wpBT_wish self p0 p1 p2 M post px) : Y p l e rm_BT_wish s m args below meth c D kCl (hTys κ) A 6 0 0 (xMQ below (va_Qi post (hB D kCl (hTys κ) A) A) D kCl (hTys κ) A px args s 2 12) M 0 [(0, .ref self), (1, .int p0), (2, .int p1), (3, .long p2)] [] := by
  obtain ⟨hx, hb, hml, hr, hown, hts, hlocks, hE, hA, hnoex⟩ := id C
  have hK := hE.1
  intro H locs ls hM hS hl
  unfold wpBT_wish at hwp
  refine lv_aload_n hx hb d_BT_wish_0 rfl (lv_at hl 0 rfl) ?_
  refine lv_iload_n hx hb d_BT_wish_1 rfl (lv_at hl 1 rfl) ?_
  obtain ⟨ho2, hwp⟩ := hwp
  refine h_xcallr hM hS hA (x_runV (As := [.int p0]) (rest := []) ⟨hx, hb, hml, hown, hts⟩ (metBT_productAt l hst D κ H.size self p0 M _ px hwp) (cwV 1 hts (gV kw_490 kw_492 kp_10 kw_1 kw_493) rfl rfl rfl (by decide +kernel) ⟨(Nat.le_of_ble_eq_true rfl), (Nat.le_of_ble_eq_true rfl)⟩) (h_preV hE hM hS ho2 (r := ("BuckTables", Tc0, 12)) rfl) rfl rfl hl.1 rfl (lv_room (Nat.le_of_ble_eq_true rfl)) d_BT_wish_2 ⟨(Nat.le_of_ble_eq_true rfl), (Nat.le_of_ble_eq_true rfl)⟩) (fun E9 M9 q9 ce9 H locs hwp hM hS hce hcv hcl => x_out (x_empty hnoex) hlocks hM hS hwp hce hcv hcl (Nat.le_of_ble_eq_true rfl) (Nat.le_of_ble_eq_true rfl)) (fun a3 M1 H locs hwp hM hS => ?_)
  refine lv_astore (lv' := [(5, .ref a3), (0, .ref self), (1, .int p0), (2, .int p1), (3, .long p2)]) hx hb d_BT_wish_5 hl (by decide) rfl (fun ls hl => ?_)
  refine lv_iload_n hx hb d_BT_wish_7 rfl (lv_at hl 3 rfl) ?_
  refine lv_i2l hx hb d_BT_wish_8 rfl ?_
  refine lv_ldc2 (v := (6)) hx hb hown (hts _ kw_560) d_BT_wish_9 ?_
  refine h_calli hM hS hA (va_runS (As := [.long (p1.toInt64), .long (6 : Int64)]) (rest := []) ⟨hx, hb, hml, hown, hts⟩ (metBT_isOutside l D κ H.size (p1.toInt64) (6 : Int64) M1 _ hwp) (cwS 2 hts (gS kw_417 kw_418 kw_1 kw_419) rfl rfl rfl (by decide +kernel) ⟨(Nat.le_of_ble_eq_true rfl), (Nat.le_of_ble_eq_true rfl)⟩) (h_preS hE hM hS) rfl rfl hl.1 rfl (lv_room (Nat.le_of_ble_eq_true rfl)) d_BT_wish_12 ⟨(Nat.le_of_ble_eq_true rfl), (Nat.le_of_ble_eq_true rfl)⟩) (fun r5 M4 H locs hwp hM hS => ?_)
  refine lv_if_ne (tgt := 28) hx hb d_BT_wish_15 (by decide) (fun c6 => ?_) (fun c6 => ?_)
  · replace hwp := hwp.2 c6
    exact tBT_wish_28 C hst post px M4 hwp H locs ls hM hS (lv_sub hl [] rfl)
  · replace hwp := hwp.1 c6
    refine lv_lload_n hx hb d_BT_wish_18 rfl (lv_at hl 4 rfl) ?_
    refine lv_ldc2 (v := (100000)) hx hb hown (hts _ kw_420) d_BT_wish_19 ?_
    refine h_calli hM hS hA (va_runS (As := [.long p2, .long (100000 : Int64)]) (rest := []) ⟨hx, hb, hml, hown, hts⟩ (metBT_isOutside l D κ H.size p2 (100000 : Int64) M4 _ hwp) (cwS 2 hts (gS kw_417 kw_418 kw_1 kw_419) rfl rfl rfl (by decide +kernel) ⟨(Nat.le_of_ble_eq_true rfl), (Nat.le_of_ble_eq_true rfl)⟩) (h_preS hE hM hS) rfl rfl hl.1 rfl (lv_room (Nat.le_of_ble_eq_true rfl)) d_BT_wish_22 ⟨(Nat.le_of_ble_eq_true rfl), (Nat.le_of_ble_eq_true rfl)⟩) (fun r8 M7 H locs hwp hM hS => ?_)
    refine lv_if_eq (tgt := 38) hx hb d_BT_wish_25 (by decide) (fun c9 => ?_) (fun c9 => ?_)
    · replace hwp := hwp.1 c9
      refine lv_aload hx hb d_BT_wish_38 (lv_at hl 0 rfl) ?_
      obtain ⟨a10, ⟨fs11, he12, hv13⟩, hwp⟩ := hwp
      refine h_get (C := "BuckTables$Product") (T := Tc2) (N := 10) hx hb hts inc2 hown hK hM he12 rfl 2 (by decide) (hts _ kw_165) (fun _ h9 => h9) hv13 d_BT_wish_40 ?_
      refine lv_iload_n hx hb d_BT_wish_43 rfl (lv_at hl 3 rfl) ?_
      obtain ⟨v14, ⟨n15, f16, ha17, hi18, ev14⟩, hwp⟩ := hwp
      refine h_lald hx hb hK hM ha17 rfl hi18 d_BT_wish_44 ?_
      rw [← ev14]
      refine lv_lload_n hx hb d_BT_wish_45 rfl (lv_at hl 4 rfl) ?_
      refine W.lcmp hx hb d_BT_wish_46 ?_
      refine lv_if_ne (tgt := 52) hx hb d_BT_wish_47 (by decide) (fun c19 => ?_) (fun c19 => ?_)
      · replace c19 := fun h9 => c19 ((lc_eq _ _).mpr h9)
        replace hwp := hwp.2 c19
        refine lv_aload hx hb d_BT_wish_52 (lv_at hl 0 rfl) ?_
        obtain ⟨a20, ⟨fs21, he22, hv23⟩, hwp⟩ := hwp
        refine h_get (C := "BuckTables$Product") (T := Tc2) (N := 10) hx hb hts inc2 hown hK hM he22 rfl 2 (by decide) (hts _ kw_165) (fun _ h9 => h9) hv23 d_BT_wish_54 ?_
        refine lv_iload_n hx hb d_BT_wish_57 rfl (lv_at hl 3 rfl) ?_
        refine lv_lload_n hx hb d_BT_wish_58 rfl (lv_at hl 4 rfl) ?_
        obtain ⟨M28, ⟨n24, f25, ha26, hi27, eM28⟩, hwp⟩ := hwp
        refine h_last hx hb hK hM hS ha26 rfl hi27 d_BT_wish_59 (fun H locs hM hS => ?_)
        rw [← eM28] at hM
        refine lv_aload_n hx hb d_BT_wish_60 rfl (lv_at hl 1 rfl) ?_
        refine lv_iconst (v := 0) hx hb d_BT_wish_61 (by decide) ?_
        obtain ⟨M29, ⟨fs30, he31, hl32, eM29⟩, hwp⟩ := hwp
        refine h_put (C := "BuckTables") (T := Tc0) (N := 12) (v := .int (0 : Int32)) (ty := .boolean) hx hb hts inc0 tyc0 tyc0_ok nmc0 hown hK hM hS he31 rfl 9 (by decide) (hts _ kw_211) (fun _ h9 => h9) rfl (by decide +kernel) (by decide) (by decide) hl32 d_BT_wish_62 (fun H locs hM hS => ?_)
        rw [← eM29] at hM
        refine lv_iconst (v := 1) hx hb d_BT_wish_65 (by decide) ?_
        refine W.widen (k := 2) (n := 12) (by omega) (by omega) ?_
        exact x_ret (W.zret (v := (1 : Int32)) hx hb hr (by decide) (fun t ht hW => ⟨⟨(1 : Int32), M29, rfl, hwp, by show hw D kCl (hTys κ) A M29 t.heap; rw [ht]; exact hM⟩, hS.F ht⟩) hS.2.2 d_BT_wish_66)
      · replace c19 := (lc_eq _ _).mp c19
        replace hwp := hwp.1 c19
        refine lv_iconst (v := 0) hx hb d_BT_wish_50 (by decide) ?_
        refine W.widen (k := 2) (n := 12) (by omega) (by omega) ?_
        exact x_ret (W.zret (v := (0 : Int32)) hx hb hr (by decide) (fun t ht hW => ⟨⟨(0 : Int32), M7, rfl, hwp, by show hw D kCl (hTys κ) A M7 t.heap; rw [ht]; exact hM⟩, hS.F ht⟩) hS.2.2 d_BT_wish_51)
    · replace hwp := hwp.2 c9
      exact tBT_wish_28 C hst post px M7 hwp H locs ls hM hS (lv_sub hl [] rfl)
set_option maxRecDepth 100000 in
set_option maxHeartbeats 4000000 in
theorem metBT_wish (l : Launch) (hst : l.stackTraces = false) (D : va_G) (κ : Nat → ClassId) (sz : Nat) (self : Nat) (p0 : Int32) (p1 : Int32) (p2 : Int64) (M : Hp) (post : Int32 → Hp → Prop) (px : String → Hp → Prop) (hwp : wpBT_wish self p0 p1 p2 M post px) : xMet l y_BT_wish ws_BT_wish rm_BT_wish (hPc D kCl (hTys κ) M sz [.ref self, .int p0, .int p1, .long p2]) (va_Qi post (hB D kCl (hTys κ) (hAx M sz)) (hAx M sz)) D kCl (hTys κ) (hAx M sz) px 2 12 := by
  refine xMet.ofW (cc := prog_1_method_11_code) (maxL := 6) (ret := (some .boolean)) (by decide +kernel) rfl ?_
  intro p e s m args below meth c s₁ B hml hv
  obtain ⟨rfl, hsz, hE, hM0⟩ := hv
  have hts : ∀ w ∈ WG, w.before _ s = true := fun w h => atoms_spec (ws := ws_BT_wish) B.pre w (List.mem_cons_of_mem _ h)
  subst hsz
  have C : Cx_BT_wish p s m _ meth c D κ (hAx M s.heap.size) := ⟨B.exec, B.bytes, hml, B.returns, findClass_of_methodNamed B.named, hts, B.notSynchronized, hE, fun q h => Or.inr h, B.noHandlers (atoms_spec (ws := ws_BT_wish) B.pre _ List.mem_cons_self)⟩
  have hl := lv_entry ([.ref self, .int p0, .int p1, .long p2]) (n := 6) (Nat.le_of_ble_eq_true rfl)
  rw [lg_entry_eq]
  generalize (lg_sl ([.ref self, .int p0, .int p1, .long p2]) ++ List.replicate (6 - (lg_sl ([.ref self, .int p0, .int p1, .long p2])).length) Slot.unset).toArray = ls at hl ⊢
  exact eBT_wish C hst post px self p0 p1 p2 M hwp s.heap [] ls (hM0.self (sz := s.heap.size)) va_S.rf hl
abbrev rm_St_reachByLengthAndCuts : Room := { frames := 1, cells := 0, slots := 0, locals := 23 }
def Cx_St_reachByLengthAndCuts (p : Program) (s : State) (m : MethodId) (args : Array Value) (meth : Method) (c : Code) (D : va_G) (κ : Nat → ClassId) (A : Nat → Prop) : Prop := p.tables.exec = Jvm.exec ∧ c.code = prog_5_method_7_code ∧ c.maxLocals = 5 ∧ meth.sig.returnType = none ∧ s.vm.findClass "BuckTables$Stem" = some m.cls ∧ (∀ w ∈ WG, w.before args s = true) ∧ meth.locks = false ∧ hEnv D kCl (hTys κ) A s ∧ (∀ q, s.heap.size ≤ q → A q)
def wSt_reachByLengthAndCuts_35 (post : Hp → Prop) (k13 : Nat → Nat → Nat → Int32 → Int32 → Hp → Prop) (x0 : Nat) (x1 : Nat) (x2 : Nat) (x3 : Int32) (x4 : Int32) (M : Hp) : Prop := (∃ v1 : Int32, fI M x2 2 4 v1 ∧ (∃ M9 : Hp, sI M x1 x4 (if (x4 + v1) < x3 then (x4 + v1) else x3) M9 ∧ (∀ z10 : Int32, z10 = x4 + (-1) → (k13 x0 x1 x2 x3 z10 M9))))
set_option maxRecDepth 100000 in
set_option maxHeartbeats 4000000 in
theorem tSt_reachByLengthAndCuts_35 {p : Program} {l : Launch} {e : Env} {s : State} {m : MethodId} {args : Array Value} {below : List Frame} {meth : Method} {c : Code} {D : va_G} {κ : Nat → ClassId} {A : Nat → Prop} (C : Cx_St_reachByLengthAndCuts p s m args meth c D κ A) (post : Hp → Prop) (k13 : Nat → Nat → Nat → Int32 → Int32 → Hp → Prop) (hk13 : ∀ (x0 : Nat) (x1 : Nat) (x2 : Nat) (x3 : Int32) (x4 : Int32) (M : Hp), k13 x0 x1 x2 x3 x4 M → Y p l e rm_St_reachByLengthAndCuts s m args below meth c D kCl (hTys κ) A 5 0 0 (MQ below (va_Qv post (hB D kCl (hTys κ) A) A) args s 0 0 A) M 13 [(0, .ref x0), (1, .ref x1), (2, .ref x2), (3, .int x3), (4, .int x4)] []) (x0 : Nat) (x1 : Nat) (x2 : Nat) (x3 : Int32) (x4 : Int32) (M : Hp) (hwp : wSt_reachByLengthAndCuts_35 post k13 x0 x1 x2 x3 x4 M) : Y p l e rm_St_reachByLengthAndCuts s m args below meth c D kCl (hTys κ) A 5 0 0 (MQ below (va_Qv post (hB D kCl (hTys κ) A) A) args s 0 0 A) M 35 [(0, .ref x0), (1, .ref x1), (2, .ref x2), (3, .int x3), (4, .int x4)] [] := by
  obtain ⟨hx, hb, hml, hr, hown, hts, hlocks, hE, hA⟩ := id C
  have hK := hE.1
  intro H locs ls hM hS hl
  unfold wSt_reachByLengthAndCuts_35 at hwp
  refine lv_aload_n hx hb d_St_reachByLengthAndCuts_35 rfl (lv_at hl 1 rfl) ?_
  refine lv_iload hx hb d_St_reachByLengthAndCuts_36 (lv_at hl 4 rfl) ?_
  refine lv_iload_n hx hb d_St_reachByLengthAndCuts_38 rfl (lv_at hl 3 rfl) ?_
  refine lv_iload hx hb d_St_reachByLengthAndCuts_39 (lv_at hl 4 rfl) ?_
  refine lv_aload_n hx hb d_St_reachByLengthAndCuts_41 rfl (lv_at hl 2 rfl) ?_
  obtain ⟨v1, ⟨fs2, he3, hv4⟩, hwp⟩ := hwp
  refine h_get (C := "BuckTables$Product") (T := Tc2) (N := 10) hx hb hts inc2 hown hK hM he3 rfl 4 (by decide) (hts _ kw_169) (fun _ h9 => h9) hv4 d_St_reachByLengthAndCuts_42 ?_
  refine lv_iadd hx hb d_St_reachByLengthAndCuts_45 ?_
  refine va_mmin hx hb (show c.maxLocals = ls.size by rw [hml, hl.1]) hown (hts _ kw_259) (hts _ kw_97) (hts _ kw_5) (hts _ kw_98) (Nat.le_of_ble_eq_true rfl) (Nat.le_of_ble_eq_true rfl) (Nat.le_of_ble_eq_true rfl) (Nat.le_of_ble_eq_true rfl) d_St_reachByLengthAndCuts_46 ?_
  obtain ⟨M9, ⟨n5, f6, ha7, hi8, eM9⟩, hwp⟩ := hwp
  refine h_iast hx hb hK hM hS ha7 rfl hi8 d_St_reachByLengthAndCuts_49 (fun H locs hM hS => ?_)
  rw [← eM9] at hM
  obtain ⟨z10, ez10⟩ : ∃ y : Int32, y = x4 + (-1) := ⟨_, rfl⟩
  replace hwp := hwp z10 ez10
  refine lv_iinc (v := z10) (lv' := [(4, .int z10), (0, .ref x0), (1, .ref x1), (2, .ref x2), (3, .int x3)]) hx hb d_St_reachByLengthAndCuts_50 hl (k := 4) rfl (by rw [ez10]; rfl) (by decide) rfl (fun ls hl => ?_)
  refine lv_goto (tgt := 13) hx hb d_St_reachByLengthAndCuts_53 (by decide) ?_
  exact hk13 x0 x1 x2 x3 z10 M9 hwp H locs ls hM hS (lv_sub hl [1, 2, 3, 4, 0] rfl)
def wSt_reachByLengthAndCuts_13 (post : Hp → Prop)  : Nat → Nat → Nat → Nat → Int32 → Int32 → Hp → Prop
  | 0 => fun _ _ _ _ _ _ => False
  | n + 1 => fun x0 x1 x2 x3 x4 M => ((x4 < 0 → (post M)) ∧ (¬ x4 < 0 → (∃ a12 : Nat, fA M x0 1 7 a12 ∧ (∃ v16 : Int32, aZ M a12 (x4 + (1 : Int32)) v16 ∧ ((v16 = 0 → (wSt_reachByLengthAndCuts_35 post (wSt_reachByLengthAndCuts_13 post n) x0 x1 x2 x3 x4 M)) ∧ (¬ v16 = 0 → (∀ z22 : Int32, z22 = (x4 + (1 : Int32)) → (wSt_reachByLengthAndCuts_35 post (wSt_reachByLengthAndCuts_13 post n) x0 x1 x2 z22 x4 M))))))))
set_option maxRecDepth 100000 in
set_option maxHeartbeats 4000000 in
theorem tSt_reachByLengthAndCuts_13 {p : Program} {l : Launch} {e : Env} {s : State} {m : MethodId} {args : Array Value} {below : List Frame} {meth : Method} {c : Code} {D : va_G} {κ : Nat → ClassId} {A : Nat → Prop} (C : Cx_St_reachByLengthAndCuts p s m args meth c D κ A) (post : Hp → Prop)  : ∀ (n : Nat) (x0 : Nat) (x1 : Nat) (x2 : Nat) (x3 : Int32) (x4 : Int32) (M : Hp), wSt_reachByLengthAndCuts_13 post n x0 x1 x2 x3 x4 M → Y p l e rm_St_reachByLengthAndCuts s m args below meth c D kCl (hTys κ) A 5 0 0 (MQ below (va_Qv post (hB D kCl (hTys κ) A) A) args s 0 0 A) M 13 [(0, .ref x0), (1, .ref x1), (2, .ref x2), (3, .int x3), (4, .int x4)] [] := by
  obtain ⟨hx, hb, hml, hr, hown, hts, hlocks, hE, hA⟩ := id C
  have hK := hE.1
  intro n
  induction n with
  | zero => intro x0 x1 x2 x3 x4 M hwp; exact hwp.elim
  | succ n ih =>
    intro x0 x1 x2 x3 x4 M hwp H locs ls hM hS hl
    unfold wSt_reachByLengthAndCuts_13 at hwp
    refine lv_iload hx hb d_St_reachByLengthAndCuts_13 (lv_at hl 4 rfl) ?_
    refine lv_if_lt (tgt := 56) hx hb d_St_reachByLengthAndCuts_15 (by decide) (fun c11 => ?_) (fun c11 => ?_)
    · replace hwp := hwp.1 c11
      exact W.vret hx hb hr (fun t ht hW => ⟨⟨M, rfl, hwp, by show hw D kCl (hTys κ) A M t.heap; rw [ht]; exact hM⟩, hS.F ht⟩) hS.2.2 d_St_reachByLengthAndCuts_56
    · replace hwp := hwp.2 c11
      refine lv_aload_n hx hb d_St_reachByLengthAndCuts_18 rfl (lv_at hl 0 rfl) ?_
      obtain ⟨a12, ⟨fs13, he14, hv15⟩, hwp⟩ := hwp
      refine h_get (C := "BuckTables$Stem") (T := Tc1) (N := 12) hx hb hts inc1 hown hK hM he14 rfl 7 (by decide) (hts _ kw_117) (fun _ h9 => h9) hv15 d_St_reachByLengthAndCuts_19 ?_
      refine lv_iload hx hb d_St_reachByLengthAndCuts_22 (lv_at hl 4 rfl) ?_
      refine lv_iconst (v := 1) hx hb d_St_reachByLengthAndCuts_24 (by decide) ?_
      refine lv_iadd hx hb d_St_reachByLengthAndCuts_25 ?_
      obtain ⟨v16, ⟨n17, f18, ha19, hi20, ev16⟩, hwp⟩ := hwp
      refine h_zald hx hb hK hM ha19 rfl hi20 d_St_reachByLengthAndCuts_26 ?_
      rw [← ev16]
      refine lv_if_eq (tgt := 35) hx hb d_St_reachByLengthAndCuts_27 (by decide) (fun c21 => ?_) (fun c21 => ?_)
      · replace hwp := hwp.1 c21
        exact tSt_reachByLengthAndCuts_35 C post (wSt_reachByLengthAndCuts_13 post n) ih x0 x1 x2 x3 x4 M hwp H locs ls hM hS (lv_sub hl [0, 1, 2, 3, 4] rfl)
      · replace hwp := hwp.2 c21
        refine lv_iload hx hb d_St_reachByLengthAndCuts_30 (lv_at hl 4 rfl) ?_
        refine lv_iconst (v := 1) hx hb d_St_reachByLengthAndCuts_32 (by decide) ?_
        refine lv_iadd hx hb d_St_reachByLengthAndCuts_33 ?_
        refine lv_topi (fun z22 ez22 => ?_)
        replace hwp := hwp z22 ez22
        refine lv_istore_n (lv' := [(3, .int z22), (0, .ref x0), (1, .ref x1), (2, .ref x2), (4, .int x4)]) hx hb d_St_reachByLengthAndCuts_34 rfl hl (by decide) rfl (fun ls hl => ?_)
        exact tSt_reachByLengthAndCuts_35 C post (wSt_reachByLengthAndCuts_13 post n) ih x0 x1 x2 z22 x4 M hwp H locs ls hM hS (lv_sub hl [1, 2, 3, 0, 4] rfl)
def wpSt_reachByLengthAndCuts (self : Nat) (p0 : Nat) (p1 : Nat) (M : Hp) (post : Hp → Prop) : Prop := (∃ v23 : Int32, fI M self 1 11 v23 ∧ (∃ v27 : Int32, fI M self 1 11 v27 ∧ (∀ z31 : Int32, z31 = (v27 - (1 : Int32)) → (∃ n32 : Nat, wSt_reachByLengthAndCuts_13 post n32 self p0 p1 v23 z31 M))))
set_option maxRecDepth 100000 in
set_option maxHeartbeats 4000000 in
theorem eSt_reachByLengthAndCuts {p : Program} {l : Launch} {e : Env} {s : State} {m : MethodId} {args : Array Value} {below : List Frame} {meth : Method} {c : Code} {D : va_G} {κ : Nat → ClassId} {A : Nat → Prop} (C : Cx_St_reachByLengthAndCuts p s m args meth c D κ A) (post : Hp → Prop) (self : Nat) (p0 : Nat) (p1 : Nat) (M : Hp) (hwp : wpSt_reachByLengthAndCuts self p0 p1 M post) : Y p l e rm_St_reachByLengthAndCuts s m args below meth c D kCl (hTys κ) A 5 0 0 (MQ below (va_Qv post (hB D kCl (hTys κ) A) A) args s 0 0 A) M 0 [(0, .ref self), (1, .ref p0), (2, .ref p1)] [] := by
  obtain ⟨hx, hb, hml, hr, hown, hts, hlocks, hE, hA⟩ := id C
  have hK := hE.1
  intro H locs ls hM hS hl
  unfold wpSt_reachByLengthAndCuts at hwp
  refine lv_aload_n hx hb d_St_reachByLengthAndCuts_0 rfl (lv_at hl 0 rfl) ?_
  obtain ⟨v23, ⟨fs24, he25, hv26⟩, hwp⟩ := hwp
  refine h_get (C := "BuckTables$Stem") (T := Tc1) (N := 12) hx hb hts inc1 hown hK hM he25 rfl 11 (by decide) (hts _ kw_125) (fun _ h9 => h9) hv26 d_St_reachByLengthAndCuts_1 ?_
  refine lv_istore_n (lv' := [(3, .int v23), (0, .ref self), (1, .ref p0), (2, .ref p1)]) hx hb d_St_reachByLengthAndCuts_4 rfl hl (by decide) rfl (fun ls hl => ?_)
  refine lv_aload_n hx hb d_St_reachByLengthAndCuts_5 rfl (lv_at hl 1 rfl) ?_
  obtain ⟨v27, ⟨fs28, he29, hv30⟩, hwp⟩ := hwp
  refine h_get (C := "BuckTables$Stem") (T := Tc1) (N := 12) hx hb hts inc1 hown hK hM he29 rfl 11 (by decide) (hts _ kw_125) (fun _ h9 => h9) hv30 d_St_reachByLengthAndCuts_6 ?_
  refine lv_iconst (v := 1) hx hb d_St_reachByLengthAndCuts_9 (by decide) ?_
  refine lv_isub hx hb d_St_reachByLengthAndCuts_10 ?_
  refine lv_topi (fun z31 ez31 => ?_)
  replace hwp := hwp z31 ez31
  refine lv_istore (lv' := [(4, .int z31), (3, .int v23), (0, .ref self), (1, .ref p0), (2, .ref p1)]) hx hb d_St_reachByLengthAndCuts_11 hl (by decide) rfl (fun ls hl => ?_)
  obtain ⟨n32, hwp⟩ := hwp
  exact tSt_reachByLengthAndCuts_13 C post n32 self p0 p1 v23 z31 M hwp H locs ls hM hS (lv_sub hl [2, 3, 4, 1, 0] rfl)
set_option maxRecDepth 100000 in
set_option maxHeartbeats 4000000 in
theorem metSt_reachByLengthAndCuts (l : Launch) (D : va_G) (κ : Nat → ClassId) (sz : Nat) (self : Nat) (p0 : Nat) (p1 : Nat) (M : Hp) (post : Hp → Prop) (hwp : wpSt_reachByLengthAndCuts self p0 p1 M post) : Met l y_St_reachByLengthAndCuts ws_St_reachByLengthAndCuts rm_St_reachByLengthAndCuts (hPc D kCl (hTys κ) M sz [.ref self, .ref p0, .ref p1]) (va_Qv post (hB D kCl (hTys κ) (hAx M sz)) (hAx M sz)) 0 0 (hAx M sz) := by
  refine Met.ofW (cc := prog_5_method_7_code) (maxL := 5) (ret := none) (by decide +kernel) rfl ?_
  intro p e s m args below meth c s₁ B hml hv
  obtain ⟨rfl, hsz, hE, hM0⟩ := hv
  have hts : ∀ w ∈ WG, w.before _ s = true := fun w h => atoms_spec (ws := ws_St_reachByLengthAndCuts) B.pre w (List.mem_cons_of_mem _ h)
  subst hsz
  have C : Cx_St_reachByLengthAndCuts p s m _ meth c D κ (hAx M s.heap.size) := ⟨B.exec, B.bytes, hml, B.returns, findClass_of_methodNamed B.named, hts, B.notSynchronized, hE, fun q h => Or.inr h⟩
  have hl := lv_entry ([.ref self, .ref p0, .ref p1]) (n := 5) (Nat.le_of_ble_eq_true rfl)
  rw [lg_entry_eq]
  generalize (lg_sl ([.ref self, .ref p0, .ref p1]) ++ List.replicate (5 - (lg_sl ([.ref self, .ref p0, .ref p1])).length) Slot.unset).toArray = ls at hl ⊢
  exact eSt_reachByLengthAndCuts C post self p0 p1 M hwp s.heap [] ls (hM0.self (sz := s.heap.size)) va_S.rf hl
abbrev rm_St_isTooBad : Room := { frames := 0, cells := 0, slots := 0, locals := 0 }
def Cx_St_isTooBad (p : Program) (s : State) (m : MethodId) (args : Array Value) (meth : Method) (c : Code) (D : va_G) (κ : Nat → ClassId) (A : Nat → Prop) : Prop := p.tables.exec = Jvm.exec ∧ c.code = prog_5_method_9_code ∧ c.maxLocals = 4 ∧ meth.sig.returnType = (some .boolean) ∧ s.vm.findClass "BuckTables$Stem" = some m.cls ∧ (∀ w ∈ WG, w.before args s = true) ∧ meth.locks = false ∧ hEnv D kCl (hTys κ) A s ∧ (∀ q, s.heap.size ≤ q → A q)
def wSt_isTooBad_35 (post : Int32 → Hp → Prop)   (y0 : Int32) (M : Hp) : Prop := ((y0 = 0 ∨ y0 = 1) ∧ post y0 M)
set_option maxRecDepth 100000 in
set_option maxHeartbeats 4000000 in
theorem tSt_isTooBad_35 {p : Program} {l : Launch} {e : Env} {s : State} {m : MethodId} {args : Array Value} {below : List Frame} {meth : Method} {c : Code} {D : va_G} {κ : Nat → ClassId} {A : Nat → Prop} (C : Cx_St_isTooBad p s m args meth c D κ A) (post : Int32 → Hp → Prop)   (y0 : Int32) (M : Hp) (hwp : wSt_isTooBad_35 post y0 M) : Y p l e rm_St_isTooBad s m args below meth c D kCl (hTys κ) A 4 0 0 (MQ below (va_Qi post (hB D kCl (hTys κ) A) A) args s 0 0 A) M 35 [] [.int y0] := by
  obtain ⟨hx, hb, hml, hr, hown, hts, hlocks, hE, hA⟩ := id C
  have hK := hE.1
  intro H locs ls hM hS hl
  unfold wSt_isTooBad_35 at hwp
  obtain ⟨hz1, hwp⟩ := hwp
  exact W.zret (v := y0) hx hb hr (by rcases hz1 with h | h <;> rw [h] <;> rfl) (fun t ht hW => ⟨⟨y0, M, rfl, hwp, by show hw D kCl (hTys κ) A M t.heap; rw [ht]; exact hM⟩, hS.F ht⟩) hS.2.2 d_St_isTooBad_35
def wSt_isTooBad_30 (post : Int32 → Hp → Prop)   (M : Hp) : Prop := (wSt_isTooBad_35 post (1 : Int32) M)
set_option maxRecDepth 100000 in
set_option maxHeartbeats 4000000 in
theorem tSt_isTooBad_30 {p : Program} {l : Launch} {e : Env} {s : State} {m : MethodId} {args : Array Value} {below : List Frame} {meth : Method} {c : Code} {D : va_G} {κ : Nat → ClassId} {A : Nat → Prop} (C : Cx_St_isTooBad p s m args meth c D κ A) (post : Int32 → Hp → Prop)   (M : Hp) (hwp : wSt_isTooBad_30 post  M) : Y p l e rm_St_isTooBad s m args below meth c D kCl (hTys κ) A 4 0 0 (MQ below (va_Qi post (hB D kCl (hTys κ) A) A) args s 0 0 A) M 30 [] [] := by
  obtain ⟨hx, hb, hml, hr, hown, hts, hlocks, hE, hA⟩ := id C
  have hK := hE.1
  intro H locs ls hM hS hl
  unfold wSt_isTooBad_30 at hwp
  refine lv_iconst (v := 1) hx hb d_St_isTooBad_30 (by decide) ?_
  refine lv_goto (tgt := 35) hx hb d_St_isTooBad_31 (by decide) ?_
  exact tSt_isTooBad_35 C post (1 : Int32) M hwp H locs ls hM hS (lv_sub hl [] rfl)
def wpSt_isTooBad (self : Nat) (p0 : Int32) (p1 : Nat) (p2 : Int32) (M : Hp) (post : Int32 → Hp → Prop) : Prop := (∃ a2 : Nat, fA M self 1 2 a2 ∧ (∃ v6 : Int32, aI M a2 p0 v6 ∧ (∃ v11 : Int32, fI M p1 2 5 v11 ∧ (((v6 - p2) < v11 → (wSt_isTooBad_30 post M)) ∧ (¬ (v6 - p2) < v11 → (∃ a16 : Nat, fA M self 1 3 a16 ∧ (∃ v20 : Int32, aI M a16 p0 v20 ∧ (∃ v25 : Int32, fI M p1 2 6 v25 ∧ (((v20 + p2) ≤ v25 → (wSt_isTooBad_35 post (0 : Int32) M)) ∧ (¬ (v20 + p2) ≤ v25 → (wSt_isTooBad_30 post M)))))))))))
set_option maxRecDepth 100000 in
set_option maxHeartbeats 4000000 in
theorem eSt_isTooBad {p : Program} {l : Launch} {e : Env} {s : State} {m : MethodId} {args : Array Value} {below : List Frame} {meth : Method} {c : Code} {D : va_G} {κ : Nat → ClassId} {A : Nat → Prop} (C : Cx_St_isTooBad p s m args meth c D κ A) (post : Int32 → Hp → Prop) (self : Nat) (p0 : Int32) (p1 : Nat) (p2 : Int32) (M : Hp) (hwp : wpSt_isTooBad self p0 p1 p2 M post) : Y p l e rm_St_isTooBad s m args below meth c D kCl (hTys κ) A 4 0 0 (MQ below (va_Qi post (hB D kCl (hTys κ) A) A) args s 0 0 A) M 0 [(0, .ref self), (1, .int p0), (2, .ref p1), (3, .int p2)] [] := by
  obtain ⟨hx, hb, hml, hr, hown, hts, hlocks, hE, hA⟩ := id C
  have hK := hE.1
  intro H locs ls hM hS hl
  unfold wpSt_isTooBad at hwp
  refine lv_aload_n hx hb d_St_isTooBad_0 rfl (lv_at hl 0 rfl) ?_
  obtain ⟨a2, ⟨fs3, he4, hv5⟩, hwp⟩ := hwp
  refine h_get (C := "BuckTables$Stem") (T := Tc1) (N := 12) hx hb hts inc1 hown hK hM he4 rfl 2 (by decide) (hts _ kw_112) (fun _ h9 => h9) hv5 d_St_isTooBad_1 ?_
  refine lv_iload_n hx hb d_St_isTooBad_4 rfl (lv_at hl 1 rfl) ?_
  obtain ⟨v6, ⟨n7, f8, ha9, hi10, ev6⟩, hwp⟩ := hwp
  refine h_iald hx hb hK hM ha9 rfl hi10 d_St_isTooBad_5 ?_
  rw [← ev6]
  refine lv_iload_n hx hb d_St_isTooBad_6 rfl (lv_at hl 3 rfl) ?_
  refine lv_isub hx hb d_St_isTooBad_7 ?_
  refine lv_aload_n hx hb d_St_isTooBad_8 rfl (lv_at hl 2 rfl) ?_
  obtain ⟨v11, ⟨fs12, he13, hv14⟩, hwp⟩ := hwp
  refine h_get (C := "BuckTables$Product") (T := Tc2) (N := 10) hx hb hts inc2 hown hK hM he13 rfl 5 (by decide) (hts _ kw_171) (fun _ h9 => h9) hv14 d_St_isTooBad_9 ?_
  refine lv_icmp_lt (tgt := 30) hx hb d_St_isTooBad_12 (by decide) (fun c15 => ?_) (fun c15 => ?_)
  · replace hwp := hwp.1 c15
    exact tSt_isTooBad_30 C post M hwp H locs ls hM hS (lv_sub hl [] rfl)
  · replace hwp := hwp.2 c15
    refine lv_aload_n hx hb d_St_isTooBad_15 rfl (lv_at hl 0 rfl) ?_
    obtain ⟨a16, ⟨fs17, he18, hv19⟩, hwp⟩ := hwp
    refine h_get (C := "BuckTables$Stem") (T := Tc1) (N := 12) hx hb hts inc1 hown hK hM he18 rfl 3 (by decide) (hts _ kw_113) (fun _ h9 => h9) hv19 d_St_isTooBad_16 ?_
    refine lv_iload_n hx hb d_St_isTooBad_19 rfl (lv_at hl 1 rfl) ?_
    obtain ⟨v20, ⟨n21, f22, ha23, hi24, ev20⟩, hwp⟩ := hwp
    refine h_iald hx hb hK hM ha23 rfl hi24 d_St_isTooBad_20 ?_
    rw [← ev20]
    refine lv_iload_n hx hb d_St_isTooBad_21 rfl (lv_at hl 3 rfl) ?_
    refine lv_iadd hx hb d_St_isTooBad_22 ?_
    refine lv_aload_n hx hb d_St_isTooBad_23 rfl (lv_at hl 2 rfl) ?_
    obtain ⟨v25, ⟨fs26, he27, hv28⟩, hwp⟩ := hwp
    refine h_get (C := "BuckTables$Product") (T := Tc2) (N := 10) hx hb hts inc2 hown hK hM he27 rfl 6 (by decide) (hts _ kw_173) (fun _ h9 => h9) hv28 d_St_isTooBad_24 ?_
    refine lv_icmp_le (tgt := 34) hx hb d_St_isTooBad_27 (by decide) (fun c29 => ?_) (fun c29 => ?_)
    · replace hwp := hwp.1 c29
      refine lv_iconst (v := 0) hx hb d_St_isTooBad_34 (by decide) ?_
      exact tSt_isTooBad_35 C post (0 : Int32) M hwp H locs ls hM hS (lv_sub hl [] rfl)
    · replace hwp := hwp.2 c29
      exact tSt_isTooBad_30 C post M hwp H locs ls hM hS (lv_sub hl [] rfl)
set_option maxRecDepth 100000 in
set_option maxHeartbeats 4000000 in
theorem metSt_isTooBad (l : Launch) (D : va_G) (κ : Nat → ClassId) (sz : Nat) (self : Nat) (p0 : Int32) (p1 : Nat) (p2 : Int32) (M : Hp) (post : Int32 → Hp → Prop) (hwp : wpSt_isTooBad self p0 p1 p2 M post) : Met l y_St_isTooBad ws_St_isTooBad rm_St_isTooBad (hPc D kCl (hTys κ) M sz [.ref self, .int p0, .ref p1, .int p2]) (va_Qi post (hB D kCl (hTys κ) (hAx M sz)) (hAx M sz)) 0 0 (hAx M sz) := by
  refine Met.ofW (cc := prog_5_method_9_code) (maxL := 4) (ret := (some .boolean)) (by decide +kernel) rfl ?_
  intro p e s m args below meth c s₁ B hml hv
  obtain ⟨rfl, hsz, hE, hM0⟩ := hv
  have hts : ∀ w ∈ WG, w.before _ s = true := fun w h => atoms_spec (ws := ws_St_isTooBad) B.pre w (List.mem_cons_of_mem _ h)
  subst hsz
  have C : Cx_St_isTooBad p s m _ meth c D κ (hAx M s.heap.size) := ⟨B.exec, B.bytes, hml, B.returns, findClass_of_methodNamed B.named, hts, B.notSynchronized, hE, fun q h => Or.inr h⟩
  have hl := lv_entry ([.ref self, .int p0, .ref p1, .int p2]) (n := 4) (Nat.le_of_ble_eq_true rfl)
  rw [lg_entry_eq]
  generalize (lg_sl ([.ref self, .int p0, .ref p1, .int p2]) ++ List.replicate (4 - (lg_sl ([.ref self, .int p0, .ref p1, .int p2])).length) Slot.unset).toArray = ls at hl ⊢
  exact eSt_isTooBad C post self p0 p1 p2 M hwp s.heap [] ls (hM0.self (sz := s.heap.size)) va_S.rf hl
abbrev rm_St_narrowByPoints : Room := { frames := 1, cells := 0, slots := 0, locals := 23 }
def Cx_St_narrowByPoints (p : Program) (s : State) (m : MethodId) (args : Array Value) (meth : Method) (c : Code) (D : va_G) (κ : Nat → ClassId) (A : Nat → Prop) : Prop := p.tables.exec = Jvm.exec ∧ c.code = prog_5_method_8_code ∧ c.maxLocals = 7 ∧ meth.sig.returnType = none ∧ s.vm.findClass "BuckTables$Stem" = some m.cls ∧ (∀ w ∈ WG, w.before args s = true) ∧ meth.locks = false ∧ hEnv D kCl (hTys κ) A s ∧ (∀ q, s.heap.size ≤ q → A q)
def wSt_narrowByPoints_134 (post : Hp → Prop) (k20 : Nat → Nat → Nat → Int32 → Int32 → Int32 → Int32 → Hp → Prop) (x0 : Nat) (x1 : Nat) (x2 : Nat) (x3 : Int32) (x4 : Int32) (x5 : Int32) (x6 : Int32) (M : Hp) : Prop := (∀ z1 : Int32, z1 = x6 + (-1) → (k20 x0 x1 x2 x3 x4 x5 z1 M))
set_option maxRecDepth 100000 in
set_option maxHeartbeats 4000000 in
theorem tSt_narrowByPoints_134 {p : Program} {l : Launch} {e : Env} {s : State} {m : MethodId} {args : Array Value} {below : List Frame} {meth : Method} {c : Code} {D : va_G} {κ : Nat → ClassId} {A : Nat → Prop} (C : Cx_St_narrowByPoints p s m args meth c D κ A) (post : Hp → Prop) (k20 : Nat → Nat → Nat → Int32 → Int32 → Int32 → Int32 → Hp → Prop) (hk20 : ∀ (x0 : Nat) (x1 : Nat) (x2 : Nat) (x3 : Int32) (x4 : Int32) (x5 : Int32) (x6 : Int32) (M : Hp), k20 x0 x1 x2 x3 x4 x5 x6 M → Y p l e rm_St_narrowByPoints s m args below meth c D kCl (hTys κ) A 7 0 0 (MQ below (va_Qv post (hB D kCl (hTys κ) A) A) args s 0 0 A) M 20 [(0, .ref x0), (1, .ref x1), (2, .ref x2), (3, .int x3), (4, .int x4), (5, .int x5), (6, .int x6)] []) (x0 : Nat) (x1 : Nat) (x2 : Nat) (x3 : Int32) (x4 : Int32) (x5 : Int32) (x6 : Int32) (M : Hp) (hwp : wSt_narrowByPoints_134 post k20 x0 x1 x2 x3 x4 x5 x6 M) : Y p l e rm_St_narrowByPoints s m args below meth c D kCl (hTys κ) A 7 0 0 (MQ below (va_Qv post (hB D kCl (hTys κ) A) A) args s 0 0 A) M 134 [(0, .ref x0), (1, .ref x1), (2, .ref x2), (3, .int x3), (4, .int x4), (5, .int x5), (6, .int x6)] [] := by
  obtain ⟨hx, hb, hml, hr, hown, hts, hlocks, hE, hA⟩ := id C
  have hK := hE.1
  intro H locs ls hM hS hl
  unfold wSt_narrowByPoints_134 at hwp
  obtain ⟨z1, ez1⟩ : ∃ y : Int32, y = x6 + (-1) := ⟨_, rfl⟩
  replace hwp := hwp z1 ez1
  refine lv_iinc (v := z1) (lv' := [(6, .int z1), (0, .ref x0), (1, .ref x1), (2, .ref x2), (3, .int x3), (4, .int x4), (5, .int x5)]) hx hb d_St_narrowByPoints_134 hl (k := 6) rfl (by rw [ez1]; rfl) (by decide) rfl (fun ls hl => ?_)
  refine lv_goto (tgt := 20) hx hb d_St_narrowByPoints_137 (by decide) ?_
  exact hk20 x0 x1 x2 x3 x4 x5 z1 M hwp H locs ls hM hS (lv_sub hl [1, 2, 3, 4, 5, 6, 0] rfl)
def wSt_narrowByPoints_77 (post : Hp → Prop) (k20 : Nat → Nat → Nat → Int32 → Int32 → Int32 → Int32 → Hp → Prop) (x0 : Nat) (x1 : Nat) (x2 : Nat) (x3 : Int32) (x4 : Int32) (x5 : Int32) (x6 : Int32) (M : Hp) : Prop := ((x5 = x4 → (∃ v32 : Int32, aI M x1 x6 v32 ∧ (∃ M41 : Hp, sI M x1 x6 (if x6 < v32 then x6 else v32) M41 ∧ (wSt_narrowByPoints_134 post k20 x0 x1 x2 x3 x4 x5 x6 M41)))) ∧ (¬ x5 = x4 → (∃ v3 : Int32, fI M x0 1 9 v3 ∧ ((v3 ≤ x5 → (wSt_narrowByPoints_134 post k20 x0 x1 x2 x3 x4 x5 x6 M)) ∧ (¬ v3 ≤ x5 → (∃ v8 : Int32, aI M x1 x6 v8 ∧ (∃ a13 : Nat, fA M x0 1 1 a13 ∧ (∃ v17 : Int32, aI M a13 (x5 - (1 : Int32)) v17 ∧ (∃ v22 : Int32, fI M x0 1 0 v22 ∧ (¬ v22 = 0 ∧ (∃ M31 : Hp, sI M x1 x6 (if (v17 / v22) < v8 then (v17 / v22) else v8) M31 ∧ (wSt_narrowByPoints_134 post k20 x0 x1 x2 x3 x4 x5 x6 M31))))))))))))
set_option maxRecDepth 100000 in
set_option maxHeartbeats 4000000 in
theorem tSt_narrowByPoints_77 {p : Program} {l : Launch} {e : Env} {s : State} {m : MethodId} {args : Array Value} {below : List Frame} {meth : Method} {c : Code} {D : va_G} {κ : Nat → ClassId} {A : Nat → Prop} (C : Cx_St_narrowByPoints p s m args meth c D κ A) (post : Hp → Prop) (k20 : Nat → Nat → Nat → Int32 → Int32 → Int32 → Int32 → Hp → Prop) (hk20 : ∀ (x0 : Nat) (x1 : Nat) (x2 : Nat) (x3 : Int32) (x4 : Int32) (x5 : Int32) (x6 : Int32) (M : Hp), k20 x0 x1 x2 x3 x4 x5 x6 M → Y p l e rm_St_narrowByPoints s m args below meth c D kCl (hTys κ) A 7 0 0 (MQ below (va_Qv post (hB D kCl (hTys κ) A) A) args s 0 0 A) M 20 [(0, .ref x0), (1, .ref x1), (2, .ref x2), (3, .int x3), (4, .int x4), (5, .int x5), (6, .int x6)] []) (x0 : Nat) (x1 : Nat) (x2 : Nat) (x3 : Int32) (x4 : Int32) (x5 : Int32) (x6 : Int32) (M : Hp) (hwp : wSt_narrowByPoints_77 post k20 x0 x1 x2 x3 x4 x5 x6 M) : Y p l e rm_St_narrowByPoints s m args below meth c D kCl (hTys κ) A 7 0 0 (MQ below (va_Qv post (hB D kCl (hTys κ) A) A) args s 0 0 A) M 77 [(0, .ref x0), (1, .ref x1), (2, .ref x2), (3, .int x3), (4, .int x4), (5, .int x5), (6, .int x6)] [] := by
  obtain ⟨hx, hb, hml, hr, hown, hts, hlocks, hE, hA⟩ := id C
  have hK := hE.1
  intro H locs ls hM hS hl
  unfold wSt_narrowByPoints_77 at hwp
  refine lv_iload hx hb d_St_narrowByPoints_77 (lv_at hl 5 rfl) ?_
  refine lv_iload hx hb d_St_narrowByPoints_79 (lv_at hl 4 rfl) ?_
  refine lv_icmp_ne (tgt := 100) hx hb d_St_narrowByPoints_81 (by decide) (fun c2 => ?_) (fun c2 => ?_)
  · replace hwp := hwp.2 c2
    refine lv_iload hx hb d_St_narrowByPoints_100 (lv_at hl 5 rfl) ?_
    refine lv_aload_n hx hb d_St_narrowByPoints_102 rfl (lv_at hl 0 rfl) ?_
    obtain ⟨v3, ⟨fs4, he5, hv6⟩, hwp⟩ := hwp
    refine h_get (C := "BuckTables$Stem") (T := Tc1) (N := 12) hx hb hts inc1 hown hK hM he5 rfl 9 (by decide) (hts _ kw_121) (fun _ h9 => h9) hv6 d_St_narrowByPoints_103 ?_
    refine lv_icmp_ge (tgt := 134) hx hb d_St_narrowByPoints_106 (by decide) (fun c7 => ?_) (fun c7 => ?_)
    · replace hwp := hwp.1 c7
      exact tSt_narrowByPoints_134 C post k20 hk20 x0 x1 x2 x3 x4 x5 x6 M hwp H locs ls hM hS (lv_sub hl [0, 1, 2, 3, 4, 5, 6] rfl)
    · replace hwp := hwp.2 c7
      refine lv_aload_n hx hb d_St_narrowByPoints_109 rfl (lv_at hl 1 rfl) ?_
      refine lv_iload hx hb d_St_narrowByPoints_110 (lv_at hl 6 rfl) ?_
      refine lv_aload_n hx hb d_St_narrowByPoints_112 rfl (lv_at hl 1 rfl) ?_
      refine lv_iload hx hb d_St_narrowByPoints_113 (lv_at hl 6 rfl) ?_
      obtain ⟨v8, ⟨n9, f10, ha11, hi12, ev8⟩, hwp⟩ := hwp
      refine h_iald hx hb hK hM ha11 rfl hi12 d_St_narrowByPoints_115 ?_
      rw [← ev8]
      refine lv_aload_n hx hb d_St_narrowByPoints_116 rfl (lv_at hl 0 rfl) ?_
      obtain ⟨a13, ⟨fs14, he15, hv16⟩, hwp⟩ := hwp
      refine h_get (C := "BuckTables$Stem") (T := Tc1) (N := 12) hx hb hts inc1 hown hK hM he15 rfl 1 (by decide) (hts _ kw_111) (fun _ h9 => h9) hv16 d_St_narrowByPoints_117 ?_
      refine lv_iload hx hb d_St_narrowByPoints_120 (lv_at hl 5 rfl) ?_
      refine lv_iconst (v := 1) hx hb d_St_narrowByPoints_122 (by decide) ?_
      refine lv_isub hx hb d_St_narrowByPoints_123 ?_
      obtain ⟨v17, ⟨n18, f19, ha20, hi21, ev17⟩, hwp⟩ := hwp
      refine h_iald hx hb hK hM ha20 rfl hi21 d_St_narrowByPoints_124 ?_
      rw [← ev17]
      refine lv_aload_n hx hb d_St_narrowByPoints_125 rfl (lv_at hl 0 rfl) ?_
      obtain ⟨v22, ⟨fs23, he24, hv25⟩, hwp⟩ := hwp
      refine h_get (C := "BuckTables$Stem") (T := Tc1) (N := 12) hx hb hts inc1 hown hK hM he24 rfl 0 (by decide) (hts _ kw_110) (fun _ h9 => h9) hv25 d_St_narrowByPoints_126 ?_
      obtain ⟨h26, hwp⟩ := hwp
      refine lv_idiv hx hb d_St_narrowByPoints_129 h26 ?_
      refine va_mmin hx hb (show c.maxLocals = ls.size by rw [hml, hl.1]) hown (hts _ kw_259) (hts _ kw_97) (hts _ kw_5) (hts _ kw_98) (Nat.le_of_ble_eq_true rfl) (Nat.le_of_ble_eq_true rfl) (Nat.le_of_ble_eq_true rfl) (Nat.le_of_ble_eq_true rfl) d_St_narrowByPoints_130 ?_
      obtain ⟨M31, ⟨n27, f28, ha29, hi30, eM31⟩, hwp⟩ := hwp
      refine h_iast hx hb hK hM hS ha29 rfl hi30 d_St_narrowByPoints_133 (fun H locs hM hS => ?_)
      rw [← eM31] at hM
      exact tSt_narrowByPoints_134 C post k20 hk20 x0 x1 x2 x3 x4 x5 x6 M31 hwp H locs ls hM hS (lv_sub hl [0, 1, 2, 3, 4, 5, 6] rfl)
  · replace hwp := hwp.1 c2
    refine lv_aload_n hx hb d_St_narrowByPoints_84 rfl (lv_at hl 1 rfl) ?_
    refine lv_iload hx hb d_St_narrowByPoints_85 (lv_at hl 6 rfl) ?_
    refine lv_aload_n hx hb d_St_narrowByPoints_87 rfl (lv_at hl 1 rfl) ?_
    refine lv_iload hx hb d_St_narrowByPoints_88 (lv_at hl 6 rfl) ?_
    obtain ⟨v32, ⟨n33, f34, ha35, hi36, ev32⟩, hwp⟩ := hwp
    refine h_iald hx hb hK hM ha35 rfl hi36 d_St_narrowByPoints_90 ?_
    rw [← ev32]
    refine lv_iload hx hb d_St_narrowByPoints_91 (lv_at hl 6 rfl) ?_
    refine va_mmin hx hb (show c.maxLocals = ls.size by rw [hml, hl.1]) hown (hts _ kw_259) (hts _ kw_97) (hts _ kw_5) (hts _ kw_98) (Nat.le_of_ble_eq_true rfl) (Nat.le_of_ble_eq_true rfl) (Nat.le_of_ble_eq_true rfl) (Nat.le_of_ble_eq_true rfl) d_St_narrowByPoints_93 ?_
    obtain ⟨M41, ⟨n37, f38, ha39, hi40, eM41⟩, hwp⟩ := hwp
    refine h_iast hx hb hK hM hS ha39 rfl hi40 d_St_narrowByPoints_96 (fun H locs hM hS => ?_)
    rw [← eM41] at hM
    refine lv_goto (tgt := 134) hx hb d_St_narrowByPoints_97 (by decide) ?_
    exact tSt_narrowByPoints_134 C post k20 hk20 x0 x1 x2 x3 x4 x5 x6 M41 hwp H locs ls hM hS (lv_sub hl [0, 1, 2, 3, 4, 5, 6] rfl)
def wSt_narrowByPoints_56 (post : Hp → Prop) (k20 : Nat → Nat → Nat → Int32 → Int32 → Int32 → Int32 → Hp → Prop) (k25 : Nat → Nat → Nat → Int32 → Int32 → Int32 → Int32 → Hp → Prop) (x0 : Nat) (x1 : Nat) (x2 : Nat) (x3 : Int32) (x4 : Int32) (x5 : Int32) (x6 : Int32) (M : Hp) : Prop := (∀ z42 : Int32, z42 = x4 + (-1) → (hob M x0 1 ∧ (wpSt_isTooBad x0 z42 x2 x3 M (fun (r45 : Int32) (M43 : Hp) => ((r45 = 0 → (k25 x0 x1 x2 x3 z42 x5 x6 M43)) ∧ (¬ r45 = 0 → (k25 x0 x1 x2 x3 z42 z42 x6 M43)))))))
set_option maxRecDepth 100000 in
set_option maxHeartbeats 4000000 in
theorem tSt_narrowByPoints_56 {p : Program} {l : Launch} {e : Env} {s : State} {m : MethodId} {args : Array Value} {below : List Frame} {meth : Method} {c : Code} {D : va_G} {κ : Nat → ClassId} {A : Nat → Prop} (C : Cx_St_narrowByPoints p s m args meth c D κ A) (post : Hp → Prop) (k20 : Nat → Nat → Nat → Int32 → Int32 → Int32 → Int32 → Hp → Prop) (hk20 : ∀ (x0 : Nat) (x1 : Nat) (x2 : Nat) (x3 : Int32) (x4 : Int32) (x5 : Int32) (x6 : Int32) (M : Hp), k20 x0 x1 x2 x3 x4 x5 x6 M → Y p l e rm_St_narrowByPoints s m args below meth c D kCl (hTys κ) A 7 0 0 (MQ below (va_Qv post (hB D kCl (hTys κ) A) A) args s 0 0 A) M 20 [(0, .ref x0), (1, .ref x1), (2, .ref x2), (3, .int x3), (4, .int x4), (5, .int x5), (6, .int x6)] []) (k25 : Nat → Nat → Nat → Int32 → Int32 → Int32 → Int32 → Hp → Prop) (hk25 : ∀ (x0 : Nat) (x1 : Nat) (x2 : Nat) (x3 : Int32) (x4 : Int32) (x5 : Int32) (x6 : Int32) (M : Hp), k25 x0 x1 x2 x3 x4 x5 x6 M → Y p l e rm_St_narrowByPoints s m args below meth c D kCl (hTys κ) A 7 0 0 (MQ below (va_Qv post (hB D kCl (hTys κ) A) A) args s 0 0 A) M 25 [(0, .ref x0), (1, .ref x1), (2, .ref x2), (3, .int x3), (4, .int x4), (5, .int x5), (6, .int x6)] []) (x0 : Nat) (x1 : Nat) (x2 : Nat) (x3 : Int32) (x4 : Int32) (x5 : Int32) (x6 : Int32) (M : Hp) (hwp : wSt_narrowByPoints_56 post k20 k25 x0 x1 x2 x3 x4 x5 x6 M) : Y p l e rm_St_narrowByPoints s m args below meth c D kCl (hTys κ) A 7 0 0 (MQ below (va_Qv post (hB D kCl (hTys κ) A) A) args s 0 0 A) M 56 [(0, .ref x0), (1, .ref x1), (2, .ref x2), (3, .int x3), (4, .int x4), (5, .int x5), (6, .int x6)] [] := by
  obtain ⟨hx, hb, hml, hr, hown, hts, hlocks, hE, hA⟩ := id C
  have hK := hE.1
  intro H locs ls hM hS hl
  unfold wSt_narrowByPoints_56 at hwp
  obtain ⟨z42, ez42⟩ : ∃ y : Int32, y = x4 + (-1) := ⟨_, rfl⟩
  replace hwp := hwp z42 ez42
  refine lv_iinc (v := z42) (lv' := [(4, .int z42), (0, .ref x0), (1, .ref x1), (2, .ref x2), (3, .int x3), (5, .int x5), (6, .int x6)]) hx hb d_St_narrowByPoints_56 hl (k := 4) rfl (by rw [ez42]; rfl) (by decide) rfl (fun ls hl => ?_)
  refine lv_aload_n hx hb d_St_narrowByPoints_59 rfl (lv_at hl 1 rfl) ?_
  refine lv_iload hx hb d_St_narrowByPoints_60 (lv_at hl 0 rfl) ?_
  refine lv_aload_n hx hb d_St_narrowByPoints_62 rfl (lv_at hl 3 rfl) ?_
  refine lv_iload_n hx hb d_St_narrowByPoints_63 rfl (lv_at hl 4 rfl) ?_
  obtain ⟨ho44, hwp⟩ := hwp
  refine h_calli hM hS hA (va_runV (As := [.int z42, .ref x2, .int x3]) (rest := []) ⟨hx, hb, hml, hown, hts⟩ (metSt_isTooBad l D κ H.size x0 z42 x2 x3 M _ hwp) (cwV 3 hts (gV kw_264 kw_266 kp_4 kw_6 kw_267) rfl rfl rfl (by decide +kernel) ⟨(Nat.le_of_ble_eq_true rfl), (Nat.le_of_ble_eq_true rfl)⟩) (h_preV hE hM hS ho44 (r := ("BuckTables$Stem", Tc1, 12)) rfl) rfl rfl hl.1 rfl (lv_room (Nat.le_of_ble_eq_true rfl)) d_St_narrowByPoints_64 ⟨(Nat.le_of_ble_eq_true rfl), (Nat.le_of_ble_eq_true rfl)⟩) (fun r45 M43 H locs hwp hM hS => ?_)
  refine lv_if_eq (tgt := 25) hx hb d_St_narrowByPoints_67 (by decide) (fun c46 => ?_) (fun c46 => ?_)
  · replace hwp := hwp.1 c46
    exact hk25 x0 x1 x2 x3 z42 x5 x6 M43 hwp H locs ls hM hS (lv_sub hl [1, 2, 3, 4, 0, 5, 6] rfl)
  · replace hwp := hwp.2 c46
    refine lv_iload hx hb d_St_narrowByPoints_70 (lv_at hl 0 rfl) ?_
    refine lv_istore (lv' := [(5, .int z42), (4, .int z42), (0, .ref x0), (1, .ref x1), (2, .ref x2), (3, .int x3), (6, .int x6)]) hx hb d_St_narrowByPoints_72 hl (by decide) rfl (fun ls hl => ?_)
    refine lv_goto (tgt := 25) hx hb d_St_narrowByPoints_74 (by decide) ?_
    exact hk25 x0 x1 x2 x3 z42 z42 x6 M43 hwp H locs ls hM hS (lv_sub hl [2, 3, 4, 5, 1, 0, 6] rfl)
def wSt_narrowByPoints_25 (post : Hp → Prop) (k20 : Nat → Nat → Nat → Int32 → Int32 → Int32 → Int32 → Hp → Prop) : Nat → Nat → Nat → Nat → Int32 → Int32 → Int32 → Int32 → Hp → Prop
  | 0 => fun _ _ _ _ _ _ _ _ => False
  | n + 1 => fun x0 x1 x2 x3 x4 x5 x6 M => ((x4 ≤ 0 → (wSt_narrowByPoints_77 post k20 x0 x1 x2 x3 x4 x5 x6 M)) ∧ (¬ x4 ≤ 0 → (∃ v48 : Int32, fI M x0 1 9 v48 ∧ ((x4 = v48 → (wSt_narrowByPoints_56 post k20 (wSt_narrowByPoints_25 post k20 n) x0 x1 x2 x3 x4 x5 x6 M)) ∧ (¬ x4 = v48 → (∃ a53 : Nat, fA M x0 1 1 a53 ∧ (∃ v57 : Int32, aI M a53 x4 v57 ∧ (∃ v62 : Int32, fI M x0 1 0 v62 ∧ ((v57 ≤ (x6 * v62) → (wSt_narrowByPoints_77 post k20 x0 x1 x2 x3 x4 x5 x6 M)) ∧ (¬ v57 ≤ (x6 * v62) → (wSt_narrowByPoints_56 post k20 (wSt_narrowByPoints_25 post k20 n) x0 x1 x2 x3 x4 x5 x6 M)))))))))))
set_option maxRecDepth 100000 in
set_option maxHeartbeats 4000000 in
theorem tSt_narrowByPoints_25 {p : Program} {l : Launch} {e : Env} {s : State} {m : MethodId} {args : Array Value} {below : List Frame} {meth : Method} {c : Code} {D : va_G} {κ : Nat → ClassId} {A : Nat → Prop} (C : Cx_St_narrowByPoints p s m args meth c D κ A) (post : Hp → Prop) (k20 : Nat → Nat → Nat → Int32 → Int32 → Int32 → Int32 → Hp → Prop) (hk20 : ∀ (x0 : Nat) (x1 : Nat) (x2 : Nat) (x3 : Int32) (x4 : Int32) (x5 : Int32) (x6 : Int32) (M : Hp), k20 x0 x1 x2 x3 x4 x5 x6 M → Y p l e rm_St_narrowByPoints s m args below meth c D kCl (hTys κ) A 7 0 0 (MQ below (va_Qv post (hB D kCl (hTys κ) A) A) args s 0 0 A) M 20 [(0, .ref x0), (1, .ref x1), (2, .ref x2), (3, .int x3), (4, .int x4), (5, .int x5), (6, .int x6)] []) : ∀ (n : Nat) (x0 : Nat) (x1 : Nat) (x2 : Nat) (x3 : Int32) (x4 : Int32) (x5 : Int32) (x6 : Int32) (M : Hp), wSt_narrowByPoints_25 post k20 n x0 x1 x2 x3 x4 x5 x6 M → Y p l e rm_St_narrowByPoints s m args below meth c D kCl (hTys κ) A 7 0 0 (MQ below (va_Qv post (hB D kCl (hTys κ) A) A) args s 0 0 A) M 25 [(0, .ref x0), (1, .ref x1), (2, .ref x2), (3, .int x3), (4, .int x4), (5, .int x5), (6, .int x6)] [] := by
  obtain ⟨hx, hb, hml, hr, hown, hts, hlocks, hE, hA⟩ := id C
  have hK := hE.1
  intro n
  induction n with
  | zero => intro x0 x1 x2 x3 x4 x5 x6 M hwp; exact hwp.elim
  | succ n ih =>
    intro x0 x1 x2 x3 x4 x5 x6 M hwp H locs ls hM hS hl
    unfold wSt_narrowByPoints_25 at hwp
    refine lv_iload hx hb d_St_narrowByPoints_25 (lv_at hl 4 rfl) ?_
    refine lv_if_le (tgt := 77) hx hb d_St_narrowByPoints_27 (by decide) (fun c47 => ?_) (fun c47 => ?_)
    · replace hwp := hwp.1 c47
      exact tSt_narrowByPoints_77 C post k20 hk20 x0 x1 x2 x3 x4 x5 x6 M hwp H locs ls hM hS (lv_sub hl [0, 1, 2, 3, 4, 5, 6] rfl)
    · replace hwp := hwp.2 c47
      refine lv_iload hx hb d_St_narrowByPoints_30 (lv_at hl 4 rfl) ?_
      refine lv_aload_n hx hb d_St_narrowByPoints_32 rfl (lv_at hl 0 rfl) ?_
      obtain ⟨v48, ⟨fs49, he50, hv51⟩, hwp⟩ := hwp
      refine h_get (C := "BuckTables$Stem") (T := Tc1) (N := 12) hx hb hts inc1 hown hK hM he50 rfl 9 (by decide) (hts _ kw_121) (fun _ h9 => h9) hv51 d_St_narrowByPoints_33 ?_
      refine lv_icmp_eq (tgt := 56) hx hb d_St_narrowByPoints_36 (by decide) (fun c52 => ?_) (fun c52 => ?_)
      · replace hwp := hwp.1 c52
        exact tSt_narrowByPoints_56 C post k20 hk20 (wSt_narrowByPoints_25 post k20 n) ih x0 x1 x2 x3 x4 x5 x6 M hwp H locs ls hM hS (lv_sub hl [0, 1, 2, 3, 4, 5, 6] rfl)
      · replace hwp := hwp.2 c52
        refine lv_aload_n hx hb d_St_narrowByPoints_39 rfl (lv_at hl 0 rfl) ?_
        obtain ⟨a53, ⟨fs54, he55, hv56⟩, hwp⟩ := hwp
        refine h_get (C := "BuckTables$Stem") (T := Tc1) (N := 12) hx hb hts inc1 hown hK hM he55 rfl 1 (by decide) (hts _ kw_111) (fun _ h9 => h9) hv56 d_St_narrowByPoints_40 ?_
        refine lv_iload hx hb d_St_narrowByPoints_43 (lv_at hl 4 rfl) ?_
        obtain ⟨v57, ⟨n58, f59, ha60, hi61, ev57⟩, hwp⟩ := hwp
        refine h_iald hx hb hK hM ha60 rfl hi61 d_St_narrowByPoints_45 ?_
        rw [← ev57]
        refine lv_iload hx hb d_St_narrowByPoints_46 (lv_at hl 6 rfl) ?_
        refine lv_aload_n hx hb d_St_narrowByPoints_48 rfl (lv_at hl 0 rfl) ?_
        obtain ⟨v62, ⟨fs63, he64, hv65⟩, hwp⟩ := hwp
        refine h_get (C := "BuckTables$Stem") (T := Tc1) (N := 12) hx hb hts inc1 hown hK hM he64 rfl 0 (by decide) (hts _ kw_110) (fun _ h9 => h9) hv65 d_St_narrowByPoints_49 ?_
        refine lv_imul hx hb d_St_narrowByPoints_52 ?_
        refine lv_icmp_le (tgt := 77) hx hb d_St_narrowByPoints_53 (by decide) (fun c66 => ?_) (fun c66 => ?_)
        · replace hwp := hwp.1 c66
          exact tSt_narrowByPoints_77 C post k20 hk20 x0 x1 x2 x3 x4 x5 x6 M hwp H locs ls hM hS (lv_sub hl [0, 1, 2, 3, 4, 5, 6] rfl)
        · replace hwp := hwp.2 c66
          exact tSt_narrowByPoints_56 C post k20 hk20 (wSt_narrowByPoints_25 post k20 n) ih x0 x1 x2 x3 x4 x5 x6 M hwp H locs ls hM hS (lv_sub hl [0, 1, 2, 3, 4, 5, 6] rfl)
def wSt_narrowByPoints_20 (post : Hp → Prop)  : Nat → Nat → Nat → Nat → Int32 → Int32 → Int32 → Int32 → Hp → Prop
  | 0 => fun _ _ _ _ _ _ _ _ => False
  | n + 1 => fun x0 x1 x2 x3 x4 x5 x6 M => ((x6 < 0 → (post M)) ∧ (¬ x6 < 0 → (∃ n68 : Nat, wSt_narrowByPoints_25 post (wSt_narrowByPoints_20 post n) n68 x0 x1 x2 x3 x4 x5 x6 M)))
set_option maxRecDepth 100000 in
set_option maxHeartbeats 4000000 in
theorem tSt_narrowByPoints_20 {p : Program} {l : Launch} {e : Env} {s : State} {m : MethodId} {args : Array Value} {below : List Frame} {meth : Method} {c : Code} {D : va_G} {κ : Nat → ClassId} {A : Nat → Prop} (C : Cx_St_narrowByPoints p s m args meth c D κ A) (post : Hp → Prop)  : ∀ (n : Nat) (x0 : Nat) (x1 : Nat) (x2 : Nat) (x3 : Int32) (x4 : Int32) (x5 : Int32) (x6 : Int32) (M : Hp), wSt_narrowByPoints_20 post n x0 x1 x2 x3 x4 x5 x6 M → Y p l e rm_St_narrowByPoints s m args below meth c D kCl (hTys κ) A 7 0 0 (MQ below (va_Qv post (hB D kCl (hTys κ) A) A) args s 0 0 A) M 20 [(0, .ref x0), (1, .ref x1), (2, .ref x2), (3, .int x3), (4, .int x4), (5, .int x5), (6, .int x6)] [] := by
  obtain ⟨hx, hb, hml, hr, hown, hts, hlocks, hE, hA⟩ := id C
  have hK := hE.1
  intro n
  induction n with
  | zero => intro x0 x1 x2 x3 x4 x5 x6 M hwp; exact hwp.elim
  | succ n ih =>
    intro x0 x1 x2 x3 x4 x5 x6 M hwp H locs ls hM hS hl
    unfold wSt_narrowByPoints_20 at hwp
    refine lv_iload hx hb d_St_narrowByPoints_20 (lv_at hl 6 rfl) ?_
    refine lv_if_lt (tgt := 140) hx hb d_St_narrowByPoints_22 (by decide) (fun c67 => ?_) (fun c67 => ?_)
    · replace hwp := hwp.1 c67
      exact W.vret hx hb hr (fun t ht hW => ⟨⟨M, rfl, hwp, by show hw D kCl (hTys κ) A M t.heap; rw [ht]; exact hM⟩, hS.F ht⟩) hS.2.2 d_St_narrowByPoints_140
    · replace hwp := hwp.2 c67
      obtain ⟨n68, hwp⟩ := hwp
      exact tSt_narrowByPoints_25 C post (wSt_narrowByPoints_20 post n) ih n68 x0 x1 x2 x3 x4 x5 x6 M hwp H locs ls hM hS (lv_sub hl [0, 1, 2, 3, 4, 5, 6] rfl)
def wpSt_narrowByPoints (self : Nat) (p0 : Nat) (p1 : Nat) (p2 : Int32) (M : Hp) (post : Hp → Prop) : Prop := (∃ v69 : Int32, fI M self 1 9 v69 ∧ (∃ v73 : Int32, fI M self 1 9 v73 ∧ (∃ v77 : Int32, fI M self 1 11 v77 ∧ (∀ z81 : Int32, z81 = (v77 - (1 : Int32)) → (∃ n82 : Nat, wSt_narrowByPoints_20 post n82 self p0 p1 p2 v69 v73 z81 M)))))
set_option maxRecDepth 100000 in
set_option maxHeartbeats 4000000 in
theorem eSt_narrowByPoints {p : Program} {l : Launch} {e : Env} {s : State} {m : MethodId} {args : Array Value} {below : List Frame} {meth : Method} {c : Code} {D : va_G} {κ : Nat → ClassId} {A : Nat → Prop} (C : Cx_St_narrowByPoints p s m args meth c D κ A) (post : Hp → Prop) (self : Nat) (p0 : Nat) (p1 : Nat) (p2 : Int32) (M : Hp) (hwp : wpSt_narrowByPoints self p0 p1 p2 M post) : Y p l e rm_St_narrowByPoints s m args below meth c D kCl (hTys κ) A 7 0 0 (MQ below (va_Qv post (hB D kCl (hTys κ) A) A) args s 0 0 A) M 0 [(0, .ref self), (1, .ref p0), (2, .ref p1), (3, .int p2)] [] := by
  obtain ⟨hx, hb, hml, hr, hown, hts, hlocks, hE, hA⟩ := id C
  have hK := hE.1
  intro H locs ls hM hS hl
  unfold wpSt_narrowByPoints at hwp
  refine lv_aload_n hx hb d_St_narrowByPoints_0 rfl (lv_at hl 0 rfl) ?_
  obtain ⟨v69, ⟨fs70, he71, hv72⟩, hwp⟩ := hwp
  refine h_get (C := "BuckTables$Stem") (T := Tc1) (N := 12) hx hb hts inc1 hown hK hM he71 rfl 9 (by decide) (hts _ kw_121) (fun _ h9 => h9) hv72 d_St_narrowByPoints_1 ?_
  refine lv_istore (lv' := [(4, .int v69), (0, .ref self), (1, .ref p0), (2, .ref p1), (3, .int p2)]) hx hb d_St_narrowByPoints_4 hl (by decide) rfl (fun ls hl => ?_)
  refine lv_aload_n hx hb d_St_narrowByPoints_6 rfl (lv_at hl 1 rfl) ?_
  obtain ⟨v73, ⟨fs74, he75, hv76⟩, hwp⟩ := hwp
  refine h_get (C := "BuckTables$Stem") (T := Tc1) (N := 12) hx hb hts inc1 hown hK hM he75 rfl 9 (by decide) (hts _ kw_121) (fun _ h9 => h9) hv76 d_St_narrowByPoints_7 ?_
  refine lv_istore (lv' := [(5, .int v73), (4, .int v69), (0, .ref self), (1, .ref p0), (2, .ref p1), (3, .int p2)]) hx hb d_St_narrowByPoints_10 hl (by decide) rfl (fun ls hl => ?_)
  refine lv_aload_n hx hb d_St_narrowByPoints_12 rfl (lv_at hl 2 rfl) ?_
  obtain ⟨v77, ⟨fs78, he79, hv80⟩, hwp⟩ := hwp
  refine h_get (C := "BuckTables$Stem") (T := Tc1) (N := 12) hx hb hts inc1 hown hK hM he79 rfl 11 (by decide) (hts _ kw_125) (fun _ h9 => h9) hv80 d_St_narrowByPoints_13 ?_
  refine lv_iconst (v := 1) hx hb d_St_narrowByPoints_16 (by decide) ?_
  refine lv_isub hx hb d_St_narrowByPoints_17 ?_
  refine lv_topi (fun z81 ez81 => ?_)
  replace hwp := hwp z81 ez81
  refine lv_istore (lv' := [(6, .int z81), (5, .int v73), (4, .int v69), (0, .ref self), (1, .ref p0), (2, .ref p1), (3, .int p2)]) hx hb d_St_narrowByPoints_18 hl (by decide) rfl (fun ls hl => ?_)
  obtain ⟨n82, hwp⟩ := hwp
  exact tSt_narrowByPoints_20 C post n82 self p0 p1 p2 v69 v73 z81 M hwp H locs ls hM hS (lv_sub hl [3, 4, 5, 6, 2, 1, 0] rfl)
set_option maxRecDepth 100000 in
set_option maxHeartbeats 4000000 in
theorem metSt_narrowByPoints (l : Launch) (D : va_G) (κ : Nat → ClassId) (sz : Nat) (self : Nat) (p0 : Nat) (p1 : Nat) (p2 : Int32) (M : Hp) (post : Hp → Prop) (hwp : wpSt_narrowByPoints self p0 p1 p2 M post) : Met l y_St_narrowByPoints ws_St_narrowByPoints rm_St_narrowByPoints (hPc D kCl (hTys κ) M sz [.ref self, .ref p0, .ref p1, .int p2]) (va_Qv post (hB D kCl (hTys κ) (hAx M sz)) (hAx M sz)) 0 0 (hAx M sz) := by
  refine Met.ofW (cc := prog_5_method_8_code) (maxL := 7) (ret := none) (by decide +kernel) rfl ?_
  intro p e s m args below meth c s₁ B hml hv
  obtain ⟨rfl, hsz, hE, hM0⟩ := hv
  have hts : ∀ w ∈ WG, w.before _ s = true := fun w h => atoms_spec (ws := ws_St_narrowByPoints) B.pre w (List.mem_cons_of_mem _ h)
  subst hsz
  have C : Cx_St_narrowByPoints p s m _ meth c D κ (hAx M s.heap.size) := ⟨B.exec, B.bytes, hml, B.returns, findClass_of_methodNamed B.named, hts, B.notSynchronized, hE, fun q h => Or.inr h⟩
  have hl := lv_entry ([.ref self, .ref p0, .ref p1, .int p2]) (n := 7) (Nat.le_of_ble_eq_true rfl)
  rw [lg_entry_eq]
  generalize (lg_sl ([.ref self, .ref p0, .ref p1, .int p2]) ++ List.replicate (7 - (lg_sl ([.ref self, .ref p0, .ref p1, .int p2])).length) Slot.unset).toArray = ls at hl ⊢
  exact eSt_narrowByPoints C post self p0 p1 p2 M hwp s.heap [] ls (hM0.self (sz := s.heap.size)) va_S.rf hl
