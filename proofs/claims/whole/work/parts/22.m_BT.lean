abbrev rm_BT_stems : Room := { frames := 6, cells := 1, slots := 6, locals := 90 }
def Cx_BT_stems (p : Program) (s : State) (m : MethodId) (args : Array Value) (meth : Method) (c : Code) (D : va_G) (κ : Nat → ClassId) (A : Nat → Prop) : Prop := p.tables.exec = Jvm.exec ∧ c.code = prog_1_method_4_code ∧ c.maxLocals = 1 ∧ meth.sig.returnType = (some .int) ∧ s.vm.findClass "BuckTables" = some m.cls ∧ (∀ w ∈ WG, w.before args s = true) ∧ meth.locks = false ∧ hEnv D kCl (hTys κ) A s ∧ (∀ q, s.heap.size ≤ q → A q) ∧ c.exceptionTable.isEmpty = true
def wpBT_stems (self : Nat) (M : Hp) (post : Int32 → Hp → Prop) (px : String → Hp → Prop) : Prop := (∃ v1 : Int32, fI M self 0 3 v1 ∧ ((v1 < (6 : Int32) → (∃ v6 : Int32, fI M self 0 3 v6 ∧ (∃ M10 : Hp, pF M self 0 3 (.int (v6 + (1 : Int32))) M10 ∧ (∃ M14 : Hp, pF M10 self 0 9 (.int (0 : Int32)) M14 ∧ (∃ v18 : Int32, fI M14 self 0 3 v18 ∧ (post v18 M14)))))) ∧ (¬ v1 < (6 : Int32) → (px "java/lang/IllegalStateException" M))))
set_option maxRecDepth 100000 in
set_option maxHeartbeats 4000000 in
theorem eBT_stems {p : Program} {l : Launch} {e : Env} {s : State} {m : MethodId} {args : Array Value} {below : List Frame} {meth : Method} {c : Code} {D : va_G} {κ : Nat → ClassId} {A : Nat → Prop} (C : Cx_BT_stems p s m args meth c D κ A) (hst : l.stackTraces = false) (post : Int32 → Hp → Prop) (px : String → Hp → Prop) (self : Nat) (M : Hp) (hwp : wpBT_stems self M post px) : Y p l e rm_BT_stems s m args below meth c D kCl (hTys κ) A 1 0 0 (xMQ below (va_Qi post (hB D kCl (hTys κ) A) A) D kCl (hTys κ) A px args s 1 6) M 0 [(0, .ref self)] [] := by
  obtain ⟨hx, hb, hml, hr, hown, hts, hlocks, hE, hA, hnoex⟩ := id C
  have hK := hE.1
  intro H locs ls hM hS hl
  unfold wpBT_stems at hwp
  refine lv_aload_n hx hb d_BT_stems_0 rfl (lv_at hl 0 rfl) ?_
  obtain ⟨v1, ⟨fs2, he3, hv4⟩, hwp⟩ := hwp
  refine h_get (C := "BuckTables") (T := Tc0) (N := 12) hx hb hts inc0 hown hK hM he3 rfl 3 (by decide) (hts _ kw_205) (fun _ h9 => h9) hv4 d_BT_stems_1 ?_
  refine lv_bipush (v := 6) hx hb d_BT_stems_4 (by decide) ?_
  refine lv_icmp_lt (tgt := 19) hx hb d_BT_stems_6 (by decide) (fun c5 => ?_) (fun c5 => ?_)
  · replace hwp := hwp.1 c5
    refine lv_aload_n hx hb d_BT_stems_19 rfl (lv_at hl 0 rfl) ?_
    refine lv_dup hx hb d_BT_stems_20 rfl ?_
    obtain ⟨v6, ⟨fs7, he8, hv9⟩, hwp⟩ := hwp
    refine h_get (C := "BuckTables") (T := Tc0) (N := 12) hx hb hts inc0 hown hK hM he8 rfl 3 (by decide) (hts _ kw_205) (fun _ h9 => h9) hv9 d_BT_stems_21 ?_
    refine lv_iconst (v := 1) hx hb d_BT_stems_24 (by decide) ?_
    refine lv_iadd hx hb d_BT_stems_25 ?_
    obtain ⟨M10, ⟨fs11, he12, hl13, eM10⟩, hwp⟩ := hwp
    refine h_put (C := "BuckTables") (T := Tc0) (N := 12) (v := .int (v6 + (1 : Int32))) (ty := .int) hx hb hts inc0 tyc0 tyc0_ok nmc0 hown hK hM hS he12 rfl 3 (by decide) (hts _ kw_205) (fun _ h9 => h9) rfl (by decide +kernel) rfl rfl hl13 d_BT_stems_26 (fun H locs hM hS => ?_)
    rw [← eM10] at hM
    refine lv_aload_n hx hb d_BT_stems_29 rfl (lv_at hl 0 rfl) ?_
    refine lv_iconst (v := 0) hx hb d_BT_stems_30 (by decide) ?_
    obtain ⟨M14, ⟨fs15, he16, hl17, eM14⟩, hwp⟩ := hwp
    refine h_put (C := "BuckTables") (T := Tc0) (N := 12) (v := .int (0 : Int32)) (ty := .boolean) hx hb hts inc0 tyc0 tyc0_ok nmc0 hown hK hM hS he16 rfl 9 (by decide) (hts _ kw_211) (fun _ h9 => h9) rfl (by decide +kernel) (by decide) (by decide) hl17 d_BT_stems_31 (fun H locs hM hS => ?_)
    rw [← eM14] at hM
    refine lv_aload_n hx hb d_BT_stems_34 rfl (lv_at hl 0 rfl) ?_
    obtain ⟨v18, ⟨fs19, he20, hv21⟩, hwp⟩ := hwp
    refine h_get (C := "BuckTables") (T := Tc0) (N := 12) hx hb hts inc0 hown hK hM he20 rfl 3 (by decide) (hts _ kw_205) (fun _ h9 => h9) hv21 d_BT_stems_35 ?_
    refine W.widen (k := 1) (n := 6) (by omega) (by omega) ?_
    exact x_ret (W.iret (v := v18) hx hb hr (fun t ht hW => ⟨⟨v18, M14, rfl, hwp, by show hw D kCl (hTys κ) A M14 t.heap; rw [ht]; exact hM⟩, hS.F ht⟩) hS.2.2 d_BT_stems_38)
  · replace hwp := hwp.2 c5
    exact x_throw (own := "BuckTables") (cls := "java/lang/IllegalStateException") (text := "there are 6 stems") (names := ["java/lang/RuntimeException", "java/lang/Exception"]) (ik := 83) (is := 123) (ic := 87) hx hb hst hown (by decide +kernel) (by decide +kernel) hE.2 hS hM xin_BT_83_87 (List.mem_append_right _ (List.mem_of_getElem? (i := 466) (by decide +kernel))) (by rw [hml]; exact hl.1) d_BT_stems_9 d_BT_stems_12 d_BT_stems_13 d_BT_stems_15 d_BT_stems_18 (x_empty hnoex) (Nat.le_of_ble_eq_true rfl) (Nat.le_of_ble_eq_true rfl) (Nat.le_of_ble_eq_true rfl) (Nat.le_of_ble_eq_true rfl) hlocks hwp (Nat.le_of_ble_eq_true rfl) (Nat.le_of_ble_eq_true rfl)
set_option maxRecDepth 100000 in
set_option maxHeartbeats 4000000 in
theorem metBT_stems (l : Launch) (hst : l.stackTraces = false) (D : va_G) (κ : Nat → ClassId) (sz : Nat) (self : Nat) (M : Hp) (post : Int32 → Hp → Prop) (px : String → Hp → Prop) (hwp : wpBT_stems self M post px) : xMet l y_BT_stems ws_BT_stems rm_BT_stems (hPc D kCl (hTys κ) M sz [.ref self]) (va_Qi post (hB D kCl (hTys κ) (hAx M sz)) (hAx M sz)) D kCl (hTys κ) (hAx M sz) px 1 6 := by
  refine xMet.ofW (cc := prog_1_method_4_code) (maxL := 1) (ret := (some .int)) (by decide +kernel) rfl ?_
  intro p e s m args below meth c s₁ B hml hv
  obtain ⟨rfl, hsz, hE, hM0⟩ := hv
  have hts : ∀ w ∈ WG, w.before _ s = true := fun w h => atoms_spec (ws := ws_BT_stems) B.pre w (List.mem_cons_of_mem _ h)
  subst hsz
  have C : Cx_BT_stems p s m _ meth c D κ (hAx M s.heap.size) := ⟨B.exec, B.bytes, hml, B.returns, findClass_of_methodNamed B.named, hts, B.notSynchronized, hE, fun q h => Or.inr h, B.noHandlers (atoms_spec (ws := ws_BT_stems) B.pre _ List.mem_cons_self)⟩
  have hl := lv_entry ([.ref self]) (n := 1) (Nat.le_of_ble_eq_true rfl)
  rw [lg_entry_eq]
  generalize (lg_sl ([.ref self]) ++ List.replicate (1 - (lg_sl ([.ref self])).length) Slot.unset).toArray = ls at hl ⊢
  exact eBT_stems C hst post px self M hwp s.heap [] ls (hM0.self (sz := s.heap.size)) va_S.rf hl
abbrev rm_Pr_tell : Room := { frames := 0, cells := 0, slots := 0, locals := 0 }
def Cx_Pr_tell (p : Program) (s : State) (m : MethodId) (args : Array Value) (meth : Method) (c : Code) (D : va_G) (κ : Nat → ClassId) (A : Nat → Prop) : Prop := p.tables.exec = Jvm.exec ∧ c.code = prog_4_method_2_code ∧ c.maxLocals = 7 ∧ meth.sig.returnType = none ∧ s.vm.findClass "BuckTables$Product" = some m.cls ∧ (∀ w ∈ WG, w.before args s = true) ∧ meth.locks = false ∧ hEnv D kCl (hTys κ) A s ∧ (∀ q, s.heap.size ≤ q → A q)
def wpPr_tell (self : Nat) (p0 : Int32) (p1 : Int32) (p2 : Int32) (p3 : Int32) (p4 : Int64) (M : Hp) (post : Hp → Prop) : Prop := (∃ v1 : Int32, fI M self 2 0 v1 ∧ (∃ v5 : Int32, fI M self 2 0 v5 ∧ (¬ v5 = 0 ∧ (∃ M10 : Hp, pF M self 2 3 (.int (((p0 + v1) - (1 : Int32)) / v5)) M10 ∧ (∃ v14 : Int32, fI M10 self 2 0 v14 ∧ (¬ v14 = 0 ∧ (∃ M19 : Hp, pF M10 self 2 4 (.int (p1 / v14)) M19 ∧ (∃ M23 : Hp, pF M19 self 2 5 (.int p2) M23 ∧ (∃ M27 : Hp, pF M23 self 2 6 (.int p3) M27 ∧ (∃ M31 : Hp, pF M27 self 2 7 (.long p4) M31 ∧ (post M31)))))))))))
set_option maxRecDepth 100000 in
set_option maxHeartbeats 4000000 in
theorem ePr_tell {p : Program} {l : Launch} {e : Env} {s : State} {m : MethodId} {args : Array Value} {below : List Frame} {meth : Method} {c : Code} {D : va_G} {κ : Nat → ClassId} {A : Nat → Prop} (C : Cx_Pr_tell p s m args meth c D κ A) (post : Hp → Prop) (self : Nat) (p0 : Int32) (p1 : Int32) (p2 : Int32) (p3 : Int32) (p4 : Int64) (M : Hp) (hwp : wpPr_tell self p0 p1 p2 p3 p4 M post) : Y p l e rm_Pr_tell s m args below meth c D kCl (hTys κ) A 7 0 0 (MQ below (va_Qv post (hB D kCl (hTys κ) A) A) args s 0 0 A) M 0 [(0, .ref self), (1, .int p0), (2, .int p1), (3, .int p2), (4, .int p3), (5, .long p4)] [] := by
  obtain ⟨hx, hb, hml, hr, hown, hts, hlocks, hE, hA⟩ := id C
  have hK := hE.1
  intro H locs ls hM hS hl
  unfold wpPr_tell at hwp
  refine lv_aload_n hx hb d_Pr_tell_0 rfl (lv_at hl 0 rfl) ?_
  refine lv_iload_n hx hb d_Pr_tell_1 rfl (lv_at hl 1 rfl) ?_
  refine lv_aload_n hx hb d_Pr_tell_2 rfl (lv_at hl 0 rfl) ?_
  obtain ⟨v1, ⟨fs2, he3, hv4⟩, hwp⟩ := hwp
  refine h_get (C := "BuckTables$Product") (T := Tc2) (N := 10) hx hb hts inc2 hown hK hM he3 rfl 0 (by decide) (hts _ kw_159) (fun _ h9 => h9) hv4 d_Pr_tell_3 ?_
  refine lv_iadd hx hb d_Pr_tell_6 ?_
  refine lv_iconst (v := 1) hx hb d_Pr_tell_7 (by decide) ?_
  refine lv_isub hx hb d_Pr_tell_8 ?_
  refine lv_aload_n hx hb d_Pr_tell_9 rfl (lv_at hl 0 rfl) ?_
  obtain ⟨v5, ⟨fs6, he7, hv8⟩, hwp⟩ := hwp
  refine h_get (C := "BuckTables$Product") (T := Tc2) (N := 10) hx hb hts inc2 hown hK hM he7 rfl 0 (by decide) (hts _ kw_159) (fun _ h9 => h9) hv8 d_Pr_tell_10 ?_
  obtain ⟨h9, hwp⟩ := hwp
  refine lv_idiv hx hb d_Pr_tell_13 h9 ?_
  obtain ⟨M10, ⟨fs11, he12, hl13, eM10⟩, hwp⟩ := hwp
  refine h_put (C := "BuckTables$Product") (T := Tc2) (N := 10) (v := .int (((p0 + v1) - (1 : Int32)) / v5)) (ty := .int) hx hb hts inc2 tyc2 tyc2_ok nmc2 hown hK hM hS he12 rfl 3 (by decide) (hts _ kw_166) (fun _ h9 => h9) rfl (by decide +kernel) rfl rfl hl13 d_Pr_tell_14 (fun H locs hM hS => ?_)
  rw [← eM10] at hM
  refine lv_aload_n hx hb d_Pr_tell_17 rfl (lv_at hl 0 rfl) ?_
  refine lv_iload_n hx hb d_Pr_tell_18 rfl (lv_at hl 2 rfl) ?_
  refine lv_aload_n hx hb d_Pr_tell_19 rfl (lv_at hl 0 rfl) ?_
  obtain ⟨v14, ⟨fs15, he16, hv17⟩, hwp⟩ := hwp
  refine h_get (C := "BuckTables$Product") (T := Tc2) (N := 10) hx hb hts inc2 hown hK hM he16 rfl 0 (by decide) (hts _ kw_159) (fun _ h9 => h9) hv17 d_Pr_tell_20 ?_
  obtain ⟨h18, hwp⟩ := hwp
  refine lv_idiv hx hb d_Pr_tell_23 h18 ?_
  obtain ⟨M19, ⟨fs20, he21, hl22, eM19⟩, hwp⟩ := hwp
  refine h_put (C := "BuckTables$Product") (T := Tc2) (N := 10) (v := .int (p1 / v14)) (ty := .int) hx hb hts inc2 tyc2 tyc2_ok nmc2 hown hK hM hS he21 rfl 4 (by decide) (hts _ kw_168) (fun _ h9 => h9) rfl (by decide +kernel) rfl rfl hl22 d_Pr_tell_24 (fun H locs hM hS => ?_)
  rw [← eM19] at hM
  refine lv_aload_n hx hb d_Pr_tell_27 rfl (lv_at hl 0 rfl) ?_
  refine lv_iload_n hx hb d_Pr_tell_28 rfl (lv_at hl 3 rfl) ?_
  obtain ⟨M23, ⟨fs24, he25, hl26, eM23⟩, hwp⟩ := hwp
  refine h_put (C := "BuckTables$Product") (T := Tc2) (N := 10) (v := .int p2) (ty := .int) hx hb hts inc2 tyc2 tyc2_ok nmc2 hown hK hM hS he25 rfl 5 (by decide) (hts _ kw_170) (fun _ h9 => h9) rfl (by decide +kernel) rfl rfl hl26 d_Pr_tell_29 (fun H locs hM hS => ?_)
  rw [← eM23] at hM
  refine lv_aload_n hx hb d_Pr_tell_32 rfl (lv_at hl 0 rfl) ?_
  refine lv_iload hx hb d_Pr_tell_33 (lv_at hl 4 rfl) ?_
  obtain ⟨M27, ⟨fs28, he29, hl30, eM27⟩, hwp⟩ := hwp
  refine h_put (C := "BuckTables$Product") (T := Tc2) (N := 10) (v := .int p3) (ty := .int) hx hb hts inc2 tyc2 tyc2_ok nmc2 hown hK hM hS he29 rfl 6 (by decide) (hts _ kw_172) (fun _ h9 => h9) rfl (by decide +kernel) rfl rfl hl30 d_Pr_tell_35 (fun H locs hM hS => ?_)
  rw [← eM27] at hM
  refine lv_aload_n hx hb d_Pr_tell_38 rfl (lv_at hl 0 rfl) ?_
  refine lv_lload hx hb d_Pr_tell_39 (lv_at hl 5 rfl) ?_
  obtain ⟨M31, ⟨fs32, he33, hl34, eM31⟩, hwp⟩ := hwp
  refine h_put (C := "BuckTables$Product") (T := Tc2) (N := 10) (v := .long p4) (ty := .long) hx hb hts inc2 tyc2 tyc2_ok nmc2 hown hK hM hS he33 rfl 7 (by decide) (hts _ kw_174) (fun _ h9 => h9) rfl (by decide +kernel) rfl rfl hl34 d_Pr_tell_41 (fun H locs hM hS => ?_)
  rw [← eM31] at hM
  exact W.vret hx hb hr (fun t ht hW => ⟨⟨M31, rfl, hwp, by show hw D kCl (hTys κ) A M31 t.heap; rw [ht]; exact hM⟩, hS.F ht⟩) hS.2.2 d_Pr_tell_44
set_option maxRecDepth 100000 in
set_option maxHeartbeats 4000000 in
theorem metPr_tell (l : Launch) (D : va_G) (κ : Nat → ClassId) (sz : Nat) (self : Nat) (p0 : Int32) (p1 : Int32) (p2 : Int32) (p3 : Int32) (p4 : Int64) (M : Hp) (post : Hp → Prop) (hwp : wpPr_tell self p0 p1 p2 p3 p4 M post) : Met l y_Pr_tell ws_Pr_tell rm_Pr_tell (hPc D kCl (hTys κ) M sz [.ref self, .int p0, .int p1, .int p2, .int p3, .long p4]) (va_Qv post (hB D kCl (hTys κ) (hAx M sz)) (hAx M sz)) 0 0 (hAx M sz) := by
  refine Met.ofW (cc := prog_4_method_2_code) (maxL := 7) (ret := none) (by decide +kernel) rfl ?_
  intro p e s m args below meth c s₁ B hml hv
  obtain ⟨rfl, hsz, hE, hM0⟩ := hv
  have hts : ∀ w ∈ WG, w.before _ s = true := fun w h => atoms_spec (ws := ws_Pr_tell) B.pre w (List.mem_cons_of_mem _ h)
  subst hsz
  have C : Cx_Pr_tell p s m _ meth c D κ (hAx M s.heap.size) := ⟨B.exec, B.bytes, hml, B.returns, findClass_of_methodNamed B.named, hts, B.notSynchronized, hE, fun q h => Or.inr h⟩
  have hl := lv_entry ([.ref self, .int p0, .int p1, .int p2, .int p3, .long p4]) (n := 7) (Nat.le_of_ble_eq_true rfl)
  rw [lg_entry_eq]
  generalize (lg_sl ([.ref self, .int p0, .int p1, .int p2, .int p3, .long p4]) ++ List.replicate (7 - (lg_sl ([.ref self, .int p0, .int p1, .int p2, .int p3, .long p4])).length) Slot.unset).toArray = ls at hl ⊢
  exact ePr_tell C post self p0 p1 p2 p3 p4 M hwp s.heap [] ls (hM0.self (sz := s.heap.size)) va_S.rf hl
abbrev rm_BT_product : Room := { frames := 6, cells := 1, slots := 6, locals := 90 }
def Cx_BT_product (p : Program) (s : State) (m : MethodId) (args : Array Value) (meth : Method) (c : Code) (D : va_G) (κ : Nat → ClassId) (A : Nat → Prop) : Prop := p.tables.exec = Jvm.exec ∧ c.code = prog_1_method_5_code ∧ c.maxLocals = 7 ∧ meth.sig.returnType = (some .int) ∧ s.vm.findClass "BuckTables" = some m.cls ∧ (∀ w ∈ WG, w.before args s = true) ∧ meth.locks = false ∧ hEnv D kCl (hTys κ) A s ∧ (∀ q, s.heap.size ≤ q → A q) ∧ c.exceptionTable.isEmpty = true
def wBT_product_79 (post : Int32 → Hp → Prop) (px : String → Hp → Prop)   (M : Hp) : Prop := (px "java/lang/IllegalArgumentException" M)
set_option maxRecDepth 100000 in
set_option maxHeartbeats 4000000 in
theorem tBT_product_79 {p : Program} {l : Launch} {e : Env} {s : State} {m : MethodId} {args : Array Value} {below : List Frame} {meth : Method} {c : Code} {D : va_G} {κ : Nat → ClassId} {A : Nat → Prop} (C : Cx_BT_product p s m args meth c D κ A) (hst : l.stackTraces = false) (post : Int32 → Hp → Prop) (px : String → Hp → Prop)   (M : Hp) (hwp : wBT_product_79 post px  M) : Y p l e rm_BT_product s m args below meth c D kCl (hTys κ) A 7 0 0 (xMQ below (va_Qi post (hB D kCl (hTys κ) A) A) D kCl (hTys κ) A px args s 1 6) M 79 [] [] := by
  obtain ⟨hx, hb, hml, hr, hown, hts, hlocks, hE, hA, hnoex⟩ := id C
  have hK := hE.1
  intro H locs ls hM hS hl
  unfold wBT_product_79 at hwp
  exact x_throw (own := "BuckTables") (cls := "java/lang/IllegalArgumentException") (text := "top, sweep or worth is out of its range") (names := ["java/lang/RuntimeException", "java/lang/Exception"]) (ik := 98) (is := 130) (ic := 102) hx hb hst hown (by decide +kernel) (by decide +kernel) hE.2 hS hM xin_BT_98_102 (List.mem_append_right _ (List.mem_of_getElem? (i := 477) (by decide +kernel))) (by rw [hml]; exact hl.1) d_BT_product_79 d_BT_product_82 d_BT_product_83 d_BT_product_85 d_BT_product_88 (x_empty hnoex) (Nat.le_of_ble_eq_true rfl) (Nat.le_of_ble_eq_true rfl) (Nat.le_of_ble_eq_true rfl) (Nat.le_of_ble_eq_true rfl) hlocks hwp (Nat.le_of_ble_eq_true rfl) (Nat.le_of_ble_eq_true rfl)
def wBT_product_35 (post : Int32 → Hp → Prop) (px : String → Hp → Prop)   (M : Hp) : Prop := (px "java/lang/IllegalArgumentException" M)
set_option maxRecDepth 100000 in
set_option maxHeartbeats 4000000 in
theorem tBT_product_35 {p : Program} {l : Launch} {e : Env} {s : State} {m : MethodId} {args : Array Value} {below : List Frame} {meth : Method} {c : Code} {D : va_G} {κ : Nat → ClassId} {A : Nat → Prop} (C : Cx_BT_product p s m args meth c D κ A) (hst : l.stackTraces = false) (post : Int32 → Hp → Prop) (px : String → Hp → Prop)   (M : Hp) (hwp : wBT_product_35 post px  M) : Y p l e rm_BT_product s m args below meth c D kCl (hTys κ) A 7 0 0 (xMQ below (va_Qi post (hB D kCl (hTys κ) A) A) D kCl (hTys κ) A px args s 1 6) M 35 [] [] := by
  obtain ⟨hx, hb, hml, hr, hown, hts, hlocks, hE, hA, hnoex⟩ := id C
  have hK := hE.1
  intro H locs ls hM hS hl
  unfold wBT_product_35 at hwp
  exact x_throw (own := "BuckTables") (cls := "java/lang/IllegalArgumentException") (text := "a length is out of its range") (names := ["java/lang/RuntimeException", "java/lang/Exception"]) (ik := 98) (is := 128) (ic := 102) hx hb hst hown (by decide +kernel) (by decide +kernel) hE.2 hS hM xin_BT_98_102 (List.mem_append_right _ (List.mem_of_getElem? (i := 476) (by decide +kernel))) (by rw [hml]; exact hl.1) d_BT_product_35 d_BT_product_38 d_BT_product_39 d_BT_product_41 d_BT_product_44 (x_empty hnoex) (Nat.le_of_ble_eq_true rfl) (Nat.le_of_ble_eq_true rfl) (Nat.le_of_ble_eq_true rfl) (Nat.le_of_ble_eq_true rfl) hlocks hwp (Nat.le_of_ble_eq_true rfl) (Nat.le_of_ble_eq_true rfl)
def wpBT_product (self : Nat) (p0 : Int32) (p1 : Int32) (p2 : Int32) (p3 : Int32) (p4 : Int64) (M : Hp) (post : Int32 → Hp → Prop) (px : String → Hp → Prop) : Prop := (∃ v1 : Int32, fI M self 0 4 v1 ∧ ((v1 < (8 : Int32) → ((p0 < (1 : Int32) → (wBT_product_35 post px M)) ∧ (¬ p0 < (1 : Int32) → (((10000000 : Int32) < p1 → (wBT_product_35 post px M)) ∧ (¬ (10000000 : Int32) < p1 → ((p0 ≤ p1 → (wpBT_isOutside (p2.toInt64) (100000 : Int64) M (fun (r10 : Int32) (M9 : Hp) => ((r10 = 0 → (wpBT_isOutside (p3.toInt64) (100000 : Int64) M9 (fun (r13 : Int32) (M12 : Hp) => ((r13 = 0 → (wpBT_isOutside p4 (100000 : Int64) M12 (fun (r16 : Int32) (M15 : Hp) => ((r16 = 0 → (∃ a18 : Nat, fA M15 self 0 1 a18 ∧ (∃ v22 : Int32, fI M15 self 0 4 v22 ∧ (∃ a26 : Nat, aA 4 M15 a18 v22 a26 ∧ (hob M15 a26 2 ∧ (wpPr_tell a26 p0 p1 p2 p3 p4 M15 (fun (M32 : Hp) => (∃ v34 : Int32, fI M32 self 0 4 v34 ∧ (∃ M38 : Hp, pF M32 self 0 4 (.int (v34 + (1 : Int32))) M38 ∧ (∃ M42 : Hp, pF M38 self 0 9 (.int (0 : Int32)) M42 ∧ (∃ v46 : Int32, fI M42 self 0 4 v46 ∧ (post (v46 - (1 : Int32)) M42)))))))))))) ∧ (¬ r16 = 0 → (wBT_product_79 post px M15)))))) ∧ (¬ r13 = 0 → (wBT_product_79 post px M12)))))) ∧ (¬ r10 = 0 → (wBT_product_79 post px M9)))))) ∧ (¬ p0 ≤ p1 → (wBT_product_35 post px M)))))))) ∧ (¬ v1 < (8 : Int32) → (px "java/lang/IllegalStateException" M))))
set_option maxRecDepth 100000 in
set_option maxHeartbeats 4000000 in
theorem eBT_product {p : Program} {l : Launch} {e : Env} {s : State} {m : MethodId} {args : Array Value} {below : List Frame} {meth : Method} {c : Code} {D : va_G} {κ : Nat → ClassId} {A : Nat → Prop} (C : Cx_BT_product p s m args meth c D κ A) (hst : l.stackTraces = false) (post : Int32 → Hp → Prop) (px : String → Hp → Prop) (self : Nat) (p0 : Int32) (p1 : Int32) (p2 : Int32) (p3 : Int32) (p4 : Int64) (M : Hp) (hwp : wpBT_product self p0 p1 p2 p3 p4 M post px) : Y p l e rm_BT_product s m args below meth c D kCl (hTys κ) A 7 0 0 (xMQ below (va_Qi post (hB D kCl (hTys κ) A) A) D kCl (hTys κ) A px args s 1 6) M 0 [(0, .ref self), (1, .int p0), (2, .int p1), (3, .int p2), (4, .int p3), (5, .long p4)] [] := by
  obtain ⟨hx, hb, hml, hr, hown, hts, hlocks, hE, hA, hnoex⟩ := id C
  have hK := hE.1
  intro H locs ls hM hS hl
  unfold wpBT_product at hwp
  refine lv_aload_n hx hb d_BT_product_0 rfl (lv_at hl 0 rfl) ?_
  obtain ⟨v1, ⟨fs2, he3, hv4⟩, hwp⟩ := hwp
  refine h_get (C := "BuckTables") (T := Tc0) (N := 12) hx hb hts inc0 hown hK hM he3 rfl 4 (by decide) (hts _ kw_206) (fun _ h9 => h9) hv4 d_BT_product_1 ?_
  refine lv_bipush (v := 8) hx hb d_BT_product_4 (by decide) ?_
  refine lv_icmp_lt (tgt := 19) hx hb d_BT_product_6 (by decide) (fun c5 => ?_) (fun c5 => ?_)
  · replace hwp := hwp.1 c5
    refine lv_iload_n hx hb d_BT_product_19 rfl (lv_at hl 1 rfl) ?_
    refine lv_iconst (v := 1) hx hb d_BT_product_20 (by decide) ?_
    refine lv_icmp_lt (tgt := 35) hx hb d_BT_product_21 (by decide) (fun c6 => ?_) (fun c6 => ?_)
    · replace hwp := hwp.1 c6
      exact tBT_product_35 C hst post px M hwp H locs ls hM hS (lv_sub hl [] rfl)
    · replace hwp := hwp.2 c6
      refine lv_iload_n hx hb d_BT_product_24 rfl (lv_at hl 2 rfl) ?_
      refine lv_ldc (v := 10000000) hx hb hown (hts _ kw_475) d_BT_product_25 ?_
      refine lv_icmp_gt (tgt := 35) hx hb d_BT_product_27 (by decide) (fun c7 => ?_) (fun c7 => ?_)
      · replace hwp := hwp.1 c7
        exact tBT_product_35 C hst post px M hwp H locs ls hM hS (lv_sub hl [] rfl)
      · replace hwp := hwp.2 c7
        refine lv_iload_n hx hb d_BT_product_30 rfl (lv_at hl 1 rfl) ?_
        refine lv_iload_n hx hb d_BT_product_31 rfl (lv_at hl 2 rfl) ?_
        refine lv_icmp_le (tgt := 45) hx hb d_BT_product_32 (by decide) (fun c8 => ?_) (fun c8 => ?_)
        · replace hwp := hwp.1 c8
          refine lv_iload_n hx hb d_BT_product_45 rfl (lv_at hl 3 rfl) ?_
          refine lv_i2l hx hb d_BT_product_46 rfl ?_
          refine lv_ldc2 (v := (100000)) hx hb hown (hts _ kw_420) d_BT_product_47 ?_
          refine h_calli hM hS hA (va_runS (As := [.long (p2.toInt64), .long (100000 : Int64)]) (rest := []) ⟨hx, hb, hml, hown, hts⟩ (metBT_isOutside l D κ H.size (p2.toInt64) (100000 : Int64) M _ hwp) (cwS 2 hts (gS kw_417 kw_418 kw_1 kw_419) rfl rfl rfl (by decide +kernel) ⟨(Nat.le_of_ble_eq_true rfl), (Nat.le_of_ble_eq_true rfl)⟩) (h_preS hE hM hS) rfl rfl hl.1 rfl (lv_room (Nat.le_of_ble_eq_true rfl)) d_BT_product_50 ⟨(Nat.le_of_ble_eq_true rfl), (Nat.le_of_ble_eq_true rfl)⟩) (fun r10 M9 H locs hwp hM hS => ?_)
          refine lv_if_ne (tgt := 79) hx hb d_BT_product_53 (by decide) (fun c11 => ?_) (fun c11 => ?_)
          · replace hwp := hwp.2 c11
            exact tBT_product_79 C hst post px M9 hwp H locs ls hM hS (lv_sub hl [] rfl)
          · replace hwp := hwp.1 c11
            refine lv_iload hx hb d_BT_product_56 (lv_at hl 4 rfl) ?_
            refine lv_i2l hx hb d_BT_product_58 rfl ?_
            refine lv_ldc2 (v := (100000)) hx hb hown (hts _ kw_420) d_BT_product_59 ?_
            refine h_calli hM hS hA (va_runS (As := [.long (p3.toInt64), .long (100000 : Int64)]) (rest := []) ⟨hx, hb, hml, hown, hts⟩ (metBT_isOutside l D κ H.size (p3.toInt64) (100000 : Int64) M9 _ hwp) (cwS 2 hts (gS kw_417 kw_418 kw_1 kw_419) rfl rfl rfl (by decide +kernel) ⟨(Nat.le_of_ble_eq_true rfl), (Nat.le_of_ble_eq_true rfl)⟩) (h_preS hE hM hS) rfl rfl hl.1 rfl (lv_room (Nat.le_of_ble_eq_true rfl)) d_BT_product_62 ⟨(Nat.le_of_ble_eq_true rfl), (Nat.le_of_ble_eq_true rfl)⟩) (fun r13 M12 H locs hwp hM hS => ?_)
            refine lv_if_ne (tgt := 79) hx hb d_BT_product_65 (by decide) (fun c14 => ?_) (fun c14 => ?_)
            · replace hwp := hwp.2 c14
              exact tBT_product_79 C hst post px M12 hwp H locs ls hM hS (lv_sub hl [] rfl)
            · replace hwp := hwp.1 c14
              refine lv_lload hx hb d_BT_product_68 (lv_at hl 5 rfl) ?_
              refine lv_ldc2 (v := (100000)) hx hb hown (hts _ kw_420) d_BT_product_70 ?_
              refine h_calli hM hS hA (va_runS (As := [.long p4, .long (100000 : Int64)]) (rest := []) ⟨hx, hb, hml, hown, hts⟩ (metBT_isOutside l D κ H.size p4 (100000 : Int64) M12 _ hwp) (cwS 2 hts (gS kw_417 kw_418 kw_1 kw_419) rfl rfl rfl (by decide +kernel) ⟨(Nat.le_of_ble_eq_true rfl), (Nat.le_of_ble_eq_true rfl)⟩) (h_preS hE hM hS) rfl rfl hl.1 rfl (lv_room (Nat.le_of_ble_eq_true rfl)) d_BT_product_73 ⟨(Nat.le_of_ble_eq_true rfl), (Nat.le_of_ble_eq_true rfl)⟩) (fun r16 M15 H locs hwp hM hS => ?_)
              refine lv_if_eq (tgt := 89) hx hb d_BT_product_76 (by decide) (fun c17 => ?_) (fun c17 => ?_)
              · replace hwp := hwp.1 c17
                refine lv_aload_n hx hb d_BT_product_89 rfl (lv_at hl 0 rfl) ?_
                obtain ⟨a18, ⟨fs19, he20, hv21⟩, hwp⟩ := hwp
                refine h_get (C := "BuckTables") (T := Tc0) (N := 12) hx hb hts inc0 hown hK hM he20 rfl 1 (by decide) (hts _ kw_203) (fun _ h9 => h9) hv21 d_BT_product_90 ?_
                refine lv_aload_n hx hb d_BT_product_93 rfl (lv_at hl 0 rfl) ?_
                obtain ⟨v22, ⟨fs23, he24, hv25⟩, hwp⟩ := hwp
                refine h_get (C := "BuckTables") (T := Tc0) (N := 12) hx hb hts inc0 hown hK hM he24 rfl 4 (by decide) (hts _ kw_206) (fun _ h9 => h9) hv25 d_BT_product_94 ?_
                obtain ⟨a26, ⟨n27, f28, ha29, hi30, hy31⟩, hwp⟩ := hwp
                refine h_aald hx hb hK hM ha29 rfl hi30 hy31 d_BT_product_97 ?_
                refine lv_iload_n hx hb d_BT_product_98 rfl (lv_at hl 1 rfl) ?_
                refine lv_iload_n hx hb d_BT_product_99 rfl (lv_at hl 2 rfl) ?_
                refine lv_iload_n hx hb d_BT_product_100 rfl (lv_at hl 3 rfl) ?_
                refine lv_iload hx hb d_BT_product_101 (lv_at hl 4 rfl) ?_
                refine lv_lload hx hb d_BT_product_103 (lv_at hl 5 rfl) ?_
                obtain ⟨ho33, hwp⟩ := hwp
                refine h_callv hM hS hA (va_runV (As := [.int p0, .int p1, .int p2, .int p3, .long p4]) (rest := []) ⟨hx, hb, hml, hown, hts⟩ (metPr_tell l D κ H.size a26 p0 p1 p2 p3 p4 M15 _ hwp) (cwV 5 hts (gV kw_478 kw_479 kw_480 kw_7 kw_481) rfl rfl rfl (by decide +kernel) ⟨(Nat.le_of_ble_eq_true rfl), (Nat.le_of_ble_eq_true rfl)⟩) (h_preV hE hM hS ho33 (r := ("BuckTables$Product", Tc2, 10)) rfl) rfl rfl hl.1 rfl (lv_room (Nat.le_of_ble_eq_true rfl)) d_BT_product_105 ⟨(Nat.le_of_ble_eq_true rfl), (Nat.le_of_ble_eq_true rfl)⟩) (fun M32 H locs hwp hM hS => ?_)
                refine lv_aload_n hx hb d_BT_product_108 rfl (lv_at hl 0 rfl) ?_
                refine lv_dup hx hb d_BT_product_109 rfl ?_
                obtain ⟨v34, ⟨fs35, he36, hv37⟩, hwp⟩ := hwp
                refine h_get (C := "BuckTables") (T := Tc0) (N := 12) hx hb hts inc0 hown hK hM he36 rfl 4 (by decide) (hts _ kw_206) (fun _ h9 => h9) hv37 d_BT_product_110 ?_
                refine lv_iconst (v := 1) hx hb d_BT_product_113 (by decide) ?_
                refine lv_iadd hx hb d_BT_product_114 ?_
                obtain ⟨M38, ⟨fs39, he40, hl41, eM38⟩, hwp⟩ := hwp
                refine h_put (C := "BuckTables") (T := Tc0) (N := 12) (v := .int (v34 + (1 : Int32))) (ty := .int) hx hb hts inc0 tyc0 tyc0_ok nmc0 hown hK hM hS he40 rfl 4 (by decide) (hts _ kw_206) (fun _ h9 => h9) rfl (by decide +kernel) rfl rfl hl41 d_BT_product_115 (fun H locs hM hS => ?_)
                rw [← eM38] at hM
                refine lv_aload_n hx hb d_BT_product_118 rfl (lv_at hl 0 rfl) ?_
                refine lv_iconst (v := 0) hx hb d_BT_product_119 (by decide) ?_
                obtain ⟨M42, ⟨fs43, he44, hl45, eM42⟩, hwp⟩ := hwp
                refine h_put (C := "BuckTables") (T := Tc0) (N := 12) (v := .int (0 : Int32)) (ty := .boolean) hx hb hts inc0 tyc0 tyc0_ok nmc0 hown hK hM hS he44 rfl 9 (by decide) (hts _ kw_211) (fun _ h9 => h9) rfl (by decide +kernel) (by decide) (by decide) hl45 d_BT_product_120 (fun H locs hM hS => ?_)
                rw [← eM42] at hM
                refine lv_aload_n hx hb d_BT_product_123 rfl (lv_at hl 0 rfl) ?_
                obtain ⟨v46, ⟨fs47, he48, hv49⟩, hwp⟩ := hwp
                refine h_get (C := "BuckTables") (T := Tc0) (N := 12) hx hb hts inc0 hown hK hM he48 rfl 4 (by decide) (hts _ kw_206) (fun _ h9 => h9) hv49 d_BT_product_124 ?_
                refine lv_iconst (v := 1) hx hb d_BT_product_127 (by decide) ?_
                refine lv_isub hx hb d_BT_product_128 ?_
                refine W.widen (k := 1) (n := 6) (by omega) (by omega) ?_
                exact x_ret (W.iret (v := (v46 - (1 : Int32))) hx hb hr (fun t ht hW => ⟨⟨(v46 - (1 : Int32)), M42, rfl, hwp, by show hw D kCl (hTys κ) A M42 t.heap; rw [ht]; exact hM⟩, hS.F ht⟩) hS.2.2 d_BT_product_129)
              · replace hwp := hwp.2 c17
                exact tBT_product_79 C hst post px M15 hwp H locs ls hM hS (lv_sub hl [] rfl)
        · replace hwp := hwp.2 c8
          exact tBT_product_35 C hst post px M hwp H locs ls hM hS (lv_sub hl [] rfl)
  · replace hwp := hwp.2 c5
    exact x_throw (own := "BuckTables") (cls := "java/lang/IllegalStateException") (text := "there are 8 products") (names := ["java/lang/RuntimeException", "java/lang/Exception"]) (ik := 83) (is := 125) (ic := 87) hx hb hst hown (by decide +kernel) (by decide +kernel) hE.2 hS hM xin_BT_83_87 (List.mem_append_right _ (List.mem_of_getElem? (i := 474) (by decide +kernel))) (by rw [hml]; exact hl.1) d_BT_product_9 d_BT_product_12 d_BT_product_13 d_BT_product_15 d_BT_product_18 (x_empty hnoex) (Nat.le_of_ble_eq_true rfl) (Nat.le_of_ble_eq_true rfl) (Nat.le_of_ble_eq_true rfl) (Nat.le_of_ble_eq_true rfl) hlocks hwp (Nat.le_of_ble_eq_true rfl) (Nat.le_of_ble_eq_true rfl)
set_option maxRecDepth 100000 in
set_option maxHeartbeats 4000000 in
theorem metBT_product (l : Launch) (hst : l.stackTraces = false) (D : va_G) (κ : Nat → ClassId) (sz : Nat) (self : Nat) (p0 : Int32) (p1 : Int32) (p2 : Int32) (p3 : Int32) (p4 : Int64) (M : Hp) (post : Int32 → Hp → Prop) (px : String → Hp → Prop) (hwp : wpBT_product self p0 p1 p2 p3 p4 M post px) : xMet l y_BT_product ws_BT_product rm_BT_product (hPc D kCl (hTys κ) M sz [.ref self, .int p0, .int p1, .int p2, .int p3, .long p4]) (va_Qi post (hB D kCl (hTys κ) (hAx M sz)) (hAx M sz)) D kCl (hTys κ) (hAx M sz) px 1 6 := by
  refine xMet.ofW (cc := prog_1_method_5_code) (maxL := 7) (ret := (some .int)) (by decide +kernel) rfl ?_
  intro p e s m args below meth c s₁ B hml hv
  obtain ⟨rfl, hsz, hE, hM0⟩ := hv
  have hts : ∀ w ∈ WG, w.before _ s = true := fun w h => atoms_spec (ws := ws_BT_product) B.pre w (List.mem_cons_of_mem _ h)
  subst hsz
  have C : Cx_BT_product p s m _ meth c D κ (hAx M s.heap.size) := ⟨B.exec, B.bytes, hml, B.returns, findClass_of_methodNamed B.named, hts, B.notSynchronized, hE, fun q h => Or.inr h, B.noHandlers (atoms_spec (ws := ws_BT_product) B.pre _ List.mem_cons_self)⟩
  have hl := lv_entry ([.ref self, .int p0, .int p1, .int p2, .int p3, .long p4]) (n := 7) (Nat.le_of_ble_eq_true rfl)
  rw [lg_entry_eq]
  generalize (lg_sl ([.ref self, .int p0, .int p1, .int p2, .int p3, .long p4]) ++ List.replicate (7 - (lg_sl ([.ref self, .int p0, .int p1, .int p2, .int p3, .long p4])).length) Slot.unset).toArray = ls at hl ⊢
  exact eBT_product C hst post px self p0 p1 p2 p3 p4 M hwp s.heap [] ls (hM0.self (sz := s.heap.size)) va_S.rf hl
abbrev rm_BT_productAt : Room := { frames := 6, cells := 1, slots := 6, locals := 90 }
def Cx_BT_productAt (p : Program) (s : State) (m : MethodId) (args : Array Value) (meth : Method) (c : Code) (D : va_G) (κ : Nat → ClassId) (A : Nat → Prop) : Prop := p.tables.exec = Jvm.exec ∧ c.code = prog_1_method_23_code ∧ c.maxLocals = 2 ∧ meth.sig.returnType = (some (.object "BuckTables$Product")) ∧ s.vm.findClass "BuckTables" = some m.cls ∧ (∀ w ∈ WG, w.before args s = true) ∧ meth.locks = false ∧ hEnv D kCl (hTys κ) A s ∧ (∀ q, s.heap.size ≤ q → A q) ∧ c.exceptionTable.isEmpty = true
def wpBT_productAt (self : Nat) (p0 : Int32) (M : Hp) (post : Nat → Hp → Prop) (px : String → Hp → Prop) : Prop := (∃ v1 : Int32, fI M self 0 4 v1 ∧ (wpBT_isOutside (p0.toInt64) ((v1 - (1 : Int32)).toInt64) M (fun (r6 : Int32) (M5 : Hp) => ((r6 = 0 → (∃ a8 : Nat, fA M5 self 0 1 a8 ∧ (∃ a12 : Nat, aA 4 M5 a8 p0 a12 ∧ (post a12 M5)))) ∧ (¬ r6 = 0 → (px "java/lang/IndexOutOfBoundsException" M5))))))
set_option maxRecDepth 100000 in
set_option maxHeartbeats 4000000 in
theorem eBT_productAt {p : Program} {l : Launch} {e : Env} {s : State} {m : MethodId} {args : Array Value} {below : List Frame} {meth : Method} {c : Code} {D : va_G} {κ : Nat → ClassId} {A : Nat → Prop} (C : Cx_BT_productAt p s m args meth c D κ A) (hst : l.stackTraces = false) (post : Nat → Hp → Prop) (px : String → Hp → Prop) (self : Nat) (p0 : Int32) (M : Hp) (hwp : wpBT_productAt self p0 M post px) : Y p l e rm_BT_productAt s m args below meth c D kCl (hTys κ) A 2 0 0 (xMQ below (va_Qr (fun u : Nat × Hp => post u.1 u.2) (fun u a t => u.1 = a ∧ hB D kCl (hTys κ) A u.2 t) A) D kCl (hTys κ) A px args s 1 6) M 0 [(0, .ref self), (1, .int p0)] [] := by
  obtain ⟨hx, hb, hml, hr, hown, hts, hlocks, hE, hA, hnoex⟩ := id C
  have hK := hE.1
  intro H locs ls hM hS hl
  unfold wpBT_productAt at hwp
  refine lv_iload_n hx hb d_BT_productAt_0 rfl (lv_at hl 1 rfl) ?_
  refine lv_i2l hx hb d_BT_productAt_1 rfl ?_
  refine lv_aload_n hx hb d_BT_productAt_2 rfl (lv_at hl 0 rfl) ?_
  obtain ⟨v1, ⟨fs2, he3, hv4⟩, hwp⟩ := hwp
  refine h_get (C := "BuckTables") (T := Tc0) (N := 12) hx hb hts inc0 hown hK hM he3 rfl 4 (by decide) (hts _ kw_206) (fun _ h9 => h9) hv4 d_BT_productAt_3 ?_
  refine lv_iconst (v := 1) hx hb d_BT_productAt_6 (by decide) ?_
  refine lv_isub hx hb d_BT_productAt_7 ?_
  refine lv_i2l hx hb d_BT_productAt_8 rfl ?_
  refine h_calli hM hS hA (va_runS (As := [.long (p0.toInt64), .long ((v1 - (1 : Int32)).toInt64)]) (rest := []) ⟨hx, hb, hml, hown, hts⟩ (metBT_isOutside l D κ H.size (p0.toInt64) ((v1 - (1 : Int32)).toInt64) M _ hwp) (cwS 2 hts (gS kw_417 kw_418 kw_1 kw_419) rfl rfl rfl (by decide +kernel) ⟨(Nat.le_of_ble_eq_true rfl), (Nat.le_of_ble_eq_true rfl)⟩) (h_preS hE hM hS) rfl rfl hl.1 rfl (lv_room (Nat.le_of_ble_eq_true rfl)) d_BT_productAt_9 ⟨(Nat.le_of_ble_eq_true rfl), (Nat.le_of_ble_eq_true rfl)⟩) (fun r6 M5 H locs hwp hM hS => ?_)
  refine lv_if_eq (tgt := 25) hx hb d_BT_productAt_12 (by decide) (fun c7 => ?_) (fun c7 => ?_)
  · replace hwp := hwp.1 c7
    refine lv_aload_n hx hb d_BT_productAt_25 rfl (lv_at hl 0 rfl) ?_
    obtain ⟨a8, ⟨fs9, he10, hv11⟩, hwp⟩ := hwp
    refine h_get (C := "BuckTables") (T := Tc0) (N := 12) hx hb hts inc0 hown hK hM he10 rfl 1 (by decide) (hts _ kw_203) (fun _ h9 => h9) hv11 d_BT_productAt_26 ?_
    refine lv_iload_n hx hb d_BT_productAt_29 rfl (lv_at hl 1 rfl) ?_
    obtain ⟨a12, ⟨n13, f14, ha15, hi16, hy17⟩, hwp⟩ := hwp
    refine h_aald hx hb hK hM ha15 rfl hi16 hy17 d_BT_productAt_30 ?_
    refine W.widen (k := 1) (n := 6) (by omega) (by omega) ?_
    exact x_ret (W.aret hx hb hr (Or.inl ⟨_, rfl⟩) (Or.inr ⟨_, rfl⟩) (fun t ht hW => ⟨⟨(a12, M5), a12, rfl, hwp, rfl, by show hw D kCl (hTys κ) A M5 t.heap; rw [ht]; exact hM⟩, hS.F ht⟩) hS.2.2 d_BT_productAt_31)
  · replace hwp := hwp.2 c7
    exact x_throw (own := "BuckTables") (cls := "java/lang/IndexOutOfBoundsException") (text := "there is no such product") (names := ["java/lang/RuntimeException", "java/lang/Exception"]) (ik := 210) (is := 224) (ic := 214) hx hb hst hown (by decide +kernel) (by decide +kernel) hE.2 hS hM xin_BT_210_214 (List.mem_append_right _ (List.mem_of_getElem? (i := 503) (by decide +kernel))) (by rw [hml]; exact hl.1) d_BT_productAt_15 d_BT_productAt_18 d_BT_productAt_19 d_BT_productAt_21 d_BT_productAt_24 (x_empty hnoex) (Nat.le_of_ble_eq_true rfl) (Nat.le_of_ble_eq_true rfl) (Nat.le_of_ble_eq_true rfl) (Nat.le_of_ble_eq_true rfl) hlocks hwp (Nat.le_of_ble_eq_true rfl) (Nat.le_of_ble_eq_true rfl)
set_option maxRecDepth 100000 in
set_option maxHeartbeats 4000000 in
theorem metBT_productAt (l : Launch) (hst : l.stackTraces = false) (D : va_G) (κ : Nat → ClassId) (sz : Nat) (self : Nat) (p0 : Int32) (M : Hp) (post : Nat → Hp → Prop) (px : String → Hp → Prop) (hwp : wpBT_productAt self p0 M post px) : xMet l y_BT_productAt ws_BT_productAt rm_BT_productAt (hPc D kCl (hTys κ) M sz [.ref self, .int p0]) (va_Qr (fun u : Nat × Hp => post u.1 u.2) (fun u a t => u.1 = a ∧ hB D kCl (hTys κ) (hAx M sz) u.2 t) (hAx M sz)) D kCl (hTys κ) (hAx M sz) px 1 6 := by
  refine xMet.ofW (cc := prog_1_method_23_code) (maxL := 2) (ret := (some (.object "BuckTables$Product"))) (by decide +kernel) rfl ?_
  intro p e s m args below meth c s₁ B hml hv
  obtain ⟨rfl, hsz, hE, hM0⟩ := hv
  have hts : ∀ w ∈ WG, w.before _ s = true := fun w h => atoms_spec (ws := ws_BT_productAt) B.pre w (List.mem_cons_of_mem _ h)
  subst hsz
  have C : Cx_BT_productAt p s m _ meth c D κ (hAx M s.heap.size) := ⟨B.exec, B.bytes, hml, B.returns, findClass_of_methodNamed B.named, hts, B.notSynchronized, hE, fun q h => Or.inr h, B.noHandlers (atoms_spec (ws := ws_BT_productAt) B.pre _ List.mem_cons_self)⟩
  have hl := lv_entry ([.ref self, .int p0]) (n := 2) (Nat.le_of_ble_eq_true rfl)
  rw [lg_entry_eq]
  generalize (lg_sl ([.ref self, .int p0]) ++ List.replicate (2 - (lg_sl ([.ref self, .int p0])).length) Slot.unset).toArray = ls at hl ⊢
  exact eBT_productAt C hst post px self p0 M hwp s.heap [] ls (hM0.self (sz := s.heap.size)) va_S.rf hl
abbrev rm_BT_bars : Room := { frames := 7, cells := 2, slots := 12, locals := 111 }
def Cx_BT_bars (p : Program) (s : State) (m : MethodId) (args : Array Value) (meth : Method) (c : Code) (D : va_G) (κ : Nat → ClassId) (A : Nat → Prop) : Prop := p.tables.exec = Jvm.exec ∧ c.code = prog_1_method_6_code ∧ c.maxLocals = 4 ∧ meth.sig.returnType = (some .boolean) ∧ s.vm.findClass "BuckTables" = some m.cls ∧ (∀ w ∈ WG, w.before args s = true) ∧ meth.locks = false ∧ hEnv D kCl (hTys κ) A s ∧ (∀ q, s.heap.size ≤ q → A q) ∧ c.exceptionTable.isEmpty = true
def wpBT_bars (self : Nat) (p0 : Int32) (p1 : Int32) (M : Hp) (post : Int32 → Hp → Prop) (px : String → Hp → Prop) : Prop := (hob M self 0 ∧ (wpBT_productAt self p0 M (fun (a3 : Nat) (M1 : Hp) => (wpBT_isOutside (p1.toInt64) (7 : Int64) M1 (fun (r5 : Int32) (M4 : Hp) => ((r5 = 0 → (∃ a7 : Nat, fA M4 a3 2 1 a7 ∧ (∃ v11 : Int32, aZ M4 a7 p1 v11 ∧ ((v11 = 0 → (∃ a17 : Nat, fA M4 a3 2 1 a17 ∧ (∃ M25 : Hp, sZ M4 a17 p1 (1 : Int32) M25 ∧ (∃ M26 : Hp, pF M25 self 0 9 (.int (0 : Int32)) M26 ∧ (post (1 : Int32) M26))))) ∧ (¬ v11 = 0 → (post (0 : Int32) M4)))))) ∧ (¬ r5 = 0 → (px "java/lang/IllegalArgumentException" M4)))))) px))
set_option maxRecDepth 100000 in
set_option maxHeartbeats 4000000 in
theorem eBT_bars {p : Program} {l : Launch} {e : Env} {s : State} {m : MethodId} {args : Array Value} {below : List Frame} {meth : Method} {c : Code} {D : va_G} {κ : Nat → ClassId} {A : Nat → Prop} (C : Cx_BT_bars p s m args meth c D κ A) (hst : l.stackTraces = false) (post : Int32 → Hp → Prop) (px : String → Hp → Prop) (self : Nat) (p0 : Int32) (p1 : Int32) (M : Hp) (hwp : wpBT_bars self p0 p1 M post px) : Y p l e rm_BT_bars s m args below meth c D kCl (hTys κ) A 4 0 0 (xMQ below (va_Qi post (hB D kCl (hTys κ) A) A) D kCl (hTys κ) A px args s 2 12) M 0 [(0, .ref self), (1, .int p0), (2, .int p1)] [] := by
  obtain ⟨hx, hb, hml, hr, hown, hts, hlocks, hE, hA, hnoex⟩ := id C
  have hK := hE.1
  intro H locs ls hM hS hl
  unfold wpBT_bars at hwp
  refine lv_aload_n hx hb d_BT_bars_0 rfl (lv_at hl 0 rfl) ?_
  refine lv_iload_n hx hb d_BT_bars_1 rfl (lv_at hl 1 rfl) ?_
  obtain ⟨ho2, hwp⟩ := hwp
  refine h_xcallr hM hS hA (x_runV (As := [.int p0]) (rest := []) ⟨hx, hb, hml, hown, hts⟩ (metBT_productAt l hst D κ H.size self p0 M _ px hwp) (cwV 1 hts (gV kw_490 kw_492 kp_10 kw_1 kw_493) rfl rfl rfl (by decide +kernel) ⟨(Nat.le_of_ble_eq_true rfl), (Nat.le_of_ble_eq_true rfl)⟩) (h_preV hE hM hS ho2 (r := ("BuckTables", Tc0, 12)) rfl) rfl rfl hl.1 rfl (lv_room (Nat.le_of_ble_eq_true rfl)) d_BT_bars_2 ⟨(Nat.le_of_ble_eq_true rfl), (Nat.le_of_ble_eq_true rfl)⟩) (fun E9 M9 q9 ce9 H locs hwp hM hS hce hcv hcl => x_out (x_empty hnoex) hlocks hM hS hwp hce hcv hcl (Nat.le_of_ble_eq_true rfl) (Nat.le_of_ble_eq_true rfl)) (fun a3 M1 H locs hwp hM hS => ?_)
  refine lv_astore_n (lv' := [(3, .ref a3), (0, .ref self), (1, .int p0), (2, .int p1)]) hx hb d_BT_bars_5 rfl hl (by decide) rfl (fun ls hl => ?_)
  refine lv_iload_n hx hb d_BT_bars_6 rfl (lv_at hl 3 rfl) ?_
  refine lv_i2l hx hb d_BT_bars_7 rfl ?_
  refine lv_ldc2 (v := (7)) hx hb hown (hts _ kw_453) d_BT_bars_8 ?_
  refine h_calli hM hS hA (va_runS (As := [.long (p1.toInt64), .long (7 : Int64)]) (rest := []) ⟨hx, hb, hml, hown, hts⟩ (metBT_isOutside l D κ H.size (p1.toInt64) (7 : Int64) M1 _ hwp) (cwS 2 hts (gS kw_417 kw_418 kw_1 kw_419) rfl rfl rfl (by decide +kernel) ⟨(Nat.le_of_ble_eq_true rfl), (Nat.le_of_ble_eq_true rfl)⟩) (h_preS hE hM hS) rfl rfl hl.1 rfl (lv_room (Nat.le_of_ble_eq_true rfl)) d_BT_bars_11 ⟨(Nat.le_of_ble_eq_true rfl), (Nat.le_of_ble_eq_true rfl)⟩) (fun r5 M4 H locs hwp hM hS => ?_)
  refine lv_if_eq (tgt := 27) hx hb d_BT_bars_14 (by decide) (fun c6 => ?_) (fun c6 => ?_)
  · replace hwp := hwp.1 c6
    refine lv_aload_n hx hb d_BT_bars_27 rfl (lv_at hl 0 rfl) ?_
    obtain ⟨a7, ⟨fs8, he9, hv10⟩, hwp⟩ := hwp
    refine h_get (C := "BuckTables$Product") (T := Tc2) (N := 10) hx hb hts inc2 hown hK hM he9 rfl 1 (by decide) (hts _ kw_161) (fun _ h9 => h9) hv10 d_BT_bars_28 ?_
    refine lv_iload_n hx hb d_BT_bars_31 rfl (lv_at hl 3 rfl) ?_
    obtain ⟨v11, ⟨n12, f13, ha14, hi15, ev11⟩, hwp⟩ := hwp
    refine h_zald hx hb hK hM ha14 rfl hi15 d_BT_bars_32 ?_
    rw [← ev11]
    refine lv_if_eq (tgt := 38) hx hb d_BT_bars_33 (by decide) (fun c16 => ?_) (fun c16 => ?_)
    · replace hwp := hwp.1 c16
      refine lv_aload_n hx hb d_BT_bars_38 rfl (lv_at hl 0 rfl) ?_
      obtain ⟨a17, ⟨fs18, he19, hv20⟩, hwp⟩ := hwp
      refine h_get (C := "BuckTables$Product") (T := Tc2) (N := 10) hx hb hts inc2 hown hK hM he19 rfl 1 (by decide) (hts _ kw_161) (fun _ h9 => h9) hv20 d_BT_bars_39 ?_
      refine lv_iload_n hx hb d_BT_bars_42 rfl (lv_at hl 3 rfl) ?_
      refine lv_iconst (v := 1) hx hb d_BT_bars_43 (by decide) ?_
      obtain ⟨M25, ⟨n21, f22, ha23, hi24, eM25⟩, hwp⟩ := hwp
      refine h_zast hx hb hK hM hS ha23 rfl hi24 d_BT_bars_44 (fun H locs hM hS => ?_)
      rw [← eM25] at hM
      refine lv_aload_n hx hb d_BT_bars_45 rfl (lv_at hl 1 rfl) ?_
      refine lv_iconst (v := 0) hx hb d_BT_bars_46 (by decide) ?_
      obtain ⟨M26, ⟨fs27, he28, hl29, eM26⟩, hwp⟩ := hwp
      refine h_put (C := "BuckTables") (T := Tc0) (N := 12) (v := .int (0 : Int32)) (ty := .boolean) hx hb hts inc0 tyc0 tyc0_ok nmc0 hown hK hM hS he28 rfl 9 (by decide) (hts _ kw_211) (fun _ h9 => h9) rfl (by decide +kernel) (by decide) (by decide) hl29 d_BT_bars_47 (fun H locs hM hS => ?_)
      rw [← eM26] at hM
      refine lv_iconst (v := 1) hx hb d_BT_bars_50 (by decide) ?_
      refine W.widen (k := 2) (n := 12) (by omega) (by omega) ?_
      exact x_ret (W.zret (v := (1 : Int32)) hx hb hr (by decide) (fun t ht hW => ⟨⟨(1 : Int32), M26, rfl, hwp, by show hw D kCl (hTys κ) A M26 t.heap; rw [ht]; exact hM⟩, hS.F ht⟩) hS.2.2 d_BT_bars_51)
    · replace hwp := hwp.2 c16
      refine lv_iconst (v := 0) hx hb d_BT_bars_36 (by decide) ?_
      refine W.widen (k := 2) (n := 12) (by omega) (by omega) ?_
      exact x_ret (W.zret (v := (0 : Int32)) hx hb hr (by decide) (fun t ht hW => ⟨⟨(0 : Int32), M4, rfl, hwp, by show hw D kCl (hTys κ) A M4 t.heap; rw [ht]; exact hM⟩, hS.F ht⟩) hS.2.2 d_BT_bars_37)
  · replace hwp := hwp.2 c6
    exact x_throw (own := "BuckTables") (cls := "java/lang/IllegalArgumentException") (text := "kind is not 0 .. 7") (names := ["java/lang/RuntimeException", "java/lang/Exception"]) (ik := 98) (is := 140) (ic := 102) hx hb hst hown (by decide +kernel) (by decide +kernel) hE.2 hS hM xin_BT_98_102 (List.mem_append_right _ (List.mem_of_getElem? (i := 510) (by decide +kernel))) (by rw [hml]; exact hl.1) d_BT_bars_17 d_BT_bars_20 d_BT_bars_21 d_BT_bars_23 d_BT_bars_26 (x_empty hnoex) (Nat.le_of_ble_eq_true rfl) (Nat.le_of_ble_eq_true rfl) (Nat.le_of_ble_eq_true rfl) (Nat.le_of_ble_eq_true rfl) hlocks hwp (Nat.le_of_ble_eq_true rfl) (Nat.le_of_ble_eq_true rfl)
set_option maxRecDepth 100000 in
set_option maxHeartbeats 4000000 in
theorem metBT_bars (l : Launch) (hst : l.stackTraces = false) (D : va_G) (κ : Nat → ClassId) (sz : Nat) (self : Nat) (p0 : Int32) (p1 : Int32) (M : Hp) (post : Int32 → Hp → Prop) (px : String → Hp → Prop) (hwp : wpBT_bars self p0 p1 M post px) : xMet l y_BT_bars ws_BT_bars rm_BT_bars (hPc D kCl (hTys κ) M sz [.ref self, .int p0, .int p1]) (va_Qi post (hB D kCl (hTys κ) (hAx M sz)) (hAx M sz)) D kCl (hTys κ) (hAx M sz) px 2 12 := by
  refine xMet.ofW (cc := prog_1_method_6_code) (maxL := 4) (ret := (some .boolean)) (by decide +kernel) rfl ?_
  intro p e s m args below meth c s₁ B hml hv
  obtain ⟨rfl, hsz, hE, hM0⟩ := hv
  have hts : ∀ w ∈ WG, w.before _ s = true := fun w h => atoms_spec (ws := ws_BT_bars) B.pre w (List.mem_cons_of_mem _ h)
  subst hsz
  have C : Cx_BT_bars p s m _ meth c D κ (hAx M s.heap.size) := ⟨B.exec, B.bytes, hml, B.returns, findClass_of_methodNamed B.named, hts, B.notSynchronized, hE, fun q h => Or.inr h, B.noHandlers (atoms_spec (ws := ws_BT_bars) B.pre _ List.mem_cons_self)⟩
  have hl := lv_entry ([.ref self, .int p0, .int p1]) (n := 4) (Nat.le_of_ble_eq_true rfl)
  rw [lg_entry_eq]
  generalize (lg_sl ([.ref self, .int p0, .int p1]) ++ List.replicate (4 - (lg_sl ([.ref self, .int p0, .int p1])).length) Slot.unset).toArray = ls at hl ⊢
  exact eBT_bars C hst post px self p0 p1 M hwp s.heap [] ls (hM0.self (sz := s.heap.size)) va_S.rf hl
abbrev rm_St_endAt : Room := { frames := 0, cells := 0, slots := 0, locals := 0 }
def Cx_St_endAt (p : Program) (s : State) (m : MethodId) (args : Array Value) (meth : Method) (c : Code) (D : va_G) (κ : Nat → ClassId) (A : Nat → Prop) : Prop := p.tables.exec = Jvm.exec ∧ c.code = prog_5_method_5_code ∧ c.maxLocals = 3 ∧ meth.sig.returnType = (some .int) ∧ s.vm.findClass "BuckTables$Stem" = some m.cls ∧ (∀ w ∈ WG, w.before args s = true) ∧ meth.locks = false ∧ hEnv D kCl (hTys κ) A s ∧ (∀ q, s.heap.size ≤ q → A q)
def wSt_endAt_46 (post : Int32 → Hp → Prop)   (y0 : Int32) (M : Hp) : Prop := (post y0 M)
set_option maxRecDepth 100000 in
set_option maxHeartbeats 4000000 in
theorem tSt_endAt_46 {p : Program} {l : Launch} {e : Env} {s : State} {m : MethodId} {args : Array Value} {below : List Frame} {meth : Method} {c : Code} {D : va_G} {κ : Nat → ClassId} {A : Nat → Prop} (C : Cx_St_endAt p s m args meth c D κ A) (post : Int32 → Hp → Prop)   (y0 : Int32) (M : Hp) (hwp : wSt_endAt_46 post y0 M) : Y p l e rm_St_endAt s m args below meth c D kCl (hTys κ) A 3 0 0 (MQ below (va_Qi post (hB D kCl (hTys κ) A) A) args s 0 0 A) M 46 [] [.int y0] := by
  obtain ⟨hx, hb, hml, hr, hown, hts, hlocks, hE, hA⟩ := id C
  have hK := hE.1
  intro H locs ls hM hS hl
  unfold wSt_endAt_46 at hwp
  exact W.iret (v := y0) hx hb hr (fun t ht hW => ⟨⟨y0, M, rfl, hwp, by show hw D kCl (hTys κ) A M t.heap; rw [ht]; exact hM⟩, hS.F ht⟩) hS.2.2 d_St_endAt_46
def wSt_endAt_31 (post : Int32 → Hp → Prop)  (x0 : Nat) (x1 : Int32) (y0 : Int32) (M : Hp) : Prop := ((y0 = 0 → (wSt_endAt_46 post (-1 : Int32) M)) ∧ (¬ y0 = 0 → (∃ v2 : Int32, fI M x0 1 0 v2 ∧ (¬ v2 = 0 ∧ (wSt_endAt_46 post (x1 / v2) M)))))
set_option maxRecDepth 100000 in
set_option maxHeartbeats 4000000 in
theorem tSt_endAt_31 {p : Program} {l : Launch} {e : Env} {s : State} {m : MethodId} {args : Array Value} {below : List Frame} {meth : Method} {c : Code} {D : va_G} {κ : Nat → ClassId} {A : Nat → Prop} (C : Cx_St_endAt p s m args meth c D κ A) (post : Int32 → Hp → Prop)  (x0 : Nat) (x1 : Int32) (y0 : Int32) (M : Hp) (hwp : wSt_endAt_31 post x0 x1 y0 M) : Y p l e rm_St_endAt s m args below meth c D kCl (hTys κ) A 3 0 0 (MQ below (va_Qi post (hB D kCl (hTys κ) A) A) args s 0 0 A) M 31 [(0, .ref x0), (1, .int x1)] [.int y0] := by
  obtain ⟨hx, hb, hml, hr, hown, hts, hlocks, hE, hA⟩ := id C
  have hK := hE.1
  intro H locs ls hM hS hl
  unfold wSt_endAt_31 at hwp
  refine lv_istore_n (lv' := [(2, .int y0), (0, .ref x0), (1, .int x1)]) hx hb d_St_endAt_31 rfl hl (by decide) rfl (fun ls hl => ?_)
  refine lv_iload_n hx hb d_St_endAt_32 rfl (lv_at hl 0 rfl) ?_
  refine lv_if_eq (tgt := 45) hx hb d_St_endAt_33 (by decide) (fun c1 => ?_) (fun c1 => ?_)
  · replace hwp := hwp.1 c1
    refine lv_iconst (v := -1) hx hb d_St_endAt_45 (by decide) ?_
    exact tSt_endAt_46 C post (-1 : Int32) M hwp H locs ls hM hS (lv_sub hl [] rfl)
  · replace hwp := hwp.2 c1
    refine lv_iload_n hx hb d_St_endAt_36 rfl (lv_at hl 2 rfl) ?_
    refine lv_aload_n hx hb d_St_endAt_37 rfl (lv_at hl 1 rfl) ?_
    obtain ⟨v2, ⟨fs3, he4, hv5⟩, hwp⟩ := hwp
    refine h_get (C := "BuckTables$Stem") (T := Tc1) (N := 12) hx hb hts inc1 hown hK hM he4 rfl 0 (by decide) (hts _ kw_110) (fun _ h9 => h9) hv5 d_St_endAt_38 ?_
    obtain ⟨h6, hwp⟩ := hwp
    refine lv_idiv hx hb d_St_endAt_41 h6 ?_
    refine lv_goto (tgt := 46) hx hb d_St_endAt_42 (by decide) ?_
    exact tSt_endAt_46 C post (x1 / v2) M hwp H locs ls hM hS (lv_sub hl [] rfl)
def wSt_endAt_30 (post : Int32 → Hp → Prop)  (x0 : Nat) (x1 : Int32) (M : Hp) : Prop := (wSt_endAt_31 post x0 x1 (0 : Int32) M)
set_option maxRecDepth 100000 in
set_option maxHeartbeats 4000000 in
theorem tSt_endAt_30 {p : Program} {l : Launch} {e : Env} {s : State} {m : MethodId} {args : Array Value} {below : List Frame} {meth : Method} {c : Code} {D : va_G} {κ : Nat → ClassId} {A : Nat → Prop} (C : Cx_St_endAt p s m args meth c D κ A) (post : Int32 → Hp → Prop)  (x0 : Nat) (x1 : Int32) (M : Hp) (hwp : wSt_endAt_30 post x0 x1 M) : Y p l e rm_St_endAt s m args below meth c D kCl (hTys κ) A 3 0 0 (MQ below (va_Qi post (hB D kCl (hTys κ) A) A) args s 0 0 A) M 30 [(0, .ref x0), (1, .int x1)] [] := by
  obtain ⟨hx, hb, hml, hr, hown, hts, hlocks, hE, hA⟩ := id C
  have hK := hE.1
  intro H locs ls hM hS hl
  unfold wSt_endAt_30 at hwp
  refine lv_iconst (v := 0) hx hb d_St_endAt_30 (by decide) ?_
  exact tSt_endAt_31 C post x0 x1 (0 : Int32) M hwp H locs ls hM hS (lv_sub hl [0, 1] rfl)
def wpSt_endAt (self : Nat) (p0 : Int32) (M : Hp) (post : Int32 → Hp → Prop) : Prop := ((p0 ≤ 0 → (wSt_endAt_30 post self p0 M)) ∧ (¬ p0 ≤ 0 → (∃ v8 : Int32, fI M self 1 0 v8 ∧ (¬ v8 = 0 ∧ (((p0 - p0 / v8 * v8) = 0 → (∃ v14 : Int32, fI M self 1 0 v14 ∧ (¬ v14 = 0 ∧ (∃ v19 : Int32, fI M self 1 11 v19 ∧ ((v19 < (p0 / v14) → (wSt_endAt_30 post self p0 M)) ∧ (¬ v19 < (p0 / v14) → (wSt_endAt_31 post self p0 (1 : Int32) M))))))) ∧ (¬ (p0 - p0 / v8 * v8) = 0 → (wSt_endAt_30 post self p0 M)))))))
set_option maxRecDepth 100000 in
set_option maxHeartbeats 4000000 in
theorem eSt_endAt {p : Program} {l : Launch} {e : Env} {s : State} {m : MethodId} {args : Array Value} {below : List Frame} {meth : Method} {c : Code} {D : va_G} {κ : Nat → ClassId} {A : Nat → Prop} (C : Cx_St_endAt p s m args meth c D κ A) (post : Int32 → Hp → Prop) (self : Nat) (p0 : Int32) (M : Hp) (hwp : wpSt_endAt self p0 M post) : Y p l e rm_St_endAt s m args below meth c D kCl (hTys κ) A 3 0 0 (MQ below (va_Qi post (hB D kCl (hTys κ) A) A) args s 0 0 A) M 0 [(0, .ref self), (1, .int p0)] [] := by
  obtain ⟨hx, hb, hml, hr, hown, hts, hlocks, hE, hA⟩ := id C
  have hK := hE.1
  intro H locs ls hM hS hl
  unfold wpSt_endAt at hwp
  refine lv_iload_n hx hb d_St_endAt_0 rfl (lv_at hl 1 rfl) ?_
  refine lv_if_le (tgt := 30) hx hb d_St_endAt_1 (by decide) (fun c7 => ?_) (fun c7 => ?_)
  · replace hwp := hwp.1 c7
    exact tSt_endAt_30 C post self p0 M hwp H locs ls hM hS (lv_sub hl [0, 1] rfl)
  · replace hwp := hwp.2 c7
    refine lv_iload_n hx hb d_St_endAt_4 rfl (lv_at hl 1 rfl) ?_
    refine lv_aload_n hx hb d_St_endAt_5 rfl (lv_at hl 0 rfl) ?_
    obtain ⟨v8, ⟨fs9, he10, hv11⟩, hwp⟩ := hwp
    refine h_get (C := "BuckTables$Stem") (T := Tc1) (N := 12) hx hb hts inc1 hown hK hM he10 rfl 0 (by decide) (hts _ kw_110) (fun _ h9 => h9) hv11 d_St_endAt_6 ?_
    obtain ⟨h12, hwp⟩ := hwp
    refine lv_irem hx hb d_St_endAt_9 h12 ?_
    refine lv_if_ne (tgt := 30) hx hb d_St_endAt_10 (by decide) (fun c13 => ?_) (fun c13 => ?_)
    · replace hwp := hwp.2 c13
      exact tSt_endAt_30 C post self p0 M hwp H locs ls hM hS (lv_sub hl [0, 1] rfl)
    · replace hwp := hwp.1 c13
      refine lv_iload_n hx hb d_St_endAt_13 rfl (lv_at hl 1 rfl) ?_
      refine lv_aload_n hx hb d_St_endAt_14 rfl (lv_at hl 0 rfl) ?_
      obtain ⟨v14, ⟨fs15, he16, hv17⟩, hwp⟩ := hwp
      refine h_get (C := "BuckTables$Stem") (T := Tc1) (N := 12) hx hb hts inc1 hown hK hM he16 rfl 0 (by decide) (hts _ kw_110) (fun _ h9 => h9) hv17 d_St_endAt_15 ?_
      obtain ⟨h18, hwp⟩ := hwp
      refine lv_idiv hx hb d_St_endAt_18 h18 ?_
      refine lv_aload_n hx hb d_St_endAt_19 rfl (lv_at hl 0 rfl) ?_
      obtain ⟨v19, ⟨fs20, he21, hv22⟩, hwp⟩ := hwp
      refine h_get (C := "BuckTables$Stem") (T := Tc1) (N := 12) hx hb hts inc1 hown hK hM he21 rfl 11 (by decide) (hts _ kw_125) (fun _ h9 => h9) hv22 d_St_endAt_20 ?_
      refine lv_icmp_gt (tgt := 30) hx hb d_St_endAt_23 (by decide) (fun c23 => ?_) (fun c23 => ?_)
      · replace hwp := hwp.1 c23
        exact tSt_endAt_30 C post self p0 M hwp H locs ls hM hS (lv_sub hl [0, 1] rfl)
      · replace hwp := hwp.2 c23
        refine lv_iconst (v := 1) hx hb d_St_endAt_26 (by decide) ?_
        refine lv_goto (tgt := 31) hx hb d_St_endAt_27 (by decide) ?_
        exact tSt_endAt_31 C post self p0 (1 : Int32) M hwp H locs ls hM hS (lv_sub hl [0, 1] rfl)
set_option maxRecDepth 100000 in
set_option maxHeartbeats 4000000 in
theorem metSt_endAt (l : Launch) (D : va_G) (κ : Nat → ClassId) (sz : Nat) (self : Nat) (p0 : Int32) (M : Hp) (post : Int32 → Hp → Prop) (hwp : wpSt_endAt self p0 M post) : Met l y_St_endAt ws_St_endAt rm_St_endAt (hPc D kCl (hTys κ) M sz [.ref self, .int p0]) (va_Qi post (hB D kCl (hTys κ) (hAx M sz)) (hAx M sz)) 0 0 (hAx M sz) := by
  refine Met.ofW (cc := prog_5_method_5_code) (maxL := 3) (ret := (some .int)) (by decide +kernel) rfl ?_
  intro p e s m args below meth c s₁ B hml hv
  obtain ⟨rfl, hsz, hE, hM0⟩ := hv
  have hts : ∀ w ∈ WG, w.before _ s = true := fun w h => atoms_spec (ws := ws_St_endAt) B.pre w (List.mem_cons_of_mem _ h)
  subst hsz
  have C : Cx_St_endAt p s m _ meth c D κ (hAx M s.heap.size) := ⟨B.exec, B.bytes, hml, B.returns, findClass_of_methodNamed B.named, hts, B.notSynchronized, hE, fun q h => Or.inr h⟩
  have hl := lv_entry ([.ref self, .int p0]) (n := 3) (Nat.le_of_ble_eq_true rfl)
  rw [lg_entry_eq]
  generalize (lg_sl ([.ref self, .int p0]) ++ List.replicate (3 - (lg_sl ([.ref self, .int p0])).length) Slot.unset).toArray = ls at hl ⊢
  exact eSt_endAt C post self p0 M hwp s.heap [] ls (hM0.self (sz := s.heap.size)) va_S.rf hl
abbrev rm_BT_forceLatest : Room := { frames := 1, cells := 0, slots := 0, locals := 22 }
def Cx_BT_forceLatest (p : Program) (s : State) (m : MethodId) (args : Array Value) (meth : Method) (c : Code) (D : va_G) (κ : Nat → ClassId) (A : Nat → Prop) : Prop := p.tables.exec = Jvm.exec ∧ c.code = prog_1_method_27_code ∧ c.maxLocals = 4 ∧ meth.sig.returnType = (some .boolean) ∧ s.vm.findClass "BuckTables" = some m.cls ∧ (∀ w ∈ WG, w.before args s = true) ∧ meth.locks = false ∧ hEnv D kCl (hTys κ) A s ∧ (∀ q, s.heap.size ≤ q → A q)
def wBT_forceLatest_25 (post : Int32 → Hp → Prop)   (M : Hp) : Prop := (post (0 : Int32) M)
set_option maxRecDepth 100000 in
set_option maxHeartbeats 4000000 in
theorem tBT_forceLatest_25 {p : Program} {l : Launch} {e : Env} {s : State} {m : MethodId} {args : Array Value} {below : List Frame} {meth : Method} {c : Code} {D : va_G} {κ : Nat → ClassId} {A : Nat → Prop} (C : Cx_BT_forceLatest p s m args meth c D κ A) (post : Int32 → Hp → Prop)   (M : Hp) (hwp : wBT_forceLatest_25 post  M) : Y p l e rm_BT_forceLatest s m args below meth c D kCl (hTys κ) A 4 0 0 (MQ below (va_Qi post (hB D kCl (hTys κ) A) A) args s 0 0 A) M 25 [] [] := by
  obtain ⟨hx, hb, hml, hr, hown, hts, hlocks, hE, hA⟩ := id C
  have hK := hE.1
  intro H locs ls hM hS hl
  unfold wBT_forceLatest_25 at hwp
  refine lv_iconst (v := 0) hx hb d_BT_forceLatest_25 (by decide) ?_
  exact W.zret (v := (0 : Int32)) hx hb hr (by decide) (fun t ht hW => ⟨⟨(0 : Int32), M, rfl, hwp, by show hw D kCl (hTys κ) A M t.heap; rw [ht]; exact hM⟩, hS.F ht⟩) hS.2.2 d_BT_forceLatest_26
def wpBT_forceLatest (self : Nat) (p0 : Int32) (M : Hp) (post : Int32 → Hp → Prop) : Prop := (hob M self 0 ∧ (wpBT_latestStem self M (fun (a3 : Nat) (M1 : Hp) => (hob M1 a3 1 ∧ (wpSt_endAt a3 p0 M1 (fun (r6 : Int32) (M4 : Hp) => ((r6 = (-1 : Int32) → (wBT_forceLatest_25 post M4)) ∧ (¬ r6 = (-1 : Int32) → (∃ a8 : Nat, fA M4 a3 1 7 a8 ∧ (∃ v12 : Int32, aZ M4 a8 r6 v12 ∧ ((v12 = 0 → (∃ a18 : Nat, fA M4 a3 1 7 a18 ∧ (∃ M26 : Hp, sZ M4 a18 r6 (1 : Int32) M26 ∧ (post (1 : Int32) M26)))) ∧ (¬ v12 = 0 → (wBT_forceLatest_25 post M4)))))))))))))
set_option maxRecDepth 100000 in
set_option maxHeartbeats 4000000 in
theorem eBT_forceLatest {p : Program} {l : Launch} {e : Env} {s : State} {m : MethodId} {args : Array Value} {below : List Frame} {meth : Method} {c : Code} {D : va_G} {κ : Nat → ClassId} {A : Nat → Prop} (C : Cx_BT_forceLatest p s m args meth c D κ A) (post : Int32 → Hp → Prop) (self : Nat) (p0 : Int32) (M : Hp) (hwp : wpBT_forceLatest self p0 M post) : Y p l e rm_BT_forceLatest s m args below meth c D kCl (hTys κ) A 4 0 0 (MQ below (va_Qi post (hB D kCl (hTys κ) A) A) args s 0 0 A) M 0 [(0, .ref self), (1, .int p0)] [] := by
  obtain ⟨hx, hb, hml, hr, hown, hts, hlocks, hE, hA⟩ := id C
  have hK := hE.1
  intro H locs ls hM hS hl
  unfold wpBT_forceLatest at hwp
  refine lv_aload_n hx hb d_BT_forceLatest_0 rfl (lv_at hl 0 rfl) ?_
  obtain ⟨ho2, hwp⟩ := hwp
  refine h_callr hM hS hA (va_runV (As := []) (rest := []) ⟨hx, hb, hml, hown, hts⟩ (metBT_latestStem l D κ H.size self M _ hwp) (cwV 0 hts (gV kw_344 kw_346 kp_8 kw_1 kw_347) rfl rfl rfl (by decide +kernel) ⟨(Nat.le_of_ble_eq_true rfl), (Nat.le_of_ble_eq_true rfl)⟩) (h_preV hE hM hS ho2 (r := ("BuckTables", Tc0, 12)) rfl) rfl rfl hl.1 rfl (lv_room (Nat.le_of_ble_eq_true rfl)) d_BT_forceLatest_1 ⟨(Nat.le_of_ble_eq_true rfl), (Nat.le_of_ble_eq_true rfl)⟩) (fun a3 M1 H locs hwp hM hS => ?_)
  refine lv_astore_n (lv' := [(2, .ref a3), (0, .ref self), (1, .int p0)]) hx hb d_BT_forceLatest_4 rfl hl (by decide) rfl (fun ls hl => ?_)
  refine lv_aload_n hx hb d_BT_forceLatest_5 rfl (lv_at hl 0 rfl) ?_
  refine lv_iload_n hx hb d_BT_forceLatest_6 rfl (lv_at hl 2 rfl) ?_
  obtain ⟨ho5, hwp⟩ := hwp
  refine h_calli hM hS hA (va_runV (As := [.int p0]) (rest := []) ⟨hx, hb, hml, hown, hts⟩ (metSt_endAt l D κ H.size a3 p0 M1 _ hwp) (cwV 1 hts (gV kw_523 kw_524 kw_525 kw_6 kw_526) rfl rfl rfl (by decide +kernel) ⟨(Nat.le_of_ble_eq_true rfl), (Nat.le_of_ble_eq_true rfl)⟩) (h_preV hE hM hS ho5 (r := ("BuckTables$Stem", Tc1, 12)) rfl) rfl rfl hl.1 rfl (lv_room (Nat.le_of_ble_eq_true rfl)) d_BT_forceLatest_7 ⟨(Nat.le_of_ble_eq_true rfl), (Nat.le_of_ble_eq_true rfl)⟩) (fun r6 M4 H locs hwp hM hS => ?_)
  refine lv_istore_n (lv' := [(3, .int r6), (2, .ref a3), (0, .ref self), (1, .int p0)]) hx hb d_BT_forceLatest_10 rfl hl (by decide) rfl (fun ls hl => ?_)
  refine lv_iload_n hx hb d_BT_forceLatest_11 rfl (lv_at hl 0 rfl) ?_
  refine lv_iconst (v := -1) hx hb d_BT_forceLatest_12 (by decide) ?_
  refine lv_icmp_eq (tgt := 25) hx hb d_BT_forceLatest_13 (by decide) (fun c7 => ?_) (fun c7 => ?_)
  · replace hwp := hwp.1 c7
    exact tBT_forceLatest_25 C post M4 hwp H locs ls hM hS (lv_sub hl [] rfl)
  · replace hwp := hwp.2 c7
    refine lv_aload_n hx hb d_BT_forceLatest_16 rfl (lv_at hl 1 rfl) ?_
    obtain ⟨a8, ⟨fs9, he10, hv11⟩, hwp⟩ := hwp
    refine h_get (C := "BuckTables$Stem") (T := Tc1) (N := 12) hx hb hts inc1 hown hK hM he10 rfl 7 (by decide) (hts _ kw_118) (fun _ h9 => h9) hv11 d_BT_forceLatest_17 ?_
    refine lv_iload_n hx hb d_BT_forceLatest_20 rfl (lv_at hl 0 rfl) ?_
    obtain ⟨v12, ⟨n13, f14, ha15, hi16, ev12⟩, hwp⟩ := hwp
    refine h_zald hx hb hK hM ha15 rfl hi16 d_BT_forceLatest_21 ?_
    rw [← ev12]
    refine lv_if_eq (tgt := 27) hx hb d_BT_forceLatest_22 (by decide) (fun c17 => ?_) (fun c17 => ?_)
    · replace hwp := hwp.1 c17
      refine lv_aload_n hx hb d_BT_forceLatest_27 rfl (lv_at hl 1 rfl) ?_
      obtain ⟨a18, ⟨fs19, he20, hv21⟩, hwp⟩ := hwp
      refine h_get (C := "BuckTables$Stem") (T := Tc1) (N := 12) hx hb hts inc1 hown hK hM he20 rfl 7 (by decide) (hts _ kw_118) (fun _ h9 => h9) hv21 d_BT_forceLatest_28 ?_
      refine lv_iload_n hx hb d_BT_forceLatest_31 rfl (lv_at hl 0 rfl) ?_
      refine lv_iconst (v := 1) hx hb d_BT_forceLatest_32 (by decide) ?_
      obtain ⟨M26, ⟨n22, f23, ha24, hi25, eM26⟩, hwp⟩ := hwp
      refine h_zast hx hb hK hM hS ha24 rfl hi25 d_BT_forceLatest_33 (fun H locs hM hS => ?_)
      rw [← eM26] at hM
      refine lv_iconst (v := 1) hx hb d_BT_forceLatest_34 (by decide) ?_
      exact W.zret (v := (1 : Int32)) hx hb hr (by decide) (fun t ht hW => ⟨⟨(1 : Int32), M26, rfl, hwp, by show hw D kCl (hTys κ) A M26 t.heap; rw [ht]; exact hM⟩, hS.F ht⟩) hS.2.2 d_BT_forceLatest_35
    · replace hwp := hwp.2 c17
      exact tBT_forceLatest_25 C post M4 hwp H locs ls hM hS (lv_sub hl [] rfl)
set_option maxRecDepth 100000 in
set_option maxHeartbeats 4000000 in
theorem metBT_forceLatest (l : Launch) (D : va_G) (κ : Nat → ClassId) (sz : Nat) (self : Nat) (p0 : Int32) (M : Hp) (post : Int32 → Hp → Prop) (hwp : wpBT_forceLatest self p0 M post) : Met l y_BT_forceLatest ws_BT_forceLatest rm_BT_forceLatest (hPc D kCl (hTys κ) M sz [.ref self, .int p0]) (va_Qi post (hB D kCl (hTys κ) (hAx M sz)) (hAx M sz)) 0 0 (hAx M sz) := by
  refine Met.ofW (cc := prog_1_method_27_code) (maxL := 4) (ret := (some .boolean)) (by decide +kernel) rfl ?_
  intro p e s m args below meth c s₁ B hml hv
  obtain ⟨rfl, hsz, hE, hM0⟩ := hv
  have hts : ∀ w ∈ WG, w.before _ s = true := fun w h => atoms_spec (ws := ws_BT_forceLatest) B.pre w (List.mem_cons_of_mem _ h)
  subst hsz
  have C : Cx_BT_forceLatest p s m _ meth c D κ (hAx M s.heap.size) := ⟨B.exec, B.bytes, hml, B.returns, findClass_of_methodNamed B.named, hts, B.notSynchronized, hE, fun q h => Or.inr h⟩
  have hl := lv_entry ([.ref self, .int p0]) (n := 4) (Nat.le_of_ble_eq_true rfl)
  rw [lg_entry_eq]
  generalize (lg_sl ([.ref self, .int p0]) ++ List.replicate (4 - (lg_sl ([.ref self, .int p0])).length) Slot.unset).toArray = ls at hl ⊢
  exact eBT_forceLatest C post self p0 M hwp s.heap [] ls (hM0.self (sz := s.heap.size)) va_S.rf hl
