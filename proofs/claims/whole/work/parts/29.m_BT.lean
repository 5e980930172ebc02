abbrev rm_BT_worth : Room := { frames := 7, cells := 1, slots := 6, locals := 110 }
def Cx_BT_worth (p : Program) (s : State) (m : MethodId) (args : Array Value) (meth : Method) (c : Code) (D : va_G) (κ : Nat → ClassId) (A : Nat → Prop) : Prop := p.tables.exec = Jvm.exec ∧ c.code = prog_1_method_14_code ∧ c.maxLocals = 1 ∧ meth.sig.returnType = (some .long) ∧ s.vm.findClass "BuckTables" = some m.cls ∧ (∀ w ∈ WG, w.before args s = true) ∧ meth.locks = false ∧ hEnv D kCl (hTys κ) A s ∧ (∀ q, s.heap.size ≤ q → A q) ∧ c.exceptionTable.isEmpty = true
def wpBT_worth (self : Nat) (M : Hp) (post : Int64 → Hp → Prop) (px : String → Hp → Prop) : Prop := (hob M self 0 ∧ (wpBT_needPlan self M (fun (M1 : Hp) => (∃ a3 : Nat, fA M1 self 0 7 a3 ∧ (∃ v7 : Int64, fJ M1 a3 5 4 v7 ∧ (post v7 M1)))) px))
set_option maxRecDepth 100000 in
set_option maxHeartbeats 4000000 in
theorem eBT_worth {p : Program} {l : Launch} {e : Env} {s : State} {m : MethodId} {args : Array Value} {below : List Frame} {meth : Method} {c : Code} {D : va_G} {κ : Nat → ClassId} {A : Nat → Prop} (C : Cx_BT_worth p s m args meth c D κ A) (hst : l.stackTraces = false) (post : Int64 → Hp → Prop) (px : String → Hp → Prop) (self : Nat) (M : Hp) (hwp : wpBT_worth self M post px) : Y p l e rm_BT_worth s m args below meth c D kCl (hTys κ) A 1 0 0 (xMQ below (va_Ql post (hB D kCl (hTys κ) A) A) D kCl (hTys κ) A px args s 1 6) M 0 [(0, .ref self)] [] := by
  obtain ⟨hx, hb, hml, hr, hown, hts, hlocks, hE, hA, hnoex⟩ := id C
  have hK := hE.1
  intro H locs ls hM hS hl
  unfold wpBT_worth at hwp
  refine lv_aload_n hx hb d_BT_worth_0 rfl (lv_at hl 0 rfl) ?_
  obtain ⟨ho2, hwp⟩ := hwp
  refine h_xcallv hM hS hA (x_runV (As := []) (rest := []) ⟨hx, hb, hml, hown, hts⟩ (metBT_needPlan l hst D κ H.size self M _ px hwp) (cwV 0 hts (gV kw_633 kw_635 kp_19 kw_1 kw_636) rfl rfl rfl (by decide +kernel) ⟨(Nat.le_of_ble_eq_true rfl), (Nat.le_of_ble_eq_true rfl)⟩) (h_preV hE hM hS ho2 (r := ("BuckTables", Tc0, 12)) rfl) rfl rfl hl.1 rfl (lv_room (Nat.le_of_ble_eq_true rfl)) d_BT_worth_1 ⟨(Nat.le_of_ble_eq_true rfl), (Nat.le_of_ble_eq_true rfl)⟩) (fun E9 M9 q9 ce9 H locs hwp hM hS hce hcv hcl => x_out (x_empty hnoex) hlocks hM hS hwp hce hcv hcl (Nat.le_of_ble_eq_true rfl) (Nat.le_of_ble_eq_true rfl)) (fun M1 H locs hwp hM hS => ?_)
  refine lv_aload_n hx hb d_BT_worth_4 rfl (lv_at hl 0 rfl) ?_
  obtain ⟨a3, ⟨fs4, he5, hv6⟩, hwp⟩ := hwp
  refine h_get (C := "BuckTables") (T := Tc0) (N := 12) hx hb hts inc0 hown hK hM he5 rfl 7 (by decide) (hts _ kw_209) (fun _ h9 => h9) hv6 d_BT_worth_5 ?_
  obtain ⟨v7, ⟨fs8, he9, hv10⟩, hwp⟩ := hwp
  refine h_get (C := "BuckTables$Plan") (T := Tc5) (N := 5) hx hb hts inc5 hown hK hM he9 rfl 4 (by decide) (hts _ kw_82) (fun _ h9 => h9) hv10 d_BT_worth_8 ?_
  exact x_ret (W.lret (v := v7) hx hb hr (fun t ht hW => ⟨⟨v7, M1, rfl, hwp, by show hw D kCl (hTys κ) A M1 t.heap; rw [ht]; exact hM⟩, hS.F ht⟩) hS.2.2 d_BT_worth_11)
set_option maxRecDepth 100000 in
set_option maxHeartbeats 4000000 in
theorem metBT_worth (l : Launch) (hst : l.stackTraces = false) (D : va_G) (κ : Nat → ClassId) (sz : Nat) (self : Nat) (M : Hp) (post : Int64 → Hp → Prop) (px : String → Hp → Prop) (hwp : wpBT_worth self M post px) : xMet l y_BT_worth ws_BT_worth rm_BT_worth (hPc D kCl (hTys κ) M sz [.ref self]) (va_Ql post (hB D kCl (hTys κ) (hAx M sz)) (hAx M sz)) D kCl (hTys κ) (hAx M sz) px 1 6 := by
  refine xMet.ofW (cc := prog_1_method_14_code) (maxL := 1) (ret := (some .long)) (by decide +kernel) rfl ?_
  intro p e s m args below meth c s₁ B hml hv
  obtain ⟨rfl, hsz, hE, hM0⟩ := hv
  have hts : ∀ w ∈ WG, w.before _ s = true := fun w h => atoms_spec (ws := ws_BT_worth) B.pre w (List.mem_cons_of_mem _ h)
  subst hsz
  have C : Cx_BT_worth p s m _ meth c D κ (hAx M s.heap.size) := ⟨B.exec, B.bytes, hml, B.returns, findClass_of_methodNamed B.named, hts, B.notSynchronized, hE, fun q h => Or.inr h, B.noHandlers (atoms_spec (ws := ws_BT_worth) B.pre _ List.mem_cons_self)⟩
  have hl := lv_entry ([.ref self]) (n := 1) (Nat.le_of_ble_eq_true rfl)
  rw [lg_entry_eq]
  generalize (lg_sl ([.ref self]) ++ List.replicate (1 - (lg_sl ([.ref self])).length) Slot.unset).toArray = ls at hl ⊢
  exact eBT_worth C hst post px self M hwp s.heap [] ls (hM0.self (sz := s.heap.size)) va_S.rf hl
abbrev rm_BT_needRow : Room := { frames := 6, cells := 1, slots := 6, locals := 90 }
def Cx_BT_needRow (p : Program) (s : State) (m : MethodId) (args : Array Value) (meth : Method) (c : Code) (D : va_G) (κ : Nat → ClassId) (A : Nat → Prop) : Prop := p.tables.exec = Jvm.exec ∧ c.code = prog_1_method_25_code ∧ c.maxLocals = 2 ∧ meth.sig.returnType = none ∧ s.vm.findClass "BuckTables" = some m.cls ∧ (∀ w ∈ WG, w.before args s = true) ∧ meth.locks = false ∧ hEnv D kCl (hTys κ) A s ∧ (∀ q, s.heap.size ≤ q → A q) ∧ c.exceptionTable.isEmpty = true
def wBT_needRow_27 (post : Hp → Prop) (px : String → Hp → Prop)   (M : Hp) : Prop := (post M)
set_option maxRecDepth 100000 in
set_option maxHeartbeats 4000000 in
theorem tBT_needRow_27 {p : Program} {l : Launch} {e : Env} {s : State} {m : MethodId} {args : Array Value} {below : List Frame} {meth : Method} {c : Code} {D : va_G} {κ : Nat → ClassId} {A : Nat → Prop} (C : Cx_BT_needRow p s m args meth c D κ A) (hst : l.stackTraces = false) (post : Hp → Prop) (px : String → Hp → Prop)   (M : Hp) (hwp : wBT_needRow_27 post px  M) : Y p l e rm_BT_needRow s m args below meth c D kCl (hTys κ) A 2 0 0 (xMQ below (va_Qv post (hB D kCl (hTys κ) A) A) D kCl (hTys κ) A px args s 1 6) M 27 [] [] := by
  obtain ⟨hx, hb, hml, hr, hown, hts, hlocks, hE, hA, hnoex⟩ := id C
  have hK := hE.1
  intro H locs ls hM hS hl
  unfold wBT_needRow_27 at hwp
  refine W.widen (k := 1) (n := 6) (by omega) (by omega) ?_
  exact x_ret (W.vret hx hb hr (fun t ht hW => ⟨⟨M, rfl, hwp, by show hw D kCl (hTys κ) A M t.heap; rw [ht]; exact hM⟩, hS.F ht⟩) hS.2.2 d_BT_needRow_27)
def wpBT_needRow (p0 : Int32) (p1 : Int32) (M : Hp) (post : Hp → Prop) (px : String → Hp → Prop) : Prop := ((p0 = (-1 : Int32) → (wBT_needRow_27 post px M)) ∧ (¬ p0 = (-1 : Int32) → (wpBT_isOutside (p0.toInt64) ((p1 - (1 : Int32)).toInt64) M (fun (r3 : Int32) (M2 : Hp) => ((r3 = 0 → (wBT_needRow_27 post px M2)) ∧ (¬ r3 = 0 → (px "java/lang/IndexOutOfBoundsException" M2)))))))
set_option maxRecDepth 100000 in
set_option maxHeartbeats 4000000 in
theorem eBT_needRow {p : Program} {l : Launch} {e : Env} {s : State} {m : MethodId} {args : Array Value} {below : List Frame} {meth : Method} {c : Code} {D : va_G} {κ : Nat → ClassId} {A : Nat → Prop} (C : Cx_BT_needRow p s m args meth c D κ A) (hst : l.stackTraces = false) (post : Hp → Prop) (px : String → Hp → Prop) (p0 : Int32) (p1 : Int32) (M : Hp) (hwp : wpBT_needRow p0 p1 M post px) : Y p l e rm_BT_needRow s m args below meth c D kCl (hTys κ) A 2 0 0 (xMQ below (va_Qv post (hB D kCl (hTys κ) A) A) D kCl (hTys κ) A px args s 1 6) M 0 [(0, .int p0), (1, .int p1)] [] := by
  obtain ⟨hx, hb, hml, hr, hown, hts, hlocks, hE, hA, hnoex⟩ := id C
  have hK := hE.1
  intro H locs ls hM hS hl
  unfold wpBT_needRow at hwp
  refine lv_iload_n hx hb d_BT_needRow_0 rfl (lv_at hl 0 rfl) ?_
  refine lv_iconst (v := -1) hx hb d_BT_needRow_1 (by decide) ?_
  refine lv_icmp_eq (tgt := 27) hx hb d_BT_needRow_2 (by decide) (fun c1 => ?_) (fun c1 => ?_)
  · replace hwp := hwp.1 c1
    exact tBT_needRow_27 C hst post px M hwp H locs ls hM hS (lv_sub hl [] rfl)
  · replace hwp := hwp.2 c1
    refine lv_iload_n hx hb d_BT_needRow_5 rfl (lv_at hl 0 rfl) ?_
    refine lv_i2l hx hb d_BT_needRow_6 rfl ?_
    refine lv_iload_n hx hb d_BT_needRow_7 rfl (lv_at hl 1 rfl) ?_
    refine lv_iconst (v := 1) hx hb d_BT_needRow_8 (by decide) ?_
    refine lv_isub hx hb d_BT_needRow_9 ?_
    refine lv_i2l hx hb d_BT_needRow_10 rfl ?_
    refine h_calli hM hS hA (va_runS (As := [.long (p0.toInt64), .long ((p1 - (1 : Int32)).toInt64)]) (rest := []) ⟨hx, hb, hml, hown, hts⟩ (metBT_isOutside l D κ H.size (p0.toInt64) ((p1 - (1 : Int32)).toInt64) M _ hwp) (cwS 2 hts (gS kw_417 kw_418 kw_1 kw_419) rfl rfl rfl (by decide +kernel) ⟨(Nat.le_of_ble_eq_true rfl), (Nat.le_of_ble_eq_true rfl)⟩) (h_preS hE hM hS) rfl rfl hl.1 rfl (lv_room (Nat.le_of_ble_eq_true rfl)) d_BT_needRow_11 ⟨(Nat.le_of_ble_eq_true rfl), (Nat.le_of_ble_eq_true rfl)⟩) (fun r3 M2 H locs hwp hM hS => ?_)
    refine lv_if_eq (tgt := 27) hx hb d_BT_needRow_14 (by decide) (fun c4 => ?_) (fun c4 => ?_)
    · replace hwp := hwp.1 c4
      exact tBT_needRow_27 C hst post px M2 hwp H locs ls hM hS (lv_sub hl [] rfl)
    · replace hwp := hwp.2 c4
      exact x_throw (own := "BuckTables") (cls := "java/lang/IndexOutOfBoundsException") (text := "there is no such row of the plan") (names := ["java/lang/RuntimeException", "java/lang/Exception"]) (ik := 210) (is := 228) (ic := 214) hx hb hst hown (by decide +kernel) (by decide +kernel) hE.2 hS hM xin_BT_210_214 (List.mem_append_right _ (List.mem_of_getElem? (i := 648) (by decide +kernel))) (by rw [hml]; exact hl.1) d_BT_needRow_17 d_BT_needRow_20 d_BT_needRow_21 d_BT_needRow_23 d_BT_needRow_26 (x_empty hnoex) (Nat.le_of_ble_eq_true rfl) (Nat.le_of_ble_eq_true rfl) (Nat.le_of_ble_eq_true rfl) (Nat.le_of_ble_eq_true rfl) hlocks hwp (Nat.le_of_ble_eq_true rfl) (Nat.le_of_ble_eq_true rfl)
set_option maxRecDepth 100000 in
set_option maxHeartbeats 4000000 in
theorem metBT_needRow (l : Launch) (hst : l.stackTraces = false) (D : va_G) (κ : Nat → ClassId) (sz : Nat) (p0 : Int32) (p1 : Int32) (M : Hp) (post : Hp → Prop) (px : String → Hp → Prop) (hwp : wpBT_needRow p0 p1 M post px) : xMet l y_BT_needRow ws_BT_needRow rm_BT_needRow (hPc D kCl (hTys κ) M sz [.int p0, .int p1]) (va_Qv post (hB D kCl (hTys κ) (hAx M sz)) (hAx M sz)) D kCl (hTys κ) (hAx M sz) px 1 6 := by
  refine xMet.ofW (cc := prog_1_method_25_code) (maxL := 2) (ret := none) (by decide +kernel) rfl ?_
  intro p e s m args below meth c s₁ B hml hv
  obtain ⟨rfl, hsz, hE, hM0⟩ := hv
  have hts : ∀ w ∈ WG, w.before _ s = true := fun w h => atoms_spec (ws := ws_BT_needRow) B.pre w (List.mem_cons_of_mem _ h)
  subst hsz
  have C : Cx_BT_needRow p s m _ meth c D κ (hAx M s.heap.size) := ⟨B.exec, B.bytes, hml, B.returns, findClass_of_methodNamed B.named, hts, B.notSynchronized, hE, fun q h => Or.inr h, B.noHandlers (atoms_spec (ws := ws_BT_needRow) B.pre _ List.mem_cons_self)⟩
  have hl := lv_entry ([.int p0, .int p1]) (n := 2) (Nat.le_of_ble_eq_true rfl)
  rw [lg_entry_eq]
  generalize (lg_sl ([.int p0, .int p1]) ++ List.replicate (2 - (lg_sl ([.int p0, .int p1])).length) Slot.unset).toArray = ls at hl ⊢
  exact eBT_needRow C hst post px p0 p1 M hwp s.heap [] ls (hM0.self (sz := s.heap.size)) va_S.rf hl
abbrev rm_BT_needPart : Room := { frames := 6, cells := 1, slots := 6, locals := 90 }
def Cx_BT_needPart (p : Program) (s : State) (m : MethodId) (args : Array Value) (meth : Method) (c : Code) (D : va_G) (κ : Nat → ClassId) (A : Nat → Prop) : Prop := p.tables.exec = Jvm.exec ∧ c.code = prog_1_method_26_code ∧ c.maxLocals = 2 ∧ meth.sig.returnType = none ∧ s.vm.findClass "BuckTables" = some m.cls ∧ (∀ w ∈ WG, w.before args s = true) ∧ meth.locks = false ∧ hEnv D kCl (hTys κ) A s ∧ (∀ q, s.heap.size ≤ q → A q) ∧ c.exceptionTable.isEmpty = true
def wpBT_needPart (p0 : Int32) (p1 : Int32) (M : Hp) (post : Hp → Prop) (px : String → Hp → Prop) : Prop := (wpBT_isOutside (p0.toInt64) ((p1 - (1 : Int32)).toInt64) M (fun (r2 : Int32) (M1 : Hp) => ((r2 = 0 → (post M1)) ∧ (¬ r2 = 0 → (px "java/lang/IllegalArgumentException" M1)))))
set_option maxRecDepth 100000 in
set_option maxHeartbeats 4000000 in
theorem eBT_needPart {p : Program} {l : Launch} {e : Env} {s : State} {m : MethodId} {args : Array Value} {below : List Frame} {meth : Method} {c : Code} {D : va_G} {κ : Nat → ClassId} {A : Nat → Prop} (C : Cx_BT_needPart p s m args meth c D κ A) (hst : l.stackTraces = false) (post : Hp → Prop) (px : String → Hp → Prop) (p0 : Int32) (p1 : Int32) (M : Hp) (hwp : wpBT_needPart p0 p1 M post px) : Y p l e rm_BT_needPart s m args below meth c D kCl (hTys κ) A 2 0 0 (xMQ below (va_Qv post (hB D kCl (hTys κ) A) A) D kCl (hTys κ) A px args s 1 6) M 0 [(0, .int p0), (1, .int p1)] [] := by
  obtain ⟨hx, hb, hml, hr, hown, hts, hlocks, hE, hA, hnoex⟩ := id C
  have hK := hE.1
  intro H locs ls hM hS hl
  unfold wpBT_needPart at hwp
  refine lv_iload_n hx hb d_BT_needPart_0 rfl (lv_at hl 0 rfl) ?_
  refine lv_i2l hx hb d_BT_needPart_1 rfl ?_
  refine lv_iload_n hx hb d_BT_needPart_2 rfl (lv_at hl 1 rfl) ?_
  refine lv_iconst (v := 1) hx hb d_BT_needPart_3 (by decide) ?_
  refine lv_isub hx hb d_BT_needPart_4 ?_
  refine lv_i2l hx hb d_BT_needPart_5 rfl ?_
  refine h_calli hM hS hA (va_runS (As := [.long (p0.toInt64), .long ((p1 - (1 : Int32)).toInt64)]) (rest := []) ⟨hx, hb, hml, hown, hts⟩ (metBT_isOutside l D κ H.size (p0.toInt64) ((p1 - (1 : Int32)).toInt64) M _ hwp) (cwS 2 hts (gS kw_417 kw_418 kw_1 kw_419) rfl rfl rfl (by decide +kernel) ⟨(Nat.le_of_ble_eq_true rfl), (Nat.le_of_ble_eq_true rfl)⟩) (h_preS hE hM hS) rfl rfl hl.1 rfl (lv_room (Nat.le_of_ble_eq_true rfl)) d_BT_needPart_6 ⟨(Nat.le_of_ble_eq_true rfl), (Nat.le_of_ble_eq_true rfl)⟩) (fun r2 M1 H locs hwp hM hS => ?_)
  refine lv_if_eq (tgt := 22) hx hb d_BT_needPart_9 (by decide) (fun c3 => ?_) (fun c3 => ?_)
  · replace hwp := hwp.1 c3
    refine W.widen (k := 1) (n := 6) (by omega) (by omega) ?_
    exact x_ret (W.vret hx hb hr (fun t ht hW => ⟨⟨M1, rfl, hwp, by show hw D kCl (hTys κ) A M1 t.heap; rw [ht]; exact hM⟩, hS.F ht⟩) hS.2.2 d_BT_needPart_22)
  · replace hwp := hwp.2 c3
    exact x_throw (own := "BuckTables") (cls := "java/lang/IllegalArgumentException") (text := "there is no such what") (names := ["java/lang/RuntimeException", "java/lang/Exception"]) (ik := 98) (is := 230) (ic := 102) hx hb hst hown (by decide +kernel) (by decide +kernel) hE.2 hS hM xin_BT_98_102 (List.mem_append_right _ (List.mem_of_getElem? (i := 652) (by decide +kernel))) (by rw [hml]; exact hl.1) d_BT_needPart_12 d_BT_needPart_15 d_BT_needPart_16 d_BT_needPart_18 d_BT_needPart_21 (x_empty hnoex) (Nat.le_of_ble_eq_true rfl) (Nat.le_of_ble_eq_true rfl) (Nat.le_of_ble_eq_true rfl) (Nat.le_of_ble_eq_true rfl) hlocks hwp (Nat.le_of_ble_eq_true rfl) (Nat.le_of_ble_eq_true rfl)
set_option maxRecDepth 100000 in
set_option maxHeartbeats 4000000 in
theorem metBT_needPart (l : Launch) (hst : l.stackTraces = false) (D : va_G) (κ : Nat → ClassId) (sz : Nat) (p0 : Int32) (p1 : Int32) (M : Hp) (post : Hp → Prop) (px : String → Hp → Prop) (hwp : wpBT_needPart p0 p1 M post px) : xMet l y_BT_needPart ws_BT_needPart rm_BT_needPart (hPc D kCl (hTys κ) M sz [.int p0, .int p1]) (va_Qv post (hB D kCl (hTys κ) (hAx M sz)) (hAx M sz)) D kCl (hTys κ) (hAx M sz) px 1 6 := by
  refine xMet.ofW (cc := prog_1_method_26_code) (maxL := 2) (ret := none) (by decide +kernel) rfl ?_
  intro p e s m args below meth c s₁ B hml hv
  obtain ⟨rfl, hsz, hE, hM0⟩ := hv
  have hts : ∀ w ∈ WG, w.before _ s = true := fun w h => atoms_spec (ws := ws_BT_needPart) B.pre w (List.mem_cons_of_mem _ h)
  subst hsz
  have C : Cx_BT_needPart p s m _ meth c D κ (hAx M s.heap.size) := ⟨B.exec, B.bytes, hml, B.returns, findClass_of_methodNamed B.named, hts, B.notSynchronized, hE, fun q h => Or.inr h, B.noHandlers (atoms_spec (ws := ws_BT_needPart) B.pre _ List.mem_cons_self)⟩
  have hl := lv_entry ([.int p0, .int p1]) (n := 2) (Nat.le_of_ble_eq_true rfl)
  rw [lg_entry_eq]
  generalize (lg_sl ([.int p0, .int p1]) ++ List.replicate (2 - (lg_sl ([.int p0, .int p1])).length) Slot.unset).toArray = ls at hl ⊢
  exact eBT_needPart C hst post px p0 p1 M hwp s.heap [] ls (hM0.self (sz := s.heap.size)) va_S.rf hl
abbrev rm_BT_log : Room := { frames := 7, cells := 3, slots := 18, locals := 111 }
def Cx_BT_log (p : Program) (s : State) (m : MethodId) (args : Array Value) (meth : Method) (c : Code) (D : va_G) (κ : Nat → ClassId) (A : Nat → Prop) : Prop := p.tables.exec = Jvm.exec ∧ c.code = prog_1_method_15_code ∧ c.maxLocals = 3 ∧ meth.sig.returnType = (some .int) ∧ s.vm.findClass "BuckTables" = some m.cls ∧ (∀ w ∈ WG, w.before args s = true) ∧ meth.locks = false ∧ hEnv D kCl (hTys κ) A s ∧ (∀ q, s.heap.size ≤ q → A q) ∧ c.exceptionTable.isEmpty = true
def wBT_log_44 (post : Int32 → Hp → Prop) (px : String → Hp → Prop)   (y0 : Int32) (M : Hp) : Prop := (post y0 M)
set_option maxRecDepth 100000 in
set_option maxHeartbeats 4000000 in
theorem tBT_log_44 {p : Program} {l : Launch} {e : Env} {s : State} {m : MethodId} {args : Array Value} {below : List Frame} {meth : Method} {c : Code} {D : va_G} {κ : Nat → ClassId} {A : Nat → Prop} (C : Cx_BT_log p s m args meth c D κ A) (hst : l.stackTraces = false) (post : Int32 → Hp → Prop) (px : String → Hp → Prop)   (y0 : Int32) (M : Hp) (hwp : wBT_log_44 post px y0 M) : Y p l e rm_BT_log s m args below meth c D kCl (hTys κ) A 3 3 18 (xMQ below (va_Qi post (hB D kCl (hTys κ) A) A) D kCl (hTys κ) A px args s 3 18) M 44 [] [.int y0] := by
  obtain ⟨hx, hb, hml, hr, hown, hts, hlocks, hE, hA, hnoex⟩ := id C
  have hK := hE.1
  intro H locs ls hM hS hl
  unfold wBT_log_44 at hwp
  exact x_ret (W.iret (v := y0) hx hb hr (fun t ht hW => ⟨⟨y0, M, rfl, hwp, by show hw D kCl (hTys κ) A M t.heap; rw [ht]; exact hM⟩, hS.F ht⟩) hS.2.2 d_BT_log_44)
def wpBT_log (self : Nat) (p0 : Int32) (p1 : Int32) (M : Hp) (post : Int32 → Hp → Prop) (px : String → Hp → Prop) : Prop := (hob M self 0 ∧ (wpBT_needPlan self M (fun (M1 : Hp) => (∃ a3 : Nat, fA M1 self 0 7 a3 ∧ (∃ v7 : Int32, fI M1 a3 5 3 v7 ∧ (wpBT_needRow p0 v7 M1 (fun (M11 : Hp) => (wpBT_needPart p1 (5 : Int32) M11 (fun (M12 : Hp) => ((p0 = (-1 : Int32) → (∃ a21 : Nat, fA M12 self 0 7 a21 ∧ (∃ v25 : Int32, fI M12 a21 5 3 v25 ∧ (wBT_log_44 post px v25 M12)))) ∧ (¬ p0 = (-1 : Int32) → (∃ a14 : Nat, fA M12 self 0 7 a14 ∧ (hob M12 a14 5 ∧ (wpPl_tellLog a14 p0 p1 M12 (fun (r20 : Int32) (M18 : Hp) => (wBT_log_44 post px r20 M18)))))))) px)) px)))) px))
set_option maxRecDepth 100000 in
set_option maxHeartbeats 4000000 in
theorem eBT_log {p : Program} {l : Launch} {e : Env} {s : State} {m : MethodId} {args : Array Value} {below : List Frame} {meth : Method} {c : Code} {D : va_G} {κ : Nat → ClassId} {A : Nat → Prop} (C : Cx_BT_log p s m args meth c D κ A) (hst : l.stackTraces = false) (post : Int32 → Hp → Prop) (px : String → Hp → Prop) (self : Nat) (p0 : Int32) (p1 : Int32) (M : Hp) (hwp : wpBT_log self p0 p1 M post px) : Y p l e rm_BT_log s m args below meth c D kCl (hTys κ) A 3 0 0 (xMQ below (va_Qi post (hB D kCl (hTys κ) A) A) D kCl (hTys κ) A px args s 3 18) M 0 [(0, .ref self), (1, .int p0), (2, .int p1)] [] := by
  obtain ⟨hx, hb, hml, hr, hown, hts, hlocks, hE, hA, hnoex⟩ := id C
  have hK := hE.1
  intro H locs ls hM hS hl
  unfold wpBT_log at hwp
  refine lv_aload_n hx hb d_BT_log_0 rfl (lv_at hl 0 rfl) ?_
  obtain ⟨ho2, hwp⟩ := hwp
  refine h_xcallv hM hS hA (x_runV (As := []) (rest := []) ⟨hx, hb, hml, hown, hts⟩ (metBT_needPlan l hst D κ H.size self M _ px hwp) (cwV 0 hts (gV kw_633 kw_635 kp_19 kw_1 kw_636) rfl rfl rfl (by decide +kernel) ⟨(Nat.le_of_ble_eq_true rfl), (Nat.le_of_ble_eq_true rfl)⟩) (h_preV hE hM hS ho2 (r := ("BuckTables", Tc0, 12)) rfl) rfl rfl hl.1 rfl (lv_room (Nat.le_of_ble_eq_true rfl)) d_BT_log_1 ⟨(Nat.le_of_ble_eq_true rfl), (Nat.le_of_ble_eq_true rfl)⟩) (fun E9 M9 q9 ce9 H locs hwp hM hS hce hcv hcl => x_out (x_empty hnoex) hlocks hM hS hwp hce hcv hcl (Nat.le_of_ble_eq_true rfl) (Nat.le_of_ble_eq_true rfl)) (fun M1 H locs hwp hM hS => ?_)
  refine lv_iload_n hx hb d_BT_log_4 rfl (lv_at hl 1 rfl) ?_
  refine lv_aload_n hx hb d_BT_log_5 rfl (lv_at hl 0 rfl) ?_
  obtain ⟨a3, ⟨fs4, he5, hv6⟩, hwp⟩ := hwp
  refine h_get (C := "BuckTables") (T := Tc0) (N := 12) hx hb hts inc0 hown hK hM he5 rfl 7 (by decide) (hts _ kw_209) (fun _ h9 => h9) hv6 d_BT_log_6 ?_
  obtain ⟨v7, ⟨fs8, he9, hv10⟩, hwp⟩ := hwp
  refine h_get (C := "BuckTables$Plan") (T := Tc5) (N := 5) hx hb hts inc5 hown hK hM he9 rfl 3 (by decide) (hts _ kw_80) (fun _ h9 => h9) hv10 d_BT_log_9 ?_
  refine h_xcallv hM hS hA (x_runS (As := [.int p0, .int v7]) (rest := []) ⟨hx, hb, hml, hown, hts⟩ (metBT_needRow l hst D κ H.size p0 v7 M1 _ px hwp) (cwS 2 hts (gS kw_645 kw_646 kw_1 kw_647) rfl rfl rfl (by decide +kernel) ⟨(Nat.le_of_ble_eq_true rfl), (Nat.le_of_ble_eq_true rfl)⟩) (h_preS hE hM hS) rfl rfl hl.1 rfl (lv_room (Nat.le_of_ble_eq_true rfl)) d_BT_log_12 ⟨(Nat.le_of_ble_eq_true rfl), (Nat.le_of_ble_eq_true rfl)⟩) (fun E9 M9 q9 ce9 H locs hwp hM hS hce hcv hcl => x_out (x_empty hnoex) hlocks hM hS hwp hce hcv hcl (Nat.le_of_ble_eq_true rfl) (Nat.le_of_ble_eq_true rfl)) (fun M11 H locs hwp hM hS => ?_)
  refine lv_iload_n hx hb d_BT_log_15 rfl (lv_at hl 2 rfl) ?_
  refine lv_iconst (v := 5) hx hb d_BT_log_16 (by decide) ?_
  refine h_xcallv hM hS hA (x_runS (As := [.int p1, .int (5 : Int32)]) (rest := []) ⟨hx, hb, hml, hown, hts⟩ (metBT_needPart l hst D κ H.size p1 (5 : Int32) M11 _ px hwp) (cwS 2 hts (gS kw_649 kw_650 kw_1 kw_651) rfl rfl rfl (by decide +kernel) ⟨(Nat.le_of_ble_eq_true rfl), (Nat.le_of_ble_eq_true rfl)⟩) (h_preS hE hM hS) rfl rfl hl.1 rfl (lv_room (Nat.le_of_ble_eq_true rfl)) d_BT_log_17 ⟨(Nat.le_of_ble_eq_true rfl), (Nat.le_of_ble_eq_true rfl)⟩) (fun E9 M9 q9 ce9 H locs hwp hM hS hce hcv hcl => x_out (x_empty hnoex) hlocks hM hS hwp hce hcv hcl (Nat.le_of_ble_eq_true rfl) (Nat.le_of_ble_eq_true rfl)) (fun M12 H locs hwp hM hS => ?_)
  refine lv_iload_n hx hb d_BT_log_20 rfl (lv_at hl 1 rfl) ?_
  refine lv_iconst (v := -1) hx hb d_BT_log_21 (by decide) ?_
  refine lv_icmp_ne (tgt := 35) hx hb d_BT_log_22 (by decide) (fun c13 => ?_) (fun c13 => ?_)
  · replace hwp := hwp.2 c13
    refine lv_aload_n hx hb d_BT_log_35 rfl (lv_at hl 0 rfl) ?_
    obtain ⟨a14, ⟨fs15, he16, hv17⟩, hwp⟩ := hwp
    refine h_get (C := "BuckTables") (T := Tc0) (N := 12) hx hb hts inc0 hown hK hM he16 rfl 7 (by decide) (hts _ kw_209) (fun _ h9 => h9) hv17 d_BT_log_36 ?_
    refine lv_iload_n hx hb d_BT_log_39 rfl (lv_at hl 1 rfl) ?_
    refine lv_iload_n hx hb d_BT_log_40 rfl (lv_at hl 2 rfl) ?_
    obtain ⟨ho19, hwp⟩ := hwp
    refine h_calli hM hS hA (va_runV (As := [.int p0, .int p1]) (rest := []) ⟨hx, hb, hml, hown, hts⟩ (metPl_tellLog l D κ H.size a14 p0 p1 M12 _ hwp) (cwV 2 hts (gV kw_653 kw_614 kw_615 kw_4 kw_616) rfl rfl rfl (by decide +kernel) ⟨(Nat.le_of_ble_eq_true rfl), (Nat.le_of_ble_eq_true rfl)⟩) (h_preV hE hM hS ho19 (r := ("BuckTables$Plan", Tc5, 5)) rfl) rfl rfl hl.1 rfl (lv_room (Nat.le_of_ble_eq_true rfl)) d_BT_log_41 ⟨(Nat.le_of_ble_eq_true rfl), (Nat.le_of_ble_eq_true rfl)⟩) (fun r20 M18 H locs hwp hM hS => ?_)
    exact tBT_log_44 C hst post px r20 M18 hwp H locs ls hM hS (lv_sub hl [] rfl)
  · replace hwp := hwp.1 c13
    refine lv_aload_n hx hb d_BT_log_25 rfl (lv_at hl 0 rfl) ?_
    obtain ⟨a21, ⟨fs22, he23, hv24⟩, hwp⟩ := hwp
    refine h_get (C := "BuckTables") (T := Tc0) (N := 12) hx hb hts inc0 hown hK hM he23 rfl 7 (by decide) (hts _ kw_209) (fun _ h9 => h9) hv24 d_BT_log_26 ?_
    obtain ⟨v25, ⟨fs26, he27, hv28⟩, hwp⟩ := hwp
    refine h_get (C := "BuckTables$Plan") (T := Tc5) (N := 5) hx hb hts inc5 hown hK hM he27 rfl 3 (by decide) (hts _ kw_80) (fun _ h9 => h9) hv28 d_BT_log_29 ?_
    refine lv_goto (tgt := 44) hx hb d_BT_log_32 (by decide) ?_
    exact tBT_log_44 C hst post px v25 M12 hwp H locs ls hM hS (lv_sub hl [] rfl)
set_option maxRecDepth 100000 in
set_option maxHeartbeats 4000000 in
theorem metBT_log (l : Launch) (hst : l.stackTraces = false) (D : va_G) (κ : Nat → ClassId) (sz : Nat) (self : Nat) (p0 : Int32) (p1 : Int32) (M : Hp) (post : Int32 → Hp → Prop) (px : String → Hp → Prop) (hwp : wpBT_log self p0 p1 M post px) : xMet l y_BT_log ws_BT_log rm_BT_log (hPc D kCl (hTys κ) M sz [.ref self, .int p0, .int p1]) (va_Qi post (hB D kCl (hTys κ) (hAx M sz)) (hAx M sz)) D kCl (hTys κ) (hAx M sz) px 3 18 := by
  refine xMet.ofW (cc := prog_1_method_15_code) (maxL := 3) (ret := (some .int)) (by decide +kernel) rfl ?_
  intro p e s m args below meth c s₁ B hml hv
  obtain ⟨rfl, hsz, hE, hM0⟩ := hv
  have hts : ∀ w ∈ WG, w.before _ s = true := fun w h => atoms_spec (ws := ws_BT_log) B.pre w (List.mem_cons_of_mem _ h)
  subst hsz
  have C : Cx_BT_log p s m _ meth c D κ (hAx M s.heap.size) := ⟨B.exec, B.bytes, hml, B.returns, findClass_of_methodNamed B.named, hts, B.notSynchronized, hE, fun q h => Or.inr h, B.noHandlers (atoms_spec (ws := ws_BT_log) B.pre _ List.mem_cons_self)⟩
  have hl := lv_entry ([.ref self, .int p0, .int p1]) (n := 3) (Nat.le_of_ble_eq_true rfl)
  rw [lg_entry_eq]
  generalize (lg_sl ([.ref self, .int p0, .int p1]) ++ List.replicate (3 - (lg_sl ([.ref self, .int p0, .int p1])).length) Slot.unset).toArray = ls at hl ⊢
  exact eBT_log C hst post px self p0 p1 M hwp s.heap [] ls (hM0.self (sz := s.heap.size)) va_S.rf hl
abbrev rm_Pl_beginsFuelRow : Room := { frames := 0, cells := 0, slots := 0, locals := 0 }
def Cx_Pl_beginsFuelRow (p : Program) (s : State) (m : MethodId) (args : Array Value) (meth : Method) (c : Code) (D : va_G) (κ : Nat → ClassId) (A : Nat → Prop) : Prop := p.tables.exec = Jvm.exec ∧ c.code = prog_3_method_10_code ∧ c.maxLocals = 2 ∧ meth.sig.returnType = (some .boolean) ∧ s.vm.findClass "BuckTables$Plan" = some m.cls ∧ (∀ w ∈ WG, w.before args s = true) ∧ meth.locks = false ∧ hEnv D kCl (hTys κ) A s ∧ (∀ q, s.heap.size ≤ q → A q)
def wPl_beginsFuelRow_32 (post : Int32 → Hp → Prop)   (y0 : Int32) (M : Hp) : Prop := ((y0 = 0 ∨ y0 = 1) ∧ post y0 M)
set_option maxRecDepth 100000 in
set_option maxHeartbeats 4000000 in
theorem tPl_beginsFuelRow_32 {p : Program} {l : Launch} {e : Env} {s : State} {m : MethodId} {args : Array Value} {below : List Frame} {meth : Method} {c : Code} {D : va_G} {κ : Nat → ClassId} {A : Nat → Prop} (C : Cx_Pl_beginsFuelRow p s m args meth c D κ A) (post : Int32 → Hp → Prop)   (y0 : Int32) (M : Hp) (hwp : wPl_beginsFuelRow_32 post y0 M) : Y p l e rm_Pl_beginsFuelRow s m args below meth c D kCl (hTys κ) A 2 0 0 (MQ below (va_Qi post (hB D kCl (hTys κ) A) A) args s 0 0 A) M 32 [] [.int y0] := by
  obtain ⟨hx, hb, hml, hr, hown, hts, hlocks, hE, hA⟩ := id C
  have hK := hE.1
  intro H locs ls hM hS hl
  unfold wPl_beginsFuelRow_32 at hwp
  obtain ⟨hz1, hwp⟩ := hwp
  exact W.zret (v := y0) hx hb hr (by rcases hz1 with h | h <;> rw [h] <;> rfl) (fun t ht hW => ⟨⟨y0, M, rfl, hwp, by show hw D kCl (hTys κ) A M t.heap; rw [ht]; exact hM⟩, hS.F ht⟩) hS.2.2 d_Pl_beginsFuelRow_32
def wPl_beginsFuelRow_31 (post : Int32 → Hp → Prop)   (M : Hp) : Prop := (wPl_beginsFuelRow_32 post (0 : Int32) M)
set_option maxRecDepth 100000 in
set_option maxHeartbeats 4000000 in
theorem tPl_beginsFuelRow_31 {p : Program} {l : Launch} {e : Env} {s : State} {m : MethodId} {args : Array Value} {below : List Frame} {meth : Method} {c : Code} {D : va_G} {κ : Nat → ClassId} {A : Nat → Prop} (C : Cx_Pl_beginsFuelRow p s m args meth c D κ A) (post : Int32 → Hp → Prop)   (M : Hp) (hwp : wPl_beginsFuelRow_31 post  M) : Y p l e rm_Pl_beginsFuelRow s m args below meth c D kCl (hTys κ) A 2 0 0 (MQ below (va_Qi post (hB D kCl (hTys κ) A) A) args s 0 0 A) M 31 [] [] := by
  obtain ⟨hx, hb, hml, hr, hown, hts, hlocks, hE, hA⟩ := id C
  have hK := hE.1
  intro H locs ls hM hS hl
  unfold wPl_beginsFuelRow_31 at hwp
  refine lv_iconst (v := 0) hx hb d_Pl_beginsFuelRow_31 (by decide) ?_
  exact tPl_beginsFuelRow_32 C post (0 : Int32) M hwp H locs ls hM hS (lv_sub hl [] rfl)
def wPl_beginsFuelRow_27 (post : Int32 → Hp → Prop)   (M : Hp) : Prop := (wPl_beginsFuelRow_32 post (1 : Int32) M)
set_option maxRecDepth 100000 in
set_option maxHeartbeats 4000000 in
theorem tPl_beginsFuelRow_27 {p : Program} {l : Launch} {e : Env} {s : State} {m : MethodId} {args : Array Value} {below : List Frame} {meth : Method} {c : Code} {D : va_G} {κ : Nat → ClassId} {A : Nat → Prop} (C : Cx_Pl_beginsFuelRow p s m args meth c D κ A) (post : Int32 → Hp → Prop)   (M : Hp) (hwp : wPl_beginsFuelRow_27 post  M) : Y p l e rm_Pl_beginsFuelRow s m args below meth c D kCl (hTys κ) A 2 0 0 (MQ below (va_Qi post (hB D kCl (hTys κ) A) A) args s 0 0 A) M 27 [] [] := by
  obtain ⟨hx, hb, hml, hr, hown, hts, hlocks, hE, hA⟩ := id C
  have hK := hE.1
  intro H locs ls hM hS hl
  unfold wPl_beginsFuelRow_27 at hwp
  refine lv_iconst (v := 1) hx hb d_Pl_beginsFuelRow_27 (by decide) ?_
  refine lv_goto (tgt := 32) hx hb d_Pl_beginsFuelRow_28 (by decide) ?_
  exact tPl_beginsFuelRow_32 C post (1 : Int32) M hwp H locs ls hM hS (lv_sub hl [] rfl)
def wpPl_beginsFuelRow (self : Nat) (p0 : Int32) (M : Hp) (post : Int32 → Hp → Prop) : Prop := (∃ a2 : Nat, fA M self 5 1 a2 ∧ (∃ v6 : Int32, aZ M a2 p0 v6 ∧ ((v6 = 0 → (wPl_beginsFuelRow_31 post M)) ∧ (¬ v6 = 0 → (((p0 - p0 / (80 : Int32) * (80 : Int32)) = 0 → (wPl_beginsFuelRow_27 post M)) ∧ (¬ (p0 - p0 / (80 : Int32) * (80 : Int32)) = 0 → (∃ a13 : Nat, fA M self 5 1 a13 ∧ (∃ v17 : Int32, aZ M a13 (p0 - (1 : Int32)) v17 ∧ ((v17 = 0 → (wPl_beginsFuelRow_27 post M)) ∧ (¬ v17 = 0 → (wPl_beginsFuelRow_31 post M)))))))))))
set_option maxRecDepth 100000 in
set_option maxHeartbeats 4000000 in
theorem ePl_beginsFuelRow {p : Program} {l : Launch} {e : Env} {s : State} {m : MethodId} {args : Array Value} {below : List Frame} {meth : Method} {c : Code} {D : va_G} {κ : Nat → ClassId} {A : Nat → Prop} (C : Cx_Pl_beginsFuelRow p s m args meth c D κ A) (post : Int32 → Hp → Prop) (self : Nat) (p0 : Int32) (M : Hp) (hwp : wpPl_beginsFuelRow self p0 M post) : Y p l e rm_Pl_beginsFuelRow s m args below meth c D kCl (hTys κ) A 2 0 0 (MQ below (va_Qi post (hB D kCl (hTys κ) A) A) args s 0 0 A) M 0 [(0, .ref self), (1, .int p0)] [] := by
  obtain ⟨hx, hb, hml, hr, hown, hts, hlocks, hE, hA⟩ := id C
  have hK := hE.1
  intro H locs ls hM hS hl
  unfold wpPl_beginsFuelRow at hwp
  refine lv_aload_n hx hb d_Pl_beginsFuelRow_0 rfl (lv_at hl 0 rfl) ?_
  obtain ⟨a2, ⟨fs3, he4, hv5⟩, hwp⟩ := hwp
  refine h_get (C := "BuckTables$Plan") (T := Tc5) (N := 5) hx hb hts inc5 hown hK hM he4 rfl 1 (by decide) (hts _ kw_76) (fun _ h9 => h9) hv5 d_Pl_beginsFuelRow_1 ?_
  refine lv_iload_n hx hb d_Pl_beginsFuelRow_4 rfl (lv_at hl 1 rfl) ?_
  obtain ⟨v6, ⟨n7, f8, ha9, hi10, ev6⟩, hwp⟩ := hwp
  refine h_zald hx hb hK hM ha9 rfl hi10 d_Pl_beginsFuelRow_5 ?_
  rw [← ev6]
  refine lv_if_eq (tgt := 31) hx hb d_Pl_beginsFuelRow_6 (by decide) (fun c11 => ?_) (fun c11 => ?_)
  · replace hwp := hwp.1 c11
    exact tPl_beginsFuelRow_31 C post M hwp H locs ls hM hS (lv_sub hl [] rfl)
  · replace hwp := hwp.2 c11
    refine lv_iload_n hx hb d_Pl_beginsFuelRow_9 rfl (lv_at hl 1 rfl) ?_
    refine lv_bipush (v := 80) hx hb d_Pl_beginsFuelRow_10 (by decide) ?_
    refine lv_irem hx hb d_Pl_beginsFuelRow_12 (by decide) ?_
    refine lv_if_eq (tgt := 27) hx hb d_Pl_beginsFuelRow_13 (by decide) (fun c12 => ?_) (fun c12 => ?_)
    · replace hwp := hwp.1 c12
      exact tPl_beginsFuelRow_27 C post M hwp H locs ls hM hS (lv_sub hl [] rfl)
    · replace hwp := hwp.2 c12
      refine lv_aload_n hx hb d_Pl_beginsFuelRow_16 rfl (lv_at hl 0 rfl) ?_
      obtain ⟨a13, ⟨fs14, he15, hv16⟩, hwp⟩ := hwp
      refine h_get (C := "BuckTables$Plan") (T := Tc5) (N := 5) hx hb hts inc5 hown hK hM he15 rfl 1 (by decide) (hts _ kw_76) (fun _ h9 => h9) hv16 d_Pl_beginsFuelRow_17 ?_
      refine lv_iload_n hx hb d_Pl_beginsFuelRow_20 rfl (lv_at hl 1 rfl) ?_
      refine lv_iconst (v := 1) hx hb d_Pl_beginsFuelRow_21 (by decide) ?_
      refine lv_isub hx hb d_Pl_beginsFuelRow_22 ?_
      obtain ⟨v17, ⟨n18, f19, ha20, hi21, ev17⟩, hwp⟩ := hwp
      refine h_zald hx hb hK hM ha20 rfl hi21 d_Pl_beginsFuelRow_23 ?_
      rw [← ev17]
      refine lv_if_ne (tgt := 31) hx hb d_Pl_beginsFuelRow_24 (by decide) (fun c22 => ?_) (fun c22 => ?_)
      · replace hwp := hwp.2 c22
        exact tPl_beginsFuelRow_31 C post M hwp H locs ls hM hS (lv_sub hl [] rfl)
      · replace hwp := hwp.1 c22
        exact tPl_beginsFuelRow_27 C post M hwp H locs ls hM hS (lv_sub hl [] rfl)
set_option maxRecDepth 100000 in
set_option maxHeartbeats 4000000 in
theorem metPl_beginsFuelRow (l : Launch) (D : va_G) (κ : Nat → ClassId) (sz : Nat) (self : Nat) (p0 : Int32) (M : Hp) (post : Int32 → Hp → Prop) (hwp : wpPl_beginsFuelRow self p0 M post) : Met l y_Pl_beginsFuelRow ws_Pl_beginsFuelRow rm_Pl_beginsFuelRow (hPc D kCl (hTys κ) M sz [.ref self, .int p0]) (va_Qi post (hB D kCl (hTys κ) (hAx M sz)) (hAx M sz)) 0 0 (hAx M sz) := by
  refine Met.ofW (cc := prog_3_method_10_code) (maxL := 2) (ret := (some .boolean)) (by decide +kernel) rfl ?_
  intro p e s m args below meth c s₁ B hml hv
  obtain ⟨rfl, hsz, hE, hM0⟩ := hv
  have hts : ∀ w ∈ WG, w.before _ s = true := fun w h => atoms_spec (ws := ws_Pl_beginsFuelRow) B.pre w (List.mem_cons_of_mem _ h)
  subst hsz
  have C : Cx_Pl_beginsFuelRow p s m _ meth c D κ (hAx M s.heap.size) := ⟨B.exec, B.bytes, hml, B.returns, findClass_of_methodNamed B.named, hts, B.notSynchronized, hE, fun q h => Or.inr h⟩
  have hl := lv_entry ([.ref self, .int p0]) (n := 2) (Nat.le_of_ble_eq_true rfl)
  rw [lg_entry_eq]
  generalize (lg_sl ([.ref self, .int p0]) ++ List.replicate (2 - (lg_sl ([.ref self, .int p0])).length) Slot.unset).toArray = ls at hl ⊢
  exact ePl_beginsFuelRow C post self p0 M hwp s.heap [] ls (hM0.self (sz := s.heap.size)) va_S.rf hl
abbrev rm_Pl_countFuelRows : Room := { frames := 1, cells := 0, slots := 0, locals := 21 }
def Cx_Pl_countFuelRows (p : Program) (s : State) (m : MethodId) (args : Array Value) (meth : Method) (c : Code) (D : va_G) (κ : Nat → ClassId) (A : Nat → Prop) : Prop := p.tables.exec = Jvm.exec ∧ c.code = prog_3_method_8_code ∧ c.maxLocals = 3 ∧ meth.sig.returnType = (some .int) ∧ s.vm.findClass "BuckTables$Plan" = some m.cls ∧ (∀ w ∈ WG, w.before args s = true) ∧ meth.locks = false ∧ hEnv D kCl (hTys κ) A s ∧ (∀ q, s.heap.size ≤ q → A q)
def wPl_countFuelRows_24 (post : Int32 → Hp → Prop) (k4 : Nat → Int32 → Int32 → Hp → Prop) (x0 : Nat) (x1 : Int32) (x2 : Int32) (M : Hp) : Prop := (∀ z1 : Int32, z1 = x2 + 1 → (k4 x0 x1 z1 M))
set_option maxRecDepth 100000 in
set_option maxHeartbeats 4000000 in
theorem tPl_countFuelRows_24 {p : Program} {l : Launch} {e : Env} {s : State} {m : MethodId} {args : Array Value} {below : List Frame} {meth : Method} {c : Code} {D : va_G} {κ : Nat → ClassId} {A : Nat → Prop} (C : Cx_Pl_countFuelRows p s m args meth c D κ A) (post : Int32 → Hp → Prop) (k4 : Nat → Int32 → Int32 → Hp → Prop) (hk4 : ∀ (x0 : Nat) (x1 : Int32) (x2 : Int32) (M : Hp), k4 x0 x1 x2 M → Y p l e rm_Pl_countFuelRows s m args below meth c D kCl (hTys κ) A 3 0 0 (MQ below (va_Qi post (hB D kCl (hTys κ) A) A) args s 0 0 A) M 4 [(0, .ref x0), (1, .int x1), (2, .int x2)] []) (x0 : Nat) (x1 : Int32) (x2 : Int32) (M : Hp) (hwp : wPl_countFuelRows_24 post k4 x0 x1 x2 M) : Y p l e rm_Pl_countFuelRows s m args below meth c D kCl (hTys κ) A 3 0 0 (MQ below (va_Qi post (hB D kCl (hTys κ) A) A) args s 0 0 A) M 24 [(0, .ref x0), (1, .int x1), (2, .int x2)] [] := by
  obtain ⟨hx, hb, hml, hr, hown, hts, hlocks, hE, hA⟩ := id C
  have hK := hE.1
  intro H locs ls hM hS hl
  unfold wPl_countFuelRows_24 at hwp
  obtain ⟨z1, ez1⟩ : ∃ y : Int32, y = x2 + 1 := ⟨_, rfl⟩
  replace hwp := hwp z1 ez1
  refine lv_iinc (v := z1) (lv' := [(2, .int z1), (0, .ref x0), (1, .int x1)]) hx hb d_Pl_countFuelRows_24 hl (k := 2) rfl (by rw [ez1]; rfl) (by decide) rfl (fun ls hl => ?_)
  refine lv_goto (tgt := 4) hx hb d_Pl_countFuelRows_27 (by decide) ?_
  exact hk4 x0 x1 z1 M hwp H locs ls hM hS (lv_sub hl [1, 2, 0] rfl)
def wPl_countFuelRows_4 (post : Int32 → Hp → Prop)  : Nat → Nat → Int32 → Int32 → Hp → Prop
  | 0 => fun _ _ _ _ => False
  | n + 1 => fun x0 x1 x2 M => (∃ a2 : Nat, fA M x0 5 1 a2 ∧ (∃ n6 : Nat, aL 1 M a2 n6 ∧ (((nI n6) ≤ x2 → (post x1 M)) ∧ (¬ (nI n6) ≤ x2 → (hob M x0 5 ∧ (wpPl_beginsFuelRow x0 x2 M (fun (r12 : Int32) (M10 : Hp) => ((r12 = 0 → (wPl_countFuelRows_24 post (wPl_countFuelRows_4 post n) x0 x1 x2 M10)) ∧ (¬ r12 = 0 → (∀ z14 : Int32, z14 = x1 + 1 → (wPl_countFuelRows_24 post (wPl_countFuelRows_4 post n) x0 z14 x2 M10)))))))))))
set_option maxRecDepth 100000 in
set_option maxHeartbeats 4000000 in
theorem tPl_countFuelRows_4 {p : Program} {l : Launch} {e : Env} {s : State} {m : MethodId} {args : Array Value} {below : List Frame} {meth : Method} {c : Code} {D : va_G} {κ : Nat → ClassId} {A : Nat → Prop} (C : Cx_Pl_countFuelRows p s m args meth c D κ A) (post : Int32 → Hp → Prop)  : ∀ (n : Nat) (x0 : Nat) (x1 : Int32) (x2 : Int32) (M : Hp), wPl_countFuelRows_4 post n x0 x1 x2 M → Y p l e rm_Pl_countFuelRows s m args below meth c D kCl (hTys κ) A 3 0 0 (MQ below (va_Qi post (hB D kCl (hTys κ) A) A) args s 0 0 A) M 4 [(0, .ref x0), (1, .int x1), (2, .int x2)] [] := by
  obtain ⟨hx, hb, hml, hr, hown, hts, hlocks, hE, hA⟩ := id C
  have hK := hE.1
  intro n
  induction n with
  | zero => intro x0 x1 x2 M hwp; exact hwp.elim
  | succ n ih =>
    intro x0 x1 x2 M hwp H locs ls hM hS hl
    unfold wPl_countFuelRows_4 at hwp
    refine lv_iload_n hx hb d_Pl_countFuelRows_4 rfl (lv_at hl 2 rfl) ?_
    refine lv_aload_n hx hb d_Pl_countFuelRows_5 rfl (lv_at hl 0 rfl) ?_
    obtain ⟨a2, ⟨fs3, he4, hv5⟩, hwp⟩ := hwp
    refine h_get (C := "BuckTables$Plan") (T := Tc5) (N := 5) hx hb hts inc5 hown hK hM he4 rfl 1 (by decide) (hts _ kw_76) (fun _ h9 => h9) hv5 d_Pl_countFuelRows_6 ?_
    obtain ⟨n6, ⟨x7, ha8, en6⟩, hwp⟩ := hwp
    refine h_alen hx hb hK hM ha8 d_Pl_countFuelRows_9 ?_
    rw [en6]
    refine lv_icmp_ge (tgt := 30) hx hb d_Pl_countFuelRows_10 (by decide) (fun c9 => ?_) (fun c9 => ?_)
    · replace hwp := hwp.1 c9
      refine lv_iload_n hx hb d_Pl_countFuelRows_30 rfl (lv_at hl 1 rfl) ?_
      exact W.iret (v := x1) hx hb hr (fun t ht hW => ⟨⟨x1, M, rfl, hwp, by show hw D kCl (hTys κ) A M t.heap; rw [ht]; exact hM⟩, hS.F ht⟩) hS.2.2 d_Pl_countFuelRows_31
    · replace hwp := hwp.2 c9
      refine lv_aload_n hx hb d_Pl_countFuelRows_13 rfl (lv_at hl 0 rfl) ?_
      refine lv_iload_n hx hb d_Pl_countFuelRows_14 rfl (lv_at hl 2 rfl) ?_
      obtain ⟨ho11, hwp⟩ := hwp
      refine h_calli hM hS hA (va_runV (As := [.int x2]) (rest := []) ⟨hx, hb, hml, hown, hts⟩ (metPl_beginsFuelRow l D κ H.size x0 x2 M _ hwp) (cwV 1 hts (gV kw_665 kw_667 kp_20 kw_4 kw_668) rfl rfl rfl (by decide +kernel) ⟨(Nat.le_of_ble_eq_true rfl), (Nat.le_of_ble_eq_true rfl)⟩) (h_preV hE hM hS ho11 (r := ("BuckTables$Plan", Tc5, 5)) rfl) rfl rfl hl.1 rfl (lv_room (Nat.le_of_ble_eq_true rfl)) d_Pl_countFuelRows_15 ⟨(Nat.le_of_ble_eq_true rfl), (Nat.le_of_ble_eq_true rfl)⟩) (fun r12 M10 H locs hwp hM hS => ?_)
      refine lv_if_eq (tgt := 24) hx hb d_Pl_countFuelRows_18 (by decide) (fun c13 => ?_) (fun c13 => ?_)
      · replace hwp := hwp.1 c13
        exact tPl_countFuelRows_24 C post (wPl_countFuelRows_4 post n) ih x0 x1 x2 M10 hwp H locs ls hM hS (lv_sub hl [0, 1, 2] rfl)
      · replace hwp := hwp.2 c13
        obtain ⟨z14, ez14⟩ : ∃ y : Int32, y = x1 + 1 := ⟨_, rfl⟩
        replace hwp := hwp z14 ez14
        refine lv_iinc (v := z14) (lv' := [(1, .int z14), (0, .ref x0), (2, .int x2)]) hx hb d_Pl_countFuelRows_21 hl (k := 1) rfl (by rw [ez14]; rfl) (by decide) rfl (fun ls hl => ?_)
        exact tPl_countFuelRows_24 C post (wPl_countFuelRows_4 post n) ih x0 z14 x2 M10 hwp H locs ls hM hS (lv_sub hl [1, 0, 2] rfl)
def wpPl_countFuelRows (self : Nat) (M : Hp) (post : Int32 → Hp → Prop) : Prop := (∃ n15 : Nat, wPl_countFuelRows_4 post n15 self (0 : Int32) (0 : Int32) M)
set_option maxRecDepth 100000 in
set_option maxHeartbeats 4000000 in
theorem ePl_countFuelRows {p : Program} {l : Launch} {e : Env} {s : State} {m : MethodId} {args : Array Value} {below : List Frame} {meth : Method} {c : Code} {D : va_G} {κ : Nat → ClassId} {A : Nat → Prop} (C : Cx_Pl_countFuelRows p s m args meth c D κ A) (post : Int32 → Hp → Prop) (self : Nat) (M : Hp) (hwp : wpPl_countFuelRows self M post) : Y p l e rm_Pl_countFuelRows s m args below meth c D kCl (hTys κ) A 3 0 0 (MQ below (va_Qi post (hB D kCl (hTys κ) A) A) args s 0 0 A) M 0 [(0, .ref self)] [] := by
  obtain ⟨hx, hb, hml, hr, hown, hts, hlocks, hE, hA⟩ := id C
  have hK := hE.1
  intro H locs ls hM hS hl
  unfold wpPl_countFuelRows at hwp
  refine lv_iconst (v := 0) hx hb d_Pl_countFuelRows_0 (by decide) ?_
  refine lv_istore_n (lv' := [(1, .int (0 : Int32)), (0, .ref self)]) hx hb d_Pl_countFuelRows_1 rfl hl (by decide) rfl (fun ls hl => ?_)
  refine lv_iconst (v := 0) hx hb d_Pl_countFuelRows_2 (by decide) ?_
  refine lv_istore_n (lv' := [(2, .int (0 : Int32)), (1, .int (0 : Int32)), (0, .ref self)]) hx hb d_Pl_countFuelRows_3 rfl hl (by decide) rfl (fun ls hl => ?_)
  obtain ⟨n15, hwp⟩ := hwp
  exact tPl_countFuelRows_4 C post n15 self (0 : Int32) (0 : Int32) M hwp H locs ls hM hS (lv_sub hl [2, 1, 0] rfl)
set_option maxRecDepth 100000 in
set_option maxHeartbeats 4000000 in
theorem metPl_countFuelRows (l : Launch) (D : va_G) (κ : Nat → ClassId) (sz : Nat) (self : Nat) (M : Hp) (post : Int32 → Hp → Prop) (hwp : wpPl_countFuelRows self M post) : Met l y_Pl_countFuelRows ws_Pl_countFuelRows rm_Pl_countFuelRows (hPc D kCl (hTys κ) M sz [.ref self]) (va_Qi post (hB D kCl (hTys κ) (hAx M sz)) (hAx M sz)) 0 0 (hAx M sz) := by
  refine Met.ofW (cc := prog_3_method_8_code) (maxL := 3) (ret := (some .int)) (by decide +kernel) rfl ?_
  intro p e s m args below meth c s₁ B hml hv
  obtain ⟨rfl, hsz, hE, hM0⟩ := hv
  have hts : ∀ w ∈ WG, w.before _ s = true := fun w h => atoms_spec (ws := ws_Pl_countFuelRows) B.pre w (List.mem_cons_of_mem _ h)
  subst hsz
  have C : Cx_Pl_countFuelRows p s m _ meth c D κ (hAx M s.heap.size) := ⟨B.exec, B.bytes, hml, B.returns, findClass_of_methodNamed B.named, hts, B.notSynchronized, hE, fun q h => Or.inr h⟩
  have hl := lv_entry ([.ref self]) (n := 3) (Nat.le_of_ble_eq_true rfl)
  rw [lg_entry_eq]
  generalize (lg_sl ([.ref self]) ++ List.replicate (3 - (lg_sl ([.ref self])).length) Slot.unset).toArray = ls at hl ⊢
  exact ePl_countFuelRows C post self M hwp s.heap [] ls (hM0.self (sz := s.heap.size)) va_S.rf hl
abbrev rm_Pl_fuelRowBegin : Room := { frames := 1, cells := 0, slots := 0, locals := 21 }
def Cx_Pl_fuelRowBegin (p : Program) (s : State) (m : MethodId) (args : Array Value) (meth : Method) (c : Code) (D : va_G) (κ : Nat → ClassId) (A : Nat → Prop) : Prop := p.tables.exec = Jvm.exec ∧ c.code = prog_3_method_11_code ∧ c.maxLocals = 4 ∧ meth.sig.returnType = (some .int) ∧ s.vm.findClass "BuckTables$Plan" = some m.cls ∧ (∀ w ∈ WG, w.before args s = true) ∧ meth.locks = false ∧ hEnv D kCl (hTys κ) A s ∧ (∀ q, s.heap.size ≤ q → A q)
def wPl_fuelRowBegin_31 (post : Int32 → Hp → Prop) (k4 : Nat → Int32 → Int32 → Int32 → Hp → Prop) (x0 : Nat) (x1 : Int32) (x2 : Int32) (x3 : Int32) (M : Hp) : Prop := (∀ z1 : Int32, z1 = x3 + 1 → (k4 x0 x1 x2 z1 M))
set_option maxRecDepth 100000 in
set_option maxHeartbeats 4000000 in
theorem tPl_fuelRowBegin_31 {p : Program} {l : Launch} {e : Env} {s : State} {m : MethodId} {args : Array Value} {below : List Frame} {meth : Method} {c : Code} {D : va_G} {κ : Nat → ClassId} {A : Nat → Prop} (C : Cx_Pl_fuelRowBegin p s m args meth c D κ A) (post : Int32 → Hp → Prop) (k4 : Nat → Int32 → Int32 → Int32 → Hp → Prop) (hk4 : ∀ (x0 : Nat) (x1 : Int32) (x2 : Int32) (x3 : Int32) (M : Hp), k4 x0 x1 x2 x3 M → Y p l e rm_Pl_fuelRowBegin s m args below meth c D kCl (hTys κ) A 4 0 0 (MQ below (va_Qi post (hB D kCl (hTys κ) A) A) args s 0 0 A) M 4 [(0, .ref x0), (1, .int x1), (2, .int x2), (3, .int x3)] []) (x0 : Nat) (x1 : Int32) (x2 : Int32) (x3 : Int32) (M : Hp) (hwp : wPl_fuelRowBegin_31 post k4 x0 x1 x2 x3 M) : Y p l e rm_Pl_fuelRowBegin s m args below meth c D kCl (hTys κ) A 4 0 0 (MQ below (va_Qi post (hB D kCl (hTys κ) A) A) args s 0 0 A) M 31 [(0, .ref x0), (1, .int x1), (2, .int x2), (3, .int x3)] [] := by
  obtain ⟨hx, hb, hml, hr, hown, hts, hlocks, hE, hA⟩ := id C
  have hK := hE.1
  intro H locs ls hM hS hl
  unfold wPl_fuelRowBegin_31 at hwp
  obtain ⟨z1, ez1⟩ : ∃ y : Int32, y = x3 + 1 := ⟨_, rfl⟩
  replace hwp := hwp z1 ez1
  refine lv_iinc (v := z1) (lv' := [(3, .int z1), (0, .ref x0), (1, .int x1), (2, .int x2)]) hx hb d_Pl_fuelRowBegin_31 hl (k := 3) rfl (by rw [ez1]; rfl) (by decide) rfl (fun ls hl => ?_)
  refine lv_goto (tgt := 4) hx hb d_Pl_fuelRowBegin_34 (by decide) ?_
  exact hk4 x0 x1 x2 z1 M hwp H locs ls hM hS (lv_sub hl [1, 2, 3, 0] rfl)
def wPl_fuelRowBegin_4 (post : Int32 → Hp → Prop)  : Nat → Nat → Int32 → Int32 → Int32 → Hp → Prop
  | 0 => fun _ _ _ _ _ => False
  | n + 1 => fun x0 x1 x2 x3 M => (∃ a2 : Nat, fA M x0 5 1 a2 ∧ (∃ n6 : Nat, aL 1 M a2 n6 ∧ (((nI n6) ≤ x3 → (post (0 : Int32) M)) ∧ (¬ (nI n6) ≤ x3 → (hob M x0 5 ∧ (wpPl_beginsFuelRow x0 x3 M (fun (r12 : Int32) (M10 : Hp) => ((r12 = 0 → (wPl_fuelRowBegin_31 post (wPl_fuelRowBegin_4 post n) x0 x1 x2 x3 M10)) ∧ (¬ r12 = 0 → ((x2 = x1 → (post x3 M10)) ∧ (¬ x2 = x1 → (∀ z15 : Int32, z15 = x2 + 1 → (wPl_fuelRowBegin_31 post (wPl_fuelRowBegin_4 post n) x0 x1 z15 x3 M10)))))))))))))
set_option maxRecDepth 100000 in
set_option maxHeartbeats 4000000 in
theorem tPl_fuelRowBegin_4 {p : Program} {l : Launch} {e : Env} {s : State} {m : MethodId} {args : Array Value} {below : List Frame} {meth : Method} {c : Code} {D : va_G} {κ : Nat → ClassId} {A : Nat → Prop} (C : Cx_Pl_fuelRowBegin p s m args meth c D κ A) (post : Int32 → Hp → Prop)  : ∀ (n : Nat) (x0 : Nat) (x1 : Int32) (x2 : Int32) (x3 : Int32) (M : Hp), wPl_fuelRowBegin_4 post n x0 x1 x2 x3 M → Y p l e rm_Pl_fuelRowBegin s m args below meth c D kCl (hTys κ) A 4 0 0 (MQ below (va_Qi post (hB D kCl (hTys κ) A) A) args s 0 0 A) M 4 [(0, .ref x0), (1, .int x1), (2, .int x2), (3, .int x3)] [] := by
  obtain ⟨hx, hb, hml, hr, hown, hts, hlocks, hE, hA⟩ := id C
  have hK := hE.1
  intro n
  induction n with
  | zero => intro x0 x1 x2 x3 M hwp; exact hwp.elim
  | succ n ih =>
    intro x0 x1 x2 x3 M hwp H locs ls hM hS hl
    unfold wPl_fuelRowBegin_4 at hwp
    refine lv_iload_n hx hb d_Pl_fuelRowBegin_4 rfl (lv_at hl 3 rfl) ?_
    refine lv_aload_n hx hb d_Pl_fuelRowBegin_5 rfl (lv_at hl 0 rfl) ?_
    obtain ⟨a2, ⟨fs3, he4, hv5⟩, hwp⟩ := hwp
    refine h_get (C := "BuckTables$Plan") (T := Tc5) (N := 5) hx hb hts inc5 hown hK hM he4 rfl 1 (by decide) (hts _ kw_76) (fun _ h9 => h9) hv5 d_Pl_fuelRowBegin_6 ?_
    obtain ⟨n6, ⟨x7, ha8, en6⟩, hwp⟩ := hwp
    refine h_alen hx hb hK hM ha8 d_Pl_fuelRowBegin_9 ?_
    rw [en6]
    refine lv_icmp_ge (tgt := 37) hx hb d_Pl_fuelRowBegin_10 (by decide) (fun c9 => ?_) (fun c9 => ?_)
    · replace hwp := hwp.1 c9
      refine lv_iconst (v := 0) hx hb d_Pl_fuelRowBegin_37 (by decide) ?_
      exact W.iret (v := (0 : Int32)) hx hb hr (fun t ht hW => ⟨⟨(0 : Int32), M, rfl, hwp, by show hw D kCl (hTys κ) A M t.heap; rw [ht]; exact hM⟩, hS.F ht⟩) hS.2.2 d_Pl_fuelRowBegin_38
    · replace hwp := hwp.2 c9
      refine lv_aload_n hx hb d_Pl_fuelRowBegin_13 rfl (lv_at hl 0 rfl) ?_
      refine lv_iload_n hx hb d_Pl_fuelRowBegin_14 rfl (lv_at hl 3 rfl) ?_
      obtain ⟨ho11, hwp⟩ := hwp
      refine h_calli hM hS hA (va_runV (As := [.int x3]) (rest := []) ⟨hx, hb, hml, hown, hts⟩ (metPl_beginsFuelRow l D κ H.size x0 x3 M _ hwp) (cwV 1 hts (gV kw_665 kw_667 kp_20 kw_4 kw_668) rfl rfl rfl (by decide +kernel) ⟨(Nat.le_of_ble_eq_true rfl), (Nat.le_of_ble_eq_true rfl)⟩) (h_preV hE hM hS ho11 (r := ("BuckTables$Plan", Tc5, 5)) rfl) rfl rfl hl.1 rfl (lv_room (Nat.le_of_ble_eq_true rfl)) d_Pl_fuelRowBegin_15 ⟨(Nat.le_of_ble_eq_true rfl), (Nat.le_of_ble_eq_true rfl)⟩) (fun r12 M10 H locs hwp hM hS => ?_)
      refine lv_if_eq (tgt := 31) hx hb d_Pl_fuelRowBegin_18 (by decide) (fun c13 => ?_) (fun c13 => ?_)
      · replace hwp := hwp.1 c13
        exact tPl_fuelRowBegin_31 C post (wPl_fuelRowBegin_4 post n) ih x0 x1 x2 x3 M10 hwp H locs ls hM hS (lv_sub hl [0, 1, 2, 3] rfl)
      · replace hwp := hwp.2 c13
        refine lv_iload_n hx hb d_Pl_fuelRowBegin_21 rfl (lv_at hl 2 rfl) ?_
        refine lv_iload_n hx hb d_Pl_fuelRowBegin_22 rfl (lv_at hl 1 rfl) ?_
        refine lv_icmp_ne (tgt := 28) hx hb d_Pl_fuelRowBegin_23 (by decide) (fun c14 => ?_) (fun c14 => ?_)
        · replace hwp := hwp.2 c14
          obtain ⟨z15, ez15⟩ : ∃ y : Int32, y = x2 + 1 := ⟨_, rfl⟩
          replace hwp := hwp z15 ez15
          refine lv_iinc (v := z15) (lv' := [(2, .int z15), (0, .ref x0), (1, .int x1), (3, .int x3)]) hx hb d_Pl_fuelRowBegin_28 hl (k := 2) rfl (by rw [ez15]; rfl) (by decide) rfl (fun ls hl => ?_)
          exact tPl_fuelRowBegin_31 C post (wPl_fuelRowBegin_4 post n) ih x0 x1 z15 x3 M10 hwp H locs ls hM hS (lv_sub hl [1, 2, 0, 3] rfl)
        · replace hwp := hwp.1 c14
          refine lv_iload_n hx hb d_Pl_fuelRowBegin_26 rfl (lv_at hl 3 rfl) ?_
          exact W.iret (v := x3) hx hb hr (fun t ht hW => ⟨⟨x3, M10, rfl, hwp, by show hw D kCl (hTys κ) A M10 t.heap; rw [ht]; exact hM⟩, hS.F ht⟩) hS.2.2 d_Pl_fuelRowBegin_27
def wpPl_fuelRowBegin (self : Nat) (p0 : Int32) (M : Hp) (post : Int32 → Hp → Prop) : Prop := (∃ n16 : Nat, wPl_fuelRowBegin_4 post n16 self p0 (0 : Int32) (0 : Int32) M)
set_option maxRecDepth 100000 in
set_option maxHeartbeats 4000000 in
theorem ePl_fuelRowBegin {p : Program} {l : Launch} {e : Env} {s : State} {m : MethodId} {args : Array Value} {below : List Frame} {meth : Method} {c : Code} {D : va_G} {κ : Nat → ClassId} {A : Nat → Prop} (C : Cx_Pl_fuelRowBegin p s m args meth c D κ A) (post : Int32 → Hp → Prop) (self : Nat) (p0 : Int32) (M : Hp) (hwp : wpPl_fuelRowBegin self p0 M post) : Y p l e rm_Pl_fuelRowBegin s m args below meth c D kCl (hTys κ) A 4 0 0 (MQ below (va_Qi post (hB D kCl (hTys κ) A) A) args s 0 0 A) M 0 [(0, .ref self), (1, .int p0)] [] := by
  obtain ⟨hx, hb, hml, hr, hown, hts, hlocks, hE, hA⟩ := id C
  have hK := hE.1
  intro H locs ls hM hS hl
  unfold wpPl_fuelRowBegin at hwp
  refine lv_iconst (v := 0) hx hb d_Pl_fuelRowBegin_0 (by decide) ?_
  refine lv_istore_n (lv' := [(2, .int (0 : Int32)), (0, .ref self), (1, .int p0)]) hx hb d_Pl_fuelRowBegin_1 rfl hl (by decide) rfl (fun ls hl => ?_)
  refine lv_iconst (v := 0) hx hb d_Pl_fuelRowBegin_2 (by decide) ?_
  refine lv_istore_n (lv' := [(3, .int (0 : Int32)), (2, .int (0 : Int32)), (0, .ref self), (1, .int p0)]) hx hb d_Pl_fuelRowBegin_3 rfl hl (by decide) rfl (fun ls hl => ?_)
  obtain ⟨n16, hwp⟩ := hwp
  exact tPl_fuelRowBegin_4 C post n16 self p0 (0 : Int32) (0 : Int32) M hwp H locs ls hM hS (lv_sub hl [2, 3, 1, 0] rfl)
set_option maxRecDepth 100000 in
set_option maxHeartbeats 4000000 in
theorem metPl_fuelRowBegin (l : Launch) (D : va_G) (κ : Nat → ClassId) (sz : Nat) (self : Nat) (p0 : Int32) (M : Hp) (post : Int32 → Hp → Prop) (hwp : wpPl_fuelRowBegin self p0 M post) : Met l y_Pl_fuelRowBegin ws_Pl_fuelRowBegin rm_Pl_fuelRowBegin (hPc D kCl (hTys κ) M sz [.ref self, .int p0]) (va_Qi post (hB D kCl (hTys κ) (hAx M sz)) (hAx M sz)) 0 0 (hAx M sz) := by
  refine Met.ofW (cc := prog_3_method_11_code) (maxL := 4) (ret := (some .int)) (by decide +kernel) rfl ?_
  intro p e s m args below meth c s₁ B hml hv
  obtain ⟨rfl, hsz, hE, hM0⟩ := hv
  have hts : ∀ w ∈ WG, w.before _ s = true := fun w h => atoms_spec (ws := ws_Pl_fuelRowBegin) B.pre w (List.mem_cons_of_mem _ h)
  subst hsz
  have C : Cx_Pl_fuelRowBegin p s m _ meth c D κ (hAx M s.heap.size) := ⟨B.exec, B.bytes, hml, B.returns, findClass_of_methodNamed B.named, hts, B.notSynchronized, hE, fun q h => Or.inr h⟩
  have hl := lv_entry ([.ref self, .int p0]) (n := 4) (Nat.le_of_ble_eq_true rfl)
  rw [lg_entry_eq]
  generalize (lg_sl ([.ref self, .int p0]) ++ List.replicate (4 - (lg_sl ([.ref self, .int p0])).length) Slot.unset).toArray = ls at hl ⊢
  exact ePl_fuelRowBegin C post self p0 M hwp s.heap [] ls (hM0.self (sz := s.heap.size)) va_S.rf hl
abbrev rm_Pl_fuelRowSteps : Room := { frames := 0, cells := 0, slots := 0, locals := 0 }
def Cx_Pl_fuelRowSteps (p : Program) (s : State) (m : MethodId) (args : Array Value) (meth : Method) (c : Code) (D : va_G) (κ : Nat → ClassId) (A : Nat → Prop) : Prop := p.tables.exec = Jvm.exec ∧ c.code = prog_3_method_12_code ∧ c.maxLocals = 3 ∧ meth.sig.returnType = (some .int) ∧ s.vm.findClass "BuckTables$Plan" = some m.cls ∧ (∀ w ∈ WG, w.before args s = true) ∧ meth.locks = false ∧ hEnv D kCl (hTys κ) A s ∧ (∀ q, s.heap.size ≤ q → A q)
def wPl_fuelRowSteps_35 (post : Int32 → Hp → Prop)  (x1 : Int32) (x2 : Int32) (M : Hp) : Prop := (post (x2 - x1) M)
set_option maxRecDepth 100000 in
set_option maxHeartbeats 4000000 in
theorem tPl_fuelRowSteps_35 {p : Program} {l : Launch} {e : Env} {s : State} {m : MethodId} {args : Array Value} {below : List Frame} {meth : Method} {c : Code} {D : va_G} {κ : Nat → ClassId} {A : Nat → Prop} (C : Cx_Pl_fuelRowSteps p s m args meth c D κ A) (post : Int32 → Hp → Prop)  (x1 : Int32) (x2 : Int32) (M : Hp) (hwp : wPl_fuelRowSteps_35 post x1 x2 M) : Y p l e rm_Pl_fuelRowSteps s m args below meth c D kCl (hTys κ) A 3 0 0 (MQ below (va_Qi post (hB D kCl (hTys κ) A) A) args s 0 0 A) M 35 [(1, .int x1), (2, .int x2)] [] := by
  obtain ⟨hx, hb, hml, hr, hown, hts, hlocks, hE, hA⟩ := id C
  have hK := hE.1
  intro H locs ls hM hS hl
  unfold wPl_fuelRowSteps_35 at hwp
  refine lv_iload_n hx hb d_Pl_fuelRowSteps_35 rfl (lv_at hl 1 rfl) ?_
  refine lv_iload_n hx hb d_Pl_fuelRowSteps_36 rfl (lv_at hl 0 rfl) ?_
  refine lv_isub hx hb d_Pl_fuelRowSteps_37 ?_
  exact W.iret (v := (x2 - x1)) hx hb hr (fun t ht hW => ⟨⟨(x2 - x1), M, rfl, hwp, by show hw D kCl (hTys κ) A M t.heap; rw [ht]; exact hM⟩, hS.F ht⟩) hS.2.2 d_Pl_fuelRowSteps_38
def wPl_fuelRowSteps_4 (post : Int32 → Hp → Prop)  : Nat → Nat → Int32 → Int32 → Hp → Prop
  | 0 => fun _ _ _ _ => False
  | n + 1 => fun x0 x1 x2 M => (∃ a1 : Nat, fA M x0 5 1 a1 ∧ (∃ n5 : Nat, aL 1 M a1 n5 ∧ (((nI n5) ≤ x2 → (wPl_fuelRowSteps_35 post x1 x2 M)) ∧ (¬ (nI n5) ≤ x2 → (((x2 - x2 / (80 : Int32) * (80 : Int32)) = 0 → (wPl_fuelRowSteps_35 post x1 x2 M)) ∧ (¬ (x2 - x2 / (80 : Int32) * (80 : Int32)) = 0 → (∃ a10 : Nat, fA M x0 5 1 a10 ∧ (∃ v14 : Int32, aZ M a10 x2 v14 ∧ ((v14 = 0 → (wPl_fuelRowSteps_35 post x1 x2 M)) ∧ (¬ v14 = 0 → (∀ z20 : Int32, z20 = x2 + 1 → ((wPl_fuelRowSteps_4 post n) x0 x1 z20 M))))))))))))
set_option maxRecDepth 100000 in
set_option maxHeartbeats 4000000 in
theorem tPl_fuelRowSteps_4 {p : Program} {l : Launch} {e : Env} {s : State} {m : MethodId} {args : Array Value} {below : List Frame} {meth : Method} {c : Code} {D : va_G} {κ : Nat → ClassId} {A : Nat → Prop} (C : Cx_Pl_fuelRowSteps p s m args meth c D κ A) (post : Int32 → Hp → Prop)  : ∀ (n : Nat) (x0 : Nat) (x1 : Int32) (x2 : Int32) (M : Hp), wPl_fuelRowSteps_4 post n x0 x1 x2 M → Y p l e rm_Pl_fuelRowSteps s m args below meth c D kCl (hTys κ) A 3 0 0 (MQ below (va_Qi post (hB D kCl (hTys κ) A) A) args s 0 0 A) M 4 [(0, .ref x0), (1, .int x1), (2, .int x2)] [] := by
  obtain ⟨hx, hb, hml, hr, hown, hts, hlocks, hE, hA⟩ := id C
  have hK := hE.1
  intro n
  induction n with
  | zero => intro x0 x1 x2 M hwp; exact hwp.elim
  | succ n ih =>
    intro x0 x1 x2 M hwp H locs ls hM hS hl
    unfold wPl_fuelRowSteps_4 at hwp
    refine lv_iload_n hx hb d_Pl_fuelRowSteps_4 rfl (lv_at hl 2 rfl) ?_
    refine lv_aload_n hx hb d_Pl_fuelRowSteps_5 rfl (lv_at hl 0 rfl) ?_
    obtain ⟨a1, ⟨fs2, he3, hv4⟩, hwp⟩ := hwp
    refine h_get (C := "BuckTables$Plan") (T := Tc5) (N := 5) hx hb hts inc5 hown hK hM he3 rfl 1 (by decide) (hts _ kw_76) (fun _ h9 => h9) hv4 d_Pl_fuelRowSteps_6 ?_
    obtain ⟨n5, ⟨x6, ha7, en5⟩, hwp⟩ := hwp
    refine h_alen hx hb hK hM ha7 d_Pl_fuelRowSteps_9 ?_
    rw [en5]
    refine lv_icmp_ge (tgt := 35) hx hb d_Pl_fuelRowSteps_10 (by decide) (fun c8 => ?_) (fun c8 => ?_)
    · replace hwp := hwp.1 c8
      exact tPl_fuelRowSteps_35 C post x1 x2 M hwp H locs ls hM hS (lv_sub hl [1, 2] rfl)
    · replace hwp := hwp.2 c8
      refine lv_iload_n hx hb d_Pl_fuelRowSteps_13 rfl (lv_at hl 2 rfl) ?_
      refine lv_bipush (v := 80) hx hb d_Pl_fuelRowSteps_14 (by decide) ?_
      refine lv_irem hx hb d_Pl_fuelRowSteps_16 (by decide) ?_
      refine lv_if_eq (tgt := 35) hx hb d_Pl_fuelRowSteps_17 (by decide) (fun c9 => ?_) (fun c9 => ?_)
      · replace hwp := hwp.1 c9
        exact tPl_fuelRowSteps_35 C post x1 x2 M hwp H locs ls hM hS (lv_sub hl [1, 2] rfl)
      · replace hwp := hwp.2 c9
        refine lv_aload_n hx hb d_Pl_fuelRowSteps_20 rfl (lv_at hl 0 rfl) ?_
        obtain ⟨a10, ⟨fs11, he12, hv13⟩, hwp⟩ := hwp
        refine h_get (C := "BuckTables$Plan") (T := Tc5) (N := 5) hx hb hts inc5 hown hK hM he12 rfl 1 (by decide) (hts _ kw_76) (fun _ h9 => h9) hv13 d_Pl_fuelRowSteps_21 ?_
        refine lv_iload_n hx hb d_Pl_fuelRowSteps_24 rfl (lv_at hl 2 rfl) ?_
        obtain ⟨v14, ⟨n15, f16, ha17, hi18, ev14⟩, hwp⟩ := hwp
        refine h_zald hx hb hK hM ha17 rfl hi18 d_Pl_fuelRowSteps_25 ?_
        rw [← ev14]
        refine lv_if_eq (tgt := 35) hx hb d_Pl_fuelRowSteps_26 (by decide) (fun c19 => ?_) (fun c19 => ?_)
        · replace hwp := hwp.1 c19
          exact tPl_fuelRowSteps_35 C post x1 x2 M hwp H locs ls hM hS (lv_sub hl [1, 2] rfl)
        · replace hwp := hwp.2 c19
          obtain ⟨z20, ez20⟩ : ∃ y : Int32, y = x2 + 1 := ⟨_, rfl⟩
          replace hwp := hwp z20 ez20
          refine lv_iinc (v := z20) (lv' := [(2, .int z20), (0, .ref x0), (1, .int x1)]) hx hb d_Pl_fuelRowSteps_29 hl (k := 2) rfl (by rw [ez20]; rfl) (by decide) rfl (fun ls hl => ?_)
          refine lv_goto (tgt := 4) hx hb d_Pl_fuelRowSteps_32 (by decide) ?_
          exact ih x0 x1 z20 M hwp H locs ls hM hS (lv_sub hl [1, 2, 0] rfl)
def wpPl_fuelRowSteps (self : Nat) (p0 : Int32) (M : Hp) (post : Int32 → Hp → Prop) : Prop := (∀ z21 : Int32, z21 = (p0 + (1 : Int32)) → (∃ n22 : Nat, wPl_fuelRowSteps_4 post n22 self p0 z21 M))
set_option maxRecDepth 100000 in
set_option maxHeartbeats 4000000 in
theorem ePl_fuelRowSteps {p : Program} {l : Launch} {e : Env} {s : State} {m : MethodId} {args : Array Value} {below : List Frame} {meth : Method} {c : Code} {D : va_G} {κ : Nat → ClassId} {A : Nat → Prop} (C : Cx_Pl_fuelRowSteps p s m args meth c D κ A) (post : Int32 → Hp → Prop) (self : Nat) (p0 : Int32) (M : Hp) (hwp : wpPl_fuelRowSteps self p0 M post) : Y p l e rm_Pl_fuelRowSteps s m args below meth c D kCl (hTys κ) A 3 0 0 (MQ below (va_Qi post (hB D kCl (hTys κ) A) A) args s 0 0 A) M 0 [(0, .ref self), (1, .int p0)] [] := by
  obtain ⟨hx, hb, hml, hr, hown, hts, hlocks, hE, hA⟩ := id C
  have hK := hE.1
  intro H locs ls hM hS hl
  unfold wpPl_fuelRowSteps at hwp
  refine lv_iload_n hx hb d_Pl_fuelRowSteps_0 rfl (lv_at hl 1 rfl) ?_
  refine lv_iconst (v := 1) hx hb d_Pl_fuelRowSteps_1 (by decide) ?_
  refine lv_iadd hx hb d_Pl_fuelRowSteps_2 ?_
  refine lv_topi (fun z21 ez21 => ?_)
  replace hwp := hwp z21 ez21
  refine lv_istore_n (lv' := [(2, .int z21), (0, .ref self), (1, .int p0)]) hx hb d_Pl_fuelRowSteps_3 rfl hl (by decide) rfl (fun ls hl => ?_)
  obtain ⟨n22, hwp⟩ := hwp
  exact tPl_fuelRowSteps_4 C post n22 self p0 z21 M hwp H locs ls hM hS (lv_sub hl [1, 2, 0] rfl)
set_option maxRecDepth 100000 in
set_option maxHeartbeats 4000000 in
theorem metPl_fuelRowSteps (l : Launch) (D : va_G) (κ : Nat → ClassId) (sz : Nat) (self : Nat) (p0 : Int32) (M : Hp) (post : Int32 → Hp → Prop) (hwp : wpPl_fuelRowSteps self p0 M post) : Met l y_Pl_fuelRowSteps ws_Pl_fuelRowSteps rm_Pl_fuelRowSteps (hPc D kCl (hTys κ) M sz [.ref self, .int p0]) (va_Qi post (hB D kCl (hTys κ) (hAx M sz)) (hAx M sz)) 0 0 (hAx M sz) := by
  refine Met.ofW (cc := prog_3_method_12_code) (maxL := 3) (ret := (some .int)) (by decide +kernel) rfl ?_
  intro p e s m args below meth c s₁ B hml hv
  obtain ⟨rfl, hsz, hE, hM0⟩ := hv
  have hts : ∀ w ∈ WG, w.before _ s = true := fun w h => atoms_spec (ws := ws_Pl_fuelRowSteps) B.pre w (List.mem_cons_of_mem _ h)
  subst hsz
  have C : Cx_Pl_fuelRowSteps p s m _ meth c D κ (hAx M s.heap.size) := ⟨B.exec, B.bytes, hml, B.returns, findClass_of_methodNamed B.named, hts, B.notSynchronized, hE, fun q h => Or.inr h⟩
  have hl := lv_entry ([.ref self, .int p0]) (n := 3) (Nat.le_of_ble_eq_true rfl)
  rw [lg_entry_eq]
  generalize (lg_sl ([.ref self, .int p0]) ++ List.replicate (3 - (lg_sl ([.ref self, .int p0])).length) Slot.unset).toArray = ls at hl ⊢
  exact ePl_fuelRowSteps C post self p0 M hwp s.heap [] ls (hM0.self (sz := s.heap.size)) va_S.rf hl
abbrev rm_Pl_tellFuel : Room := { frames := 2, cells := 0, slots := 0, locals := 44 }
def Cx_Pl_tellFuel (p : Program) (s : State) (m : MethodId) (args : Array Value) (meth : Method) (c : Code) (D : va_G) (κ : Nat → ClassId) (A : Nat → Prop) : Prop := p.tables.exec = Jvm.exec ∧ c.code = prog_3_method_9_code ∧ c.maxLocals = 4 ∧ meth.sig.returnType = (some .int) ∧ s.vm.findClass "BuckTables$Plan" = some m.cls ∧ (∀ w ∈ WG, w.before args s = true) ∧ meth.locks = false ∧ hEnv D kCl (hTys κ) A s ∧ (∀ q, s.heap.size ≤ q → A q)
def wPl_tellFuel_32 (post : Int32 → Hp → Prop)   (y0 : Int32) (M : Hp) : Prop := (post y0 M)
set_option maxRecDepth 100000 in
set_option maxHeartbeats 4000000 in
theorem tPl_tellFuel_32 {p : Program} {l : Launch} {e : Env} {s : State} {m : MethodId} {args : Array Value} {below : List Frame} {meth : Method} {c : Code} {D : va_G} {κ : Nat → ClassId} {A : Nat → Prop} (C : Cx_Pl_tellFuel p s m args meth c D κ A) (post : Int32 → Hp → Prop)   (y0 : Int32) (M : Hp) (hwp : wPl_tellFuel_32 post y0 M) : Y p l e rm_Pl_tellFuel s m args below meth c D kCl (hTys κ) A 4 0 0 (MQ below (va_Qi post (hB D kCl (hTys κ) A) A) args s 0 0 A) M 32 [] [.int y0] := by
  obtain ⟨hx, hb, hml, hr, hown, hts, hlocks, hE, hA⟩ := id C
  have hK := hE.1
  intro H locs ls hM hS hl
  unfold wPl_tellFuel_32 at hwp
  exact W.iret (v := y0) hx hb hr (fun t ht hW => ⟨⟨y0, M, rfl, hwp, by show hw D kCl (hTys κ) A M t.heap; rw [ht]; exact hM⟩, hS.F ht⟩) hS.2.2 d_Pl_tellFuel_32
def wpPl_tellFuel (self : Nat) (p0 : Int32) (p1 : Int32) (M : Hp) (post : Int32 → Hp → Prop) : Prop := (hob M self 5 ∧ (wpPl_fuelRowBegin self p0 M (fun (r3 : Int32) (M1 : Hp) => ((p1 = 0 → (post (r3 / (80 : Int32)) M1)) ∧ (¬ p1 = 0 → ((p1 = (1 : Int32) → (wPl_tellFuel_32 post (r3 - r3 / (80 : Int32) * (80 : Int32)) M1)) ∧ (¬ p1 = (1 : Int32) → (hob M1 self 5 ∧ (wpPl_fuelRowSteps self r3 M1 (fun (r8 : Int32) (M6 : Hp) => (wPl_tellFuel_32 post r8 M6)))))))))))
set_option maxRecDepth 100000 in
set_option maxHeartbeats 4000000 in
theorem ePl_tellFuel {p : Program} {l : Launch} {e : Env} {s : State} {m : MethodId} {args : Array Value} {below : List Frame} {meth : Method} {c : Code} {D : va_G} {κ : Nat → ClassId} {A : Nat → Prop} (C : Cx_Pl_tellFuel p s m args meth c D κ A) (post : Int32 → Hp → Prop) (self : Nat) (p0 : Int32) (p1 : Int32) (M : Hp) (hwp : wpPl_tellFuel self p0 p1 M post) : Y p l e rm_Pl_tellFuel s m args below meth c D kCl (hTys κ) A 4 0 0 (MQ below (va_Qi post (hB D kCl (hTys κ) A) A) args s 0 0 A) M 0 [(0, .ref self), (1, .int p0), (2, .int p1)] [] := by
  obtain ⟨hx, hb, hml, hr, hown, hts, hlocks, hE, hA⟩ := id C
  have hK := hE.1
  intro H locs ls hM hS hl
  unfold wpPl_tellFuel at hwp
  refine lv_aload_n hx hb d_Pl_tellFuel_0 rfl (lv_at hl 0 rfl) ?_
  refine lv_iload_n hx hb d_Pl_tellFuel_1 rfl (lv_at hl 1 rfl) ?_
  obtain ⟨ho2, hwp⟩ := hwp
  refine h_calli hM hS hA (va_runV (As := [.int p0]) (rest := []) ⟨hx, hb, hml, hown, hts⟩ (metPl_fuelRowBegin l D κ H.size self p0 M _ hwp) (cwV 1 hts (gV kw_673 kw_675 kp_21 kw_4 kw_676) rfl rfl rfl (by decide +kernel) ⟨(Nat.le_of_ble_eq_true rfl), (Nat.le_of_ble_eq_true rfl)⟩) (h_preV hE hM hS ho2 (r := ("BuckTables$Plan", Tc5, 5)) rfl) rfl rfl hl.1 rfl (lv_room (Nat.le_of_ble_eq_true rfl)) d_Pl_tellFuel_2 ⟨(Nat.le_of_ble_eq_true rfl), (Nat.le_of_ble_eq_true rfl)⟩) (fun r3 M1 H locs hwp hM hS => ?_)
  refine lv_istore_n (lv' := [(3, .int r3), (0, .ref self), (1, .int p0), (2, .int p1)]) hx hb d_Pl_tellFuel_5 rfl hl (by decide) rfl (fun ls hl => ?_)
  refine lv_iload_n hx hb d_Pl_tellFuel_6 rfl (lv_at hl 3 rfl) ?_
  refine lv_if_ne (tgt := 15) hx hb d_Pl_tellFuel_7 (by decide) (fun c4 => ?_) (fun c4 => ?_)
  · replace hwp := hwp.2 c4
    refine lv_iload_n hx hb d_Pl_tellFuel_15 rfl (lv_at hl 3 rfl) ?_
    refine lv_iconst (v := 1) hx hb d_Pl_tellFuel_16 (by decide) ?_
    refine lv_icmp_ne (tgt := 27) hx hb d_Pl_tellFuel_17 (by decide) (fun c5 => ?_) (fun c5 => ?_)
    · replace hwp := hwp.2 c5
      refine lv_aload_n hx hb d_Pl_tellFuel_27 rfl (lv_at hl 1 rfl) ?_
      refine lv_iload_n hx hb d_Pl_tellFuel_28 rfl (lv_at hl 0 rfl) ?_
      obtain ⟨ho7, hwp⟩ := hwp
      refine h_calli hM hS hA (va_runV (As := [.int r3]) (rest := []) ⟨hx, hb, hml, hown, hts⟩ (metPl_fuelRowSteps l D κ H.size self r3 M1 _ hwp) (cwV 1 hts (gV kw_677 kw_679 kp_22 kw_4 kw_680) rfl rfl rfl (by decide +kernel) ⟨(Nat.le_of_ble_eq_true rfl), (Nat.le_of_ble_eq_true rfl)⟩) (h_preV hE hM hS ho7 (r := ("BuckTables$Plan", Tc5, 5)) rfl) rfl rfl hl.1 rfl (lv_room (Nat.le_of_ble_eq_true rfl)) d_Pl_tellFuel_29 ⟨(Nat.le_of_ble_eq_true rfl), (Nat.le_of_ble_eq_true rfl)⟩) (fun r8 M6 H locs hwp hM hS => ?_)
      exact tPl_tellFuel_32 C post r8 M6 hwp H locs ls hM hS (lv_sub hl [] rfl)
    · replace hwp := hwp.1 c5
      refine lv_iload_n hx hb d_Pl_tellFuel_20 rfl (lv_at hl 0 rfl) ?_
      refine lv_bipush (v := 80) hx hb d_Pl_tellFuel_21 (by decide) ?_
      refine lv_irem hx hb d_Pl_tellFuel_23 (by decide) ?_
      refine lv_goto (tgt := 32) hx hb d_Pl_tellFuel_24 (by decide) ?_
      exact tPl_tellFuel_32 C post (r3 - r3 / (80 : Int32) * (80 : Int32)) M1 hwp H locs ls hM hS (lv_sub hl [] rfl)
  · replace hwp := hwp.1 c4
    refine lv_iload_n hx hb d_Pl_tellFuel_10 rfl (lv_at hl 0 rfl) ?_
    refine lv_bipush (v := 80) hx hb d_Pl_tellFuel_11 (by decide) ?_
    refine lv_idiv hx hb d_Pl_tellFuel_13 (by decide) ?_
    exact W.iret (v := (r3 / (80 : Int32))) hx hb hr (fun t ht hW => ⟨⟨(r3 / (80 : Int32)), M1, rfl, hwp, by show hw D kCl (hTys κ) A M1 t.heap; rw [ht]; exact hM⟩, hS.F ht⟩) hS.2.2 d_Pl_tellFuel_14
set_option maxRecDepth 100000 in
set_option maxHeartbeats 4000000 in
theorem metPl_tellFuel (l : Launch) (D : va_G) (κ : Nat → ClassId) (sz : Nat) (self : Nat) (p0 : Int32) (p1 : Int32) (M : Hp) (post : Int32 → Hp → Prop) (hwp : wpPl_tellFuel self p0 p1 M post) : Met l y_Pl_tellFuel ws_Pl_tellFuel rm_Pl_tellFuel (hPc D kCl (hTys κ) M sz [.ref self, .int p0, .int p1]) (va_Qi post (hB D kCl (hTys κ) (hAx M sz)) (hAx M sz)) 0 0 (hAx M sz) := by
  refine Met.ofW (cc := prog_3_method_9_code) (maxL := 4) (ret := (some .int)) (by decide +kernel) rfl ?_
  intro p e s m args below meth c s₁ B hml hv
  obtain ⟨rfl, hsz, hE, hM0⟩ := hv
  have hts : ∀ w ∈ WG, w.before _ s = true := fun w h => atoms_spec (ws := ws_Pl_tellFuel) B.pre w (List.mem_cons_of_mem _ h)
  subst hsz
  have C : Cx_Pl_tellFuel p s m _ meth c D κ (hAx M s.heap.size) := ⟨B.exec, B.bytes, hml, B.returns, findClass_of_methodNamed B.named, hts, B.notSynchronized, hE, fun q h => Or.inr h⟩
  have hl := lv_entry ([.ref self, .int p0, .int p1]) (n := 4) (Nat.le_of_ble_eq_true rfl)
  rw [lg_entry_eq]
  generalize (lg_sl ([.ref self, .int p0, .int p1]) ++ List.replicate (4 - (lg_sl ([.ref self, .int p0, .int p1])).length) Slot.unset).toArray = ls at hl ⊢
  exact ePl_tellFuel C post self p0 p1 M hwp s.heap [] ls (hM0.self (sz := s.heap.size)) va_S.rf hl
