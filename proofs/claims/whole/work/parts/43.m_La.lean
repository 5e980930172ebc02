abbrev rm_La_wish : Room := { frames := 8, cells := 2, slots := 12, locals := 136 }
def Cx_La_wish (p : Program) (s : State) (m : MethodId) (args : Array Value) (meth : Method) (c : Code) (D : va_G) (κ : Nat → ClassId) (A : Nat → Prop) : Prop := p.tables.exec = Jvm.exec ∧ c.code = method_12_code ∧ c.maxLocals = 7 ∧ meth.sig.returnType = (some .int) ∧ s.vm.findClass "BuckTablesLaw" = some m.cls ∧ (∀ w ∈ WG, w.before args s = true) ∧ meth.locks = false ∧ hEnv D kCl (hTys κ) A s ∧ (∀ q, s.heap.size ≤ q → A q) ∧ c.exceptionTable.toList = zTab [(0, 19, 22, 32), (0, 19, 26, 15)] ∧ hNC s
def wLa_wish_18 (post : Int32 → Hp → Prop)   (y0 : Int64) (y1 : Int32) (y2 : Nat) (M : Hp) : Prop := (∃ M5 : Hp, sJ M y2 y1 y0 M5 ∧ (post (0 : Int32) M5))
set_option maxRecDepth 100000 in
set_option maxHeartbeats 4000000 in
theorem tLa_wish_18 {p : Program} {l : Launch} {e : Env} {s : State} {m : MethodId} {args : Array Value} {below : List Frame} {meth : Method} {c : Code} {D : va_G} {κ : Nat → ClassId} {A : Nat → Prop} (C : Cx_La_wish p s m args meth c D κ A) (hst : l.stackTraces = false) (post : Int32 → Hp → Prop)   (y0 : Int64) (y1 : Int32) (y2 : Nat) (M : Hp) (hwp : wLa_wish_18 post y0 y1 y2 M) : Y p l e rm_La_wish s m args below meth c D kCl (hTys κ) A 7 2 12 (MQ below (va_Qi post (hB D kCl (hTys κ) A) A) args s 2 12 A) M 18 [] [.long y0, .int y1, .ref y2] := by
  obtain ⟨hx, hb, hml, hr, hown, hts, hlocks, hE, hA, hTab, hNc⟩ := id C
  have hK := hE.1
  intro H locs ls hM hS hl
  unfold wLa_wish_18 at hwp
  obtain ⟨M5, ⟨n1, f2, ha3, hi4, eM5⟩, hwp⟩ := hwp
  refine h_last hx hb hK hM hS ha3 rfl hi4 d_La_wish_18 (fun H locs hM hS => ?_)
  rw [← eM5] at hM
  refine lv_goto (tgt := 30) hx hb d_La_wish_19 (by decide) ?_
  refine lv_iconst (v := 0) hx hb d_La_wish_30 (by decide) ?_
  exact W.iret (v := (0 : Int32)) hx hb hr (fun t ht hW => ⟨⟨(0 : Int32), M5, rfl, hwp, by show hw D kCl (hTys κ) A M5 t.heap; rw [ht]; exact hM⟩, hS.F ht⟩) hS.2.2 d_La_wish_31
def wpLa_wish (p0 : Nat) (p1 : Int32) (p2 : Int32) (p3 : Int64) (p4 : Nat) (M : Hp) (post : Int32 → Hp → Prop) : Prop := (hob M p0 0 ∧ (wpBT_wish p0 p1 p2 p3 M (fun (r8 : Int32) (M6 : Hp) => ((r8 = 0 → (wLa_wish_18 post (0 : Int64) (0 : Int32) p4 M6)) ∧ (¬ r8 = 0 → (wLa_wish_18 post (1 : Int64) (0 : Int32) p4 M6)))) (fun (E9 : String) (M9 : Hp) => ((E9 = "java/lang/IndexOutOfBoundsException" → ∀ q9 : Nat, (post (1 : Int32) M9)) ∧ (E9 = "java/lang/IllegalArgumentException" → ∀ q9 : Nat, (post (2 : Int32) M9)) ∧ (E9 = "java/lang/IndexOutOfBoundsException" ∨ E9 = "java/lang/IllegalArgumentException")))))
set_option maxRecDepth 100000 in
set_option maxHeartbeats 4000000 in
theorem eLa_wish {p : Program} {l : Launch} {e : Env} {s : State} {m : MethodId} {args : Array Value} {below : List Frame} {meth : Method} {c : Code} {D : va_G} {κ : Nat → ClassId} {A : Nat → Prop} (C : Cx_La_wish p s m args meth c D κ A) (hst : l.stackTraces = false) (post : Int32 → Hp → Prop) (p0 : Nat) (p1 : Int32) (p2 : Int32) (p3 : Int64) (p4 : Nat) (M : Hp) (hwp : wpLa_wish p0 p1 p2 p3 p4 M post) : Y p l e rm_La_wish s m args below meth c D kCl (hTys κ) A 7 0 0 (MQ below (va_Qi post (hB D kCl (hTys κ) A) A) args s 2 12 A) M 0 [(0, .ref p0), (1, .int p1), (2, .int p2), (3, .long p3), (5, .ref p4)] [] := by
  obtain ⟨hx, hb, hml, hr, hown, hts, hlocks, hE, hA, hTab, hNc⟩ := id C
  have hK := hE.1
  intro H locs ls hM hS hl
  unfold wpLa_wish at hwp
  refine lv_aload hx hb d_La_wish_0 (lv_at hl 4 rfl) ?_
  refine lv_iconst (v := 0) hx hb d_La_wish_2 (by decide) ?_
  refine lv_aload_n hx hb d_La_wish_3 rfl (lv_at hl 0 rfl) ?_
  refine lv_iload_n hx hb d_La_wish_4 rfl (lv_at hl 1 rfl) ?_
  refine lv_iload_n hx hb d_La_wish_5 rfl (lv_at hl 2 rfl) ?_
  refine lv_lload_n hx hb d_La_wish_6 rfl (lv_at hl 3 rfl) ?_
  obtain ⟨ho7, hwp⟩ := hwp
  refine h_xcalli hM hS hA (x_runV (As := [.int p1, .int p2, .long p3]) (rest := [.int (0 : Int32), .ref p4]) ⟨hx, hb, hml, hown, hts⟩ (metBT_wish l hst D κ H.size p0 p1 p2 p3 M _ _ hwp) (cwV 3 hts (gV kw_556 kw_557 kw_558 kw_1 kw_559) rfl rfl rfl (by decide +kernel) ⟨(Nat.le_of_ble_eq_true rfl), (Nat.le_of_ble_eq_true rfl)⟩) (h_preV hE hM hS ho7 (r := ("BuckTables", Tc0, 12)) rfl) rfl rfl hl.1 rfl (lv_room (Nat.le_of_ble_eq_true rfl)) d_La_wish_7 ⟨(Nat.le_of_ble_eq_true rfl), (Nat.le_of_ble_eq_true rfl)⟩) (fun E9 M9 q9 ce9 H locs hwp hM hS hce hcv hcl => ?_) (fun r8 M6 H locs hwp hM hS => ?_)
  · obtain ⟨hp0, hp1, hor⟩ := hwp
    rcases hor with hE9 | hE9
    · subst hE9
      refine x_catch (own := "BuckTablesLaw") (name := "java/lang/IndexOutOfBoundsException") hown [] ⟨0, 19, 22, 32⟩ [⟨0, 19, 26, 15⟩] (hTab.trans rfl) (fun _ h9 => absurd h9 List.not_mem_nil) (by decide) (by decide) (hts _ kw_485) (z_cast hE.2 (List.mem_append_right _ (List.mem_of_getElem? (i := 496) (by decide +kernel))) _) hce hcv hcl ?_
      replace hwp := hp0 rfl q9
      refine lv_astore (lv' := [(6, .ref q9), (0, .ref p0), (1, .int p1), (2, .int p2), (3, .long p3), (5, .ref p4)]) hx hb d_La_wish_22 hl (by decide) rfl (fun ls hl => ?_)
      refine lv_iconst (v := 1) hx hb d_La_wish_24 (by decide) ?_
      exact W.iret (v := (1 : Int32)) hx hb hr (fun t ht hW => ⟨⟨(1 : Int32), M9, rfl, hwp, by show hw D kCl (hTys κ) A M9 t.heap; rw [ht]; exact hM⟩, hS.F ht⟩) hS.2.2 d_La_wish_25
    · subst hE9
      refine x_catch (own := "BuckTablesLaw") (name := "java/lang/IllegalArgumentException") hown [⟨0, 19, 22, 32⟩] ⟨0, 19, 26, 15⟩ [] (hTab.trans rfl) (List.forall_mem_cons.mpr ⟨Or.inr ⟨by decide, "java/lang/IndexOutOfBoundsException", hts _ kw_485, hNc ("java/lang/IllegalArgumentException", "java/lang/IndexOutOfBoundsException") (by decide)⟩, fun _ h9 => absurd h9 List.not_mem_nil⟩) (by decide) (by decide) (hts _ kw_339) (z_cast hE.2 (List.mem_append_right _ (List.mem_of_getElem? (i := 423) (by decide +kernel))) _) hce hcv hcl ?_
      replace hwp := hp1 rfl q9
      refine lv_astore (lv' := [(6, .ref q9), (0, .ref p0), (1, .int p1), (2, .int p2), (3, .long p3), (5, .ref p4)]) hx hb d_La_wish_26 hl (by decide) rfl (fun ls hl => ?_)
      refine lv_iconst (v := 2) hx hb d_La_wish_28 (by decide) ?_
      exact W.iret (v := (2 : Int32)) hx hb hr (fun t ht hW => ⟨⟨(2 : Int32), M9, rfl, hwp, by show hw D kCl (hTys κ) A M9 t.heap; rw [ht]; exact hM⟩, hS.F ht⟩) hS.2.2 d_La_wish_29
  · refine lv_if_eq (tgt := 17) hx hb d_La_wish_10 (by decide) (fun c9 => ?_) (fun c9 => ?_)
    · replace hwp := hwp.1 c9
      refine lv_lconst (v := 0) hx hb d_La_wish_17 (by decide) ?_
      exact tLa_wish_18 C hst post (0 : Int64) (0 : Int32) p4 M6 hwp H locs ls hM hS (lv_sub hl [] rfl)
    · replace hwp := hwp.2 c9
      refine lv_lconst (v := 1) hx hb d_La_wish_13 (by decide) ?_
      refine lv_goto (tgt := 18) hx hb d_La_wish_14 (by decide) ?_
      exact tLa_wish_18 C hst post (1 : Int64) (0 : Int32) p4 M6 hwp H locs ls hM hS (lv_sub hl [] rfl)
set_option maxRecDepth 100000 in
set_option maxHeartbeats 4000000 in
theorem metLa_wish (l : Launch) (hst : l.stackTraces = false) (D : va_G) (κ : Nat → ClassId) (sz : Nat) (p0 : Nat) (p1 : Int32) (p2 : Int32) (p3 : Int64) (p4 : Nat) (M : Hp) (post : Int32 → Hp → Prop) (hwp : wpLa_wish p0 p1 p2 p3 p4 M post) : Met l y_La_wish ws_La_wish rm_La_wish (hPcN D kCl (hTys κ) M sz [.ref p0, .int p1, .int p2, .long p3, .ref p4]) (va_Qi post (hB D kCl (hTys κ) (hAx M sz)) (hAx M sz)) 2 12 (hAx M sz) := by
  refine va_MetW (cc := method_12_code) (maxL := 7) (ret := (some .int)) (by decide +kernel) rfl ?_
  intro p e s m args below meth c s₁ B hml hv
  obtain ⟨rfl, hsz, hE, hM0, hN9⟩ := hv
  have hts : ∀ w ∈ WG, w.before _ s = true := fun w h => atoms_spec (ws := ws_La_wish) B.pre w (List.mem_cons_of_mem _ h)
  subst hsz
  have C : Cx_La_wish p s m _ meth c D κ (hAx M s.heap.size) := ⟨B.exec, B.bytes, hml, B.returns, findClass_of_methodNamed B.named, hts, B.notSynchronized, hE, fun q h => Or.inr h, z_table B (atoms_spec (ws := ws_La_wish) B.pre _ List.mem_cons_self), hN9⟩
  have hl := lv_entry ([.ref p0, .int p1, .int p2, .long p3, .ref p4]) (n := 7) (Nat.le_of_ble_eq_true rfl)
  rw [lg_entry_eq]
  generalize (lg_sl ([.ref p0, .int p1, .int p2, .long p3, .ref p4]) ++ List.replicate (7 - (lg_sl ([.ref p0, .int p1, .int p2, .long p3, .ref p4])).length) Slot.unset).toArray = ls at hl ⊢
  exact eLa_wish C hst post p0 p1 p2 p3 p4 M hwp s.heap [] ls (hM0.self (sz := s.heap.size)) va_S.rf hl
abbrev rm_La_priced : Room := { frames := 7, cells := 1, slots := 6, locals := 194 }
def Cx_La_priced (p : Program) (s : State) (m : MethodId) (args : Array Value) (meth : Method) (c : Code) (D : va_G) (κ : Nat → ClassId) (A : Nat → Prop) : Prop := p.tables.exec = Jvm.exec ∧ c.code = method_13_code ∧ c.maxLocals = 4 ∧ meth.sig.returnType = (some .int) ∧ s.vm.findClass "BuckTablesLaw" = some m.cls ∧ (∀ w ∈ WG, w.before args s = true) ∧ meth.locks = false ∧ hEnv D kCl (hTys κ) A s ∧ (∀ q, s.heap.size ≤ q → A q) ∧ c.exceptionTable.toList = zTab [(0, 9, 12, 15)] ∧ hNC s
def wpLa_priced (p0 : Nat) (p1 : Int32) (p2 : Nat) (M : Hp) (post : Int32 → Hp → Prop) : Prop := (hob M p0 0 ∧ (wpBT_priced p0 p1 M (fun (r3 : Int32) (M1 : Hp) => (∃ M8 : Hp, sJ M1 p2 (0 : Int32) (r3.toInt64) M8 ∧ (post (0 : Int32) M8))) (fun (E9 : String) (M9 : Hp) => ((E9 = "java/lang/IllegalArgumentException" → ∀ q9 : Nat, (post (1 : Int32) M9)) ∧ (E9 = "java/lang/IllegalArgumentException")))))
set_option maxRecDepth 100000 in
set_option maxHeartbeats 4000000 in
theorem eLa_priced {p : Program} {l : Launch} {e : Env} {s : State} {m : MethodId} {args : Array Value} {below : List Frame} {meth : Method} {c : Code} {D : va_G} {κ : Nat → ClassId} {A : Nat → Prop} (C : Cx_La_priced p s m args meth c D κ A) (hst : l.stackTraces = false) (post : Int32 → Hp → Prop) (p0 : Nat) (p1 : Int32) (p2 : Nat) (M : Hp) (hwp : wpLa_priced p0 p1 p2 M post) : Y p l e rm_La_priced s m args below meth c D kCl (hTys κ) A 4 0 0 (MQ below (va_Qi post (hB D kCl (hTys κ) A) A) args s 1 6 A) M 0 [(0, .ref p0), (1, .int p1), (2, .ref p2)] [] := by
  obtain ⟨hx, hb, hml, hr, hown, hts, hlocks, hE, hA, hTab, hNc⟩ := id C
  have hK := hE.1
  intro H locs ls hM hS hl
  unfold wpLa_priced at hwp
  refine lv_aload_n hx hb d_La_priced_0 rfl (lv_at hl 2 rfl) ?_
  refine lv_iconst (v := 0) hx hb d_La_priced_1 (by decide) ?_
  refine lv_aload_n hx hb d_La_priced_2 rfl (lv_at hl 0 rfl) ?_
  refine lv_iload_n hx hb d_La_priced_3 rfl (lv_at hl 1 rfl) ?_
  obtain ⟨ho2, hwp⟩ := hwp
  refine h_xcalli hM hS hA (x_runV (As := [.int p1]) (rest := [.int (0 : Int32), .ref p2]) ⟨hx, hb, hml, hown, hts⟩ (metBT_priced l hst D κ H.size p0 p1 M _ _ hwp) (cwV 1 hts (gV kw_565 kw_566 kw_567 kw_1 kw_568) rfl rfl rfl (by decide +kernel) ⟨(Nat.le_of_ble_eq_true rfl), (Nat.le_of_ble_eq_true rfl)⟩) (h_preV hE hM hS ho2 (r := ("BuckTables", Tc0, 12)) rfl) rfl rfl hl.1 rfl (lv_room (Nat.le_of_ble_eq_true rfl)) d_La_priced_4 ⟨(Nat.le_of_ble_eq_true rfl), (Nat.le_of_ble_eq_true rfl)⟩) (fun E9 M9 q9 ce9 H locs hwp hM hS hce hcv hcl => ?_) (fun r3 M1 H locs hwp hM hS => ?_)
  · obtain ⟨hp0, hor⟩ := hwp
    have hE9 := hor
    subst hE9
    refine x_catch (own := "BuckTablesLaw") (name := "java/lang/IllegalArgumentException") hown [] ⟨0, 9, 12, 15⟩ [] (hTab.trans rfl) (fun _ h9 => absurd h9 List.not_mem_nil) (by decide) (by decide) (hts _ kw_339) (z_cast hE.2 (List.mem_append_right _ (List.mem_of_getElem? (i := 423) (by decide +kernel))) _) hce hcv hcl ?_
    replace hwp := hp0 rfl q9
    refine lv_astore_n (lv' := [(3, .ref q9), (0, .ref p0), (1, .int p1), (2, .ref p2)]) hx hb d_La_priced_12 rfl hl (by decide) rfl (fun ls hl => ?_)
    refine lv_iconst (v := 1) hx hb d_La_priced_13 (by decide) ?_
    exact W.iret (v := (1 : Int32)) hx hb hr (fun t ht hW => ⟨⟨(1 : Int32), M9, rfl, hwp, by show hw D kCl (hTys κ) A M9 t.heap; rw [ht]; exact hM⟩, hS.F ht⟩) hS.2.2 d_La_priced_14
  · refine lv_i2l hx hb d_La_priced_7 rfl ?_
    obtain ⟨M8, ⟨n4, f5, ha6, hi7, eM8⟩, hwp⟩ := hwp
    refine h_last hx hb hK hM hS ha6 rfl hi7 d_La_priced_8 (fun H locs hM hS => ?_)
    rw [← eM8] at hM
    refine lv_goto (tgt := 15) hx hb d_La_priced_9 (by decide) ?_
    refine lv_iconst (v := 0) hx hb d_La_priced_15 (by decide) ?_
    exact W.iret (v := (0 : Int32)) hx hb hr (fun t ht hW => ⟨⟨(0 : Int32), M8, rfl, hwp, by show hw D kCl (hTys κ) A M8 t.heap; rw [ht]; exact hM⟩, hS.F ht⟩) hS.2.2 d_La_priced_16
set_option maxRecDepth 100000 in
set_option maxHeartbeats 4000000 in
theorem metLa_priced (l : Launch) (hst : l.stackTraces = false) (D : va_G) (κ : Nat → ClassId) (sz : Nat) (p0 : Nat) (p1 : Int32) (p2 : Nat) (M : Hp) (post : Int32 → Hp → Prop) (hwp : wpLa_priced p0 p1 p2 M post) : Met l y_La_priced ws_La_priced rm_La_priced (hPcN D kCl (hTys κ) M sz [.ref p0, .int p1, .ref p2]) (va_Qi post (hB D kCl (hTys κ) (hAx M sz)) (hAx M sz)) 1 6 (hAx M sz) := by
  refine va_MetW (cc := method_13_code) (maxL := 4) (ret := (some .int)) (by decide +kernel) rfl ?_
  intro p e s m args below meth c s₁ B hml hv
  obtain ⟨rfl, hsz, hE, hM0, hN9⟩ := hv
  have hts : ∀ w ∈ WG, w.before _ s = true := fun w h => atoms_spec (ws := ws_La_priced) B.pre w (List.mem_cons_of_mem _ h)
  subst hsz
  have C : Cx_La_priced p s m _ meth c D κ (hAx M s.heap.size) := ⟨B.exec, B.bytes, hml, B.returns, findClass_of_methodNamed B.named, hts, B.notSynchronized, hE, fun q h => Or.inr h, z_table B (atoms_spec (ws := ws_La_priced) B.pre _ List.mem_cons_self), hN9⟩
  have hl := lv_entry ([.ref p0, .int p1, .ref p2]) (n := 4) (Nat.le_of_ble_eq_true rfl)
  rw [lg_entry_eq]
  generalize (lg_sl ([.ref p0, .int p1, .ref p2]) ++ List.replicate (4 - (lg_sl ([.ref p0, .int p1, .ref p2])).length) Slot.unset).toArray = ls at hl ⊢
  exact eLa_priced C hst post p0 p1 p2 M hwp s.heap [] ls (hM0.self (sz := s.heap.size)) va_S.rf hl
abbrev rm_La_worth : Room := { frames := 8, cells := 1, slots := 6, locals := 130 }
def Cx_La_worth (p : Program) (s : State) (m : MethodId) (args : Array Value) (meth : Method) (c : Code) (D : va_G) (κ : Nat → ClassId) (A : Nat → Prop) : Prop := p.tables.exec = Jvm.exec ∧ c.code = method_14_code ∧ c.maxLocals = 3 ∧ meth.sig.returnType = (some .int) ∧ s.vm.findClass "BuckTablesLaw" = some m.cls ∧ (∀ w ∈ WG, w.before args s = true) ∧ meth.locks = false ∧ hEnv D kCl (hTys κ) A s ∧ (∀ q, s.heap.size ≤ q → A q) ∧ c.exceptionTable.toList = zTab [(0, 7, 10, 13)] ∧ hNC s
def wpLa_worth (p0 : Nat) (p1 : Nat) (M : Hp) (post : Int32 → Hp → Prop) : Prop := (hob M p0 0 ∧ (wpBT_worth p0 M (fun (r3 : Int64) (M1 : Hp) => (∃ M8 : Hp, sJ M1 p1 (0 : Int32) r3 M8 ∧ (post (0 : Int32) M8))) (fun (E9 : String) (M9 : Hp) => ((E9 = "java/lang/IllegalStateException" → ∀ q9 : Nat, (post (1 : Int32) M9)) ∧ (E9 = "java/lang/IllegalStateException")))))
set_option maxRecDepth 100000 in
set_option maxHeartbeats 4000000 in
theorem eLa_worth {p : Program} {l : Launch} {e : Env} {s : State} {m : MethodId} {args : Array Value} {below : List Frame} {meth : Method} {c : Code} {D : va_G} {κ : Nat → ClassId} {A : Nat → Prop} (C : Cx_La_worth p s m args meth c D κ A) (hst : l.stackTraces = false) (post : Int32 → Hp → Prop) (p0 : Nat) (p1 : Nat) (M : Hp) (hwp : wpLa_worth p0 p1 M post) : Y p l e rm_La_worth s m args below meth c D kCl (hTys κ) A 3 0 0 (MQ below (va_Qi post (hB D kCl (hTys κ) A) A) args s 1 6 A) M 0 [(0, .ref p0), (1, .ref p1)] [] := by
  obtain ⟨hx, hb, hml, hr, hown, hts, hlocks, hE, hA, hTab, hNc⟩ := id C
  have hK := hE.1
  intro H locs ls hM hS hl
  unfold wpLa_worth at hwp
  refine lv_aload_n hx hb d_La_worth_0 rfl (lv_at hl 1 rfl) ?_
  refine lv_iconst (v := 0) hx hb d_La_worth_1 (by decide) ?_
  refine lv_aload_n hx hb d_La_worth_2 rfl (lv_at hl 0 rfl) ?_
  obtain ⟨ho2, hwp⟩ := hwp
  refine h_xcalll hM hS hA (x_runV (As := []) (rest := [.int (0 : Int32), .ref p1]) ⟨hx, hb, hml, hown, hts⟩ (metBT_worth l hst D κ H.size p0 M _ _ hwp) (cwV 0 hts (gV kw_629 kw_630 kw_631 kw_1 kw_632) rfl rfl rfl (by decide +kernel) ⟨(Nat.le_of_ble_eq_true rfl), (Nat.le_of_ble_eq_true rfl)⟩) (h_preV hE hM hS ho2 (r := ("BuckTables", Tc0, 12)) rfl) rfl rfl hl.1 rfl (lv_room (Nat.le_of_ble_eq_true rfl)) d_La_worth_3 ⟨(Nat.le_of_ble_eq_true rfl), (Nat.le_of_ble_eq_true rfl)⟩) (fun E9 M9 q9 ce9 H locs hwp hM hS hce hcv hcl => ?_) (fun r3 M1 H locs hwp hM hS => ?_)
  · obtain ⟨hp0, hor⟩ := hwp
    have hE9 := hor
    subst hE9
    refine x_catch (own := "BuckTablesLaw") (name := "java/lang/IllegalStateException") hown [] ⟨0, 7, 10, 13⟩ [] (hTab.trans rfl) (fun _ h9 => absurd h9 List.not_mem_nil) (by decide) (by decide) (hts _ kw_338) (z_cast hE.2 (List.mem_append_right _ (List.mem_of_getElem? (i := 350) (by decide +kernel))) _) hce hcv hcl ?_
    replace hwp := hp0 rfl q9
    refine lv_astore_n (lv' := [(2, .ref q9), (0, .ref p0), (1, .ref p1)]) hx hb d_La_worth_10 rfl hl (by decide) rfl (fun ls hl => ?_)
    refine lv_iconst (v := 1) hx hb d_La_worth_11 (by decide) ?_
    exact W.iret (v := (1 : Int32)) hx hb hr (fun t ht hW => ⟨⟨(1 : Int32), M9, rfl, hwp, by show hw D kCl (hTys κ) A M9 t.heap; rw [ht]; exact hM⟩, hS.F ht⟩) hS.2.2 d_La_worth_12
  · obtain ⟨M8, ⟨n4, f5, ha6, hi7, eM8⟩, hwp⟩ := hwp
    refine h_last hx hb hK hM hS ha6 rfl hi7 d_La_worth_6 (fun H locs hM hS => ?_)
    rw [← eM8] at hM
    refine lv_goto (tgt := 13) hx hb d_La_worth_7 (by decide) ?_
    refine lv_iconst (v := 0) hx hb d_La_worth_13 (by decide) ?_
    exact W.iret (v := (0 : Int32)) hx hb hr (fun t ht hW => ⟨⟨(0 : Int32), M8, rfl, hwp, by show hw D kCl (hTys κ) A M8 t.heap; rw [ht]; exact hM⟩, hS.F ht⟩) hS.2.2 d_La_worth_14
set_option maxRecDepth 100000 in
set_option maxHeartbeats 4000000 in
theorem metLa_worth (l : Launch) (hst : l.stackTraces = false) (D : va_G) (κ : Nat → ClassId) (sz : Nat) (p0 : Nat) (p1 : Nat) (M : Hp) (post : Int32 → Hp → Prop) (hwp : wpLa_worth p0 p1 M post) : Met l y_La_worth ws_La_worth rm_La_worth (hPcN D kCl (hTys κ) M sz [.ref p0, .ref p1]) (va_Qi post (hB D kCl (hTys κ) (hAx M sz)) (hAx M sz)) 1 6 (hAx M sz) := by
  refine va_MetW (cc := method_14_code) (maxL := 3) (ret := (some .int)) (by decide +kernel) rfl ?_
  intro p e s m args below meth c s₁ B hml hv
  obtain ⟨rfl, hsz, hE, hM0, hN9⟩ := hv
  have hts : ∀ w ∈ WG, w.before _ s = true := fun w h => atoms_spec (ws := ws_La_worth) B.pre w (List.mem_cons_of_mem _ h)
  subst hsz
  have C : Cx_La_worth p s m _ meth c D κ (hAx M s.heap.size) := ⟨B.exec, B.bytes, hml, B.returns, findClass_of_methodNamed B.named, hts, B.notSynchronized, hE, fun q h => Or.inr h, z_table B (atoms_spec (ws := ws_La_worth) B.pre _ List.mem_cons_self), hN9⟩
  have hl := lv_entry ([.ref p0, .ref p1]) (n := 3) (Nat.le_of_ble_eq_true rfl)
  rw [lg_entry_eq]
  generalize (lg_sl ([.ref p0, .ref p1]) ++ List.replicate (3 - (lg_sl ([.ref p0, .ref p1])).length) Slot.unset).toArray = ls at hl ⊢
  exact eLa_worth C hst post p0 p1 M hwp s.heap [] ls (hM0.self (sz := s.heap.size)) va_S.rf hl
abbrev rm_La_log : Room := { frames := 8, cells := 3, slots := 18, locals := 133 }
def Cx_La_log (p : Program) (s : State) (m : MethodId) (args : Array Value) (meth : Method) (c : Code) (D : va_G) (κ : Nat → ClassId) (A : Nat → Prop) : Prop := p.tables.exec = Jvm.exec ∧ c.code = method_15_code ∧ c.maxLocals = 5 ∧ meth.sig.returnType = (some .int) ∧ s.vm.findClass "BuckTablesLaw" = some m.cls ∧ (∀ w ∈ WG, w.before args s = true) ∧ meth.locks = false ∧ hEnv D kCl (hTys κ) A s ∧ (∀ q, s.heap.size ≤ q → A q) ∧ c.exceptionTable.toList = zTab [(0, 10, 13, 13), (0, 10, 17, 32), (0, 10, 21, 15)] ∧ hNC s
def wpLa_log (p0 : Nat) (p1 : Int32) (p2 : Int32) (p3 : Nat) (M : Hp) (post : Int32 → Hp → Prop) : Prop := (hob M p0 0 ∧ (wpBT_log p0 p1 p2 M (fun (r3 : Int32) (M1 : Hp) => (∃ M8 : Hp, sJ M1 p3 (0 : Int32) (r3.toInt64) M8 ∧ (post (0 : Int32) M8))) (fun (E9 : String) (M9 : Hp) => ((E9 = "java/lang/IllegalStateException" → ∀ q9 : Nat, (post (1 : Int32) M9)) ∧ (E9 = "java/lang/IndexOutOfBoundsException" → ∀ q9 : Nat, (post (2 : Int32) M9)) ∧ (E9 = "java/lang/IllegalArgumentException" → ∀ q9 : Nat, (post (3 : Int32) M9)) ∧ (E9 = "java/lang/IllegalStateException" ∨ E9 = "java/lang/IndexOutOfBoundsException" ∨ E9 = "java/lang/IllegalArgumentException")))))
set_option maxRecDepth 100000 in
set_option maxHeartbeats 4000000 in
theorem eLa_log {p : Program} {l : Launch} {e : Env} {s : State} {m : MethodId} {args : Array Value} {below : List Frame} {meth : Method} {c : Code} {D : va_G} {κ : Nat → ClassId} {A : Nat → Prop} (C : Cx_La_log p s m args meth c D κ A) (hst : l.stackTraces = false) (post : Int32 → Hp → Prop) (p0 : Nat) (p1 : Int32) (p2 : Int32) (p3 : Nat) (M : Hp) (hwp : wpLa_log p0 p1 p2 p3 M post) : Y p l e rm_La_log s m args below meth c D kCl (hTys κ) A 5 0 0 (MQ below (va_Qi post (hB D kCl (hTys κ) A) A) args s 3 18 A) M 0 [(0, .ref p0), (1, .int p1), (2, .int p2), (3, .ref p3)] [] := by
  obtain ⟨hx, hb, hml, hr, hown, hts, hlocks, hE, hA, hTab, hNc⟩ := id C
  have hK := hE.1
  intro H locs ls hM hS hl
  unfold wpLa_log at hwp
  refine lv_aload_n hx hb d_La_log_0 rfl (lv_at hl 3 rfl) ?_
  refine lv_iconst (v := 0) hx hb d_La_log_1 (by decide) ?_
  refine lv_aload_n hx hb d_La_log_2 rfl (lv_at hl 0 rfl) ?_
  refine lv_iload_n hx hb d_La_log_3 rfl (lv_at hl 1 rfl) ?_
  refine lv_iload_n hx hb d_La_log_4 rfl (lv_at hl 2 rfl) ?_
  obtain ⟨ho2, hwp⟩ := hwp
  refine h_xcalli hM hS hA (x_runV (As := [.int p1, .int p2]) (rest := [.int (0 : Int32), .ref p3]) ⟨hx, hb, hml, hown, hts⟩ (metBT_log l hst D κ H.size p0 p1 p2 M _ _ hwp) (cwV 2 hts (gV kw_641 kw_642 kw_643 kw_1 kw_644) rfl rfl rfl (by decide +kernel) ⟨(Nat.le_of_ble_eq_true rfl), (Nat.le_of_ble_eq_true rfl)⟩) (h_preV hE hM hS ho2 (r := ("BuckTables", Tc0, 12)) rfl) rfl rfl hl.1 rfl (lv_room (Nat.le_of_ble_eq_true rfl)) d_La_log_5 ⟨(Nat.le_of_ble_eq_true rfl), (Nat.le_of_ble_eq_true rfl)⟩) (fun E9 M9 q9 ce9 H locs hwp hM hS hce hcv hcl => ?_) (fun r3 M1 H locs hwp hM hS => ?_)
  · obtain ⟨hp0, hp1, hp2, hor⟩ := hwp
    rcases hor with hE9 | hE9 | hE9
    · subst hE9
      refine x_catch (own := "BuckTablesLaw") (name := "java/lang/IllegalStateException") hown [] ⟨0, 10, 13, 13⟩ [⟨0, 10, 17, 32⟩, ⟨0, 10, 21, 15⟩] (hTab.trans rfl) (fun _ h9 => absurd h9 List.not_mem_nil) (by decide) (by decide) (hts _ kw_338) (z_cast hE.2 (List.mem_append_right _ (List.mem_of_getElem? (i := 350) (by decide +kernel))) _) hce hcv hcl ?_
      replace hwp := hp0 rfl q9
      refine lv_astore (lv' := [(4, .ref q9), (0, .ref p0), (1, .int p1), (2, .int p2), (3, .ref p3)]) hx hb d_La_log_13 hl (by decide) rfl (fun ls hl => ?_)
      refine lv_iconst (v := 1) hx hb d_La_log_15 (by decide) ?_
      exact W.iret (v := (1 : Int32)) hx hb hr (fun t ht hW => ⟨⟨(1 : Int32), M9, rfl, hwp, by show hw D kCl (hTys κ) A M9 t.heap; rw [ht]; exact hM⟩, hS.F ht⟩) hS.2.2 d_La_log_16
    · subst hE9
      refine x_catch (own := "BuckTablesLaw") (name := "java/lang/IndexOutOfBoundsException") hown [⟨0, 10, 13, 13⟩] ⟨0, 10, 17, 32⟩ [⟨0, 10, 21, 15⟩] (hTab.trans rfl) (List.forall_mem_cons.mpr ⟨Or.inr ⟨by decide, "java/lang/IllegalStateException", hts _ kw_338, hNc ("java/lang/IndexOutOfBoundsException", "java/lang/IllegalStateException") (by decide)⟩, fun _ h9 => absurd h9 List.not_mem_nil⟩) (by decide) (by decide) (hts _ kw_485) (z_cast hE.2 (List.mem_append_right _ (List.mem_of_getElem? (i := 496) (by decide +kernel))) _) hce hcv hcl ?_
      replace hwp := hp1 rfl q9
      refine lv_astore (lv' := [(4, .ref q9), (0, .ref p0), (1, .int p1), (2, .int p2), (3, .ref p3)]) hx hb d_La_log_17 hl (by decide) rfl (fun ls hl => ?_)
      refine lv_iconst (v := 2) hx hb d_La_log_19 (by decide) ?_
      exact W.iret (v := (2 : Int32)) hx hb hr (fun t ht hW => ⟨⟨(2 : Int32), M9, rfl, hwp, by show hw D kCl (hTys κ) A M9 t.heap; rw [ht]; exact hM⟩, hS.F ht⟩) hS.2.2 d_La_log_20
    · subst hE9
      refine x_catch (own := "BuckTablesLaw") (name := "java/lang/IllegalArgumentException") hown [⟨0, 10, 13, 13⟩, ⟨0, 10, 17, 32⟩] ⟨0, 10, 21, 15⟩ [] (hTab.trans rfl) (List.forall_mem_cons.mpr ⟨Or.inr ⟨by decide, "java/lang/IllegalStateException", hts _ kw_338, hNc ("java/lang/IllegalArgumentException", "java/lang/IllegalStateException") (by decide)⟩, List.forall_mem_cons.mpr ⟨Or.inr ⟨by decide, "java/lang/IndexOutOfBoundsException", hts _ kw_485, hNc ("java/lang/IllegalArgumentException", "java/lang/IndexOutOfBoundsException") (by decide)⟩, fun _ h9 => absurd h9 List.not_mem_nil⟩⟩) (by decide) (by decide) (hts _ kw_339) (z_cast hE.2 (List.mem_append_right _ (List.mem_of_getElem? (i := 423) (by decide +kernel))) _) hce hcv hcl ?_
      replace hwp := hp2 rfl q9
      refine lv_astore (lv' := [(4, .ref q9), (0, .ref p0), (1, .int p1), (2, .int p2), (3, .ref p3)]) hx hb d_La_log_21 hl (by decide) rfl (fun ls hl => ?_)
      refine lv_iconst (v := 3) hx hb d_La_log_23 (by decide) ?_
      exact W.iret (v := (3 : Int32)) hx hb hr (fun t ht hW => ⟨⟨(3 : Int32), M9, rfl, hwp, by show hw D kCl (hTys κ) A M9 t.heap; rw [ht]; exact hM⟩, hS.F ht⟩) hS.2.2 d_La_log_24
  · refine lv_i2l hx hb d_La_log_8 rfl ?_
    obtain ⟨M8, ⟨n4, f5, ha6, hi7, eM8⟩, hwp⟩ := hwp
    refine h_last hx hb hK hM hS ha6 rfl hi7 d_La_log_9 (fun H locs hM hS => ?_)
    rw [← eM8] at hM
    refine lv_goto (tgt := 25) hx hb d_La_log_10 (by decide) ?_
    refine lv_iconst (v := 0) hx hb d_La_log_25 (by decide) ?_
    exact W.iret (v := (0 : Int32)) hx hb hr (fun t ht hW => ⟨⟨(0 : Int32), M8, rfl, hwp, by show hw D kCl (hTys κ) A M8 t.heap; rw [ht]; exact hM⟩, hS.F ht⟩) hS.2.2 d_La_log_26
set_option maxRecDepth 100000 in
set_option maxHeartbeats 4000000 in
theorem metLa_log (l : Launch) (hst : l.stackTraces = false) (D : va_G) (κ : Nat → ClassId) (sz : Nat) (p0 : Nat) (p1 : Int32) (p2 : Int32) (p3 : Nat) (M : Hp) (post : Int32 → Hp → Prop) (hwp : wpLa_log p0 p1 p2 p3 M post) : Met l y_La_log ws_La_log rm_La_log (hPcN D kCl (hTys κ) M sz [.ref p0, .int p1, .int p2, .ref p3]) (va_Qi post (hB D kCl (hTys κ) (hAx M sz)) (hAx M sz)) 3 18 (hAx M sz) := by
  refine va_MetW (cc := method_15_code) (maxL := 5) (ret := (some .int)) (by decide +kernel) rfl ?_
  intro p e s m args below meth c s₁ B hml hv
  obtain ⟨rfl, hsz, hE, hM0, hN9⟩ := hv
  have hts : ∀ w ∈ WG, w.before _ s = true := fun w h => atoms_spec (ws := ws_La_log) B.pre w (List.mem_cons_of_mem _ h)
  subst hsz
  have C : Cx_La_log p s m _ meth c D κ (hAx M s.heap.size) := ⟨B.exec, B.bytes, hml, B.returns, findClass_of_methodNamed B.named, hts, B.notSynchronized, hE, fun q h => Or.inr h, z_table B (atoms_spec (ws := ws_La_log) B.pre _ List.mem_cons_self), hN9⟩
  have hl := lv_entry ([.ref p0, .int p1, .int p2, .ref p3]) (n := 5) (Nat.le_of_ble_eq_true rfl)
  rw [lg_entry_eq]
  generalize (lg_sl ([.ref p0, .int p1, .int p2, .ref p3]) ++ List.replicate (5 - (lg_sl ([.ref p0, .int p1, .int p2, .ref p3])).length) Slot.unset).toArray = ls at hl ⊢
  exact eLa_log C hst post p0 p1 p2 p3 M hwp s.heap [] ls (hM0.self (sz := s.heap.size)) va_S.rf hl
abbrev rm_La_fuel : Room := { frames := 8, cells := 3, slots := 18, locals := 134 }
def Cx_La_fuel (p : Program) (s : State) (m : MethodId) (args : Array Value) (meth : Method) (c : Code) (D : va_G) (κ : Nat → ClassId) (A : Nat → Prop) : Prop := p.tables.exec = Jvm.exec ∧ c.code = method_16_code ∧ c.maxLocals = 5 ∧ meth.sig.returnType = (some .int) ∧ s.vm.findClass "BuckTablesLaw" = some m.cls ∧ (∀ w ∈ WG, w.before args s = true) ∧ meth.locks = false ∧ hEnv D kCl (hTys κ) A s ∧ (∀ q, s.heap.size ≤ q → A q) ∧ c.exceptionTable.toList = zTab [(0, 10, 13, 13), (0, 10, 17, 32), (0, 10, 21, 15)] ∧ hNC s
def wpLa_fuel (p0 : Nat) (p1 : Int32) (p2 : Int32) (p3 : Nat) (M : Hp) (post : Int32 → Hp → Prop) : Prop := (hob M p0 0 ∧ (wpBT_fuel p0 p1 p2 M (fun (r3 : Int32) (M1 : Hp) => (∃ M8 : Hp, sJ M1 p3 (0 : Int32) (r3.toInt64) M8 ∧ (post (0 : Int32) M8))) (fun (E9 : String) (M9 : Hp) => ((E9 = "java/lang/IllegalStateException" → ∀ q9 : Nat, (post (1 : Int32) M9)) ∧ (E9 = "java/lang/IndexOutOfBoundsException" → ∀ q9 : Nat, (post (2 : Int32) M9)) ∧ (E9 = "java/lang/IllegalArgumentException" → ∀ q9 : Nat, (post (3 : Int32) M9)) ∧ (E9 = "java/lang/IllegalStateException" ∨ E9 = "java/lang/IndexOutOfBoundsException" ∨ E9 = "java/lang/IllegalArgumentException")))))
set_option maxRecDepth 100000 in
set_option maxHeartbeats 4000000 in
theorem eLa_fuel {p : Program} {l : Launch} {e : Env} {s : State} {m : MethodId} {args : Array Value} {below : List Frame} {meth : Method} {c : Code} {D : va_G} {κ : Nat → ClassId} {A : Nat → Prop} (C : Cx_La_fuel p s m args meth c D κ A) (hst : l.stackTraces = false) (post : Int32 → Hp → Prop) (p0 : Nat) (p1 : Int32) (p2 : Int32) (p3 : Nat) (M : Hp) (hwp : wpLa_fuel p0 p1 p2 p3 M post) : Y p l e rm_La_fuel s m args below meth c D kCl (hTys κ) A 5 0 0 (MQ below (va_Qi post (hB D kCl (hTys κ) A) A) args s 3 18 A) M 0 [(0, .ref p0), (1, .int p1), (2, .int p2), (3, .ref p3)] [] := by
  obtain ⟨hx, hb, hml, hr, hown, hts, hlocks, hE, hA, hTab, hNc⟩ := id C
  have hK := hE.1
  intro H locs ls hM hS hl
  unfold wpLa_fuel at hwp
  refine lv_aload_n hx hb d_La_fuel_0 rfl (lv_at hl 3 rfl) ?_
  refine lv_iconst (v := 0) hx hb d_La_fuel_1 (by decide) ?_
  refine lv_aload_n hx hb d_La_fuel_2 rfl (lv_at hl 0 rfl) ?_
  refine lv_iload_n hx hb d_La_fuel_3 rfl (lv_at hl 1 rfl) ?_
  refine lv_iload_n hx hb d_La_fuel_4 rfl (lv_at hl 2 rfl) ?_
  obtain ⟨ho2, hwp⟩ := hwp
  refine h_xcalli hM hS hA (x_runV (As := [.int p1, .int p2]) (rest := [.int (0 : Int32), .ref p3]) ⟨hx, hb, hml, hown, hts⟩ (metBT_fuel l hst D κ H.size p0 p1 p2 M _ _ hwp) (cwV 2 hts (gV kw_657 kw_658 kw_659 kw_1 kw_660) rfl rfl rfl (by decide +kernel) ⟨(Nat.le_of_ble_eq_true rfl), (Nat.le_of_ble_eq_true rfl)⟩) (h_preV hE hM hS ho2 (r := ("BuckTables", Tc0, 12)) rfl) rfl rfl hl.1 rfl (lv_room (Nat.le_of_ble_eq_true rfl)) d_La_fuel_5 ⟨(Nat.le_of_ble_eq_true rfl), (Nat.le_of_ble_eq_true rfl)⟩) (fun E9 M9 q9 ce9 H locs hwp hM hS hce hcv hcl => ?_) (fun r3 M1 H locs hwp hM hS => ?_)
  · obtain ⟨hp0, hp1, hp2, hor⟩ := hwp
    rcases hor with hE9 | hE9 | hE9
    · subst hE9
      refine x_catch (own := "BuckTablesLaw") (name := "java/lang/IllegalStateException") hown [] ⟨0, 10, 13, 13⟩ [⟨0, 10, 17, 32⟩, ⟨0, 10, 21, 15⟩] (hTab.trans rfl) (fun _ h9 => absurd h9 List.not_mem_nil) (by decide) (by decide) (hts _ kw_338) (z_cast hE.2 (List.mem_append_right _ (List.mem_of_getElem? (i := 350) (by decide +kernel))) _) hce hcv hcl ?_
      replace hwp := hp0 rfl q9
      refine lv_astore (lv' := [(4, .ref q9), (0, .ref p0), (1, .int p1), (2, .int p2), (3, .ref p3)]) hx hb d_La_fuel_13 hl (by decide) rfl (fun ls hl => ?_)
      refine lv_iconst (v := 1) hx hb d_La_fuel_15 (by decide) ?_
      exact W.iret (v := (1 : Int32)) hx hb hr (fun t ht hW => ⟨⟨(1 : Int32), M9, rfl, hwp, by show hw D kCl (hTys κ) A M9 t.heap; rw [ht]; exact hM⟩, hS.F ht⟩) hS.2.2 d_La_fuel_16
    · subst hE9
      refine x_catch (own := "BuckTablesLaw") (name := "java/lang/IndexOutOfBoundsException") hown [⟨0, 10, 13, 13⟩] ⟨0, 10, 17, 32⟩ [⟨0, 10, 21, 15⟩] (hTab.trans rfl) (List.forall_mem_cons.mpr ⟨Or.inr ⟨by decide, "java/lang/IllegalStateException", hts _ kw_338, hNc ("java/lang/IndexOutOfBoundsException", "java/lang/IllegalStateException") (by decide)⟩, fun _ h9 => absurd h9 List.not_mem_nil⟩) (by decide) (by decide) (hts _ kw_485) (z_cast hE.2 (List.mem_append_right _ (List.mem_of_getElem? (i := 496) (by decide +kernel))) _) hce hcv hcl ?_
      replace hwp := hp1 rfl q9
      refine lv_astore (lv' := [(4, .ref q9), (0, .ref p0), (1, .int p1), (2, .int p2), (3, .ref p3)]) hx hb d_La_fuel_17 hl (by decide) rfl (fun ls hl => ?_)
      refine lv_iconst (v := 2) hx hb d_La_fuel_19 (by decide) ?_
      exact W.iret (v := (2 : Int32)) hx hb hr (fun t ht hW => ⟨⟨(2 : Int32), M9, rfl, hwp, by show hw D kCl (hTys κ) A M9 t.heap; rw [ht]; exact hM⟩, hS.F ht⟩) hS.2.2 d_La_fuel_20
    · subst hE9
      refine x_catch (own := "BuckTablesLaw") (name := "java/lang/IllegalArgumentException") hown [⟨0, 10, 13, 13⟩, ⟨0, 10, 17, 32⟩] ⟨0, 10, 21, 15⟩ [] (hTab.trans rfl) (List.forall_mem_cons.mpr ⟨Or.inr ⟨by decide, "java/lang/IllegalStateException", hts _ kw_338, hNc ("java/lang/IllegalArgumentException", "java/lang/IllegalStateException") (by decide)⟩, List.forall_mem_cons.mpr ⟨Or.inr ⟨by decide, "java/lang/IndexOutOfBoundsException", hts _ kw_485, hNc ("java/lang/IllegalArgumentException", "java/lang/IndexOutOfBoundsException") (by decide)⟩, fun _ h9 => absurd h9 List.not_mem_nil⟩⟩) (by decide) (by decide) (hts _ kw_339) (z_cast hE.2 (List.mem_append_right _ (List.mem_of_getElem? (i := 423) (by decide +kernel))) _) hce hcv hcl ?_
      replace hwp := hp2 rfl q9
      refine lv_astore (lv' := [(4, .ref q9), (0, .ref p0), (1, .int p1), (2, .int p2), (3, .ref p3)]) hx hb d_La_fuel_21 hl (by decide) rfl (fun ls hl => ?_)
      refine lv_iconst (v := 3) hx hb d_La_fuel_23 (by decide) ?_
      exact W.iret (v := (3 : Int32)) hx hb hr (fun t ht hW => ⟨⟨(3 : Int32), M9, rfl, hwp, by show hw D kCl (hTys κ) A M9 t.heap; rw [ht]; exact hM⟩, hS.F ht⟩) hS.2.2 d_La_fuel_24
  · refine lv_i2l hx hb d_La_fuel_8 rfl ?_
    obtain ⟨M8, ⟨n4, f5, ha6, hi7, eM8⟩, hwp⟩ := hwp
    refine h_last hx hb hK hM hS ha6 rfl hi7 d_La_fuel_9 (fun H locs hM hS => ?_)
    rw [← eM8] at hM
    refine lv_goto (tgt := 25) hx hb d_La_fuel_10 (by decide) ?_
    refine lv_iconst (v := 0) hx hb d_La_fuel_25 (by decide) ?_
    exact W.iret (v := (0 : Int32)) hx hb hr (fun t ht hW => ⟨⟨(0 : Int32), M8, rfl, hwp, by show hw D kCl (hTys κ) A M8 t.heap; rw [ht]; exact hM⟩, hS.F ht⟩) hS.2.2 d_La_fuel_26
set_option maxRecDepth 100000 in
set_option maxHeartbeats 4000000 in
theorem metLa_fuel (l : Launch) (hst : l.stackTraces = false) (D : va_G) (κ : Nat → ClassId) (sz : Nat) (p0 : Nat) (p1 : Int32) (p2 : Int32) (p3 : Nat) (M : Hp) (post : Int32 → Hp → Prop) (hwp : wpLa_fuel p0 p1 p2 p3 M post) : Met l y_La_fuel ws_La_fuel rm_La_fuel (hPcN D kCl (hTys κ) M sz [.ref p0, .int p1, .int p2, .ref p3]) (va_Qi post (hB D kCl (hTys κ) (hAx M sz)) (hAx M sz)) 3 18 (hAx M sz) := by
  refine va_MetW (cc := method_16_code) (maxL := 5) (ret := (some .int)) (by decide +kernel) rfl ?_
  intro p e s m args below meth c s₁ B hml hv
  obtain ⟨rfl, hsz, hE, hM0, hN9⟩ := hv
  have hts : ∀ w ∈ WG, w.before _ s = true := fun w h => atoms_spec (ws := ws_La_fuel) B.pre w (List.mem_cons_of_mem _ h)
  subst hsz
  have C : Cx_La_fuel p s m _ meth c D κ (hAx M s.heap.size) := ⟨B.exec, B.bytes, hml, B.returns, findClass_of_methodNamed B.named, hts, B.notSynchronized, hE, fun q h => Or.inr h, z_table B (atoms_spec (ws := ws_La_fuel) B.pre _ List.mem_cons_self), hN9⟩
  have hl := lv_entry ([.ref p0, .int p1, .int p2, .ref p3]) (n := 5) (Nat.le_of_ble_eq_true rfl)
  rw [lg_entry_eq]
  generalize (lg_sl ([.ref p0, .int p1, .int p2, .ref p3]) ++ List.replicate (5 - (lg_sl ([.ref p0, .int p1, .int p2, .ref p3])).length) Slot.unset).toArray = ls at hl ⊢
  exact eLa_fuel C hst post p0 p1 p2 p3 M hwp s.heap [] ls (hM0.self (sz := s.heap.size)) va_S.rf hl
abbrev rm_La_bound : Room := { frames := 8, cells := 1, slots := 6, locals := 130 }
def Cx_La_bound (p : Program) (s : State) (m : MethodId) (args : Array Value) (meth : Method) (c : Code) (D : va_G) (κ : Nat → ClassId) (A : Nat → Prop) : Prop := p.tables.exec = Jvm.exec ∧ c.code = method_17_code ∧ c.maxLocals = 3 ∧ meth.sig.returnType = (some .int) ∧ s.vm.findClass "BuckTablesLaw" = some m.cls ∧ (∀ w ∈ WG, w.before args s = true) ∧ meth.locks = false ∧ hEnv D kCl (hTys κ) A s ∧ (∀ q, s.heap.size ≤ q → A q) ∧ c.exceptionTable.toList = zTab [(0, 7, 10, 13)] ∧ hNC s
def wpLa_bound (p0 : Nat) (p1 : Nat) (M : Hp) (post : Int32 → Hp → Prop) : Prop := (hob M p0 0 ∧ (wpBT_bound p0 M (fun (r3 : Int64) (M1 : Hp) => (∃ M8 : Hp, sJ M1 p1 (0 : Int32) r3 M8 ∧ (post (0 : Int32) M8))) (fun (E9 : String) (M9 : Hp) => ((E9 = "java/lang/IllegalStateException" → ∀ q9 : Nat, (post (1 : Int32) M9)) ∧ (E9 = "java/lang/IllegalStateException")))))
set_option maxRecDepth 100000 in
set_option maxHeartbeats 4000000 in
theorem eLa_bound {p : Program} {l : Launch} {e : Env} {s : State} {m : MethodId} {args : Array Value} {below : List Frame} {meth : Method} {c : Code} {D : va_G} {κ : Nat → ClassId} {A : Nat → Prop} (C : Cx_La_bound p s m args meth c D κ A) (hst : l.stackTraces = false) (post : Int32 → Hp → Prop) (p0 : Nat) (p1 : Nat) (M : Hp) (hwp : wpLa_bound p0 p1 M post) : Y p l e rm_La_bound s m args below meth c D kCl (hTys κ) A 3 0 0 (MQ below (va_Qi post (hB D kCl (hTys κ) A) A) args s 1 6 A) M 0 [(0, .ref p0), (1, .ref p1)] [] := by
  obtain ⟨hx, hb, hml, hr, hown, hts, hlocks, hE, hA, hTab, hNc⟩ := id C
  have hK := hE.1
  intro H locs ls hM hS hl
  unfold wpLa_bound at hwp
  refine lv_aload_n hx hb d_La_bound_0 rfl (lv_at hl 1 rfl) ?_
  refine lv_iconst (v := 0) hx hb d_La_bound_1 (by decide) ?_
  refine lv_aload_n hx hb d_La_bound_2 rfl (lv_at hl 0 rfl) ?_
  obtain ⟨ho2, hwp⟩ := hwp
  refine h_xcalll hM hS hA (x_runV (As := []) (rest := [.int (0 : Int32), .ref p1]) ⟨hx, hb, hml, hown, hts⟩ (metBT_bound l hst D κ H.size p0 M _ _ hwp) (cwV 0 hts (gV kw_684 kw_685 kw_686 kw_1 kw_687) rfl rfl rfl (by decide +kernel) ⟨(Nat.le_of_ble_eq_true rfl), (Nat.le_of_ble_eq_true rfl)⟩) (h_preV hE hM hS ho2 (r := ("BuckTables", Tc0, 12)) rfl) rfl rfl hl.1 rfl (lv_room (Nat.le_of_ble_eq_true rfl)) d_La_bound_3 ⟨(Nat.le_of_ble_eq_true rfl), (Nat.le_of_ble_eq_true rfl)⟩) (fun E9 M9 q9 ce9 H locs hwp hM hS hce hcv hcl => ?_) (fun r3 M1 H locs hwp hM hS => ?_)
  · obtain ⟨hp0, hor⟩ := hwp
    have hE9 := hor
    subst hE9
    refine x_catch (own := "BuckTablesLaw") (name := "java/lang/IllegalStateException") hown [] ⟨0, 7, 10, 13⟩ [] (hTab.trans rfl) (fun _ h9 => absurd h9 List.not_mem_nil) (by decide) (by decide) (hts _ kw_338) (z_cast hE.2 (List.mem_append_right _ (List.mem_of_getElem? (i := 350) (by decide +kernel))) _) hce hcv hcl ?_
    replace hwp := hp0 rfl q9
    refine lv_astore_n (lv' := [(2, .ref q9), (0, .ref p0), (1, .ref p1)]) hx hb d_La_bound_10 rfl hl (by decide) rfl (fun ls hl => ?_)
    refine lv_iconst (v := 1) hx hb d_La_bound_11 (by decide) ?_
    exact W.iret (v := (1 : Int32)) hx hb hr (fun t ht hW => ⟨⟨(1 : Int32), M9, rfl, hwp, by show hw D kCl (hTys κ) A M9 t.heap; rw [ht]; exact hM⟩, hS.F ht⟩) hS.2.2 d_La_bound_12
  · obtain ⟨M8, ⟨n4, f5, ha6, hi7, eM8⟩, hwp⟩ := hwp
    refine h_last hx hb hK hM hS ha6 rfl hi7 d_La_bound_6 (fun H locs hM hS => ?_)
    rw [← eM8] at hM
    refine lv_goto (tgt := 13) hx hb d_La_bound_7 (by decide) ?_
    refine lv_iconst (v := 0) hx hb d_La_bound_13 (by decide) ?_
    exact W.iret (v := (0 : Int32)) hx hb hr (fun t ht hW => ⟨⟨(0 : Int32), M8, rfl, hwp, by show hw D kCl (hTys κ) A M8 t.heap; rw [ht]; exact hM⟩, hS.F ht⟩) hS.2.2 d_La_bound_14
set_option maxRecDepth 100000 in
set_option maxHeartbeats 4000000 in
theorem metLa_bound (l : Launch) (hst : l.stackTraces = false) (D : va_G) (κ : Nat → ClassId) (sz : Nat) (p0 : Nat) (p1 : Nat) (M : Hp) (post : Int32 → Hp → Prop) (hwp : wpLa_bound p0 p1 M post) : Met l y_La_bound ws_La_bound rm_La_bound (hPcN D kCl (hTys κ) M sz [.ref p0, .ref p1]) (va_Qi post (hB D kCl (hTys κ) (hAx M sz)) (hAx M sz)) 1 6 (hAx M sz) := by
  refine va_MetW (cc := method_17_code) (maxL := 3) (ret := (some .int)) (by decide +kernel) rfl ?_
  intro p e s m args below meth c s₁ B hml hv
  obtain ⟨rfl, hsz, hE, hM0, hN9⟩ := hv
  have hts : ∀ w ∈ WG, w.before _ s = true := fun w h => atoms_spec (ws := ws_La_bound) B.pre w (List.mem_cons_of_mem _ h)
  subst hsz
  have C : Cx_La_bound p s m _ meth c D κ (hAx M s.heap.size) := ⟨B.exec, B.bytes, hml, B.returns, findClass_of_methodNamed B.named, hts, B.notSynchronized, hE, fun q h => Or.inr h, z_table B (atoms_spec (ws := ws_La_bound) B.pre _ List.mem_cons_self), hN9⟩
  have hl := lv_entry ([.ref p0, .ref p1]) (n := 3) (Nat.le_of_ble_eq_true rfl)
  rw [lg_entry_eq]
  generalize (lg_sl ([.ref p0, .ref p1]) ++ List.replicate (3 - (lg_sl ([.ref p0, .ref p1])).length) Slot.unset).toArray = ls at hl ⊢
  exact eLa_bound C hst post p0 p1 M hwp s.heap [] ls (hM0.self (sz := s.heap.size)) va_S.rf hl
abbrev rm_La_price : Room := { frames := 8, cells := 3, slots := 18, locals := 134 }
def Cx_La_price (p : Program) (s : State) (m : MethodId) (args : Array Value) (meth : Method) (c : Code) (D : va_G) (κ : Nat → ClassId) (A : Nat → Prop) : Prop := p.tables.exec = Jvm.exec ∧ c.code = method_18_code ∧ c.maxLocals = 5 ∧ meth.sig.returnType = (some .int) ∧ s.vm.findClass "BuckTablesLaw" = some m.cls ∧ (∀ w ∈ WG, w.before args s = true) ∧ meth.locks = false ∧ hEnv D kCl (hTys κ) A s ∧ (∀ q, s.heap.size ≤ q → A q) ∧ c.exceptionTable.toList = zTab [(0, 9, 12, 13), (0, 9, 16, 32)] ∧ hNC s
def wpLa_price (p0 : Nat) (p1 : Int32) (p2 : Int32) (p3 : Nat) (M : Hp) (post : Int32 → Hp → Prop) : Prop := (hob M p0 0 ∧ (wpBT_price p0 p1 p2 M (fun (r3 : Int64) (M1 : Hp) => (∃ M8 : Hp, sJ M1 p3 (0 : Int32) r3 M8 ∧ (post (0 : Int32) M8))) (fun (E9 : String) (M9 : Hp) => ((E9 = "java/lang/IllegalStateException" → ∀ q9 : Nat, (post (1 : Int32) M9)) ∧ (E9 = "java/lang/IndexOutOfBoundsException" → ∀ q9 : Nat, (post (2 : Int32) M9)) ∧ (E9 = "java/lang/IllegalStateException" ∨ E9 = "java/lang/IndexOutOfBoundsException")))))
set_option maxRecDepth 100000 in
set_option maxHeartbeats 4000000 in
theorem eLa_price {p : Program} {l : Launch} {e : Env} {s : State} {m : MethodId} {args : Array Value} {below : List Frame} {meth : Method} {c : Code} {D : va_G} {κ : Nat → ClassId} {A : Nat → Prop} (C : Cx_La_price p s m args meth c D κ A) (hst : l.stackTraces = false) (post : Int32 → Hp → Prop) (p0 : Nat) (p1 : Int32) (p2 : Int32) (p3 : Nat) (M : Hp) (hwp : wpLa_price p0 p1 p2 p3 M post) : Y p l e rm_La_price s m args below meth c D kCl (hTys κ) A 5 0 0 (MQ below (va_Qi post (hB D kCl (hTys κ) A) A) args s 3 18 A) M 0 [(0, .ref p0), (1, .int p1), (2, .int p2), (3, .ref p3)] [] := by
  obtain ⟨hx, hb, hml, hr, hown, hts, hlocks, hE, hA, hTab, hNc⟩ := id C
  have hK := hE.1
  intro H locs ls hM hS hl
  unfold wpLa_price at hwp
  refine lv_aload_n hx hb d_La_price_0 rfl (lv_at hl 3 rfl) ?_
  refine lv_iconst (v := 0) hx hb d_La_price_1 (by decide) ?_
  refine lv_aload_n hx hb d_La_price_2 rfl (lv_at hl 0 rfl) ?_
  refine lv_iload_n hx hb d_La_price_3 rfl (lv_at hl 1 rfl) ?_
  refine lv_iload_n hx hb d_La_price_4 rfl (lv_at hl 2 rfl) ?_
  obtain ⟨ho2, hwp⟩ := hwp
  refine h_xcalll hM hS hA (x_runV (As := [.int p1, .int p2]) (rest := [.int (0 : Int32), .ref p3]) ⟨hx, hb, hml, hown, hts⟩ (metBT_price l hst D κ H.size p0 p1 p2 M _ _ hwp) (cwV 2 hts (gV kw_691 kw_692 kw_693 kw_1 kw_694) rfl rfl rfl (by decide +kernel) ⟨(Nat.le_of_ble_eq_true rfl), (Nat.le_of_ble_eq_true rfl)⟩) (h_preV hE hM hS ho2 (r := ("BuckTables", Tc0, 12)) rfl) rfl rfl hl.1 rfl (lv_room (Nat.le_of_ble_eq_true rfl)) d_La_price_5 ⟨(Nat.le_of_ble_eq_true rfl), (Nat.le_of_ble_eq_true rfl)⟩) (fun E9 M9 q9 ce9 H locs hwp hM hS hce hcv hcl => ?_) (fun r3 M1 H locs hwp hM hS => ?_)
  · obtain ⟨hp0, hp1, hor⟩ := hwp
    rcases hor with hE9 | hE9
    · subst hE9
      refine x_catch (own := "BuckTablesLaw") (name := "java/lang/IllegalStateException") hown [] ⟨0, 9, 12, 13⟩ [⟨0, 9, 16, 32⟩] (hTab.trans rfl) (fun _ h9 => absurd h9 List.not_mem_nil) (by decide) (by decide) (hts _ kw_338) (z_cast hE.2 (List.mem_append_right _ (List.mem_of_getElem? (i := 350) (by decide +kernel))) _) hce hcv hcl ?_
      replace hwp := hp0 rfl q9
      refine lv_astore (lv' := [(4, .ref q9), (0, .ref p0), (1, .int p1), (2, .int p2), (3, .ref p3)]) hx hb d_La_price_12 hl (by decide) rfl (fun ls hl => ?_)
      refine lv_iconst (v := 1) hx hb d_La_price_14 (by decide) ?_
      exact W.iret (v := (1 : Int32)) hx hb hr (fun t ht hW => ⟨⟨(1 : Int32), M9, rfl, hwp, by show hw D kCl (hTys κ) A M9 t.heap; rw [ht]; exact hM⟩, hS.F ht⟩) hS.2.2 d_La_price_15
    · subst hE9
      refine x_catch (own := "BuckTablesLaw") (name := "java/lang/IndexOutOfBoundsException") hown [⟨0, 9, 12, 13⟩] ⟨0, 9, 16, 32⟩ [] (hTab.trans rfl) (List.forall_mem_cons.mpr ⟨Or.inr ⟨by decide, "java/lang/IllegalStateException", hts _ kw_338, hNc ("java/lang/IndexOutOfBoundsException", "java/lang/IllegalStateException") (by decide)⟩, fun _ h9 => absurd h9 List.not_mem_nil⟩) (by decide) (by decide) (hts _ kw_485) (z_cast hE.2 (List.mem_append_right _ (List.mem_of_getElem? (i := 496) (by decide +kernel))) _) hce hcv hcl ?_
      replace hwp := hp1 rfl q9
      refine lv_astore (lv' := [(4, .ref q9), (0, .ref p0), (1, .int p1), (2, .int p2), (3, .ref p3)]) hx hb d_La_price_16 hl (by decide) rfl (fun ls hl => ?_)
      refine lv_iconst (v := 2) hx hb d_La_price_18 (by decide) ?_
      exact W.iret (v := (2 : Int32)) hx hb hr (fun t ht hW => ⟨⟨(2 : Int32), M9, rfl, hwp, by show hw D kCl (hTys κ) A M9 t.heap; rw [ht]; exact hM⟩, hS.F ht⟩) hS.2.2 d_La_price_19
  · obtain ⟨M8, ⟨n4, f5, ha6, hi7, eM8⟩, hwp⟩ := hwp
    refine h_last hx hb hK hM hS ha6 rfl hi7 d_La_price_8 (fun H locs hM hS => ?_)
    rw [← eM8] at hM
    refine lv_goto (tgt := 20) hx hb d_La_price_9 (by decide) ?_
    refine lv_iconst (v := 0) hx hb d_La_price_20 (by decide) ?_
    exact W.iret (v := (0 : Int32)) hx hb hr (fun t ht hW => ⟨⟨(0 : Int32), M8, rfl, hwp, by show hw D kCl (hTys κ) A M8 t.heap; rw [ht]; exact hM⟩, hS.F ht⟩) hS.2.2 d_La_price_21
set_option maxRecDepth 100000 in
set_option maxHeartbeats 4000000 in
theorem metLa_price (l : Launch) (hst : l.stackTraces = false) (D : va_G) (κ : Nat → ClassId) (sz : Nat) (p0 : Nat) (p1 : Int32) (p2 : Int32) (p3 : Nat) (M : Hp) (post : Int32 → Hp → Prop) (hwp : wpLa_price p0 p1 p2 p3 M post) : Met l y_La_price ws_La_price rm_La_price (hPcN D kCl (hTys κ) M sz [.ref p0, .int p1, .int p2, .ref p3]) (va_Qi post (hB D kCl (hTys κ) (hAx M sz)) (hAx M sz)) 3 18 (hAx M sz) := by
  refine va_MetW (cc := method_18_code) (maxL := 5) (ret := (some .int)) (by decide +kernel) rfl ?_
  intro p e s m args below meth c s₁ B hml hv
  obtain ⟨rfl, hsz, hE, hM0, hN9⟩ := hv
  have hts : ∀ w ∈ WG, w.before _ s = true := fun w h => atoms_spec (ws := ws_La_price) B.pre w (List.mem_cons_of_mem _ h)
  subst hsz
  have C : Cx_La_price p s m _ meth c D κ (hAx M s.heap.size) := ⟨B.exec, B.bytes, hml, B.returns, findClass_of_methodNamed B.named, hts, B.notSynchronized, hE, fun q h => Or.inr h, z_table B (atoms_spec (ws := ws_La_price) B.pre _ List.mem_cons_self), hN9⟩
  have hl := lv_entry ([.ref p0, .int p1, .int p2, .ref p3]) (n := 5) (Nat.le_of_ble_eq_true rfl)
  rw [lg_entry_eq]
  generalize (lg_sl ([.ref p0, .int p1, .int p2, .ref p3]) ++ List.replicate (5 - (lg_sl ([.ref p0, .int p1, .int p2, .ref p3])).length) Slot.unset).toArray = ls at hl ⊢
  exact eLa_price C hst post p0 p1 p2 p3 M hwp s.heap [] ls (hM0.self (sz := s.heap.size)) va_S.rf hl
abbrev rm_La_override : Room := { frames := 8, cells := 2, slots := 12, locals := 196 }
def Cx_La_override (p : Program) (s : State) (m : MethodId) (args : Array Value) (meth : Method) (c : Code) (D : va_G) (κ : Nat → ClassId) (A : Nat → Prop) : Prop := p.tables.exec = Jvm.exec ∧ c.code = method_19_code ∧ c.maxLocals = 4 ∧ meth.sig.returnType = (some .int) ∧ s.vm.findClass "BuckTablesLaw" = some m.cls ∧ (∀ w ∈ WG, w.before args s = true) ∧ meth.locks = false ∧ hEnv D kCl (hTys κ) A s ∧ (∀ q, s.heap.size ≤ q → A q) ∧ c.exceptionTable.toList = zTab [(0, 9, 12, 13), (0, 9, 15, 15)] ∧ hNC s
def wpLa_override (p0 : Nat) (p1 : Int32) (p2 : Nat) (M : Hp) (post : Int32 → Hp → Prop) : Prop := (hob M p0 0 ∧ (wpBT_override p0 p1 M (fun (r3 : Int32) (M1 : Hp) => (∃ M8 : Hp, sJ M1 p2 (0 : Int32) (r3.toInt64) M8 ∧ (post (0 : Int32) M8))) (fun (E9 : String) (M9 : Hp) => ((E9 = "java/lang/IllegalStateException" → ∀ q9 : Nat, (post (1 : Int32) M9)) ∧ (E9 = "java/lang/IllegalArgumentException" → ∀ q9 : Nat, (post (2 : Int32) M9)) ∧ (E9 = "java/lang/IllegalStateException" ∨ E9 = "java/lang/IllegalArgumentException")))))
set_option maxRecDepth 100000 in
set_option maxHeartbeats 4000000 in
theorem eLa_override {p : Program} {l : Launch} {e : Env} {s : State} {m : MethodId} {args : Array Value} {below : List Frame} {meth : Method} {c : Code} {D : va_G} {κ : Nat → ClassId} {A : Nat → Prop} (C : Cx_La_override p s m args meth c D κ A) (hst : l.stackTraces = false) (post : Int32 → Hp → Prop) (p0 : Nat) (p1 : Int32) (p2 : Nat) (M : Hp) (hwp : wpLa_override p0 p1 p2 M post) : Y p l e rm_La_override s m args below meth c D kCl (hTys κ) A 4 0 0 (MQ below (va_Qi post (hB D kCl (hTys κ) A) A) args s 2 12 A) M 0 [(0, .ref p0), (1, .int p1), (2, .ref p2)] [] := by
  obtain ⟨hx, hb, hml, hr, hown, hts, hlocks, hE, hA, hTab, hNc⟩ := id C
  have hK := hE.1
  intro H locs ls hM hS hl
  unfold wpLa_override at hwp
  refine lv_aload_n hx hb d_La_override_0 rfl (lv_at hl 2 rfl) ?_
  refine lv_iconst (v := 0) hx hb d_La_override_1 (by decide) ?_
  refine lv_aload_n hx hb d_La_override_2 rfl (lv_at hl 0 rfl) ?_
  refine lv_iload_n hx hb d_La_override_3 rfl (lv_at hl 1 rfl) ?_
  obtain ⟨ho2, hwp⟩ := hwp
  refine h_xcalli hM hS hA (x_runV (As := [.int p1]) (rest := [.int (0 : Int32), .ref p2]) ⟨hx, hb, hml, hown, hts⟩ (metBT_override l hst D κ H.size p0 p1 M _ _ hwp) (cwV 1 hts (gV kw_700 kw_701 kw_702 kw_1 kw_703) rfl rfl rfl (by decide +kernel) ⟨(Nat.le_of_ble_eq_true rfl), (Nat.le_of_ble_eq_true rfl)⟩) (h_preV hE hM hS ho2 (r := ("BuckTables", Tc0, 12)) rfl) rfl rfl hl.1 rfl (lv_room (Nat.le_of_ble_eq_true rfl)) d_La_override_4 ⟨(Nat.le_of_ble_eq_true rfl), (Nat.le_of_ble_eq_true rfl)⟩) (fun E9 M9 q9 ce9 H locs hwp hM hS hce hcv hcl => ?_) (fun r3 M1 H locs hwp hM hS => ?_)
  · obtain ⟨hp0, hp1, hor⟩ := hwp
    rcases hor with hE9 | hE9
    · subst hE9
      refine x_catch (own := "BuckTablesLaw") (name := "java/lang/IllegalStateException") hown [] ⟨0, 9, 12, 13⟩ [⟨0, 9, 15, 15⟩] (hTab.trans rfl) (fun _ h9 => absurd h9 List.not_mem_nil) (by decide) (by decide) (hts _ kw_338) (z_cast hE.2 (List.mem_append_right _ (List.mem_of_getElem? (i := 350) (by decide +kernel))) _) hce hcv hcl ?_
      replace hwp := hp0 rfl q9
      refine lv_astore_n (lv' := [(3, .ref q9), (0, .ref p0), (1, .int p1), (2, .ref p2)]) hx hb d_La_override_12 rfl hl (by decide) rfl (fun ls hl => ?_)
      refine lv_iconst (v := 1) hx hb d_La_override_13 (by decide) ?_
      exact W.iret (v := (1 : Int32)) hx hb hr (fun t ht hW => ⟨⟨(1 : Int32), M9, rfl, hwp, by show hw D kCl (hTys κ) A M9 t.heap; rw [ht]; exact hM⟩, hS.F ht⟩) hS.2.2 d_La_override_14
    · subst hE9
      refine x_catch (own := "BuckTablesLaw") (name := "java/lang/IllegalArgumentException") hown [⟨0, 9, 12, 13⟩] ⟨0, 9, 15, 15⟩ [] (hTab.trans rfl) (List.forall_mem_cons.mpr ⟨Or.inr ⟨by decide, "java/lang/IllegalStateException", hts _ kw_338, hNc ("java/lang/IllegalArgumentException", "java/lang/IllegalStateException") (by decide)⟩, fun _ h9 => absurd h9 List.not_mem_nil⟩) (by decide) (by decide) (hts _ kw_339) (z_cast hE.2 (List.mem_append_right _ (List.mem_of_getElem? (i := 423) (by decide +kernel))) _) hce hcv hcl ?_
      replace hwp := hp1 rfl q9
      refine lv_astore_n (lv' := [(3, .ref q9), (0, .ref p0), (1, .int p1), (2, .ref p2)]) hx hb d_La_override_15 rfl hl (by decide) rfl (fun ls hl => ?_)
      refine lv_iconst (v := 2) hx hb d_La_override_16 (by decide) ?_
      exact W.iret (v := (2 : Int32)) hx hb hr (fun t ht hW => ⟨⟨(2 : Int32), M9, rfl, hwp, by show hw D kCl (hTys κ) A M9 t.heap; rw [ht]; exact hM⟩, hS.F ht⟩) hS.2.2 d_La_override_17
  · refine lv_i2l hx hb d_La_override_7 rfl ?_
    obtain ⟨M8, ⟨n4, f5, ha6, hi7, eM8⟩, hwp⟩ := hwp
    refine h_last hx hb hK hM hS ha6 rfl hi7 d_La_override_8 (fun H locs hM hS => ?_)
    rw [← eM8] at hM
    refine lv_goto (tgt := 18) hx hb d_La_override_9 (by decide) ?_
    refine lv_iconst (v := 0) hx hb d_La_override_18 (by decide) ?_
    exact W.iret (v := (0 : Int32)) hx hb hr (fun t ht hW => ⟨⟨(0 : Int32), M8, rfl, hwp, by show hw D kCl (hTys κ) A M8 t.heap; rw [ht]; exact hM⟩, hS.F ht⟩) hS.2.2 d_La_override_19
set_option maxRecDepth 100000 in
set_option maxHeartbeats 4000000 in
theorem metLa_override (l : Launch) (hst : l.stackTraces = false) (D : va_G) (κ : Nat → ClassId) (sz : Nat) (p0 : Nat) (p1 : Int32) (p2 : Nat) (M : Hp) (post : Int32 → Hp → Prop) (hwp : wpLa_override p0 p1 p2 M post) : Met l y_La_override ws_La_override rm_La_override (hPcN D kCl (hTys κ) M sz [.ref p0, .int p1, .ref p2]) (va_Qi post (hB D kCl (hTys κ) (hAx M sz)) (hAx M sz)) 2 12 (hAx M sz) := by
  refine va_MetW (cc := method_19_code) (maxL := 4) (ret := (some .int)) (by decide +kernel) rfl ?_
  intro p e s m args below meth c s₁ B hml hv
  obtain ⟨rfl, hsz, hE, hM0, hN9⟩ := hv
  have hts : ∀ w ∈ WG, w.before _ s = true := fun w h => atoms_spec (ws := ws_La_override) B.pre w (List.mem_cons_of_mem _ h)
  subst hsz
  have C : Cx_La_override p s m _ meth c D κ (hAx M s.heap.size) := ⟨B.exec, B.bytes, hml, B.returns, findClass_of_methodNamed B.named, hts, B.notSynchronized, hE, fun q h => Or.inr h, z_table B (atoms_spec (ws := ws_La_override) B.pre _ List.mem_cons_self), hN9⟩
  have hl := lv_entry ([.ref p0, .int p1, .ref p2]) (n := 4) (Nat.le_of_ble_eq_true rfl)
  rw [lg_entry_eq]
  generalize (lg_sl ([.ref p0, .int p1, .ref p2]) ++ List.replicate (4 - (lg_sl ([.ref p0, .int p1, .ref p2])).length) Slot.unset).toArray = ls at hl ⊢
  exact eLa_override C hst post p0 p1 p2 M hwp s.heap [] ls (hM0.self (sz := s.heap.size)) va_S.rf hl
abbrev rm_La_greatest : Room := { frames := 8, cells := 1, slots := 6, locals := 130 }
def Cx_La_greatest (p : Program) (s : State) (m : MethodId) (args : Array Value) (meth : Method) (c : Code) (D : va_G) (κ : Nat → ClassId) (A : Nat → Prop) : Prop := p.tables.exec = Jvm.exec ∧ c.code = method_20_code ∧ c.maxLocals = 3 ∧ meth.sig.returnType = (some .int) ∧ s.vm.findClass "BuckTablesLaw" = some m.cls ∧ (∀ w ∈ WG, w.before args s = true) ∧ meth.locks = false ∧ hEnv D kCl (hTys κ) A s ∧ (∀ q, s.heap.size ≤ q → A q) ∧ c.exceptionTable.toList = zTab [(0, 15, 18, 13)] ∧ hNC s
def wLa_greatest_14 (post : Int32 → Hp → Prop)   (y0 : Int64) (y1 : Int32) (y2 : Nat) (M : Hp) : Prop := (∃ M5 : Hp, sJ M y2 y1 y0 M5 ∧ (post (0 : Int32) M5))
set_option maxRecDepth 100000 in
set_option maxHeartbeats 4000000 in
theorem tLa_greatest_14 {p : Program} {l : Launch} {e : Env} {s : State} {m : MethodId} {args : Array Value} {below : List Frame} {meth : Method} {c : Code} {D : va_G} {κ : Nat → ClassId} {A : Nat → Prop} (C : Cx_La_greatest p s m args meth c D κ A) (hst : l.stackTraces = false) (post : Int32 → Hp → Prop)   (y0 : Int64) (y1 : Int32) (y2 : Nat) (M : Hp) (hwp : wLa_greatest_14 post y0 y1 y2 M) : Y p l e rm_La_greatest s m args below meth c D kCl (hTys κ) A 3 1 6 (MQ below (va_Qi post (hB D kCl (hTys κ) A) A) args s 1 6 A) M 14 [] [.long y0, .int y1, .ref y2] := by
  obtain ⟨hx, hb, hml, hr, hown, hts, hlocks, hE, hA, hTab, hNc⟩ := id C
  have hK := hE.1
  intro H locs ls hM hS hl
  unfold wLa_greatest_14 at hwp
  obtain ⟨M5, ⟨n1, f2, ha3, hi4, eM5⟩, hwp⟩ := hwp
  refine h_last hx hb hK hM hS ha3 rfl hi4 d_La_greatest_14 (fun H locs hM hS => ?_)
  rw [← eM5] at hM
  refine lv_goto (tgt := 21) hx hb d_La_greatest_15 (by decide) ?_
  refine lv_iconst (v := 0) hx hb d_La_greatest_21 (by decide) ?_
  exact W.iret (v := (0 : Int32)) hx hb hr (fun t ht hW => ⟨⟨(0 : Int32), M5, rfl, hwp, by show hw D kCl (hTys κ) A M5 t.heap; rw [ht]; exact hM⟩, hS.F ht⟩) hS.2.2 d_La_greatest_22
def wpLa_greatest (p0 : Nat) (p1 : Nat) (M : Hp) (post : Int32 → Hp → Prop) : Prop := (hob M p0 0 ∧ (wpBT_greatest p0 M (fun (r8 : Int32) (M6 : Hp) => ((r8 = 0 → (wLa_greatest_14 post (0 : Int64) (0 : Int32) p1 M6)) ∧ (¬ r8 = 0 → (wLa_greatest_14 post (1 : Int64) (0 : Int32) p1 M6)))) (fun (E9 : String) (M9 : Hp) => ((E9 = "java/lang/IllegalStateException" → ∀ q9 : Nat, (post (1 : Int32) M9)) ∧ (E9 = "java/lang/IllegalStateException")))))
set_option maxRecDepth 100000 in
set_option maxHeartbeats 4000000 in
theorem eLa_greatest {p : Program} {l : Launch} {e : Env} {s : State} {m : MethodId} {args : Array Value} {below : List Frame} {meth : Method} {c : Code} {D : va_G} {κ : Nat → ClassId} {A : Nat → Prop} (C : Cx_La_greatest p s m args meth c D κ A) (hst : l.stackTraces = false) (post : Int32 → Hp → Prop) (p0 : Nat) (p1 : Nat) (M : Hp) (hwp : wpLa_greatest p0 p1 M post) : Y p l e rm_La_greatest s m args below meth c D kCl (hTys κ) A 3 0 0 (MQ below (va_Qi post (hB D kCl (hTys κ) A) A) args s 1 6 A) M 0 [(0, .ref p0), (1, .ref p1)] [] := by
  obtain ⟨hx, hb, hml, hr, hown, hts, hlocks, hE, hA, hTab, hNc⟩ := id C
  have hK := hE.1
  intro H locs ls hM hS hl
  unfold wpLa_greatest at hwp
  refine lv_aload_n hx hb d_La_greatest_0 rfl (lv_at hl 1 rfl) ?_
  refine lv_iconst (v := 0) hx hb d_La_greatest_1 (by decide) ?_
  refine lv_aload_n hx hb d_La_greatest_2 rfl (lv_at hl 0 rfl) ?_
  obtain ⟨ho7, hwp⟩ := hwp
  refine h_xcalli hM hS hA (x_runV (As := []) (rest := [.int (0 : Int32), .ref p1]) ⟨hx, hb, hml, hown, hts⟩ (metBT_greatest l hst D κ H.size p0 M _ _ hwp) (cwV 0 hts (gV kw_708 kw_709 kw_710 kw_1 kw_711) rfl rfl rfl (by decide +kernel) ⟨(Nat.le_of_ble_eq_true rfl), (Nat.le_of_ble_eq_true rfl)⟩) (h_preV hE hM hS ho7 (r := ("BuckTables", Tc0, 12)) rfl) rfl rfl hl.1 rfl (lv_room (Nat.le_of_ble_eq_true rfl)) d_La_greatest_3 ⟨(Nat.le_of_ble_eq_true rfl), (Nat.le_of_ble_eq_true rfl)⟩) (fun E9 M9 q9 ce9 H locs hwp hM hS hce hcv hcl => ?_) (fun r8 M6 H locs hwp hM hS => ?_)
  · obtain ⟨hp0, hor⟩ := hwp
    have hE9 := hor
    subst hE9
    refine x_catch (own := "BuckTablesLaw") (name := "java/lang/IllegalStateException") hown [] ⟨0, 15, 18, 13⟩ [] (hTab.trans rfl) (fun _ h9 => absurd h9 List.not_mem_nil) (by decide) (by decide) (hts _ kw_338) (z_cast hE.2 (List.mem_append_right _ (List.mem_of_getElem? (i := 350) (by decide +kernel))) _) hce hcv hcl ?_
    replace hwp := hp0 rfl q9
    refine lv_astore_n (lv' := [(2, .ref q9), (0, .ref p0), (1, .ref p1)]) hx hb d_La_greatest_18 rfl hl (by decide) rfl (fun ls hl => ?_)
    refine lv_iconst (v := 1) hx hb d_La_greatest_19 (by decide) ?_
    exact W.iret (v := (1 : Int32)) hx hb hr (fun t ht hW => ⟨⟨(1 : Int32), M9, rfl, hwp, by show hw D kCl (hTys κ) A M9 t.heap; rw [ht]; exact hM⟩, hS.F ht⟩) hS.2.2 d_La_greatest_20
  · refine lv_if_eq (tgt := 13) hx hb d_La_greatest_6 (by decide) (fun c9 => ?_) (fun c9 => ?_)
    · replace hwp := hwp.1 c9
      refine lv_lconst (v := 0) hx hb d_La_greatest_13 (by decide) ?_
      exact tLa_greatest_14 C hst post (0 : Int64) (0 : Int32) p1 M6 hwp H locs ls hM hS (lv_sub hl [] rfl)
    · replace hwp := hwp.2 c9
      refine lv_lconst (v := 1) hx hb d_La_greatest_9 (by decide) ?_
      refine lv_goto (tgt := 14) hx hb d_La_greatest_10 (by decide) ?_
      exact tLa_greatest_14 C hst post (1 : Int64) (0 : Int32) p1 M6 hwp H locs ls hM hS (lv_sub hl [] rfl)
set_option maxRecDepth 100000 in
set_option maxHeartbeats 4000000 in
theorem metLa_greatest (l : Launch) (hst : l.stackTraces = false) (D : va_G) (κ : Nat → ClassId) (sz : Nat) (p0 : Nat) (p1 : Nat) (M : Hp) (post : Int32 → Hp → Prop) (hwp : wpLa_greatest p0 p1 M post) : Met l y_La_greatest ws_La_greatest rm_La_greatest (hPcN D kCl (hTys κ) M sz [.ref p0, .ref p1]) (va_Qi post (hB D kCl (hTys κ) (hAx M sz)) (hAx M sz)) 1 6 (hAx M sz) := by
  refine va_MetW (cc := method_20_code) (maxL := 3) (ret := (some .int)) (by decide +kernel) rfl ?_
  intro p e s m args below meth c s₁ B hml hv
  obtain ⟨rfl, hsz, hE, hM0, hN9⟩ := hv
  have hts : ∀ w ∈ WG, w.before _ s = true := fun w h => atoms_spec (ws := ws_La_greatest) B.pre w (List.mem_cons_of_mem _ h)
  subst hsz
  have C : Cx_La_greatest p s m _ meth c D κ (hAx M s.heap.size) := ⟨B.exec, B.bytes, hml, B.returns, findClass_of_methodNamed B.named, hts, B.notSynchronized, hE, fun q h => Or.inr h, z_table B (atoms_spec (ws := ws_La_greatest) B.pre _ List.mem_cons_self), hN9⟩
  have hl := lv_entry ([.ref p0, .ref p1]) (n := 3) (Nat.le_of_ble_eq_true rfl)
  rw [lg_entry_eq]
  generalize (lg_sl ([.ref p0, .ref p1]) ++ List.replicate (3 - (lg_sl ([.ref p0, .ref p1])).length) Slot.unset).toArray = ls at hl ⊢
  exact eLa_greatest C hst post p0 p1 M hwp s.heap [] ls (hM0.self (sz := s.heap.size)) va_S.rf hl
