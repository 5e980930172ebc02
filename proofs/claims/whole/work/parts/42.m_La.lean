abbrev rm_La_stem : Room := { frames := 7, cells := 1, slots := 6, locals := 114 }
def Cx_La_stem (p : Program) (s : State) (m : MethodId) (args : Array Value) (meth : Method) (c : Code) (D : va_G) (κ : Nat → ClassId) (A : Nat → Prop) : Prop := p.tables.exec = Jvm.exec ∧ c.code = method_3_code ∧ c.maxLocals = 6 ∧ meth.sig.returnType = (some .int) ∧ s.vm.findClass "BuckTablesLaw" = some m.cls ∧ (∀ w ∈ WG, w.before args s = true) ∧ meth.locks = false ∧ hEnv D kCl (hTys κ) A s ∧ (∀ q, s.heap.size ≤ q → A q) ∧ c.exceptionTable.toList = zTab [(0, 19, 22, 13), (0, 19, 26, 15)] ∧ hNC s
def wLa_stem_18 (post : Int32 → Hp → Prop)   (y0 : Int64) (y1 : Int32) (y2 : Nat) (M : Hp) : Prop := (∃ M5 : Hp, sJ M y2 y1 y0 M5 ∧ (post (0 : Int32) M5))
set_option maxRecDepth 100000 in
set_option maxHeartbeats 4000000 in
theorem tLa_stem_18 {p : Program} {l : Launch} {e : Env} {s : State} {m : MethodId} {args : Array Value} {below : List Frame} {meth : Method} {c : Code} {D : va_G} {κ : Nat → ClassId} {A : Nat → Prop} (C : Cx_La_stem p s m args meth c D κ A) (hst : l.stackTraces = false) (post : Int32 → Hp → Prop)   (y0 : Int64) (y1 : Int32) (y2 : Nat) (M : Hp) (hwp : wLa_stem_18 post y0 y1 y2 M) : Y p l e rm_La_stem s m args below meth c D kCl (hTys κ) A 6 1 6 (MQ below (va_Qi post (hB D kCl (hTys κ) A) A) args s 1 6 A) M 18 [] [.long y0, .int y1, .ref y2] := by
  obtain ⟨hx, hb, hml, hr, hown, hts, hlocks, hE, hA, hTab, hNc⟩ := id C
  have hK := hE.1
  intro H locs ls hM hS hl
  unfold wLa_stem_18 at hwp
  obtain ⟨M5, ⟨n1, f2, ha3, hi4, eM5⟩, hwp⟩ := hwp
  refine h_last hx hb hK hM hS ha3 rfl hi4 d_La_stem_18 (fun H locs hM hS => ?_)
  rw [← eM5] at hM
  refine lv_goto (tgt := 30) hx hb d_La_stem_19 (by decide) ?_
  refine lv_iconst (v := 0) hx hb d_La_stem_30 (by decide) ?_
  exact W.iret (v := (0 : Int32)) hx hb hr (fun t ht hW => ⟨⟨(0 : Int32), M5, rfl, hwp, by show hw D kCl (hTys κ) A M5 t.heap; rw [ht]; exact hM⟩, hS.F ht⟩) hS.2.2 d_La_stem_31
def wpLa_stem (p0 : Nat) (p1 : Int32) (p2 : Int32) (p3 : Int32) (p4 : Nat) (M : Hp) (post : Int32 → Hp → Prop) : Prop := (hob M p0 0 ∧ (wpBT_stem p0 p1 p2 p3 M (fun (r8 : Int32) (M6 : Hp) => ((r8 = 0 → (wLa_stem_18 post (0 : Int64) (0 : Int32) p4 M6)) ∧ (¬ r8 = 0 → (wLa_stem_18 post (1 : Int64) (0 : Int32) p4 M6)))) (fun (E9 : String) (M9 : Hp) => ((E9 = "java/lang/IllegalStateException" → ∀ q9 : Nat, (post (1 : Int32) M9)) ∧ (E9 = "java/lang/IllegalArgumentException" → ∀ q9 : Nat, (post (2 : Int32) M9)) ∧ (E9 = "java/lang/IllegalStateException" ∨ E9 = "java/lang/IllegalArgumentException")))))
set_option maxRecDepth 100000 in
set_option maxHeartbeats 4000000 in
theorem eLa_stem {p : Program} {l : Launch} {e : Env} {s : State} {m : MethodId} {args : Array Value} {below : List Frame} {meth : Method} {c : Code} {D : va_G} {κ : Nat → ClassId} {A : Nat → Prop} (C : Cx_La_stem p s m args meth c D κ A) (hst : l.stackTraces = false) (post : Int32 → Hp → Prop) (p0 : Nat) (p1 : Int32) (p2 : Int32) (p3 : Int32) (p4 : Nat) (M : Hp) (hwp : wpLa_stem p0 p1 p2 p3 p4 M post) : Y p l e rm_La_stem s m args below meth c D kCl (hTys κ) A 6 0 0 (MQ below (va_Qi post (hB D kCl (hTys κ) A) A) args s 1 6 A) M 0 [(0, .ref p0), (1, .int p1), (2, .int p2), (3, .int p3), (4, .ref p4)] [] := by
  obtain ⟨hx, hb, hml, hr, hown, hts, hlocks, hE, hA, hTab, hNc⟩ := id C
  have hK := hE.1
  intro H locs ls hM hS hl
  unfold wpLa_stem at hwp
  refine lv_aload hx hb d_La_stem_0 (lv_at hl 4 rfl) ?_
  refine lv_iconst (v := 0) hx hb d_La_stem_2 (by decide) ?_
  refine lv_aload_n hx hb d_La_stem_3 rfl (lv_at hl 0 rfl) ?_
  refine lv_iload_n hx hb d_La_stem_4 rfl (lv_at hl 1 rfl) ?_
  refine lv_iload_n hx hb d_La_stem_5 rfl (lv_at hl 2 rfl) ?_
  refine lv_iload_n hx hb d_La_stem_6 rfl (lv_at hl 3 rfl) ?_
  obtain ⟨ho7, hwp⟩ := hwp
  refine h_xcalli hM hS hA (x_runV (As := [.int p1, .int p2, .int p3]) (rest := [.int (0 : Int32), .ref p4]) ⟨hx, hb, hml, hown, hts⟩ (metBT_stem l hst D κ H.size p0 p1 p2 p3 M _ _ hwp) (cwV 3 hts (gV kw_340 kw_341 kw_342 kw_1 kw_343) rfl rfl rfl (by decide +kernel) ⟨(Nat.le_of_ble_eq_true rfl), (Nat.le_of_ble_eq_true rfl)⟩) (h_preV hE hM hS ho7 (r := ("BuckTables", Tc0, 12)) rfl) rfl rfl hl.1 rfl (lv_room (Nat.le_of_ble_eq_true rfl)) d_La_stem_7 ⟨(Nat.le_of_ble_eq_true rfl), (Nat.le_of_ble_eq_true rfl)⟩) (fun E9 M9 q9 ce9 H locs hwp hM hS hce hcv hcl => ?_) (fun r8 M6 H locs hwp hM hS => ?_)
  · obtain ⟨hp0, hp1, hor⟩ := hwp
    rcases hor with hE9 | hE9
    · subst hE9
      refine x_catch (own := "BuckTablesLaw") (name := "java/lang/IllegalStateException") hown [] ⟨0, 19, 22, 13⟩ [⟨0, 19, 26, 15⟩] (hTab.trans rfl) (fun _ h9 => absurd h9 List.not_mem_nil) (by decide) (by decide) (hts _ kw_338) (z_cast hE.2 (List.mem_append_right _ (List.mem_of_getElem? (i := 350) (by decide +kernel))) _) hce hcv hcl ?_
      replace hwp := hp0 rfl q9
      refine lv_astore (lv' := [(5, .ref q9), (0, .ref p0), (1, .int p1), (2, .int p2), (3, .int p3), (4, .ref p4)]) hx hb d_La_stem_22 hl (by decide) rfl (fun ls hl => ?_)
      refine lv_iconst (v := 1) hx hb d_La_stem_24 (by decide) ?_
      exact W.iret (v := (1 : Int32)) hx hb hr (fun t ht hW => ⟨⟨(1 : Int32), M9, rfl, hwp, by show hw D kCl (hTys κ) A M9 t.heap; rw [ht]; exact hM⟩, hS.F ht⟩) hS.2.2 d_La_stem_25
    · subst hE9
      refine x_catch (own := "BuckTablesLaw") (name := "java/lang/IllegalArgumentException") hown [⟨0, 19, 22, 13⟩] ⟨0, 19, 26, 15⟩ [] (hTab.trans rfl) (List.forall_mem_cons.mpr ⟨Or.inr ⟨by decide, "java/lang/IllegalStateException", hts _ kw_338, hNc ("java/lang/IllegalArgumentException", "java/lang/IllegalStateException") (by decide)⟩, fun _ h9 => absurd h9 List.not_mem_nil⟩) (by decide) (by decide) (hts _ kw_339) (z_cast hE.2 (List.mem_append_right _ (List.mem_of_getElem? (i := 423) (by decide +kernel))) _) hce hcv hcl ?_
      replace hwp := hp1 rfl q9
      refine lv_astore (lv' := [(5, .ref q9), (0, .ref p0), (1, .int p1), (2, .int p2), (3, .int p3), (4, .ref p4)]) hx hb d_La_stem_26 hl (by decide) rfl (fun ls hl => ?_)
      refine lv_iconst (v := 2) hx hb d_La_stem_28 (by decide) ?_
      exact W.iret (v := (2 : Int32)) hx hb hr (fun t ht hW => ⟨⟨(2 : Int32), M9, rfl, hwp, by show hw D kCl (hTys κ) A M9 t.heap; rw [ht]; exact hM⟩, hS.F ht⟩) hS.2.2 d_La_stem_29
  · refine lv_if_eq (tgt := 17) hx hb d_La_stem_10 (by decide) (fun c9 => ?_) (fun c9 => ?_)
    · replace hwp := hwp.1 c9
      refine lv_lconst (v := 0) hx hb d_La_stem_17 (by decide) ?_
      exact tLa_stem_18 C hst post (0 : Int64) (0 : Int32) p4 M6 hwp H locs ls hM hS (lv_sub hl [] rfl)
    · replace hwp := hwp.2 c9
      refine lv_lconst (v := 1) hx hb d_La_stem_13 (by decide) ?_
      refine lv_goto (tgt := 18) hx hb d_La_stem_14 (by decide) ?_
      exact tLa_stem_18 C hst post (1 : Int64) (0 : Int32) p4 M6 hwp H locs ls hM hS (lv_sub hl [] rfl)
set_option maxRecDepth 100000 in
set_option maxHeartbeats 4000000 in
theorem metLa_stem (l : Launch) (hst : l.stackTraces = false) (D : va_G) (κ : Nat → ClassId) (sz : Nat) (p0 : Nat) (p1 : Int32) (p2 : Int32) (p3 : Int32) (p4 : Nat) (M : Hp) (post : Int32 → Hp → Prop) (hwp : wpLa_stem p0 p1 p2 p3 p4 M post) : Met l y_La_stem ws_La_stem rm_La_stem (hPcN D kCl (hTys κ) M sz [.ref p0, .int p1, .int p2, .int p3, .ref p4]) (va_Qi post (hB D kCl (hTys κ) (hAx M sz)) (hAx M sz)) 1 6 (hAx M sz) := by
  refine va_MetW (cc := method_3_code) (maxL := 6) (ret := (some .int)) (by decide +kernel) rfl ?_
  intro p e s m args below meth c s₁ B hml hv
  obtain ⟨rfl, hsz, hE, hM0, hN9⟩ := hv
  have hts : ∀ w ∈ WG, w.before _ s = true := fun w h => atoms_spec (ws := ws_La_stem) B.pre w (List.mem_cons_of_mem _ h)
  subst hsz
  have C : Cx_La_stem p s m _ meth c D κ (hAx M s.heap.size) := ⟨B.exec, B.bytes, hml, B.returns, findClass_of_methodNamed B.named, hts, B.notSynchronized, hE, fun q h => Or.inr h, z_table B (atoms_spec (ws := ws_La_stem) B.pre _ List.mem_cons_self), hN9⟩
  have hl := lv_entry ([.ref p0, .int p1, .int p2, .int p3, .ref p4]) (n := 6) (Nat.le_of_ble_eq_true rfl)
  rw [lg_entry_eq]
  generalize (lg_sl ([.ref p0, .int p1, .int p2, .int p3, .ref p4]) ++ List.replicate (6 - (lg_sl ([.ref p0, .int p1, .int p2, .int p3, .ref p4])).length) Slot.unset).toArray = ls at hl ⊢
  exact eLa_stem C hst post p0 p1 p2 p3 p4 M hwp s.heap [] ls (hM0.self (sz := s.heap.size)) va_S.rf hl
abbrev rm_La_fault : Room := { frames := 7, cells := 1, slots := 6, locals := 114 }
def Cx_La_fault (p : Program) (s : State) (m : MethodId) (args : Array Value) (meth : Method) (c : Code) (D : va_G) (κ : Nat → ClassId) (A : Nat → Prop) : Prop := p.tables.exec = Jvm.exec ∧ c.code = method_4_code ∧ c.maxLocals = 6 ∧ meth.sig.returnType = (some .int) ∧ s.vm.findClass "BuckTablesLaw" = some m.cls ∧ (∀ w ∈ WG, w.before args s = true) ∧ meth.locks = false ∧ hEnv D kCl (hTys κ) A s ∧ (∀ q, s.heap.size ≤ q → A q) ∧ c.exceptionTable.toList = zTab [(0, 19, 22, 13), (0, 19, 26, 15)] ∧ hNC s
def wLa_fault_18 (post : Int32 → Hp → Prop)   (y0 : Int64) (y1 : Int32) (y2 : Nat) (M : Hp) : Prop := (∃ M5 : Hp, sJ M y2 y1 y0 M5 ∧ (post (0 : Int32) M5))
set_option maxRecDepth 100000 in
set_option maxHeartbeats 4000000 in
theorem tLa_fault_18 {p : Program} {l : Launch} {e : Env} {s : State} {m : MethodId} {args : Array Value} {below : List Frame} {meth : Method} {c : Code} {D : va_G} {κ : Nat → ClassId} {A : Nat → Prop} (C : Cx_La_fault p s m args meth c D κ A) (hst : l.stackTraces = false) (post : Int32 → Hp → Prop)   (y0 : Int64) (y1 : Int32) (y2 : Nat) (M : Hp) (hwp : wLa_fault_18 post y0 y1 y2 M) : Y p l e rm_La_fault s m args below meth c D kCl (hTys κ) A 6 1 6 (MQ below (va_Qi post (hB D kCl (hTys κ) A) A) args s 1 6 A) M 18 [] [.long y0, .int y1, .ref y2] := by
  obtain ⟨hx, hb, hml, hr, hown, hts, hlocks, hE, hA, hTab, hNc⟩ := id C
  have hK := hE.1
  intro H locs ls hM hS hl
  unfold wLa_fault_18 at hwp
  obtain ⟨M5, ⟨n1, f2, ha3, hi4, eM5⟩, hwp⟩ := hwp
  refine h_last hx hb hK hM hS ha3 rfl hi4 d_La_fault_18 (fun H locs hM hS => ?_)
  rw [← eM5] at hM
  refine lv_goto (tgt := 30) hx hb d_La_fault_19 (by decide) ?_
  refine lv_iconst (v := 0) hx hb d_La_fault_30 (by decide) ?_
  exact W.iret (v := (0 : Int32)) hx hb hr (fun t ht hW => ⟨⟨(0 : Int32), M5, rfl, hwp, by show hw D kCl (hTys κ) A M5 t.heap; rw [ht]; exact hM⟩, hS.F ht⟩) hS.2.2 d_La_fault_31
def wpLa_fault (p0 : Nat) (p1 : Int32) (p2 : Int32) (p3 : Int32) (p4 : Nat) (M : Hp) (post : Int32 → Hp → Prop) : Prop := (hob M p0 0 ∧ (wpBT_fault p0 p1 p2 p3 M (fun (r8 : Int32) (M6 : Hp) => ((r8 = 0 → (wLa_fault_18 post (0 : Int64) (0 : Int32) p4 M6)) ∧ (¬ r8 = 0 → (wLa_fault_18 post (1 : Int64) (0 : Int32) p4 M6)))) (fun (E9 : String) (M9 : Hp) => ((E9 = "java/lang/IllegalStateException" → ∀ q9 : Nat, (post (1 : Int32) M9)) ∧ (E9 = "java/lang/IllegalArgumentException" → ∀ q9 : Nat, (post (2 : Int32) M9)) ∧ (E9 = "java/lang/IllegalStateException" ∨ E9 = "java/lang/IllegalArgumentException")))))
set_option maxRecDepth 100000 in
set_option maxHeartbeats 4000000 in
theorem eLa_fault {p : Program} {l : Launch} {e : Env} {s : State} {m : MethodId} {args : Array Value} {below : List Frame} {meth : Method} {c : Code} {D : va_G} {κ : Nat → ClassId} {A : Nat → Prop} (C : Cx_La_fault p s m args meth c D κ A) (hst : l.stackTraces = false) (post : Int32 → Hp → Prop) (p0 : Nat) (p1 : Int32) (p2 : Int32) (p3 : Int32) (p4 : Nat) (M : Hp) (hwp : wpLa_fault p0 p1 p2 p3 p4 M post) : Y p l e rm_La_fault s m args below meth c D kCl (hTys κ) A 6 0 0 (MQ below (va_Qi post (hB D kCl (hTys κ) A) A) args s 1 6 A) M 0 [(0, .ref p0), (1, .int p1), (2, .int p2), (3, .int p3), (4, .ref p4)] [] := by
  obtain ⟨hx, hb, hml, hr, hown, hts, hlocks, hE, hA, hTab, hNc⟩ := id C
  have hK := hE.1
  intro H locs ls hM hS hl
  unfold wpLa_fault at hwp
  refine lv_aload hx hb d_La_fault_0 (lv_at hl 4 rfl) ?_
  refine lv_iconst (v := 0) hx hb d_La_fault_2 (by decide) ?_
  refine lv_aload_n hx hb d_La_fault_3 rfl (lv_at hl 0 rfl) ?_
  refine lv_iload_n hx hb d_La_fault_4 rfl (lv_at hl 1 rfl) ?_
  refine lv_iload_n hx hb d_La_fault_5 rfl (lv_at hl 2 rfl) ?_
  refine lv_iload_n hx hb d_La_fault_6 rfl (lv_at hl 3 rfl) ?_
  obtain ⟨ho7, hwp⟩ := hwp
  refine h_xcalli hM hS hA (x_runV (As := [.int p1, .int p2, .int p3]) (rest := [.int (0 : Int32), .ref p4]) ⟨hx, hb, hml, hown, hts⟩ (metBT_fault l hst D κ H.size p0 p1 p2 p3 M _ _ hwp) (cwV 3 hts (gV kw_448 kw_449 kw_450 kw_1 kw_451) rfl rfl rfl (by decide +kernel) ⟨(Nat.le_of_ble_eq_true rfl), (Nat.le_of_ble_eq_true rfl)⟩) (h_preV hE hM hS ho7 (r := ("BuckTables", Tc0, 12)) rfl) rfl rfl hl.1 rfl (lv_room (Nat.le_of_ble_eq_true rfl)) d_La_fault_7 ⟨(Nat.le_of_ble_eq_true rfl), (Nat.le_of_ble_eq_true rfl)⟩) (fun E9 M9 q9 ce9 H locs hwp hM hS hce hcv hcl => ?_) (fun r8 M6 H locs hwp hM hS => ?_)
  · obtain ⟨hp0, hp1, hor⟩ := hwp
    rcases hor with hE9 | hE9
    · subst hE9
      refine x_catch (own := "BuckTablesLaw") (name := "java/lang/IllegalStateException") hown [] ⟨0, 19, 22, 13⟩ [⟨0, 19, 26, 15⟩] (hTab.trans rfl) (fun _ h9 => absurd h9 List.not_mem_nil) (by decide) (by decide) (hts _ kw_338) (z_cast hE.2 (List.mem_append_right _ (List.mem_of_getElem? (i := 350) (by decide +kernel))) _) hce hcv hcl ?_
      replace hwp := hp0 rfl q9
      refine lv_astore (lv' := [(5, .ref q9), (0, .ref p0), (1, .int p1), (2, .int p2), (3, .int p3), (4, .ref p4)]) hx hb d_La_fault_22 hl (by decide) rfl (fun ls hl => ?_)
      refine lv_iconst (v := 1) hx hb d_La_fault_24 (by decide) ?_
      exact W.iret (v := (1 : Int32)) hx hb hr (fun t ht hW => ⟨⟨(1 : Int32), M9, rfl, hwp, by show hw D kCl (hTys κ) A M9 t.heap; rw [ht]; exact hM⟩, hS.F ht⟩) hS.2.2 d_La_fault_25
    · subst hE9
      refine x_catch (own := "BuckTablesLaw") (name := "java/lang/IllegalArgumentException") hown [⟨0, 19, 22, 13⟩] ⟨0, 19, 26, 15⟩ [] (hTab.trans rfl) (List.forall_mem_cons.mpr ⟨Or.inr ⟨by decide, "java/lang/IllegalStateException", hts _ kw_338, hNc ("java/lang/IllegalArgumentException", "java/lang/IllegalStateException") (by decide)⟩, fun _ h9 => absurd h9 List.not_mem_nil⟩) (by decide) (by decide) (hts _ kw_339) (z_cast hE.2 (List.mem_append_right _ (List.mem_of_getElem? (i := 423) (by decide +kernel))) _) hce hcv hcl ?_
      replace hwp := hp1 rfl q9
      refine lv_astore (lv' := [(5, .ref q9), (0, .ref p0), (1, .int p1), (2, .int p2), (3, .int p3), (4, .ref p4)]) hx hb d_La_fault_26 hl (by decide) rfl (fun ls hl => ?_)
      refine lv_iconst (v := 2) hx hb d_La_fault_28 (by decide) ?_
      exact W.iret (v := (2 : Int32)) hx hb hr (fun t ht hW => ⟨⟨(2 : Int32), M9, rfl, hwp, by show hw D kCl (hTys κ) A M9 t.heap; rw [ht]; exact hM⟩, hS.F ht⟩) hS.2.2 d_La_fault_29
  · refine lv_if_eq (tgt := 17) hx hb d_La_fault_10 (by decide) (fun c9 => ?_) (fun c9 => ?_)
    · replace hwp := hwp.1 c9
      refine lv_lconst (v := 0) hx hb d_La_fault_17 (by decide) ?_
      exact tLa_fault_18 C hst post (0 : Int64) (0 : Int32) p4 M6 hwp H locs ls hM hS (lv_sub hl [] rfl)
    · replace hwp := hwp.2 c9
      refine lv_lconst (v := 1) hx hb d_La_fault_13 (by decide) ?_
      refine lv_goto (tgt := 18) hx hb d_La_fault_14 (by decide) ?_
      exact tLa_fault_18 C hst post (1 : Int64) (0 : Int32) p4 M6 hwp H locs ls hM hS (lv_sub hl [] rfl)
set_option maxRecDepth 100000 in
set_option maxHeartbeats 4000000 in
theorem metLa_fault (l : Launch) (hst : l.stackTraces = false) (D : va_G) (κ : Nat → ClassId) (sz : Nat) (p0 : Nat) (p1 : Int32) (p2 : Int32) (p3 : Int32) (p4 : Nat) (M : Hp) (post : Int32 → Hp → Prop) (hwp : wpLa_fault p0 p1 p2 p3 p4 M post) : Met l y_La_fault ws_La_fault rm_La_fault (hPcN D kCl (hTys κ) M sz [.ref p0, .int p1, .int p2, .int p3, .ref p4]) (va_Qi post (hB D kCl (hTys κ) (hAx M sz)) (hAx M sz)) 1 6 (hAx M sz) := by
  refine va_MetW (cc := method_4_code) (maxL := 6) (ret := (some .int)) (by decide +kernel) rfl ?_
  intro p e s m args below meth c s₁ B hml hv
  obtain ⟨rfl, hsz, hE, hM0, hN9⟩ := hv
  have hts : ∀ w ∈ WG, w.before _ s = true := fun w h => atoms_spec (ws := ws_La_fault) B.pre w (List.mem_cons_of_mem _ h)
  subst hsz
  have C : Cx_La_fault p s m _ meth c D κ (hAx M s.heap.size) := ⟨B.exec, B.bytes, hml, B.returns, findClass_of_methodNamed B.named, hts, B.notSynchronized, hE, fun q h => Or.inr h, z_table B (atoms_spec (ws := ws_La_fault) B.pre _ List.mem_cons_self), hN9⟩
  have hl := lv_entry ([.ref p0, .int p1, .int p2, .int p3, .ref p4]) (n := 6) (Nat.le_of_ble_eq_true rfl)
  rw [lg_entry_eq]
  generalize (lg_sl ([.ref p0, .int p1, .int p2, .int p3, .ref p4]) ++ List.replicate (6 - (lg_sl ([.ref p0, .int p1, .int p2, .int p3, .ref p4])).length) Slot.unset).toArray = ls at hl ⊢
  exact eLa_fault C hst post p0 p1 p2 p3 p4 M hwp s.heap [] ls (hM0.self (sz := s.heap.size)) va_S.rf hl
abbrev rm_La_stems : Room := { frames := 7, cells := 1, slots := 6, locals := 110 }
def Cx_La_stems (p : Program) (s : State) (m : MethodId) (args : Array Value) (meth : Method) (c : Code) (D : va_G) (κ : Nat → ClassId) (A : Nat → Prop) : Prop := p.tables.exec = Jvm.exec ∧ c.code = method_5_code ∧ c.maxLocals = 3 ∧ meth.sig.returnType = (some .int) ∧ s.vm.findClass "BuckTablesLaw" = some m.cls ∧ (∀ w ∈ WG, w.before args s = true) ∧ meth.locks = false ∧ hEnv D kCl (hTys κ) A s ∧ (∀ q, s.heap.size ≤ q → A q) ∧ c.exceptionTable.toList = zTab [(0, 8, 11, 13)] ∧ hNC s
def wpLa_stems (p0 : Nat) (p1 : Nat) (M : Hp) (post : Int32 → Hp → Prop) : Prop := (hob M p0 0 ∧ (wpBT_stems p0 M (fun (r3 : Int32) (M1 : Hp) => (∃ M8 : Hp, sJ M1 p1 (0 : Int32) (r3.toInt64) M8 ∧ (post (0 : Int32) M8))) (fun (E9 : String) (M9 : Hp) => ((E9 = "java/lang/IllegalStateException" → ∀ q9 : Nat, (post (1 : Int32) M9)) ∧ (E9 = "java/lang/IllegalStateException")))))
set_option maxRecDepth 100000 in
set_option maxHeartbeats 4000000 in
theorem eLa_stems {p : Program} {l : Launch} {e : Env} {s : State} {m : MethodId} {args : Array Value} {below : List Frame} {meth : Method} {c : Code} {D : va_G} {κ : Nat → ClassId} {A : Nat → Prop} (C : Cx_La_stems p s m args meth c D κ A) (hst : l.stackTraces = false) (post : Int32 → Hp → Prop) (p0 : Nat) (p1 : Nat) (M : Hp) (hwp : wpLa_stems p0 p1 M post) : Y p l e rm_La_stems s m args below meth c D kCl (hTys κ) A 3 0 0 (MQ below (va_Qi post (hB D kCl (hTys κ) A) A) args s 1 6 A) M 0 [(0, .ref p0), (1, .ref p1)] [] := by
  obtain ⟨hx, hb, hml, hr, hown, hts, hlocks, hE, hA, hTab, hNc⟩ := id C
  have hK := hE.1
  intro H locs ls hM hS hl
  unfold wpLa_stems at hwp
  refine lv_aload_n hx hb d_La_stems_0 rfl (lv_at hl 1 rfl) ?_
  refine lv_iconst (v := 0) hx hb d_La_stems_1 (by decide) ?_
  refine lv_aload_n hx hb d_La_stems_2 rfl (lv_at hl 0 rfl) ?_
  obtain ⟨ho2, hwp⟩ := hwp
  refine h_xcalli hM hS hA (x_runV (As := []) (rest := [.int (0 : Int32), .ref p1]) ⟨hx, hb, hml, hown, hts⟩ (metBT_stems l hst D κ H.size p0 M _ _ hwp) (cwV 0 hts (gV kw_462 kw_463 kw_464 kw_1 kw_465) rfl rfl rfl (by decide +kernel) ⟨(Nat.le_of_ble_eq_true rfl), (Nat.le_of_ble_eq_true rfl)⟩) (h_preV hE hM hS ho2 (r := ("BuckTables", Tc0, 12)) rfl) rfl rfl hl.1 rfl (lv_room (Nat.le_of_ble_eq_true rfl)) d_La_stems_3 ⟨(Nat.le_of_ble_eq_true rfl), (Nat.le_of_ble_eq_true rfl)⟩) (fun E9 M9 q9 ce9 H locs hwp hM hS hce hcv hcl => ?_) (fun r3 M1 H locs hwp hM hS => ?_)
  · obtain ⟨hp0, hor⟩ := hwp
    have hE9 := hor
    subst hE9
    refine x_catch (own := "BuckTablesLaw") (name := "java/lang/IllegalStateException") hown [] ⟨0, 8, 11, 13⟩ [] (hTab.trans rfl) (fun _ h9 => absurd h9 List.not_mem_nil) (by decide) (by decide) (hts _ kw_338) (z_cast hE.2 (List.mem_append_right _ (List.mem_of_getElem? (i := 350) (by decide +kernel))) _) hce hcv hcl ?_
    replace hwp := hp0 rfl q9
    refine lv_astore_n (lv' := [(2, .ref q9), (0, .ref p0), (1, .ref p1)]) hx hb d_La_stems_11 rfl hl (by decide) rfl (fun ls hl => ?_)
    refine lv_iconst (v := 1) hx hb d_La_stems_12 (by decide) ?_
    exact W.iret (v := (1 : Int32)) hx hb hr (fun t ht hW => ⟨⟨(1 : Int32), M9, rfl, hwp, by show hw D kCl (hTys κ) A M9 t.heap; rw [ht]; exact hM⟩, hS.F ht⟩) hS.2.2 d_La_stems_13
  · refine lv_i2l hx hb d_La_stems_6 rfl ?_
    obtain ⟨M8, ⟨n4, f5, ha6, hi7, eM8⟩, hwp⟩ := hwp
    refine h_last hx hb hK hM hS ha6 rfl hi7 d_La_stems_7 (fun H locs hM hS => ?_)
    rw [← eM8] at hM
    refine lv_goto (tgt := 14) hx hb d_La_stems_8 (by decide) ?_
    refine lv_iconst (v := 0) hx hb d_La_stems_14 (by decide) ?_
    exact W.iret (v := (0 : Int32)) hx hb hr (fun t ht hW => ⟨⟨(0 : Int32), M8, rfl, hwp, by show hw D kCl (hTys κ) A M8 t.heap; rw [ht]; exact hM⟩, hS.F ht⟩) hS.2.2 d_La_stems_15
set_option maxRecDepth 100000 in
set_option maxHeartbeats 4000000 in
theorem metLa_stems (l : Launch) (hst : l.stackTraces = false) (D : va_G) (κ : Nat → ClassId) (sz : Nat) (p0 : Nat) (p1 : Nat) (M : Hp) (post : Int32 → Hp → Prop) (hwp : wpLa_stems p0 p1 M post) : Met l y_La_stems ws_La_stems rm_La_stems (hPcN D kCl (hTys κ) M sz [.ref p0, .ref p1]) (va_Qi post (hB D kCl (hTys κ) (hAx M sz)) (hAx M sz)) 1 6 (hAx M sz) := by
  refine va_MetW (cc := method_5_code) (maxL := 3) (ret := (some .int)) (by decide +kernel) rfl ?_
  intro p e s m args below meth c s₁ B hml hv
  obtain ⟨rfl, hsz, hE, hM0, hN9⟩ := hv
  have hts : ∀ w ∈ WG, w.before _ s = true := fun w h => atoms_spec (ws := ws_La_stems) B.pre w (List.mem_cons_of_mem _ h)
  subst hsz
  have C : Cx_La_stems p s m _ meth c D κ (hAx M s.heap.size) := ⟨B.exec, B.bytes, hml, B.returns, findClass_of_methodNamed B.named, hts, B.notSynchronized, hE, fun q h => Or.inr h, z_table B (atoms_spec (ws := ws_La_stems) B.pre _ List.mem_cons_self), hN9⟩
  have hl := lv_entry ([.ref p0, .ref p1]) (n := 3) (Nat.le_of_ble_eq_true rfl)
  rw [lg_entry_eq]
  generalize (lg_sl ([.ref p0, .ref p1]) ++ List.replicate (3 - (lg_sl ([.ref p0, .ref p1])).length) Slot.unset).toArray = ls at hl ⊢
  exact eLa_stems C hst post p0 p1 M hwp s.heap [] ls (hM0.self (sz := s.heap.size)) va_S.rf hl
abbrev rm_La_product : Room := { frames := 7, cells := 1, slots := 6, locals := 116 }
def Cx_La_product (p : Program) (s : State) (m : MethodId) (args : Array Value) (meth : Method) (c : Code) (D : va_G) (κ : Nat → ClassId) (A : Nat → Prop) : Prop := p.tables.exec = Jvm.exec ∧ c.code = method_6_code ∧ c.maxLocals = 9 ∧ meth.sig.returnType = (some .int) ∧ s.vm.findClass "BuckTablesLaw" = some m.cls ∧ (∀ w ∈ WG, w.before args s = true) ∧ meth.locks = false ∧ hEnv D kCl (hTys κ) A s ∧ (∀ q, s.heap.size ≤ q → A q) ∧ c.exceptionTable.toList = zTab [(0, 16, 19, 13), (0, 16, 23, 15)] ∧ hNC s
def wpLa_product (p0 : Nat) (p1 : Int32) (p2 : Int32) (p3 : Int32) (p4 : Int32) (p5 : Int64) (p6 : Nat) (M : Hp) (post : Int32 → Hp → Prop) : Prop := (hob M p0 0 ∧ (wpBT_product p0 p1 p2 p3 p4 p5 M (fun (r3 : Int32) (M1 : Hp) => (∃ M8 : Hp, sJ M1 p6 (0 : Int32) (r3.toInt64) M8 ∧ (post (0 : Int32) M8))) (fun (E9 : String) (M9 : Hp) => ((E9 = "java/lang/IllegalStateException" → ∀ q9 : Nat, (post (1 : Int32) M9)) ∧ (E9 = "java/lang/IllegalArgumentException" → ∀ q9 : Nat, (post (2 : Int32) M9)) ∧ (E9 = "java/lang/IllegalStateException" ∨ E9 = "java/lang/IllegalArgumentException")))))
set_option maxRecDepth 100000 in
set_option maxHeartbeats 4000000 in
theorem eLa_product {p : Program} {l : Launch} {e : Env} {s : State} {m : MethodId} {args : Array Value} {below : List Frame} {meth : Method} {c : Code} {D : va_G} {κ : Nat → ClassId} {A : Nat → Prop} (C : Cx_La_product p s m args meth c D κ A) (hst : l.stackTraces = false) (post : Int32 → Hp → Prop) (p0 : Nat) (p1 : Int32) (p2 : Int32) (p3 : Int32) (p4 : Int32) (p5 : Int64) (p6 : Nat) (M : Hp) (hwp : wpLa_product p0 p1 p2 p3 p4 p5 p6 M post) : Y p l e rm_La_product s m args below meth c D kCl (hTys κ) A 9 0 0 (MQ below (va_Qi post (hB D kCl (hTys κ) A) A) args s 1 6 A) M 0 [(0, .ref p0), (1, .int p1), (2, .int p2), (3, .int p3), (4, .int p4), (5, .long p5), (7, .ref p6)] [] := by
  obtain ⟨hx, hb, hml, hr, hown, hts, hlocks, hE, hA, hTab, hNc⟩ := id C
  have hK := hE.1
  intro H locs ls hM hS hl
  unfold wpLa_product at hwp
  refine lv_aload hx hb d_La_product_0 (lv_at hl 6 rfl) ?_
  refine lv_iconst (v := 0) hx hb d_La_product_2 (by decide) ?_
  refine lv_aload_n hx hb d_La_product_3 rfl (lv_at hl 0 rfl) ?_
  refine lv_iload_n hx hb d_La_product_4 rfl (lv_at hl 1 rfl) ?_
  refine lv_iload_n hx hb d_La_product_5 rfl (lv_at hl 2 rfl) ?_
  refine lv_iload_n hx hb d_La_product_6 rfl (lv_at hl 3 rfl) ?_
  refine lv_iload hx hb d_La_product_7 (lv_at hl 4 rfl) ?_
  refine lv_lload hx hb d_La_product_9 (lv_at hl 5 rfl) ?_
  obtain ⟨ho2, hwp⟩ := hwp
  refine h_xcalli hM hS hA (x_runV (As := [.int p1, .int p2, .int p3, .int p4, .long p5]) (rest := [.int (0 : Int32), .ref p6]) ⟨hx, hb, hml, hown, hts⟩ (metBT_product l hst D κ H.size p0 p1 p2 p3 p4 p5 M _ _ hwp) (cwV 5 hts (gV kw_470 kw_471 kw_472 kw_1 kw_473) rfl rfl rfl (by decide +kernel) ⟨(Nat.le_of_ble_eq_true rfl), (Nat.le_of_ble_eq_true rfl)⟩) (h_preV hE hM hS ho2 (r := ("BuckTables", Tc0, 12)) rfl) rfl rfl hl.1 rfl (lv_room (Nat.le_of_ble_eq_true rfl)) d_La_product_11 ⟨(Nat.le_of_ble_eq_true rfl), (Nat.le_of_ble_eq_true rfl)⟩) (fun E9 M9 q9 ce9 H locs hwp hM hS hce hcv hcl => ?_) (fun r3 M1 H locs hwp hM hS => ?_)
  · obtain ⟨hp0, hp1, hor⟩ := hwp
    rcases hor with hE9 | hE9
    · subst hE9
      refine x_catch (own := "BuckTablesLaw") (name := "java/lang/IllegalStateException") hown [] ⟨0, 16, 19, 13⟩ [⟨0, 16, 23, 15⟩] (hTab.trans rfl) (fun _ h9 => absurd h9 List.not_mem_nil) (by decide) (by decide) (hts _ kw_338) (z_cast hE.2 (List.mem_append_right _ (List.mem_of_getElem? (i := 350) (by decide +kernel))) _) hce hcv hcl ?_
      replace hwp := hp0 rfl q9
      refine lv_astore (lv' := [(8, .ref q9), (0, .ref p0), (1, .int p1), (2, .int p2), (3, .int p3), (4, .int p4), (5, .long p5), (7, .ref p6)]) hx hb d_La_product_19 hl (by decide) rfl (fun ls hl => ?_)
      refine lv_iconst (v := 1) hx hb d_La_product_21 (by decide) ?_
      exact W.iret (v := (1 : Int32)) hx hb hr (fun t ht hW => ⟨⟨(1 : Int32), M9, rfl, hwp, by show hw D kCl (hTys κ) A M9 t.heap; rw [ht]; exact hM⟩, hS.F ht⟩) hS.2.2 d_La_product_22
    · subst hE9
      refine x_catch (own := "BuckTablesLaw") (name := "java/lang/IllegalArgumentException") hown [⟨0, 16, 19, 13⟩] ⟨0, 16, 23, 15⟩ [] (hTab.trans rfl) (List.forall_mem_cons.mpr ⟨Or.inr ⟨by decide, "java/lang/IllegalStateException", hts _ kw_338, hNc ("java/lang/IllegalArgumentException", "java/lang/IllegalStateException") (by decide)⟩, fun _ h9 => absurd h9 List.not_mem_nil⟩) (by decide) (by decide) (hts _ kw_339) (z_cast hE.2 (List.mem_append_right _ (List.mem_of_getElem? (i := 423) (by decide +kernel))) _) hce hcv hcl ?_
      replace hwp := hp1 rfl q9
      refine lv_astore (lv' := [(8, .ref q9), (0, .ref p0), (1, .int p1), (2, .int p2), (3, .int p3), (4, .int p4), (5, .long p5), (7, .ref p6)]) hx hb d_La_product_23 hl (by decide) rfl (fun ls hl => ?_)
      refine lv_iconst (v := 2) hx hb d_La_product_25 (by decide) ?_
      exact W.iret (v := (2 : Int32)) hx hb hr (fun t ht hW => ⟨⟨(2 : Int32), M9, rfl, hwp, by show hw D kCl (hTys κ) A M9 t.heap; rw [ht]; exact hM⟩, hS.F ht⟩) hS.2.2 d_La_product_26
  · refine lv_i2l hx hb d_La_product_14 rfl ?_
    obtain ⟨M8, ⟨n4, f5, ha6, hi7, eM8⟩, hwp⟩ := hwp
    refine h_last hx hb hK hM hS ha6 rfl hi7 d_La_product_15 (fun H locs hM hS => ?_)
    rw [← eM8] at hM
    refine lv_goto (tgt := 27) hx hb d_La_product_16 (by decide) ?_
    refine lv_iconst (v := 0) hx hb d_La_product_27 (by decide) ?_
    exact W.iret (v := (0 : Int32)) hx hb hr (fun t ht hW => ⟨⟨(0 : Int32), M8, rfl, hwp, by show hw D kCl (hTys κ) A M8 t.heap; rw [ht]; exact hM⟩, hS.F ht⟩) hS.2.2 d_La_product_28
set_option maxRecDepth 100000 in
set_option maxHeartbeats 4000000 in
theorem metLa_product (l : Launch) (hst : l.stackTraces = false) (D : va_G) (κ : Nat → ClassId) (sz : Nat) (p0 : Nat) (p1 : Int32) (p2 : Int32) (p3 : Int32) (p4 : Int32) (p5 : Int64) (p6 : Nat) (M : Hp) (post : Int32 → Hp → Prop) (hwp : wpLa_product p0 p1 p2 p3 p4 p5 p6 M post) : Met l y_La_product ws_La_product rm_La_product (hPcN D kCl (hTys κ) M sz [.ref p0, .int p1, .int p2, .int p3, .int p4, .long p5, .ref p6]) (va_Qi post (hB D kCl (hTys κ) (hAx M sz)) (hAx M sz)) 1 6 (hAx M sz) := by
  refine va_MetW (cc := method_6_code) (maxL := 9) (ret := (some .int)) (by decide +kernel) rfl ?_
  intro p e s m args below meth c s₁ B hml hv
  obtain ⟨rfl, hsz, hE, hM0, hN9⟩ := hv
  have hts : ∀ w ∈ WG, w.before _ s = true := fun w h => atoms_spec (ws := ws_La_product) B.pre w (List.mem_cons_of_mem _ h)
  subst hsz
  have C : Cx_La_product p s m _ meth c D κ (hAx M s.heap.size) := ⟨B.exec, B.bytes, hml, B.returns, findClass_of_methodNamed B.named, hts, B.notSynchronized, hE, fun q h => Or.inr h, z_table B (atoms_spec (ws := ws_La_product) B.pre _ List.mem_cons_self), hN9⟩
  have hl := lv_entry ([.ref p0, .int p1, .int p2, .int p3, .int p4, .long p5, .ref p6]) (n := 9) (Nat.le_of_ble_eq_true rfl)
  rw [lg_entry_eq]
  generalize (lg_sl ([.ref p0, .int p1, .int p2, .int p3, .int p4, .long p5, .ref p6]) ++ List.replicate (9 - (lg_sl ([.ref p0, .int p1, .int p2, .int p3, .int p4, .long p5, .ref p6])).length) Slot.unset).toArray = ls at hl ⊢
  exact eLa_product C hst post p0 p1 p2 p3 p4 p5 p6 M hwp s.heap [] ls (hM0.self (sz := s.heap.size)) va_S.rf hl
abbrev rm_La_bars : Room := { frames := 8, cells := 2, slots := 12, locals := 134 }
def Cx_La_bars (p : Program) (s : State) (m : MethodId) (args : Array Value) (meth : Method) (c : Code) (D : va_G) (κ : Nat → ClassId) (A : Nat → Prop) : Prop := p.tables.exec = Jvm.exec ∧ c.code = method_7_code ∧ c.maxLocals = 5 ∧ meth.sig.returnType = (some .int) ∧ s.vm.findClass "BuckTablesLaw" = some m.cls ∧ (∀ w ∈ WG, w.before args s = true) ∧ meth.locks = false ∧ hEnv D kCl (hTys κ) A s ∧ (∀ q, s.heap.size ≤ q → A q) ∧ c.exceptionTable.toList = zTab [(0, 17, 20, 32), (0, 17, 24, 15)] ∧ hNC s
def wLa_bars_16 (post : Int32 → Hp → Prop)   (y0 : Int64) (y1 : Int32) (y2 : Nat) (M : Hp) : Prop := (∃ M5 : Hp, sJ M y2 y1 y0 M5 ∧ (post (0 : Int32) M5))
set_option maxRecDepth 100000 in
set_option maxHeartbeats 4000000 in
theorem tLa_bars_16 {p : Program} {l : Launch} {e : Env} {s : State} {m : MethodId} {args : Array Value} {below : List Frame} {meth : Method} {c : Code} {D : va_G} {κ : Nat → ClassId} {A : Nat → Prop} (C : Cx_La_bars p s m args meth c D κ A) (hst : l.stackTraces = false) (post : Int32 → Hp → Prop)   (y0 : Int64) (y1 : Int32) (y2 : Nat) (M : Hp) (hwp : wLa_bars_16 post y0 y1 y2 M) : Y p l e rm_La_bars s m args below meth c D kCl (hTys κ) A 5 2 12 (MQ below (va_Qi post (hB D kCl (hTys κ) A) A) args s 2 12 A) M 16 [] [.long y0, .int y1, .ref y2] := by
  obtain ⟨hx, hb, hml, hr, hown, hts, hlocks, hE, hA, hTab, hNc⟩ := id C
  have hK := hE.1
  intro H locs ls hM hS hl
  unfold wLa_bars_16 at hwp
  obtain ⟨M5, ⟨n1, f2, ha3, hi4, eM5⟩, hwp⟩ := hwp
  refine h_last hx hb hK hM hS ha3 rfl hi4 d_La_bars_16 (fun H locs hM hS => ?_)
  rw [← eM5] at hM
  refine lv_goto (tgt := 28) hx hb d_La_bars_17 (by decide) ?_
  refine lv_iconst (v := 0) hx hb d_La_bars_28 (by decide) ?_
  exact W.iret (v := (0 : Int32)) hx hb hr (fun t ht hW => ⟨⟨(0 : Int32), M5, rfl, hwp, by show hw D kCl (hTys κ) A M5 t.heap; rw [ht]; exact hM⟩, hS.F ht⟩) hS.2.2 d_La_bars_29
def wpLa_bars (p0 : Nat) (p1 : Int32) (p2 : Int32) (p3 : Nat) (M : Hp) (post : Int32 → Hp → Prop) : Prop := (hob M p0 0 ∧ (wpBT_bars p0 p1 p2 M (fun (r8 : Int32) (M6 : Hp) => ((r8 = 0 → (wLa_bars_16 post (0 : Int64) (0 : Int32) p3 M6)) ∧ (¬ r8 = 0 → (wLa_bars_16 post (1 : Int64) (0 : Int32) p3 M6)))) (fun (E9 : String) (M9 : Hp) => ((E9 = "java/lang/IndexOutOfBoundsException" → ∀ q9 : Nat, (post (1 : Int32) M9)) ∧ (E9 = "java/lang/IllegalArgumentException" → ∀ q9 : Nat, (post (2 : Int32) M9)) ∧ (E9 = "java/lang/IndexOutOfBoundsException" ∨ E9 = "java/lang/IllegalArgumentException")))))
set_option maxRecDepth 100000 in
set_option maxHeartbeats 4000000 in
theorem eLa_bars {p : Program} {l : Launch} {e : Env} {s : State} {m : MethodId} {args : Array Value} {below : List Frame} {meth : Method} {c : Code} {D : va_G} {κ : Nat → ClassId} {A : Nat → Prop} (C : Cx_La_bars p s m args meth c D κ A) (hst : l.stackTraces = false) (post : Int32 → Hp → Prop) (p0 : Nat) (p1 : Int32) (p2 : Int32) (p3 : Nat) (M : Hp) (hwp : wpLa_bars p0 p1 p2 p3 M post) : Y p l e rm_La_bars s m args below meth c D kCl (hTys κ) A 5 0 0 (MQ below (va_Qi post (hB D kCl (hTys κ) A) A) args s 2 12 A) M 0 [(0, .ref p0), (1, .int p1), (2, .int p2), (3, .ref p3)] [] := by
  obtain ⟨hx, hb, hml, hr, hown, hts, hlocks, hE, hA, hTab, hNc⟩ := id C
  have hK := hE.1
  intro H locs ls hM hS hl
  unfold wpLa_bars at hwp
  refine lv_aload_n hx hb d_La_bars_0 rfl (lv_at hl 3 rfl) ?_
  refine lv_iconst (v := 0) hx hb d_La_bars_1 (by decide) ?_
  refine lv_aload_n hx hb d_La_bars_2 rfl (lv_at hl 0 rfl) ?_
  refine lv_iload_n hx hb d_La_bars_3 rfl (lv_at hl 1 rfl) ?_
  refine lv_iload_n hx hb d_La_bars_4 rfl (lv_at hl 2 rfl) ?_
  obtain ⟨ho7, hwp⟩ := hwp
  refine h_xcalli hM hS hA (x_runV (As := [.int p1, .int p2]) (rest := [.int (0 : Int32), .ref p3]) ⟨hx, hb, hml, hown, hts⟩ (metBT_bars l hst D κ H.size p0 p1 p2 M _ _ hwp) (cwV 2 hts (gV kw_486 kw_487 kw_488 kw_1 kw_489) rfl rfl rfl (by decide +kernel) ⟨(Nat.le_of_ble_eq_true rfl), (Nat.le_of_ble_eq_true rfl)⟩) (h_preV hE hM hS ho7 (r := ("BuckTables", Tc0, 12)) rfl) rfl rfl hl.1 rfl (lv_room (Nat.le_of_ble_eq_true rfl)) d_La_bars_5 ⟨(Nat.le_of_ble_eq_true rfl), (Nat.le_of_ble_eq_true rfl)⟩) (fun E9 M9 q9 ce9 H locs hwp hM hS hce hcv hcl => ?_) (fun r8 M6 H locs hwp hM hS => ?_)
  · obtain ⟨hp0, hp1, hor⟩ := hwp
    rcases hor with hE9 | hE9
    · subst hE9
      refine x_catch (own := "BuckTablesLaw") (name := "java/lang/IndexOutOfBoundsException") hown [] ⟨0, 17, 20, 32⟩ [⟨0, 17, 24, 15⟩] (hTab.trans rfl) (fun _ h9 => absurd h9 List.not_mem_nil) (by decide) (by decide) (hts _ kw_485) (z_cast hE.2 (List.mem_append_right _ (List.mem_of_getElem? (i := 496) (by decide +kernel))) _) hce hcv hcl ?_
      replace hwp := hp0 rfl q9
      refine lv_astore (lv' := [(4, .ref q9), (0, .ref p0), (1, .int p1), (2, .int p2), (3, .ref p3)]) hx hb d_La_bars_20 hl (by decide) rfl (fun ls hl => ?_)
      refine lv_iconst (v := 1) hx hb d_La_bars_22 (by decide) ?_
      exact W.iret (v := (1 : Int32)) hx hb hr (fun t ht hW => ⟨⟨(1 : Int32), M9, rfl, hwp, by show hw D kCl (hTys κ) A M9 t.heap; rw [ht]; exact hM⟩, hS.F ht⟩) hS.2.2 d_La_bars_23
    · subst hE9
      refine x_catch (own := "BuckTablesLaw") (name := "java/lang/IllegalArgumentException") hown [⟨0, 17, 20, 32⟩] ⟨0, 17, 24, 15⟩ [] (hTab.trans rfl) (List.forall_mem_cons.mpr ⟨Or.inr ⟨by decide, "java/lang/IndexOutOfBoundsException", hts _ kw_485, hNc ("java/lang/IllegalArgumentException", "java/lang/IndexOutOfBoundsException") (by decide)⟩, fun _ h9 => absurd h9 List.not_mem_nil⟩) (by decide) (by decide) (hts _ kw_339) (z_cast hE.2 (List.mem_append_right _ (List.mem_of_getElem? (i := 423) (by decide +kernel))) _) hce hcv hcl ?_
      replace hwp := hp1 rfl q9
      refine lv_astore (lv' := [(4, .ref q9), (0, .ref p0), (1, .int p1), (2, .int p2), (3, .ref p3)]) hx hb d_La_bars_24 hl (by decide) rfl (fun ls hl => ?_)
      refine lv_iconst (v := 2) hx hb d_La_bars_26 (by decide) ?_
      exact W.iret (v := (2 : Int32)) hx hb hr (fun t ht hW => ⟨⟨(2 : Int32), M9, rfl, hwp, by show hw D kCl (hTys κ) A M9 t.heap; rw [ht]; exact hM⟩, hS.F ht⟩) hS.2.2 d_La_bars_27
  · refine lv_if_eq (tgt := 15) hx hb d_La_bars_8 (by decide) (fun c9 => ?_) (fun c9 => ?_)
    · replace hwp := hwp.1 c9
      refine lv_lconst (v := 0) hx hb d_La_bars_15 (by decide) ?_
      exact tLa_bars_16 C hst post (0 : Int64) (0 : Int32) p3 M6 hwp H locs ls hM hS (lv_sub hl [] rfl)
    · replace hwp := hwp.2 c9
      refine lv_lconst (v := 1) hx hb d_La_bars_11 (by decide) ?_
      refine lv_goto (tgt := 16) hx hb d_La_bars_12 (by decide) ?_
      exact tLa_bars_16 C hst post (1 : Int64) (0 : Int32) p3 M6 hwp H locs ls hM hS (lv_sub hl [] rfl)
set_option maxRecDepth 100000 in
set_option maxHeartbeats 4000000 in
theorem metLa_bars (l : Launch) (hst : l.stackTraces = false) (D : va_G) (κ : Nat → ClassId) (sz : Nat) (p0 : Nat) (p1 : Int32) (p2 : Int32) (p3 : Nat) (M : Hp) (post : Int32 → Hp → Prop) (hwp : wpLa_bars p0 p1 p2 p3 M post) : Met l y_La_bars ws_La_bars rm_La_bars (hPcN D kCl (hTys κ) M sz [.ref p0, .int p1, .int p2, .ref p3]) (va_Qi post (hB D kCl (hTys κ) (hAx M sz)) (hAx M sz)) 2 12 (hAx M sz) := by
  refine va_MetW (cc := method_7_code) (maxL := 5) (ret := (some .int)) (by decide +kernel) rfl ?_
  intro p e s m args below meth c s₁ B hml hv
  obtain ⟨rfl, hsz, hE, hM0, hN9⟩ := hv
  have hts : ∀ w ∈ WG, w.before _ s = true := fun w h => atoms_spec (ws := ws_La_bars) B.pre w (List.mem_cons_of_mem _ h)
  subst hsz
  have C : Cx_La_bars p s m _ meth c D κ (hAx M s.heap.size) := ⟨B.exec, B.bytes, hml, B.returns, findClass_of_methodNamed B.named, hts, B.notSynchronized, hE, fun q h => Or.inr h, z_table B (atoms_spec (ws := ws_La_bars) B.pre _ List.mem_cons_self), hN9⟩
  have hl := lv_entry ([.ref p0, .int p1, .int p2, .ref p3]) (n := 5) (Nat.le_of_ble_eq_true rfl)
  rw [lg_entry_eq]
  generalize (lg_sl ([.ref p0, .int p1, .int p2, .ref p3]) ++ List.replicate (5 - (lg_sl ([.ref p0, .int p1, .int p2, .ref p3])).length) Slot.unset).toArray = ls at hl ⊢
  exact eLa_bars C hst post p0 p1 p2 p3 M hwp s.heap [] ls (hM0.self (sz := s.heap.size)) va_S.rf hl
abbrev rm_La_force : Room := { frames := 7, cells := 1, slots := 6, locals := 111 }
def Cx_La_force (p : Program) (s : State) (m : MethodId) (args : Array Value) (meth : Method) (c : Code) (D : va_G) (κ : Nat → ClassId) (A : Nat → Prop) : Prop := p.tables.exec = Jvm.exec ∧ c.code = method_8_code ∧ c.maxLocals = 4 ∧ meth.sig.returnType = (some .int) ∧ s.vm.findClass "BuckTablesLaw" = some m.cls ∧ (∀ w ∈ WG, w.before args s = true) ∧ meth.locks = false ∧ hEnv D kCl (hTys κ) A s ∧ (∀ q, s.heap.size ≤ q → A q) ∧ c.exceptionTable.toList = zTab [(0, 16, 19, 15)] ∧ hNC s
def wLa_force_15 (post : Int32 → Hp → Prop)   (y0 : Int64) (y1 : Int32) (y2 : Nat) (M : Hp) : Prop := (∃ M5 : Hp, sJ M y2 y1 y0 M5 ∧ (post (0 : Int32) M5))
set_option maxRecDepth 100000 in
set_option maxHeartbeats 4000000 in
theorem tLa_force_15 {p : Program} {l : Launch} {e : Env} {s : State} {m : MethodId} {args : Array Value} {below : List Frame} {meth : Method} {c : Code} {D : va_G} {κ : Nat → ClassId} {A : Nat → Prop} (C : Cx_La_force p s m args meth c D κ A) (hst : l.stackTraces = false) (post : Int32 → Hp → Prop)   (y0 : Int64) (y1 : Int32) (y2 : Nat) (M : Hp) (hwp : wLa_force_15 post y0 y1 y2 M) : Y p l e rm_La_force s m args below meth c D kCl (hTys κ) A 4 1 6 (MQ below (va_Qi post (hB D kCl (hTys κ) A) A) args s 1 6 A) M 15 [] [.long y0, .int y1, .ref y2] := by
  obtain ⟨hx, hb, hml, hr, hown, hts, hlocks, hE, hA, hTab, hNc⟩ := id C
  have hK := hE.1
  intro H locs ls hM hS hl
  unfold wLa_force_15 at hwp
  obtain ⟨M5, ⟨n1, f2, ha3, hi4, eM5⟩, hwp⟩ := hwp
  refine h_last hx hb hK hM hS ha3 rfl hi4 d_La_force_15 (fun H locs hM hS => ?_)
  rw [← eM5] at hM
  refine lv_goto (tgt := 22) hx hb d_La_force_16 (by decide) ?_
  refine lv_iconst (v := 0) hx hb d_La_force_22 (by decide) ?_
  exact W.iret (v := (0 : Int32)) hx hb hr (fun t ht hW => ⟨⟨(0 : Int32), M5, rfl, hwp, by show hw D kCl (hTys κ) A M5 t.heap; rw [ht]; exact hM⟩, hS.F ht⟩) hS.2.2 d_La_force_23
def wpLa_force (p0 : Nat) (p1 : Int32) (p2 : Nat) (M : Hp) (post : Int32 → Hp → Prop) : Prop := (hob M p0 0 ∧ (wpBT_force p0 p1 M (fun (r8 : Int32) (M6 : Hp) => ((r8 = 0 → (wLa_force_15 post (0 : Int64) (0 : Int32) p2 M6)) ∧ (¬ r8 = 0 → (wLa_force_15 post (1 : Int64) (0 : Int32) p2 M6)))) (fun (E9 : String) (M9 : Hp) => ((E9 = "java/lang/IllegalArgumentException" → ∀ q9 : Nat, (post (1 : Int32) M9)) ∧ (E9 = "java/lang/IllegalArgumentException")))))
set_option maxRecDepth 100000 in
set_option maxHeartbeats 4000000 in
theorem eLa_force {p : Program} {l : Launch} {e : Env} {s : State} {m : MethodId} {args : Array Value} {below : List Frame} {meth : Method} {c : Code} {D : va_G} {κ : Nat → ClassId} {A : Nat → Prop} (C : Cx_La_force p s m args meth c D κ A) (hst : l.stackTraces = false) (post : Int32 → Hp → Prop) (p0 : Nat) (p1 : Int32) (p2 : Nat) (M : Hp) (hwp : wpLa_force p0 p1 p2 M post) : Y p l e rm_La_force s m args below meth c D kCl (hTys κ) A 4 0 0 (MQ below (va_Qi post (hB D kCl (hTys κ) A) A) args s 1 6 A) M 0 [(0, .ref p0), (1, .int p1), (2, .ref p2)] [] := by
  obtain ⟨hx, hb, hml, hr, hown, hts, hlocks, hE, hA, hTab, hNc⟩ := id C
  have hK := hE.1
  intro H locs ls hM hS hl
  unfold wpLa_force at hwp
  refine lv_aload_n hx hb d_La_force_0 rfl (lv_at hl 2 rfl) ?_
  refine lv_iconst (v := 0) hx hb d_La_force_1 (by decide) ?_
  refine lv_aload_n hx hb d_La_force_2 rfl (lv_at hl 0 rfl) ?_
  refine lv_iload_n hx hb d_La_force_3 rfl (lv_at hl 1 rfl) ?_
  obtain ⟨ho7, hwp⟩ := hwp
  refine h_xcalli hM hS hA (x_runV (As := [.int p1]) (rest := [.int (0 : Int32), .ref p2]) ⟨hx, hb, hml, hown, hts⟩ (metBT_force l hst D κ H.size p0 p1 M _ _ hwp) (cwV 1 hts (gV kw_514 kw_515 kw_516 kw_1 kw_517) rfl rfl rfl (by decide +kernel) ⟨(Nat.le_of_ble_eq_true rfl), (Nat.le_of_ble_eq_true rfl)⟩) (h_preV hE hM hS ho7 (r := ("BuckTables", Tc0, 12)) rfl) rfl rfl hl.1 rfl (lv_room (Nat.le_of_ble_eq_true rfl)) d_La_force_4 ⟨(Nat.le_of_ble_eq_true rfl), (Nat.le_of_ble_eq_true rfl)⟩) (fun E9 M9 q9 ce9 H locs hwp hM hS hce hcv hcl => ?_) (fun r8 M6 H locs hwp hM hS => ?_)
  · obtain ⟨hp0, hor⟩ := hwp
    have hE9 := hor
    subst hE9
    refine x_catch (own := "BuckTablesLaw") (name := "java/lang/IllegalArgumentException") hown [] ⟨0, 16, 19, 15⟩ [] (hTab.trans rfl) (fun _ h9 => absurd h9 List.not_mem_nil) (by decide) (by decide) (hts _ kw_339) (z_cast hE.2 (List.mem_append_right _ (List.mem_of_getElem? (i := 423) (by decide +kernel))) _) hce hcv hcl ?_
    replace hwp := hp0 rfl q9
    refine lv_astore_n (lv' := [(3, .ref q9), (0, .ref p0), (1, .int p1), (2, .ref p2)]) hx hb d_La_force_19 rfl hl (by decide) rfl (fun ls hl => ?_)
    refine lv_iconst (v := 1) hx hb d_La_force_20 (by decide) ?_
    exact W.iret (v := (1 : Int32)) hx hb hr (fun t ht hW => ⟨⟨(1 : Int32), M9, rfl, hwp, by show hw D kCl (hTys κ) A M9 t.heap; rw [ht]; exact hM⟩, hS.F ht⟩) hS.2.2 d_La_force_21
  · refine lv_if_eq (tgt := 14) hx hb d_La_force_7 (by decide) (fun c9 => ?_) (fun c9 => ?_)
    · replace hwp := hwp.1 c9
      refine lv_lconst (v := 0) hx hb d_La_force_14 (by decide) ?_
      exact tLa_force_15 C hst post (0 : Int64) (0 : Int32) p2 M6 hwp H locs ls hM hS (lv_sub hl [] rfl)
    · replace hwp := hwp.2 c9
      refine lv_lconst (v := 1) hx hb d_La_force_10 (by decide) ?_
      refine lv_goto (tgt := 15) hx hb d_La_force_11 (by decide) ?_
      exact tLa_force_15 C hst post (1 : Int64) (0 : Int32) p2 M6 hwp H locs ls hM hS (lv_sub hl [] rfl)
set_option maxRecDepth 100000 in
set_option maxHeartbeats 4000000 in
theorem metLa_force (l : Launch) (hst : l.stackTraces = false) (D : va_G) (κ : Nat → ClassId) (sz : Nat) (p0 : Nat) (p1 : Int32) (p2 : Nat) (M : Hp) (post : Int32 → Hp → Prop) (hwp : wpLa_force p0 p1 p2 M post) : Met l y_La_force ws_La_force rm_La_force (hPcN D kCl (hTys κ) M sz [.ref p0, .int p1, .ref p2]) (va_Qi post (hB D kCl (hTys κ) (hAx M sz)) (hAx M sz)) 1 6 (hAx M sz) := by
  refine va_MetW (cc := method_8_code) (maxL := 4) (ret := (some .int)) (by decide +kernel) rfl ?_
  intro p e s m args below meth c s₁ B hml hv
  obtain ⟨rfl, hsz, hE, hM0, hN9⟩ := hv
  have hts : ∀ w ∈ WG, w.before _ s = true := fun w h => atoms_spec (ws := ws_La_force) B.pre w (List.mem_cons_of_mem _ h)
  subst hsz
  have C : Cx_La_force p s m _ meth c D κ (hAx M s.heap.size) := ⟨B.exec, B.bytes, hml, B.returns, findClass_of_methodNamed B.named, hts, B.notSynchronized, hE, fun q h => Or.inr h, z_table B (atoms_spec (ws := ws_La_force) B.pre _ List.mem_cons_self), hN9⟩
  have hl := lv_entry ([.ref p0, .int p1, .ref p2]) (n := 4) (Nat.le_of_ble_eq_true rfl)
  rw [lg_entry_eq]
  generalize (lg_sl ([.ref p0, .int p1, .ref p2]) ++ List.replicate (4 - (lg_sl ([.ref p0, .int p1, .ref p2])).length) Slot.unset).toArray = ls at hl ⊢
  exact eLa_force C hst post p0 p1 p2 M hwp s.heap [] ls (hM0.self (sz := s.heap.size)) va_S.rf hl
abbrev rm_La_margin : Room := { frames := 7, cells := 1, slots := 6, locals := 111 }
def Cx_La_margin (p : Program) (s : State) (m : MethodId) (args : Array Value) (meth : Method) (c : Code) (D : va_G) (κ : Nat → ClassId) (A : Nat → Prop) : Prop := p.tables.exec = Jvm.exec ∧ c.code = method_9_code ∧ c.maxLocals = 4 ∧ meth.sig.returnType = (some .int) ∧ s.vm.findClass "BuckTablesLaw" = some m.cls ∧ (∀ w ∈ WG, w.before args s = true) ∧ meth.locks = false ∧ hEnv D kCl (hTys κ) A s ∧ (∀ q, s.heap.size ≤ q → A q) ∧ c.exceptionTable.toList = zTab [(0, 16, 19, 15)] ∧ hNC s
def wLa_margin_15 (post : Int32 → Hp → Prop)   (y0 : Int64) (y1 : Int32) (y2 : Nat) (M : Hp) : Prop := (∃ M5 : Hp, sJ M y2 y1 y0 M5 ∧ (post (0 : Int32) M5))
set_option maxRecDepth 100000 in
set_option maxHeartbeats 4000000 in
theorem tLa_margin_15 {p : Program} {l : Launch} {e : Env} {s : State} {m : MethodId} {args : Array Value} {below : List Frame} {meth : Method} {c : Code} {D : va_G} {κ : Nat → ClassId} {A : Nat → Prop} (C : Cx_La_margin p s m args meth c D κ A) (hst : l.stackTraces = false) (post : Int32 → Hp → Prop)   (y0 : Int64) (y1 : Int32) (y2 : Nat) (M : Hp) (hwp : wLa_margin_15 post y0 y1 y2 M) : Y p l e rm_La_margin s m args below meth c D kCl (hTys κ) A 4 1 6 (MQ below (va_Qi post (hB D kCl (hTys κ) A) A) args s 1 6 A) M 15 [] [.long y0, .int y1, .ref y2] := by
  obtain ⟨hx, hb, hml, hr, hown, hts, hlocks, hE, hA, hTab, hNc⟩ := id C
  have hK := hE.1
  intro H locs ls hM hS hl
  unfold wLa_margin_15 at hwp
  obtain ⟨M5, ⟨n1, f2, ha3, hi4, eM5⟩, hwp⟩ := hwp
  refine h_last hx hb hK hM hS ha3 rfl hi4 d_La_margin_15 (fun H locs hM hS => ?_)
  rw [← eM5] at hM
  refine lv_goto (tgt := 22) hx hb d_La_margin_16 (by decide) ?_
  refine lv_iconst (v := 0) hx hb d_La_margin_22 (by decide) ?_
  exact W.iret (v := (0 : Int32)) hx hb hr (fun t ht hW => ⟨⟨(0 : Int32), M5, rfl, hwp, by show hw D kCl (hTys κ) A M5 t.heap; rw [ht]; exact hM⟩, hS.F ht⟩) hS.2.2 d_La_margin_23
def wpLa_margin (p0 : Nat) (p1 : Int32) (p2 : Nat) (M : Hp) (post : Int32 → Hp → Prop) : Prop := (hob M p0 0 ∧ (wpBT_margin p0 p1 M (fun (r8 : Int32) (M6 : Hp) => ((r8 = 0 → (wLa_margin_15 post (0 : Int64) (0 : Int32) p2 M6)) ∧ (¬ r8 = 0 → (wLa_margin_15 post (1 : Int64) (0 : Int32) p2 M6)))) (fun (E9 : String) (M9 : Hp) => ((E9 = "java/lang/IllegalArgumentException" → ∀ q9 : Nat, (post (1 : Int32) M9)) ∧ (E9 = "java/lang/IllegalArgumentException")))))
set_option maxRecDepth 100000 in
set_option maxHeartbeats 4000000 in
theorem eLa_margin {p : Program} {l : Launch} {e : Env} {s : State} {m : MethodId} {args : Array Value} {below : List Frame} {meth : Method} {c : Code} {D : va_G} {κ : Nat → ClassId} {A : Nat → Prop} (C : Cx_La_margin p s m args meth c D κ A) (hst : l.stackTraces = false) (post : Int32 → Hp → Prop) (p0 : Nat) (p1 : Int32) (p2 : Nat) (M : Hp) (hwp : wpLa_margin p0 p1 p2 M post) : Y p l e rm_La_margin s m args below meth c D kCl (hTys κ) A 4 0 0 (MQ below (va_Qi post (hB D kCl (hTys κ) A) A) args s 1 6 A) M 0 [(0, .ref p0), (1, .int p1), (2, .ref p2)] [] := by
  obtain ⟨hx, hb, hml, hr, hown, hts, hlocks, hE, hA, hTab, hNc⟩ := id C
  have hK := hE.1
  intro H locs ls hM hS hl
  unfold wpLa_margin at hwp
  refine lv_aload_n hx hb d_La_margin_0 rfl (lv_at hl 2 rfl) ?_
  refine lv_iconst (v := 0) hx hb d_La_margin_1 (by decide) ?_
  refine lv_aload_n hx hb d_La_margin_2 rfl (lv_at hl 0 rfl) ?_
  refine lv_iload_n hx hb d_La_margin_3 rfl (lv_at hl 1 rfl) ?_
  obtain ⟨ho7, hwp⟩ := hwp
  refine h_xcalli hM hS hA (x_runV (As := [.int p1]) (rest := [.int (0 : Int32), .ref p2]) ⟨hx, hb, hml, hown, hts⟩ (metBT_margin l hst D κ H.size p0 p1 M _ _ hwp) (cwV 1 hts (gV kw_530 kw_531 kw_532 kw_1 kw_533) rfl rfl rfl (by decide +kernel) ⟨(Nat.le_of_ble_eq_true rfl), (Nat.le_of_ble_eq_true rfl)⟩) (h_preV hE hM hS ho7 (r := ("BuckTables", Tc0, 12)) rfl) rfl rfl hl.1 rfl (lv_room (Nat.le_of_ble_eq_true rfl)) d_La_margin_4 ⟨(Nat.le_of_ble_eq_true rfl), (Nat.le_of_ble_eq_true rfl)⟩) (fun E9 M9 q9 ce9 H locs hwp hM hS hce hcv hcl => ?_) (fun r8 M6 H locs hwp hM hS => ?_)
  · obtain ⟨hp0, hor⟩ := hwp
    have hE9 := hor
    subst hE9
    refine x_catch (own := "BuckTablesLaw") (name := "java/lang/IllegalArgumentException") hown [] ⟨0, 16, 19, 15⟩ [] (hTab.trans rfl) (fun _ h9 => absurd h9 List.not_mem_nil) (by decide) (by decide) (hts _ kw_339) (z_cast hE.2 (List.mem_append_right _ (List.mem_of_getElem? (i := 423) (by decide +kernel))) _) hce hcv hcl ?_
    replace hwp := hp0 rfl q9
    refine lv_astore_n (lv' := [(3, .ref q9), (0, .ref p0), (1, .int p1), (2, .ref p2)]) hx hb d_La_margin_19 rfl hl (by decide) rfl (fun ls hl => ?_)
    refine lv_iconst (v := 1) hx hb d_La_margin_20 (by decide) ?_
    exact W.iret (v := (1 : Int32)) hx hb hr (fun t ht hW => ⟨⟨(1 : Int32), M9, rfl, hwp, by show hw D kCl (hTys κ) A M9 t.heap; rw [ht]; exact hM⟩, hS.F ht⟩) hS.2.2 d_La_margin_21
  · refine lv_if_eq (tgt := 14) hx hb d_La_margin_7 (by decide) (fun c9 => ?_) (fun c9 => ?_)
    · replace hwp := hwp.1 c9
      refine lv_lconst (v := 0) hx hb d_La_margin_14 (by decide) ?_
      exact tLa_margin_15 C hst post (0 : Int64) (0 : Int32) p2 M6 hwp H locs ls hM hS (lv_sub hl [] rfl)
    · replace hwp := hwp.2 c9
      refine lv_lconst (v := 1) hx hb d_La_margin_10 (by decide) ?_
      refine lv_goto (tgt := 15) hx hb d_La_margin_11 (by decide) ?_
      exact tLa_margin_15 C hst post (1 : Int64) (0 : Int32) p2 M6 hwp H locs ls hM hS (lv_sub hl [] rfl)
set_option maxRecDepth 100000 in
set_option maxHeartbeats 4000000 in
theorem metLa_margin (l : Launch) (hst : l.stackTraces = false) (D : va_G) (κ : Nat → ClassId) (sz : Nat) (p0 : Nat) (p1 : Int32) (p2 : Nat) (M : Hp) (post : Int32 → Hp → Prop) (hwp : wpLa_margin p0 p1 p2 M post) : Met l y_La_margin ws_La_margin rm_La_margin (hPcN D kCl (hTys κ) M sz [.ref p0, .int p1, .ref p2]) (va_Qi post (hB D kCl (hTys κ) (hAx M sz)) (hAx M sz)) 1 6 (hAx M sz) := by
  refine va_MetW (cc := method_9_code) (maxL := 4) (ret := (some .int)) (by decide +kernel) rfl ?_
  intro p e s m args below meth c s₁ B hml hv
  obtain ⟨rfl, hsz, hE, hM0, hN9⟩ := hv
  have hts : ∀ w ∈ WG, w.before _ s = true := fun w h => atoms_spec (ws := ws_La_margin) B.pre w (List.mem_cons_of_mem _ h)
  subst hsz
  have C : Cx_La_margin p s m _ meth c D κ (hAx M s.heap.size) := ⟨B.exec, B.bytes, hml, B.returns, findClass_of_methodNamed B.named, hts, B.notSynchronized, hE, fun q h => Or.inr h, z_table B (atoms_spec (ws := ws_La_margin) B.pre _ List.mem_cons_self), hN9⟩
  have hl := lv_entry ([.ref p0, .int p1, .ref p2]) (n := 4) (Nat.le_of_ble_eq_true rfl)
  rw [lg_entry_eq]
  generalize (lg_sl ([.ref p0, .int p1, .ref p2]) ++ List.replicate (4 - (lg_sl ([.ref p0, .int p1, .ref p2])).length) Slot.unset).toArray = ls at hl ⊢
  exact eLa_margin C hst post p0 p1 p2 M hwp s.heap [] ls (hM0.self (sz := s.heap.size)) va_S.rf hl
abbrev rm_La_saw : Room := { frames := 7, cells := 1, slots := 6, locals := 111 }
def Cx_La_saw (p : Program) (s : State) (m : MethodId) (args : Array Value) (meth : Method) (c : Code) (D : va_G) (κ : Nat → ClassId) (A : Nat → Prop) : Prop := p.tables.exec = Jvm.exec ∧ c.code = method_10_code ∧ c.maxLocals = 4 ∧ meth.sig.returnType = (some .int) ∧ s.vm.findClass "BuckTablesLaw" = some m.cls ∧ (∀ w ∈ WG, w.before args s = true) ∧ meth.locks = false ∧ hEnv D kCl (hTys κ) A s ∧ (∀ q, s.heap.size ≤ q → A q) ∧ c.exceptionTable.toList = zTab [(0, 16, 19, 15)] ∧ hNC s
def wLa_saw_15 (post : Int32 → Hp → Prop)   (y0 : Int64) (y1 : Int32) (y2 : Nat) (M : Hp) : Prop := (∃ M5 : Hp, sJ M y2 y1 y0 M5 ∧ (post (0 : Int32) M5))
set_option maxRecDepth 100000 in
set_option maxHeartbeats 4000000 in
theorem tLa_saw_15 {p : Program} {l : Launch} {e : Env} {s : State} {m : MethodId} {args : Array Value} {below : List Frame} {meth : Method} {c : Code} {D : va_G} {κ : Nat → ClassId} {A : Nat → Prop} (C : Cx_La_saw p s m args meth c D κ A) (hst : l.stackTraces = false) (post : Int32 → Hp → Prop)   (y0 : Int64) (y1 : Int32) (y2 : Nat) (M : Hp) (hwp : wLa_saw_15 post y0 y1 y2 M) : Y p l e rm_La_saw s m args below meth c D kCl (hTys κ) A 4 1 6 (MQ below (va_Qi post (hB D kCl (hTys κ) A) A) args s 1 6 A) M 15 [] [.long y0, .int y1, .ref y2] := by
  obtain ⟨hx, hb, hml, hr, hown, hts, hlocks, hE, hA, hTab, hNc⟩ := id C
  have hK := hE.1
  intro H locs ls hM hS hl
  unfold wLa_saw_15 at hwp
  obtain ⟨M5, ⟨n1, f2, ha3, hi4, eM5⟩, hwp⟩ := hwp
  refine h_last hx hb hK hM hS ha3 rfl hi4 d_La_saw_15 (fun H locs hM hS => ?_)
  rw [← eM5] at hM
  refine lv_goto (tgt := 22) hx hb d_La_saw_16 (by decide) ?_
  refine lv_iconst (v := 0) hx hb d_La_saw_22 (by decide) ?_
  exact W.iret (v := (0 : Int32)) hx hb hr (fun t ht hW => ⟨⟨(0 : Int32), M5, rfl, hwp, by show hw D kCl (hTys κ) A M5 t.heap; rw [ht]; exact hM⟩, hS.F ht⟩) hS.2.2 d_La_saw_23
def wpLa_saw (p0 : Nat) (p1 : Int32) (p2 : Nat) (M : Hp) (post : Int32 → Hp → Prop) : Prop := (hob M p0 0 ∧ (wpBT_saw p0 p1 M (fun (r8 : Int32) (M6 : Hp) => ((r8 = 0 → (wLa_saw_15 post (0 : Int64) (0 : Int32) p2 M6)) ∧ (¬ r8 = 0 → (wLa_saw_15 post (1 : Int64) (0 : Int32) p2 M6)))) (fun (E9 : String) (M9 : Hp) => ((E9 = "java/lang/IllegalArgumentException" → ∀ q9 : Nat, (post (1 : Int32) M9)) ∧ (E9 = "java/lang/IllegalArgumentException")))))
set_option maxRecDepth 100000 in
set_option maxHeartbeats 4000000 in
theorem eLa_saw {p : Program} {l : Launch} {e : Env} {s : State} {m : MethodId} {args : Array Value} {below : List Frame} {meth : Method} {c : Code} {D : va_G} {κ : Nat → ClassId} {A : Nat → Prop} (C : Cx_La_saw p s m args meth c D κ A) (hst : l.stackTraces = false) (post : Int32 → Hp → Prop) (p0 : Nat) (p1 : Int32) (p2 : Nat) (M : Hp) (hwp : wpLa_saw p0 p1 p2 M post) : Y p l e rm_La_saw s m args below meth c D kCl (hTys κ) A 4 0 0 (MQ below (va_Qi post (hB D kCl (hTys κ) A) A) args s 1 6 A) M 0 [(0, .ref p0), (1, .int p1), (2, .ref p2)] [] := by
  obtain ⟨hx, hb, hml, hr, hown, hts, hlocks, hE, hA, hTab, hNc⟩ := id C
  have hK := hE.1
  intro H locs ls hM hS hl
  unfold wpLa_saw at hwp
  refine lv_aload_n hx hb d_La_saw_0 rfl (lv_at hl 2 rfl) ?_
  refine lv_iconst (v := 0) hx hb d_La_saw_1 (by decide) ?_
  refine lv_aload_n hx hb d_La_saw_2 rfl (lv_at hl 0 rfl) ?_
  refine lv_iload_n hx hb d_La_saw_3 rfl (lv_at hl 1 rfl) ?_
  obtain ⟨ho7, hwp⟩ := hwp
  refine h_xcalli hM hS hA (x_runV (As := [.int p1]) (rest := [.int (0 : Int32), .ref p2]) ⟨hx, hb, hml, hown, hts⟩ (metBT_saw l hst D κ H.size p0 p1 M _ _ hwp) (cwV 1 hts (gV kw_538 kw_539 kw_540 kw_1 kw_541) rfl rfl rfl (by decide +kernel) ⟨(Nat.le_of_ble_eq_true rfl), (Nat.le_of_ble_eq_true rfl)⟩) (h_preV hE hM hS ho7 (r := ("BuckTables", Tc0, 12)) rfl) rfl rfl hl.1 rfl (lv_room (Nat.le_of_ble_eq_true rfl)) d_La_saw_4 ⟨(Nat.le_of_ble_eq_true rfl), (Nat.le_of_ble_eq_true rfl)⟩) (fun E9 M9 q9 ce9 H locs hwp hM hS hce hcv hcl => ?_) (fun r8 M6 H locs hwp hM hS => ?_)
  · obtain ⟨hp0, hor⟩ := hwp
    have hE9 := hor
    subst hE9
    refine x_catch (own := "BuckTablesLaw") (name := "java/lang/IllegalArgumentException") hown [] ⟨0, 16, 19, 15⟩ [] (hTab.trans rfl) (fun _ h9 => absurd h9 List.not_mem_nil) (by decide) (by decide) (hts _ kw_339) (z_cast hE.2 (List.mem_append_right _ (List.mem_of_getElem? (i := 423) (by decide +kernel))) _) hce hcv hcl ?_
    replace hwp := hp0 rfl q9
    refine lv_astore_n (lv' := [(3, .ref q9), (0, .ref p0), (1, .int p1), (2, .ref p2)]) hx hb d_La_saw_19 rfl hl (by decide) rfl (fun ls hl => ?_)
    refine lv_iconst (v := 1) hx hb d_La_saw_20 (by decide) ?_
    exact W.iret (v := (1 : Int32)) hx hb hr (fun t ht hW => ⟨⟨(1 : Int32), M9, rfl, hwp, by show hw D kCl (hTys κ) A M9 t.heap; rw [ht]; exact hM⟩, hS.F ht⟩) hS.2.2 d_La_saw_21
  · refine lv_if_eq (tgt := 14) hx hb d_La_saw_7 (by decide) (fun c9 => ?_) (fun c9 => ?_)
    · replace hwp := hwp.1 c9
      refine lv_lconst (v := 0) hx hb d_La_saw_14 (by decide) ?_
      exact tLa_saw_15 C hst post (0 : Int64) (0 : Int32) p2 M6 hwp H locs ls hM hS (lv_sub hl [] rfl)
    · replace hwp := hwp.2 c9
      refine lv_lconst (v := 1) hx hb d_La_saw_10 (by decide) ?_
      refine lv_goto (tgt := 15) hx hb d_La_saw_11 (by decide) ?_
      exact tLa_saw_15 C hst post (1 : Int64) (0 : Int32) p2 M6 hwp H locs ls hM hS (lv_sub hl [] rfl)
set_option maxRecDepth 100000 in
set_option maxHeartbeats 4000000 in
theorem metLa_saw (l : Launch) (hst : l.stackTraces = false) (D : va_G) (κ : Nat → ClassId) (sz : Nat) (p0 : Nat) (p1 : Int32) (p2 : Nat) (M : Hp) (post : Int32 → Hp → Prop) (hwp : wpLa_saw p0 p1 p2 M post) : Met l y_La_saw ws_La_saw rm_La_saw (hPcN D kCl (hTys κ) M sz [.ref p0, .int p1, .ref p2]) (va_Qi post (hB D kCl (hTys κ) (hAx M sz)) (hAx M sz)) 1 6 (hAx M sz) := by
  refine va_MetW (cc := method_10_code) (maxL := 4) (ret := (some .int)) (by decide +kernel) rfl ?_
  intro p e s m args below meth c s₁ B hml hv
  obtain ⟨rfl, hsz, hE, hM0, hN9⟩ := hv
  have hts : ∀ w ∈ WG, w.before _ s = true := fun w h => atoms_spec (ws := ws_La_saw) B.pre w (List.mem_cons_of_mem _ h)
  subst hsz
  have C : Cx_La_saw p s m _ meth c D κ (hAx M s.heap.size) := ⟨B.exec, B.bytes, hml, B.returns, findClass_of_methodNamed B.named, hts, B.notSynchronized, hE, fun q h => Or.inr h, z_table B (atoms_spec (ws := ws_La_saw) B.pre _ List.mem_cons_self), hN9⟩
  have hl := lv_entry ([.ref p0, .int p1, .ref p2]) (n := 4) (Nat.le_of_ble_eq_true rfl)
  rw [lg_entry_eq]
  generalize (lg_sl ([.ref p0, .int p1, .ref p2]) ++ List.replicate (4 - (lg_sl ([.ref p0, .int p1, .ref p2])).length) Slot.unset).toArray = ls at hl ⊢
  exact eLa_saw C hst post p0 p1 p2 M hwp s.heap [] ls (hM0.self (sz := s.heap.size)) va_S.rf hl
abbrev rm_La_limit : Room := { frames := 8, cells := 2, slots := 12, locals := 135 }
def Cx_La_limit (p : Program) (s : State) (m : MethodId) (args : Array Value) (meth : Method) (c : Code) (D : va_G) (κ : Nat → ClassId) (A : Nat → Prop) : Prop := p.tables.exec = Jvm.exec ∧ c.code = method_11_code ∧ c.maxLocals = 6 ∧ meth.sig.returnType = (some .int) ∧ s.vm.findClass "BuckTablesLaw" = some m.cls ∧ (∀ w ∈ WG, w.before args s = true) ∧ meth.locks = false ∧ hEnv D kCl (hTys κ) A s ∧ (∀ q, s.heap.size ≤ q → A q) ∧ c.exceptionTable.toList = zTab [(0, 18, 21, 32), (0, 18, 25, 15)] ∧ hNC s
def wLa_limit_17 (post : Int32 → Hp → Prop)   (y0 : Int64) (y1 : Int32) (y2 : Nat) (M : Hp) : Prop := (∃ M5 : Hp, sJ M y2 y1 y0 M5 ∧ (post (0 : Int32) M5))
set_option maxRecDepth 100000 in
set_option maxHeartbeats 4000000 in
theorem tLa_limit_17 {p : Program} {l : Launch} {e : Env} {s : State} {m : MethodId} {args : Array Value} {below : List Frame} {meth : Method} {c : Code} {D : va_G} {κ : Nat → ClassId} {A : Nat → Prop} (C : Cx_La_limit p s m args meth c D κ A) (hst : l.stackTraces = false) (post : Int32 → Hp → Prop)   (y0 : Int64) (y1 : Int32) (y2 : Nat) (M : Hp) (hwp : wLa_limit_17 post y0 y1 y2 M) : Y p l e rm_La_limit s m args below meth c D kCl (hTys κ) A 6 2 12 (MQ below (va_Qi post (hB D kCl (hTys κ) A) A) args s 2 12 A) M 17 [] [.long y0, .int y1, .ref y2] := by
  obtain ⟨hx, hb, hml, hr, hown, hts, hlocks, hE, hA, hTab, hNc⟩ := id C
  have hK := hE.1
  intro H locs ls hM hS hl
  unfold wLa_limit_17 at hwp
  obtain ⟨M5, ⟨n1, f2, ha3, hi4, eM5⟩, hwp⟩ := hwp
  refine h_last hx hb hK hM hS ha3 rfl hi4 d_La_limit_17 (fun H locs hM hS => ?_)
  rw [← eM5] at hM
  refine lv_goto (tgt := 29) hx hb d_La_limit_18 (by decide) ?_
  refine lv_iconst (v := 0) hx hb d_La_limit_29 (by decide) ?_
  exact W.iret (v := (0 : Int32)) hx hb hr (fun t ht hW => ⟨⟨(0 : Int32), M5, rfl, hwp, by show hw D kCl (hTys κ) A M5 t.heap; rw [ht]; exact hM⟩, hS.F ht⟩) hS.2.2 d_La_limit_30
def wpLa_limit (p0 : Nat) (p1 : Int32) (p2 : Int64) (p3 : Nat) (M : Hp) (post : Int32 → Hp → Prop) : Prop := (hob M p0 0 ∧ (wpBT_limit p0 p1 p2 M (fun (r8 : Int32) (M6 : Hp) => ((r8 = 0 → (wLa_limit_17 post (0 : Int64) (0 : Int32) p3 M6)) ∧ (¬ r8 = 0 → (wLa_limit_17 post (1 : Int64) (0 : Int32) p3 M6)))) (fun (E9 : String) (M9 : Hp) => ((E9 = "java/lang/IndexOutOfBoundsException" → ∀ q9 : Nat, (post (1 : Int32) M9)) ∧ (E9 = "java/lang/IllegalArgumentException" → ∀ q9 : Nat, (post (2 : Int32) M9)) ∧ (E9 = "java/lang/IndexOutOfBoundsException" ∨ E9 = "java/lang/IllegalArgumentException")))))
set_option maxRecDepth 100000 in
set_option maxHeartbeats 4000000 in
theorem eLa_limit {p : Program} {l : Launch} {e : Env} {s : State} {m : MethodId} {args : Array Value} {below : List Frame} {meth : Method} {c : Code} {D : va_G} {κ : Nat → ClassId} {A : Nat → Prop} (C : Cx_La_limit p s m args meth c D κ A) (hst : l.stackTraces = false) (post : Int32 → Hp → Prop) (p0 : Nat) (p1 : Int32) (p2 : Int64) (p3 : Nat) (M : Hp) (hwp : wpLa_limit p0 p1 p2 p3 M post) : Y p l e rm_La_limit s m args below meth c D kCl (hTys κ) A 6 0 0 (MQ below (va_Qi post (hB D kCl (hTys κ) A) A) args s 2 12 A) M 0 [(0, .ref p0), (1, .int p1), (2, .long p2), (4, .ref p3)] [] := by
  obtain ⟨hx, hb, hml, hr, hown, hts, hlocks, hE, hA, hTab, hNc⟩ := id C
  have hK := hE.1
  intro H locs ls hM hS hl
  unfold wpLa_limit at hwp
  refine lv_aload hx hb d_La_limit_0 (lv_at hl 3 rfl) ?_
  refine lv_iconst (v := 0) hx hb d_La_limit_2 (by decide) ?_
  refine lv_aload_n hx hb d_La_limit_3 rfl (lv_at hl 0 rfl) ?_
  refine lv_iload_n hx hb d_La_limit_4 rfl (lv_at hl 1 rfl) ?_
  refine lv_lload_n hx hb d_La_limit_5 rfl (lv_at hl 2 rfl) ?_
  obtain ⟨ho7, hwp⟩ := hwp
  refine h_xcalli hM hS hA (x_runV (As := [.int p1, .long p2]) (rest := [.int (0 : Int32), .ref p3]) ⟨hx, hb, hml, hown, hts⟩ (metBT_limit l hst D κ H.size p0 p1 p2 M _ _ hwp) (cwV 2 hts (gV kw_547 kw_548 kw_549 kw_1 kw_550) rfl rfl rfl (by decide +kernel) ⟨(Nat.le_of_ble_eq_true rfl), (Nat.le_of_ble_eq_true rfl)⟩) (h_preV hE hM hS ho7 (r := ("BuckTables", Tc0, 12)) rfl) rfl rfl hl.1 rfl (lv_room (Nat.le_of_ble_eq_true rfl)) d_La_limit_6 ⟨(Nat.le_of_ble_eq_true rfl), (Nat.le_of_ble_eq_true rfl)⟩) (fun E9 M9 q9 ce9 H locs hwp hM hS hce hcv hcl => ?_) (fun r8 M6 H locs hwp hM hS => ?_)
  · obtain ⟨hp0, hp1, hor⟩ := hwp
    rcases hor with hE9 | hE9
    · subst hE9
      refine x_catch (own := "BuckTablesLaw") (name := "java/lang/IndexOutOfBoundsException") hown [] ⟨0, 18, 21, 32⟩ [⟨0, 18, 25, 15⟩] (hTab.trans rfl) (fun _ h9 => absurd h9 List.not_mem_nil) (by decide) (by decide) (hts _ kw_485) (z_cast hE.2 (List.mem_append_right _ (List.mem_of_getElem? (i := 496) (by decide +kernel))) _) hce hcv hcl ?_
      replace hwp := hp0 rfl q9
      refine lv_astore (lv' := [(5, .ref q9), (0, .ref p0), (1, .int p1), (2, .long p2), (4, .ref p3)]) hx hb d_La_limit_21 hl (by decide) rfl (fun ls hl => ?_)
      refine lv_iconst (v := 1) hx hb d_La_limit_23 (by decide) ?_
      exact W.iret (v := (1 : Int32)) hx hb hr (fun t ht hW => ⟨⟨(1 : Int32), M9, rfl, hwp, by show hw D kCl (hTys κ) A M9 t.heap; rw [ht]; exact hM⟩, hS.F ht⟩) hS.2.2 d_La_limit_24
    · subst hE9
      refine x_catch (own := "BuckTablesLaw") (name := "java/lang/IllegalArgumentException") hown [⟨0, 18, 21, 32⟩] ⟨0, 18, 25, 15⟩ [] (hTab.trans rfl) (List.forall_mem_cons.mpr ⟨Or.inr ⟨by decide, "java/lang/IndexOutOfBoundsException", hts _ kw_485, hNc ("java/lang/IllegalArgumentException", "java/lang/IndexOutOfBoundsException") (by decide)⟩, fun _ h9 => absurd h9 List.not_mem_nil⟩) (by decide) (by decide) (hts _ kw_339) (z_cast hE.2 (List.mem_append_right _ (List.mem_of_getElem? (i := 423) (by decide +kernel))) _) hce hcv hcl ?_
      replace hwp := hp1 rfl q9
      refine lv_astore (lv' := [(5, .ref q9), (0, .ref p0), (1, .int p1), (2, .long p2), (4, .ref p3)]) hx hb d_La_limit_25 hl (by decide) rfl (fun ls hl => ?_)
      refine lv_iconst (v := 2) hx hb d_La_limit_27 (by decide) ?_
      exact W.iret (v := (2 : Int32)) hx hb hr (fun t ht hW => ⟨⟨(2 : Int32), M9, rfl, hwp, by show hw D kCl (hTys κ) A M9 t.heap; rw [ht]; exact hM⟩, hS.F ht⟩) hS.2.2 d_La_limit_28
  · refine lv_if_eq (tgt := 16) hx hb d_La_limit_9 (by decide) (fun c9 => ?_) (fun c9 => ?_)
    · replace hwp := hwp.1 c9
      refine lv_lconst (v := 0) hx hb d_La_limit_16 (by decide) ?_
      exact tLa_limit_17 C hst post (0 : Int64) (0 : Int32) p3 M6 hwp H locs ls hM hS (lv_sub hl [] rfl)
    · replace hwp := hwp.2 c9
      refine lv_lconst (v := 1) hx hb d_La_limit_12 (by decide) ?_
      refine lv_goto (tgt := 17) hx hb d_La_limit_13 (by decide) ?_
      exact tLa_limit_17 C hst post (1 : Int64) (0 : Int32) p3 M6 hwp H locs ls hM hS (lv_sub hl [] rfl)
set_option maxRecDepth 100000 in
set_option maxHeartbeats 4000000 in
theorem metLa_limit (l : Launch) (hst : l.stackTraces = false) (D : va_G) (κ : Nat → ClassId) (sz : Nat) (p0 : Nat) (p1 : Int32) (p2 : Int64) (p3 : Nat) (M : Hp) (post : Int32 → Hp → Prop) (hwp : wpLa_limit p0 p1 p2 p3 M post) : Met l y_La_limit ws_La_limit rm_La_limit (hPcN D kCl (hTys κ) M sz [.ref p0, .int p1, .long p2, .ref p3]) (va_Qi post (hB D kCl (hTys κ) (hAx M sz)) (hAx M sz)) 2 12 (hAx M sz) := by
  refine va_MetW (cc := method_11_code) (maxL := 6) (ret := (some .int)) (by decide +kernel) rfl ?_
  intro p e s m args below meth c s₁ B hml hv
  obtain ⟨rfl, hsz, hE, hM0, hN9⟩ := hv
  have hts : ∀ w ∈ WG, w.before _ s = true := fun w h => atoms_spec (ws := ws_La_limit) B.pre w (List.mem_cons_of_mem _ h)
  subst hsz
  have C : Cx_La_limit p s m _ meth c D κ (hAx M s.heap.size) := ⟨B.exec, B.bytes, hml, B.returns, findClass_of_methodNamed B.named, hts, B.notSynchronized, hE, fun q h => Or.inr h, z_table B (atoms_spec (ws := ws_La_limit) B.pre _ List.mem_cons_self), hN9⟩
  have hl := lv_entry ([.ref p0, .int p1, .long p2, .ref p3]) (n := 6) (Nat.le_of_ble_eq_true rfl)
  rw [lg_entry_eq]
  generalize (lg_sl ([.ref p0, .int p1, .long p2, .ref p3]) ++ List.replicate (6 - (lg_sl ([.ref p0, .int p1, .long p2, .ref p3])).length) Slot.unset).toArray = ls at hl ⊢
  exact eLa_limit C hst post p0 p1 p2 p3 M hwp s.heap [] ls (hM0.self (sz := s.heap.size)) va_S.rf hl
