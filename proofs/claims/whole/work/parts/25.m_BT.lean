abbrev rm_Cu_letEndIn : Room := { frames := 1, cells := 0, slots := 0, locals := 23 }
def Cx_Cu_letEndIn (p : Program) (s : State) (m : MethodId) (args : Array Value) (meth : Method) (c : Code) (D : va_G) (κ : Nat → ClassId) (A : Nat → Prop) : Prop := p.tables.exec = Jvm.exec ∧ c.code = prog_2_method_4_code ∧ c.maxLocals = 9 ∧ meth.sig.returnType = none ∧ s.vm.findClass "BuckTables$Cutter" = some m.cls ∧ (∀ w ∈ WG, w.before args s = true) ∧ meth.locks = false ∧ hEnv D kCl (hTys κ) A s ∧ (∀ q, s.heap.size ≤ q → A q)
def wCu_letEndIn_64 (post : Hp → Prop)   (M : Hp) : Prop := (post M)
set_option maxRecDepth 100000 in
set_option maxHeartbeats 4000000 in
theorem tCu_letEndIn_64 {p : Program} {l : Launch} {e : Env} {s : State} {m : MethodId} {args : Array Value} {below : List Frame} {meth : Method} {c : Code} {D : va_G} {κ : Nat → ClassId} {A : Nat → Prop} (C : Cx_Cu_letEndIn p s m args meth c D κ A) (post : Hp → Prop)   (M : Hp) (hwp : wCu_letEndIn_64 post  M) : Y p l e rm_Cu_letEndIn s m args below meth c D kCl (hTys κ) A 9 0 0 (MQ below (va_Qv post (hB D kCl (hTys κ) A) A) args s 0 0 A) M 64 [] [] := by
  obtain ⟨hx, hb, hml, hr, hown, hts, hlocks, hE, hA⟩ := id C
  have hK := hE.1
  intro H locs ls hM hS hl
  unfold wCu_letEndIn_64 at hwp
  exact W.vret hx hb hr (fun t ht hW => ⟨⟨M, rfl, hwp, by show hw D kCl (hTys κ) A M t.heap; rw [ht]; exact hM⟩, hS.F ht⟩) hS.2.2 d_Cu_letEndIn_64
def wpCu_letEndIn (self : Nat) (p0 : Nat) (p1 : Nat) (p2 : Nat) (p3 : Int32) (p4 : Int32) (M : Hp) (post : Hp → Prop) : Prop := (∃ v1 : Int32, fI M p2 2 3 v1 ∧ (∀ z5 : Int32, z5 = (p3 + v1) → (∃ v6 : Int32, fI M p0 1 11 v6 ∧ ((v6 < z5 → (wCu_letEndIn_64 post M)) ∧ (¬ v6 < z5 → (∃ a11 : Nat, fA M self 4 0 a11 ∧ (∃ v15 : Int32, fI M p0 1 11 v15 ∧ (∃ v19 : Int64, aJ M a11 (if v15 < (z5 + p4) then v15 else (z5 + p4)) v19 ∧ (∃ v24 : Int64, fJ M p2 2 7 v24 ∧ (hob M p1 3 ∧ (wpWi_enter p1 (((((v24 * (z5.toInt64)) * (128 : Int64)) + v19) * (128 : Int64)) + (z5.toInt64)) M (fun (M28 : Hp) => (wCu_letEndIn_64 post M28)))))))))))))
set_option maxRecDepth 100000 in
set_option maxHeartbeats 4000000 in
theorem eCu_letEndIn {p : Program} {l : Launch} {e : Env} {s : State} {m : MethodId} {args : Array Value} {below : List Frame} {meth : Method} {c : Code} {D : va_G} {κ : Nat → ClassId} {A : Nat → Prop} (C : Cx_Cu_letEndIn p s m args meth c D κ A) (post : Hp → Prop) (self : Nat) (p0 : Nat) (p1 : Nat) (p2 : Nat) (p3 : Int32) (p4 : Int32) (M : Hp) (hwp : wpCu_letEndIn self p0 p1 p2 p3 p4 M post) : Y p l e rm_Cu_letEndIn s m args below meth c D kCl (hTys κ) A 9 0 0 (MQ below (va_Qv post (hB D kCl (hTys κ) A) A) args s 0 0 A) M 0 [(0, .ref self), (1, .ref p0), (2, .ref p1), (3, .ref p2), (4, .int p3), (5, .int p4)] [] := by
  obtain ⟨hx, hb, hml, hr, hown, hts, hlocks, hE, hA⟩ := id C
  have hK := hE.1
  intro H locs ls hM hS hl
  unfold wpCu_letEndIn at hwp
  refine lv_iload hx hb d_Cu_letEndIn_0 (lv_at hl 4 rfl) ?_
  refine lv_aload_n hx hb d_Cu_letEndIn_2 rfl (lv_at hl 3 rfl) ?_
  obtain ⟨v1, ⟨fs2, he3, hv4⟩, hwp⟩ := hwp
  refine h_get (C := "BuckTables$Product") (T := Tc2) (N := 10) hx hb hts inc2 hown hK hM he3 rfl 3 (by decide) (hts _ kw_167) (fun _ h9 => h9) hv4 d_Cu_letEndIn_3 ?_
  refine lv_iadd hx hb d_Cu_letEndIn_6 ?_
  refine lv_topi (fun z5 ez5 => ?_)
  replace hwp := hwp z5 ez5
  refine lv_istore (lv' := [(6, .int z5), (0, .ref self), (1, .ref p0), (2, .ref p1), (3, .ref p2), (4, .int p3), (5, .int p4)]) hx hb d_Cu_letEndIn_7 hl (by decide) rfl (fun ls hl => ?_)
  refine lv_iload hx hb d_Cu_letEndIn_9 (lv_at hl 0 rfl) ?_
  refine lv_aload_n hx hb d_Cu_letEndIn_11 rfl (lv_at hl 2 rfl) ?_
  obtain ⟨v6, ⟨fs7, he8, hv9⟩, hwp⟩ := hwp
  refine h_get (C := "BuckTables$Stem") (T := Tc1) (N := 12) hx hb hts inc1 hown hK hM he8 rfl 11 (by decide) (hts _ kw_126) (fun _ h9 => h9) hv9 d_Cu_letEndIn_12 ?_
  refine lv_icmp_gt (tgt := 64) hx hb d_Cu_letEndIn_15 (by decide) (fun c10 => ?_) (fun c10 => ?_)
  · replace hwp := hwp.1 c10
    exact tCu_letEndIn_64 C post M hwp H locs ls hM hS (lv_sub hl [] rfl)
  · replace hwp := hwp.2 c10
    refine lv_aload_n hx hb d_Cu_letEndIn_18 rfl (lv_at hl 1 rfl) ?_
    obtain ⟨a11, ⟨fs12, he13, hv14⟩, hwp⟩ := hwp
    refine h_get (C := "BuckTables$Cutter") (T := Tc4) (N := 4) hx hb hts inc4 hown hK hM he13 rfl 0 (by decide) (hts _ kw_56) (fun _ h9 => h9) hv14 d_Cu_letEndIn_19 ?_
    refine lv_iload hx hb d_Cu_letEndIn_22 (lv_at hl 0 rfl) ?_
    refine lv_iload hx hb d_Cu_letEndIn_24 (lv_at hl 6 rfl) ?_
    refine lv_iadd hx hb d_Cu_letEndIn_26 ?_
    refine lv_aload_n hx hb d_Cu_letEndIn_27 rfl (lv_at hl 2 rfl) ?_
    obtain ⟨v15, ⟨fs16, he17, hv18⟩, hwp⟩ := hwp
    refine h_get (C := "BuckTables$Stem") (T := Tc1) (N := 12) hx hb hts inc1 hown hK hM he17 rfl 11 (by decide) (hts _ kw_126) (fun _ h9 => h9) hv18 d_Cu_letEndIn_28 ?_
    refine va_mmin hx hb (show c.maxLocals = ls.size by rw [hml, hl.1]) hown (hts _ kw_293) (hts _ kw_97) (hts _ kw_5) (hts _ kw_98) (Nat.le_of_ble_eq_true rfl) (Nat.le_of_ble_eq_true rfl) (Nat.le_of_ble_eq_true rfl) (Nat.le_of_ble_eq_true rfl) d_Cu_letEndIn_31 ?_
    obtain ⟨v19, ⟨n20, f21, ha22, hi23, ev19⟩, hwp⟩ := hwp
    refine h_lald hx hb hK hM ha22 rfl hi23 d_Cu_letEndIn_34 ?_
    rw [← ev19]
    refine lv_lstore (lv' := [(7, .long v19), (6, .int z5), (0, .ref self), (1, .ref p0), (2, .ref p1), (3, .ref p2), (4, .int p3), (5, .int p4)]) hx hb d_Cu_letEndIn_35 hl (by decide) rfl (fun ls hl => ?_)
    refine lv_aload_n hx hb d_Cu_letEndIn_37 rfl (lv_at hl 4 rfl) ?_
    refine lv_aload_n hx hb d_Cu_letEndIn_38 rfl (lv_at hl 5 rfl) ?_
    obtain ⟨v24, ⟨fs25, he26, hv27⟩, hwp⟩ := hwp
    refine h_get (C := "BuckTables$Product") (T := Tc2) (N := 10) hx hb hts inc2 hown hK hM he26 rfl 7 (by decide) (hts _ kw_175) (fun _ h9 => h9) hv27 d_Cu_letEndIn_39 ?_
    refine lv_iload hx hb d_Cu_letEndIn_42 (lv_at hl 1 rfl) ?_
    refine lv_i2l hx hb d_Cu_letEndIn_44 rfl ?_
    refine lv_lmul hx hb d_Cu_letEndIn_45 ?_
    refine lv_ldc2 (v := (128)) hx hb hown (hts _ kw_288) d_Cu_letEndIn_46 ?_
    refine lv_lmul hx hb d_Cu_letEndIn_49 ?_
    refine lv_lload hx hb d_Cu_letEndIn_50 (lv_at hl 0 rfl) ?_
    refine lv_ladd hx hb d_Cu_letEndIn_52 ?_
    refine lv_ldc2 (v := (128)) hx hb hown (hts _ kw_288) d_Cu_letEndIn_53 ?_
    refine lv_lmul hx hb d_Cu_letEndIn_56 ?_
    refine lv_iload hx hb d_Cu_letEndIn_57 (lv_at hl 1 rfl) ?_
    refine lv_i2l hx hb d_Cu_letEndIn_59 rfl ?_
    refine lv_ladd hx hb d_Cu_letEndIn_60 ?_
    obtain ⟨ho29, hwp⟩ := hwp
    refine h_callv hM hS hA (va_runV (As := [.long (((((v24 * (z5.toInt64)) * (128 : Int64)) + v19) * (128 : Int64)) + (z5.toInt64))]) (rest := []) ⟨hx, hb, hml, hown, hts⟩ (metWi_enter l D κ H.size p1 (((((v24 * (z5.toInt64)) * (128 : Int64)) + v19) * (128 : Int64)) + (z5.toInt64)) M _ hwp) (cwV 1 hts (gV kw_294 kw_295 kw_296 kw_3 kw_297) rfl rfl rfl (by decide +kernel) ⟨(Nat.le_of_ble_eq_true rfl), (Nat.le_of_ble_eq_true rfl)⟩) (h_preV hE hM hS ho29 (r := ("BuckTables$Window", Tc3, 3)) rfl) rfl rfl hl.1 rfl (lv_room (Nat.le_of_ble_eq_true rfl)) d_Cu_letEndIn_61 ⟨(Nat.le_of_ble_eq_true rfl), (Nat.le_of_ble_eq_true rfl)⟩) (fun M28 H locs hwp hM hS => ?_)
    exact tCu_letEndIn_64 C post M28 hwp H locs ls hM hS (lv_sub hl [] rfl)
set_option maxRecDepth 100000 in
set_option maxHeartbeats 4000000 in
theorem metCu_letEndIn (l : Launch) (D : va_G) (κ : Nat → ClassId) (sz : Nat) (self : Nat) (p0 : Nat) (p1 : Nat) (p2 : Nat) (p3 : Int32) (p4 : Int32) (M : Hp) (post : Hp → Prop) (hwp : wpCu_letEndIn self p0 p1 p2 p3 p4 M post) : Met l y_Cu_letEndIn ws_Cu_letEndIn rm_Cu_letEndIn (hPc D kCl (hTys κ) M sz [.ref self, .ref p0, .ref p1, .ref p2, .int p3, .int p4]) (va_Qv post (hB D kCl (hTys κ) (hAx M sz)) (hAx M sz)) 0 0 (hAx M sz) := by
  refine Met.ofW (cc := prog_2_method_4_code) (maxL := 9) (ret := none) (by decide +kernel) rfl ?_
  intro p e s m args below meth c s₁ B hml hv
  obtain ⟨rfl, hsz, hE, hM0⟩ := hv
  have hts : ∀ w ∈ WG, w.before _ s = true := fun w h => atoms_spec (ws := ws_Cu_letEndIn) B.pre w (List.mem_cons_of_mem _ h)
  subst hsz
  have C : Cx_Cu_letEndIn p s m _ meth c D κ (hAx M s.heap.size) := ⟨B.exec, B.bytes, hml, B.returns, findClass_of_methodNamed B.named, hts, B.notSynchronized, hE, fun q h => Or.inr h⟩
  have hl := lv_entry ([.ref self, .ref p0, .ref p1, .ref p2, .int p3, .int p4]) (n := 9) (Nat.le_of_ble_eq_true rfl)
  rw [lg_entry_eq]
  generalize (lg_sl ([.ref self, .ref p0, .ref p1, .ref p2, .int p3, .int p4]) ++ List.replicate (9 - (lg_sl ([.ref self, .ref p0, .ref p1, .ref p2, .int p3, .int p4])).length) Slot.unset).toArray = ls at hl ⊢
  exact eCu_letEndIn C post self p0 p1 p2 p3 p4 M hwp s.heap [] ls (hM0.self (sz := s.heap.size)) va_S.rf hl
abbrev rm_Ma_floorMod : Room := { frames := 0, cells := 0, slots := 0, locals := 0 }
def Cx_Ma_floorMod (p : Program) (s : State) (m : MethodId) (args : Array Value) (meth : Method) (c : Code) (D : va_G) (κ : Nat → ClassId) (A : Nat → Prop) : Prop := p.tables.exec = Jvm.exec ∧ c.code = prog_13_method_52_code ∧ c.maxLocals = 6 ∧ meth.sig.returnType = (some .long) ∧ s.vm.findClass "java/lang/Math" = some m.cls ∧ (∀ w ∈ WG, w.before args s = true) ∧ meth.locks = false ∧ hEnv D kCl (hTys κ) A s ∧ (∀ q, s.heap.size ≤ q → A q)
def wMa_floorMod_25 (post : Int64 → Hp → Prop)  (x4 : Int64) (M : Hp) : Prop := (post x4 M)
set_option maxRecDepth 100000 in
set_option maxHeartbeats 4000000 in
theorem tMa_floorMod_25 {p : Program} {l : Launch} {e : Env} {s : State} {m : MethodId} {args : Array Value} {below : List Frame} {meth : Method} {c : Code} {D : va_G} {κ : Nat → ClassId} {A : Nat → Prop} (C : Cx_Ma_floorMod p s m args meth c D κ A) (post : Int64 → Hp → Prop)  (x4 : Int64) (M : Hp) (hwp : wMa_floorMod_25 post x4 M) : Y p l e rm_Ma_floorMod s m args below meth c D kCl (hTys κ) A 6 0 0 (MQ below (va_Ql post (hB D kCl (hTys κ) A) A) args s 0 0 A) M 25 [(4, .long x4)] [] := by
  obtain ⟨hx, hb, hml, hr, hown, hts, hlocks, hE, hA⟩ := id C
  have hK := hE.1
  intro H locs ls hM hS hl
  unfold wMa_floorMod_25 at hwp
  refine lv_lload hx hb d_Ma_floorMod_25 (lv_at hl 0 rfl) ?_
  exact W.lret (v := x4) hx hb hr (fun t ht hW => ⟨⟨x4, M, rfl, hwp, by show hw D kCl (hTys κ) A M t.heap; rw [ht]; exact hM⟩, hS.F ht⟩) hS.2.2 d_Ma_floorMod_27
def wpMa_floorMod (p0 : Int64) (p1 : Int64) (M : Hp) (post : Int64 → Hp → Prop) : Prop := (¬ p1 = 0 ∧ (∀ z2 : Int64, z2 = (p0 - p0 / p1 * p1) → (((0 : Int64) ≤ (p0 ^^^ p1) → (wMa_floorMod_25 post z2 M)) ∧ (¬ (0 : Int64) ≤ (p0 ^^^ p1) → ((z2 = (0 : Int64) → (wMa_floorMod_25 post z2 M)) ∧ (¬ z2 = (0 : Int64) → (post (z2 + p1) M)))))))
set_option maxRecDepth 100000 in
set_option maxHeartbeats 4000000 in
theorem eMa_floorMod {p : Program} {l : Launch} {e : Env} {s : State} {m : MethodId} {args : Array Value} {below : List Frame} {meth : Method} {c : Code} {D : va_G} {κ : Nat → ClassId} {A : Nat → Prop} (C : Cx_Ma_floorMod p s m args meth c D κ A) (post : Int64 → Hp → Prop) (p0 : Int64) (p1 : Int64) (M : Hp) (hwp : wpMa_floorMod p0 p1 M post) : Y p l e rm_Ma_floorMod s m args below meth c D kCl (hTys κ) A 6 0 0 (MQ below (va_Ql post (hB D kCl (hTys κ) A) A) args s 0 0 A) M 0 [(0, .long p0), (2, .long p1)] [] := by
  obtain ⟨hx, hb, hml, hr, hown, hts, hlocks, hE, hA⟩ := id C
  have hK := hE.1
  intro H locs ls hM hS hl
  unfold wpMa_floorMod at hwp
  refine lv_lload_n hx hb d_Ma_floorMod_0 rfl (lv_at hl 0 rfl) ?_
  refine lv_lload_n hx hb d_Ma_floorMod_1 rfl (lv_at hl 1 rfl) ?_
  obtain ⟨h1, hwp⟩ := hwp
  refine lv_lrem hx hb d_Ma_floorMod_2 h1 ?_
  refine lv_topl (fun z2 ez2 => ?_)
  replace hwp := hwp z2 ez2
  refine lv_lstore (lv' := [(4, .long z2), (0, .long p0), (2, .long p1)]) hx hb d_Ma_floorMod_3 hl (by decide) rfl (fun ls hl => ?_)
  refine lv_lload_n hx hb d_Ma_floorMod_5 rfl (lv_at hl 1 rfl) ?_
  refine lv_lload_n hx hb d_Ma_floorMod_6 rfl (lv_at hl 2 rfl) ?_
  refine lv_lxor hx hb d_Ma_floorMod_7 ?_
  refine lv_lconst (v := 0) hx hb d_Ma_floorMod_8 (by decide) ?_
  refine W.lcmp hx hb d_Ma_floorMod_9 ?_
  refine lv_if_ge (tgt := 25) hx hb d_Ma_floorMod_10 (by decide) (fun c3 => ?_) (fun c3 => ?_)
  · replace c3 := (lc_ge _ _).mp c3
    replace hwp := hwp.1 c3
    exact tMa_floorMod_25 C post z2 M hwp H locs ls hM hS (lv_sub hl [0] rfl)
  · replace c3 := fun h9 => c3 ((lc_ge _ _).mpr h9)
    replace hwp := hwp.2 c3
    refine lv_lload hx hb d_Ma_floorMod_13 (lv_at hl 0 rfl) ?_
    refine lv_lconst (v := 0) hx hb d_Ma_floorMod_15 (by decide) ?_
    refine W.lcmp hx hb d_Ma_floorMod_16 ?_
    refine lv_if_eq (tgt := 25) hx hb d_Ma_floorMod_17 (by decide) (fun c4 => ?_) (fun c4 => ?_)
    · replace c4 := (lc_eq _ _).mp c4
      replace hwp := hwp.1 c4
      exact tMa_floorMod_25 C post z2 M hwp H locs ls hM hS (lv_sub hl [0] rfl)
    · replace c4 := fun h9 => c4 ((lc_eq _ _).mpr h9)
      replace hwp := hwp.2 c4
      refine lv_lload hx hb d_Ma_floorMod_20 (lv_at hl 0 rfl) ?_
      refine lv_lload_n hx hb d_Ma_floorMod_22 rfl (lv_at hl 2 rfl) ?_
      refine lv_ladd hx hb d_Ma_floorMod_23 ?_
      exact W.lret (v := (z2 + p1)) hx hb hr (fun t ht hW => ⟨⟨(z2 + p1), M, rfl, hwp, by show hw D kCl (hTys κ) A M t.heap; rw [ht]; exact hM⟩, hS.F ht⟩) hS.2.2 d_Ma_floorMod_24
set_option maxRecDepth 100000 in
set_option maxHeartbeats 4000000 in
theorem metMa_floorMod (l : Launch) (D : va_G) (κ : Nat → ClassId) (sz : Nat) (p0 : Int64) (p1 : Int64) (M : Hp) (post : Int64 → Hp → Prop) (hwp : wpMa_floorMod p0 p1 M post) : Met l y_Ma_floorMod ws_Ma_floorMod rm_Ma_floorMod (hPc D kCl (hTys κ) M sz [.long p0, .long p1]) (va_Ql post (hB D kCl (hTys κ) (hAx M sz)) (hAx M sz)) 0 0 (hAx M sz) := by
  refine va_MetF (cc := prog_13_method_52_code) (maxL := 6) (ret := (some .long)) (by decide +kernel) rfl ?_
  intro p e s m args below meth c s₁ B hml hv
  obtain ⟨rfl, hsz, hE, hM0⟩ := hv
  have hts : ∀ w ∈ WG, w.before _ s = true := fun w h => atoms_spec (ws := ws_Ma_floorMod) B.pre w (List.mem_cons_of_mem _ h)
  subst hsz
  have C : Cx_Ma_floorMod p s m _ meth c D κ (hAx M s.heap.size) := ⟨B.exec, B.bytes, hml, B.returns, findClass_of_methodNamed B.named, hts, B.notSynchronized, hE, fun q h => Or.inr h⟩
  have hl := lv_entry ([.long p0, .long p1]) (n := 6) (Nat.le_of_ble_eq_true rfl)
  rw [lg_entry_eq]
  generalize (lg_sl ([.long p0, .long p1]) ++ List.replicate (6 - (lg_sl ([.long p0, .long p1])).length) Slot.unset).toArray = ls at hl ⊢
  exact eMa_floorMod C post p0 p1 M hwp s.heap [] ls (hM0.self (sz := s.heap.size)) va_S.rf hl
abbrev rm_Cu_endOf : Room := { frames := 1, cells := 0, slots := 0, locals := 25 }
def Cx_Cu_endOf (p : Program) (s : State) (m : MethodId) (args : Array Value) (meth : Method) (c : Code) (D : va_G) (κ : Nat → ClassId) (A : Nat → Prop) : Prop := p.tables.exec = Jvm.exec ∧ c.code = prog_2_method_2_code ∧ c.maxLocals = 2 ∧ meth.sig.returnType = (some .int) ∧ s.vm.findClass "BuckTables$Cutter" = some m.cls ∧ (∀ w ∈ WG, w.before args s = true) ∧ meth.locks = false ∧ hEnv D kCl (hTys κ) A s ∧ (∀ q, s.heap.size ≤ q → A q)
def wpCu_endOf (p0 : Int64) (M : Hp) (post : Int32 → Hp → Prop) : Prop := (wpMa_floorMod p0 (128 : Int64) M (fun (r2 : Int64) (M1 : Hp) => (post (r2.toInt32) M1)))
set_option maxRecDepth 100000 in
set_option maxHeartbeats 4000000 in
theorem eCu_endOf {p : Program} {l : Launch} {e : Env} {s : State} {m : MethodId} {args : Array Value} {below : List Frame} {meth : Method} {c : Code} {D : va_G} {κ : Nat → ClassId} {A : Nat → Prop} (C : Cx_Cu_endOf p s m args meth c D κ A) (post : Int32 → Hp → Prop) (p0 : Int64) (M : Hp) (hwp : wpCu_endOf p0 M post) : Y p l e rm_Cu_endOf s m args below meth c D kCl (hTys κ) A 2 0 0 (MQ below (va_Qi post (hB D kCl (hTys κ) A) A) args s 0 0 A) M 0 [(0, .long p0)] [] := by
  obtain ⟨hx, hb, hml, hr, hown, hts, hlocks, hE, hA⟩ := id C
  have hK := hE.1
  intro H locs ls hM hS hl
  unfold wpCu_endOf at hwp
  refine lv_lload_n hx hb d_Cu_endOf_0 rfl (lv_at hl 0 rfl) ?_
  refine lv_ldc2 (v := (128)) hx hb hown (hts _ kw_288) d_Cu_endOf_1 ?_
  refine h_calll hM hS hA (va_runS (As := [.long p0, .long (128 : Int64)]) (rest := []) ⟨hx, hb, hml, hown, hts⟩ (metMa_floorMod l D κ H.size p0 (128 : Int64) M _ hwp) (va_cwS 2 hts (gSo kw_305 kw_306 kw_5 kw_307) rfl rfl rfl (by decide +kernel) ⟨(Nat.le_of_ble_eq_true rfl), (Nat.le_of_ble_eq_true rfl)⟩) (h_preS hE hM hS) rfl rfl hl.1 rfl (lv_room (Nat.le_of_ble_eq_true rfl)) d_Cu_endOf_4 ⟨(Nat.le_of_ble_eq_true rfl), (Nat.le_of_ble_eq_true rfl)⟩) (fun r2 M1 H locs hwp hM hS => ?_)
  refine lv_l2i hx hb d_Cu_endOf_7 rfl ?_
  exact W.iret (v := (r2.toInt32)) hx hb hr (fun t ht hW => ⟨⟨(r2.toInt32), M1, rfl, hwp, by show hw D kCl (hTys κ) A M1 t.heap; rw [ht]; exact hM⟩, hS.F ht⟩) hS.2.2 d_Cu_endOf_8
set_option maxRecDepth 100000 in
set_option maxHeartbeats 4000000 in
theorem metCu_endOf (l : Launch) (D : va_G) (κ : Nat → ClassId) (sz : Nat) (p0 : Int64) (M : Hp) (post : Int32 → Hp → Prop) (hwp : wpCu_endOf p0 M post) : Met l y_Cu_endOf ws_Cu_endOf rm_Cu_endOf (hPc D kCl (hTys κ) M sz [.long p0]) (va_Qi post (hB D kCl (hTys κ) (hAx M sz)) (hAx M sz)) 0 0 (hAx M sz) := by
  refine Met.ofW (cc := prog_2_method_2_code) (maxL := 2) (ret := (some .int)) (by decide +kernel) rfl ?_
  intro p e s m args below meth c s₁ B hml hv
  obtain ⟨rfl, hsz, hE, hM0⟩ := hv
  have hts : ∀ w ∈ WG, w.before _ s = true := fun w h => atoms_spec (ws := ws_Cu_endOf) B.pre w (List.mem_cons_of_mem _ h)
  subst hsz
  have C : Cx_Cu_endOf p s m _ meth c D κ (hAx M s.heap.size) := ⟨B.exec, B.bytes, hml, B.returns, findClass_of_methodNamed B.named, hts, B.notSynchronized, hE, fun q h => Or.inr h⟩
  have hl := lv_entry ([.long p0]) (n := 2) (Nat.le_of_ble_eq_true rfl)
  rw [lg_entry_eq]
  generalize (lg_sl ([.long p0]) ++ List.replicate (2 - (lg_sl ([.long p0])).length) Slot.unset).toArray = ls at hl ⊢
  exact eCu_endOf C post p0 M hwp s.heap [] ls (hM0.self (sz := s.heap.size)) va_S.rf hl
abbrev rm_Wi_leaveBeyond : Room := { frames := 2, cells := 0, slots := 0, locals := 46 }
def Cx_Wi_leaveBeyond (p : Program) (s : State) (m : MethodId) (args : Array Value) (meth : Method) (c : Code) (D : va_G) (κ : Nat → ClassId) (A : Nat → Prop) : Prop := p.tables.exec = Jvm.exec ∧ c.code = prog_6_method_4_code ∧ c.maxLocals = 2 ∧ meth.sig.returnType = none ∧ s.vm.findClass "BuckTables$Window" = some m.cls ∧ (∀ w ∈ WG, w.before args s = true) ∧ meth.locks = false ∧ hEnv D kCl (hTys κ) A s ∧ (∀ q, s.heap.size ≤ q → A q)
def wWi_leaveBeyond_40 (post : Hp → Prop)   (M : Hp) : Prop := (post M)
set_option maxRecDepth 100000 in
set_option maxHeartbeats 4000000 in
theorem tWi_leaveBeyond_40 {p : Program} {l : Launch} {e : Env} {s : State} {m : MethodId} {args : Array Value} {below : List Frame} {meth : Method} {c : Code} {D : va_G} {κ : Nat → ClassId} {A : Nat → Prop} (C : Cx_Wi_leaveBeyond p s m args meth c D κ A) (post : Hp → Prop)   (M : Hp) (hwp : wWi_leaveBeyond_40 post  M) : Y p l e rm_Wi_leaveBeyond s m args below meth c D kCl (hTys κ) A 2 0 0 (MQ below (va_Qv post (hB D kCl (hTys κ) A) A) args s 0 0 A) M 40 [] [] := by
  obtain ⟨hx, hb, hml, hr, hown, hts, hlocks, hE, hA⟩ := id C
  have hK := hE.1
  intro H locs ls hM hS hl
  unfold wWi_leaveBeyond_40 at hwp
  exact W.vret hx hb hr (fun t ht hW => ⟨⟨M, rfl, hwp, by show hw D kCl (hTys κ) A M t.heap; rw [ht]; exact hM⟩, hS.F ht⟩) hS.2.2 d_Wi_leaveBeyond_40
def wWi_leaveBeyond_0 (post : Hp → Prop)  : Nat → Nat → Int32 → Hp → Prop
  | 0 => fun _ _ _ => False
  | n + 1 => fun x0 x1 M => (∃ v1 : Int32, fI M x0 3 1 v1 ∧ (∃ v5 : Int32, fI M x0 3 2 v5 ∧ ((v5 ≤ v1 → (wWi_leaveBeyond_40 post M)) ∧ (¬ v5 ≤ v1 → (∃ a10 : Nat, fA M x0 3 0 a10 ∧ (∃ v14 : Int32, fI M x0 3 1 v14 ∧ (∃ v18 : Int64, aJ M a10 v14 v18 ∧ (wpCu_endOf v18 M (fun (r24 : Int32) (M23 : Hp) => ((r24 ≤ x1 → (wWi_leaveBeyond_40 post M23)) ∧ (¬ r24 ≤ x1 → (∃ v26 : Int32, fI M23 x0 3 1 v26 ∧ (∃ M30 : Hp, pF M23 x0 3 1 (.int (v26 + (1 : Int32))) M30 ∧ ((wWi_leaveBeyond_0 post n) x0 x1 M30))))))))))))))
set_option maxRecDepth 100000 in
set_option maxHeartbeats 4000000 in
theorem tWi_leaveBeyond_0 {p : Program} {l : Launch} {e : Env} {s : State} {m : MethodId} {args : Array Value} {below : List Frame} {meth : Method} {c : Code} {D : va_G} {κ : Nat → ClassId} {A : Nat → Prop} (C : Cx_Wi_leaveBeyond p s m args meth c D κ A) (post : Hp → Prop)  : ∀ (n : Nat) (x0 : Nat) (x1 : Int32) (M : Hp), wWi_leaveBeyond_0 post n x0 x1 M → Y p l e rm_Wi_leaveBeyond s m args below meth c D kCl (hTys κ) A 2 0 0 (MQ below (va_Qv post (hB D kCl (hTys κ) A) A) args s 0 0 A) M 0 [(0, .ref x0), (1, .int x1)] [] := by
  obtain ⟨hx, hb, hml, hr, hown, hts, hlocks, hE, hA⟩ := id C
  have hK := hE.1
  intro n
  induction n with
  | zero => intro x0 x1 M hwp; exact hwp.elim
  | succ n ih =>
    intro x0 x1 M hwp H locs ls hM hS hl
    unfold wWi_leaveBeyond_0 at hwp
    refine lv_aload_n hx hb d_Wi_leaveBeyond_0 rfl (lv_at hl 0 rfl) ?_
    obtain ⟨v1, ⟨fs2, he3, hv4⟩, hwp⟩ := hwp
    refine h_get (C := "BuckTables$Window") (T := Tc3) (N := 3) hx hb hts inc3 hown hK hM he3 rfl 1 (by decide) (hts _ kw_43) (fun _ h9 => h9) hv4 d_Wi_leaveBeyond_1 ?_
    refine lv_aload_n hx hb d_Wi_leaveBeyond_4 rfl (lv_at hl 0 rfl) ?_
    obtain ⟨v5, ⟨fs6, he7, hv8⟩, hwp⟩ := hwp
    refine h_get (C := "BuckTables$Window") (T := Tc3) (N := 3) hx hb hts inc3 hown hK hM he7 rfl 2 (by decide) (hts _ kw_45) (fun _ h9 => h9) hv8 d_Wi_leaveBeyond_5 ?_
    refine lv_icmp_ge (tgt := 40) hx hb d_Wi_leaveBeyond_8 (by decide) (fun c9 => ?_) (fun c9 => ?_)
    · replace hwp := hwp.1 c9
      exact tWi_leaveBeyond_40 C post M hwp H locs ls hM hS (lv_sub hl [] rfl)
    · replace hwp := hwp.2 c9
      refine lv_aload_n hx hb d_Wi_leaveBeyond_11 rfl (lv_at hl 0 rfl) ?_
      obtain ⟨a10, ⟨fs11, he12, hv13⟩, hwp⟩ := hwp
      refine h_get (C := "BuckTables$Window") (T := Tc3) (N := 3) hx hb hts inc3 hown hK hM he12 rfl 0 (by decide) (hts _ kw_41) (fun _ h9 => h9) hv13 d_Wi_leaveBeyond_12 ?_
      refine lv_aload_n hx hb d_Wi_leaveBeyond_15 rfl (lv_at hl 0 rfl) ?_
      obtain ⟨v14, ⟨fs15, he16, hv17⟩, hwp⟩ := hwp
      refine h_get (C := "BuckTables$Window") (T := Tc3) (N := 3) hx hb hts inc3 hown hK hM he16 rfl 1 (by decide) (hts _ kw_43) (fun _ h9 => h9) hv17 d_Wi_leaveBeyond_16 ?_
      obtain ⟨v18, ⟨n19, f20, ha21, hi22, ev18⟩, hwp⟩ := hwp
      refine h_lald hx hb hK hM ha21 rfl hi22 d_Wi_leaveBeyond_19 ?_
      rw [← ev18]
      refine h_calli hM hS hA (va_runS (As := [.long v18]) (rest := []) ⟨hx, hb, hml, hown, hts⟩ (metCu_endOf l D κ H.size v18 M _ hwp) (va_cwS 1 hts (gSo kw_302 kw_303 kw_2 kw_304) rfl rfl rfl (by decide +kernel) ⟨(Nat.le_of_ble_eq_true rfl), (Nat.le_of_ble_eq_true rfl)⟩) (h_preS hE hM hS) rfl rfl hl.1 rfl (lv_room (Nat.le_of_ble_eq_true rfl)) d_Wi_leaveBeyond_20 ⟨(Nat.le_of_ble_eq_true rfl), (Nat.le_of_ble_eq_true rfl)⟩) (fun r24 M23 H locs hwp hM hS => ?_)
      refine lv_iload_n hx hb d_Wi_leaveBeyond_23 rfl (lv_at hl 1 rfl) ?_
      refine lv_icmp_le (tgt := 40) hx hb d_Wi_leaveBeyond_24 (by decide) (fun c25 => ?_) (fun c25 => ?_)
      · replace hwp := hwp.1 c25
        exact tWi_leaveBeyond_40 C post M23 hwp H locs ls hM hS (lv_sub hl [] rfl)
      · replace hwp := hwp.2 c25
        refine lv_aload_n hx hb d_Wi_leaveBeyond_27 rfl (lv_at hl 0 rfl) ?_
        refine lv_dup hx hb d_Wi_leaveBeyond_28 rfl ?_
        obtain ⟨v26, ⟨fs27, he28, hv29⟩, hwp⟩ := hwp
        refine h_get (C := "BuckTables$Window") (T := Tc3) (N := 3) hx hb hts inc3 hown hK hM he28 rfl 1 (by decide) (hts _ kw_43) (fun _ h9 => h9) hv29 d_Wi_leaveBeyond_29 ?_
        refine lv_iconst (v := 1) hx hb d_Wi_leaveBeyond_32 (by decide) ?_
        refine lv_iadd hx hb d_Wi_leaveBeyond_33 ?_
        obtain ⟨M30, ⟨fs31, he32, hl33, eM30⟩, hwp⟩ := hwp
        refine h_put (C := "BuckTables$Window") (T := Tc3) (N := 3) (v := .int (v26 + (1 : Int32))) (ty := .int) hx hb hts inc3 tyc3 tyc3_ok nmc3 hown hK hM hS he32 rfl 1 (by decide) (hts _ kw_43) (fun _ h9 => h9) rfl (by decide +kernel) rfl rfl hl33 d_Wi_leaveBeyond_34 (fun H locs hM hS => ?_)
        rw [← eM30] at hM
        refine lv_goto (tgt := 0) hx hb d_Wi_leaveBeyond_37 (by decide) ?_
        exact ih x0 x1 M30 hwp H locs ls hM hS (lv_sub hl [0, 1] rfl)
def wpWi_leaveBeyond (self : Nat) (p0 : Int32) (M : Hp) (post : Hp → Prop) : Prop := (∃ n34 : Nat, wWi_leaveBeyond_0 post n34 self p0 M)
set_option maxRecDepth 100000 in
set_option maxHeartbeats 4000000 in
theorem eWi_leaveBeyond {p : Program} {l : Launch} {e : Env} {s : State} {m : MethodId} {args : Array Value} {below : List Frame} {meth : Method} {c : Code} {D : va_G} {κ : Nat → ClassId} {A : Nat → Prop} (C : Cx_Wi_leaveBeyond p s m args meth c D κ A) (post : Hp → Prop) (self : Nat) (p0 : Int32) (M : Hp) (hwp : wpWi_leaveBeyond self p0 M post) : Y p l e rm_Wi_leaveBeyond s m args below meth c D kCl (hTys κ) A 2 0 0 (MQ below (va_Qv post (hB D kCl (hTys κ) A) A) args s 0 0 A) M 0 [(0, .ref self), (1, .int p0)] [] := by
  obtain ⟨hx, hb, hml, hr, hown, hts, hlocks, hE, hA⟩ := id C
  have hK := hE.1
  intro H locs ls hM hS hl
  unfold wpWi_leaveBeyond at hwp
  obtain ⟨n34, hwp⟩ := hwp
  exact tWi_leaveBeyond_0 C post n34 self p0 M hwp H locs ls hM hS (lv_sub hl [0, 1] rfl)
set_option maxRecDepth 100000 in
set_option maxHeartbeats 4000000 in
theorem metWi_leaveBeyond (l : Launch) (D : va_G) (κ : Nat → ClassId) (sz : Nat) (self : Nat) (p0 : Int32) (M : Hp) (post : Hp → Prop) (hwp : wpWi_leaveBeyond self p0 M post) : Met l y_Wi_leaveBeyond ws_Wi_leaveBeyond rm_Wi_leaveBeyond (hPc D kCl (hTys κ) M sz [.ref self, .int p0]) (va_Qv post (hB D kCl (hTys κ) (hAx M sz)) (hAx M sz)) 0 0 (hAx M sz) := by
  refine Met.ofW (cc := prog_6_method_4_code) (maxL := 2) (ret := none) (by decide +kernel) rfl ?_
  intro p e s m args below meth c s₁ B hml hv
  obtain ⟨rfl, hsz, hE, hM0⟩ := hv
  have hts : ∀ w ∈ WG, w.before _ s = true := fun w h => atoms_spec (ws := ws_Wi_leaveBeyond) B.pre w (List.mem_cons_of_mem _ h)
  subst hsz
  have C : Cx_Wi_leaveBeyond p s m _ meth c D κ (hAx M s.heap.size) := ⟨B.exec, B.bytes, hml, B.returns, findClass_of_methodNamed B.named, hts, B.notSynchronized, hE, fun q h => Or.inr h⟩
  have hl := lv_entry ([.ref self, .int p0]) (n := 2) (Nat.le_of_ble_eq_true rfl)
  rw [lg_entry_eq]
  generalize (lg_sl ([.ref self, .int p0]) ++ List.replicate (2 - (lg_sl ([.ref self, .int p0])).length) Slot.unset).toArray = ls at hl ⊢
  exact eWi_leaveBeyond C post self p0 M hwp s.heap [] ls (hM0.self (sz := s.heap.size)) va_S.rf hl
abbrev rm_Cu_rankOfBest : Room := { frames := 0, cells := 0, slots := 0, locals := 0 }
def Cx_Cu_rankOfBest (p : Program) (s : State) (m : MethodId) (args : Array Value) (meth : Method) (c : Code) (D : va_G) (κ : Nat → ClassId) (A : Nat → Prop) : Prop := p.tables.exec = Jvm.exec ∧ c.code = prog_2_method_5_code ∧ c.maxLocals = 6 ∧ meth.sig.returnType = (some .long) ∧ s.vm.findClass "BuckTables$Cutter" = some m.cls ∧ (∀ w ∈ WG, w.before args s = true) ∧ meth.locks = false ∧ hEnv D kCl (hTys κ) A s ∧ (∀ q, s.heap.size ≤ q → A q)
def wpCu_rankOfBest (p0 : Nat) (p1 : Nat) (p2 : Int32) (p3 : Int32) (M : Hp) (post : Int64 → Hp → Prop) : Prop := (∃ v1 : Int32, fI M p0 3 1 v1 ∧ (∃ v5 : Int32, fI M p0 3 2 v5 ∧ ((v1 < v5 → (∃ a10 : Nat, fA M p1 2 2 a10 ∧ (∃ v14 : Int64, aJ M a10 p3 v14 ∧ (∃ v19 : Int64, fJ M p1 2 9 v19 ∧ (∃ v23 : Int64, fJ M p1 2 7 v23 ∧ (∀ z27 : Int64, z27 = ((v14 - v19) - (v23 * (p2.toInt64))) → (∃ a28 : Nat, fA M p0 3 0 a28 ∧ (∃ v32 : Int32, fI M p0 3 1 v32 ∧ (∃ v36 : Int64, aJ M a28 v32 v36 ∧ (post (v36 + (((z27 * (128 : Int64)) - (1 : Int64)) * (128 : Int64))) M)))))))))) ∧ (¬ v1 < v5 → (post (-1 : Int64) M)))))
set_option maxRecDepth 100000 in
set_option maxHeartbeats 4000000 in
theorem eCu_rankOfBest {p : Program} {l : Launch} {e : Env} {s : State} {m : MethodId} {args : Array Value} {below : List Frame} {meth : Method} {c : Code} {D : va_G} {κ : Nat → ClassId} {A : Nat → Prop} (C : Cx_Cu_rankOfBest p s m args meth c D κ A) (post : Int64 → Hp → Prop) (p0 : Nat) (p1 : Nat) (p2 : Int32) (p3 : Int32) (M : Hp) (hwp : wpCu_rankOfBest p0 p1 p2 p3 M post) : Y p l e rm_Cu_rankOfBest s m args below meth c D kCl (hTys κ) A 6 0 0 (MQ below (va_Ql post (hB D kCl (hTys κ) A) A) args s 0 0 A) M 0 [(0, .ref p0), (1, .ref p1), (2, .int p2), (3, .int p3)] [] := by
  obtain ⟨hx, hb, hml, hr, hown, hts, hlocks, hE, hA⟩ := id C
  have hK := hE.1
  intro H locs ls hM hS hl
  unfold wpCu_rankOfBest at hwp
  refine lv_aload_n hx hb d_Cu_rankOfBest_0 rfl (lv_at hl 0 rfl) ?_
  obtain ⟨v1, ⟨fs2, he3, hv4⟩, hwp⟩ := hwp
  refine h_get (C := "BuckTables$Window") (T := Tc3) (N := 3) hx hb hts inc3 hown hK hM he3 rfl 1 (by decide) (hts _ kw_44) (fun _ h9 => h9) hv4 d_Cu_rankOfBest_1 ?_
  refine lv_aload_n hx hb d_Cu_rankOfBest_4 rfl (lv_at hl 0 rfl) ?_
  obtain ⟨v5, ⟨fs6, he7, hv8⟩, hwp⟩ := hwp
  refine h_get (C := "BuckTables$Window") (T := Tc3) (N := 3) hx hb hts inc3 hown hK hM he7 rfl 2 (by decide) (hts _ kw_46) (fun _ h9 => h9) hv8 d_Cu_rankOfBest_5 ?_
  refine lv_icmp_lt (tgt := 15) hx hb d_Cu_rankOfBest_8 (by decide) (fun c9 => ?_) (fun c9 => ?_)
  · replace hwp := hwp.1 c9
    refine lv_aload_n hx hb d_Cu_rankOfBest_15 rfl (lv_at hl 1 rfl) ?_
    obtain ⟨a10, ⟨fs11, he12, hv13⟩, hwp⟩ := hwp
    refine h_get (C := "BuckTables$Product") (T := Tc2) (N := 10) hx hb hts inc2 hown hK hM he12 rfl 2 (by decide) (hts _ kw_164) (fun _ h9 => h9) hv13 d_Cu_rankOfBest_16 ?_
    refine lv_iload_n hx hb d_Cu_rankOfBest_19 rfl (lv_at hl 3 rfl) ?_
    obtain ⟨v14, ⟨n15, f16, ha17, hi18, ev14⟩, hwp⟩ := hwp
    refine h_lald hx hb hK hM ha17 rfl hi18 d_Cu_rankOfBest_20 ?_
    rw [← ev14]
    refine lv_aload_n hx hb d_Cu_rankOfBest_21 rfl (lv_at hl 1 rfl) ?_
    obtain ⟨v19, ⟨fs20, he21, hv22⟩, hwp⟩ := hwp
    refine h_get (C := "BuckTables$Product") (T := Tc2) (N := 10) hx hb hts inc2 hown hK hM he21 rfl 9 (by decide) (hts _ kw_179) (fun _ h9 => h9) hv22 d_Cu_rankOfBest_22 ?_
    refine lv_lsub hx hb d_Cu_rankOfBest_25 ?_
    refine lv_aload_n hx hb d_Cu_rankOfBest_26 rfl (lv_at hl 1 rfl) ?_
    obtain ⟨v23, ⟨fs24, he25, hv26⟩, hwp⟩ := hwp
    refine h_get (C := "BuckTables$Product") (T := Tc2) (N := 10) hx hb hts inc2 hown hK hM he25 rfl 7 (by decide) (hts _ kw_175) (fun _ h9 => h9) hv26 d_Cu_rankOfBest_27 ?_
    refine lv_iload_n hx hb d_Cu_rankOfBest_30 rfl (lv_at hl 2 rfl) ?_
    refine lv_i2l hx hb d_Cu_rankOfBest_31 rfl ?_
    refine lv_lmul hx hb d_Cu_rankOfBest_32 ?_
    refine lv_lsub hx hb d_Cu_rankOfBest_33 ?_
    refine lv_topl (fun z27 ez27 => ?_)
    replace hwp := hwp z27 ez27
    refine lv_lstore (lv' := [(4, .long z27), (0, .ref p0), (1, .ref p1), (2, .int p2), (3, .int p3)]) hx hb d_Cu_rankOfBest_34 hl (by decide) rfl (fun ls hl => ?_)
    refine lv_aload_n hx hb d_Cu_rankOfBest_36 rfl (lv_at hl 1 rfl) ?_
    obtain ⟨a28, ⟨fs29, he30, hv31⟩, hwp⟩ := hwp
    refine h_get (C := "BuckTables$Window") (T := Tc3) (N := 3) hx hb hts inc3 hown hK hM he30 rfl 0 (by decide) (hts _ kw_42) (fun _ h9 => h9) hv31 d_Cu_rankOfBest_37 ?_
    refine lv_aload_n hx hb d_Cu_rankOfBest_40 rfl (lv_at hl 1 rfl) ?_
    obtain ⟨v32, ⟨fs33, he34, hv35⟩, hwp⟩ := hwp
    refine h_get (C := "BuckTables$Window") (T := Tc3) (N := 3) hx hb hts inc3 hown hK hM he34 rfl 1 (by decide) (hts _ kw_44) (fun _ h9 => h9) hv35 d_Cu_rankOfBest_41 ?_
    obtain ⟨v36, ⟨n37, f38, ha39, hi40, ev36⟩, hwp⟩ := hwp
    refine h_lald hx hb hK hM ha39 rfl hi40 d_Cu_rankOfBest_44 ?_
    rw [← ev36]
    refine lv_lload hx hb d_Cu_rankOfBest_45 (lv_at hl 0 rfl) ?_
    refine lv_ldc2 (v := (128)) hx hb hown (hts _ kw_288) d_Cu_rankOfBest_47 ?_
    refine lv_lmul hx hb d_Cu_rankOfBest_50 ?_
    refine lv_lconst (v := 1) hx hb d_Cu_rankOfBest_51 (by decide) ?_
    refine lv_lsub hx hb d_Cu_rankOfBest_52 ?_
    refine lv_ldc2 (v := (128)) hx hb hown (hts _ kw_288) d_Cu_rankOfBest_53 ?_
    refine lv_lmul hx hb d_Cu_rankOfBest_56 ?_
    refine lv_ladd hx hb d_Cu_rankOfBest_57 ?_
    exact W.lret (v := (v36 + (((z27 * (128 : Int64)) - (1 : Int64)) * (128 : Int64)))) hx hb hr (fun t ht hW => ⟨⟨(v36 + (((z27 * (128 : Int64)) - (1 : Int64)) * (128 : Int64))), M, rfl, hwp, by show hw D kCl (hTys κ) A M t.heap; rw [ht]; exact hM⟩, hS.F ht⟩) hS.2.2 d_Cu_rankOfBest_58
  · replace hwp := hwp.2 c9
    refine lv_ldc2 (v := (-1)) hx hb hown (hts _ kw_311) d_Cu_rankOfBest_11 ?_
    exact W.lret (v := (-1 : Int64)) hx hb hr (fun t ht hW => ⟨⟨(-1 : Int64), M, rfl, hwp, by show hw D kCl (hTys κ) A M t.heap; rw [ht]; exact hM⟩, hS.F ht⟩) hS.2.2 d_Cu_rankOfBest_14
set_option maxRecDepth 100000 in
set_option maxHeartbeats 4000000 in
theorem metCu_rankOfBest (l : Launch) (D : va_G) (κ : Nat → ClassId) (sz : Nat) (p0 : Nat) (p1 : Nat) (p2 : Int32) (p3 : Int32) (M : Hp) (post : Int64 → Hp → Prop) (hwp : wpCu_rankOfBest p0 p1 p2 p3 M post) : Met l y_Cu_rankOfBest ws_Cu_rankOfBest rm_Cu_rankOfBest (hPc D kCl (hTys κ) M sz [.ref p0, .ref p1, .int p2, .int p3]) (va_Ql post (hB D kCl (hTys κ) (hAx M sz)) (hAx M sz)) 0 0 (hAx M sz) := by
  refine Met.ofW (cc := prog_2_method_5_code) (maxL := 6) (ret := (some .long)) (by decide +kernel) rfl ?_
  intro p e s m args below meth c s₁ B hml hv
  obtain ⟨rfl, hsz, hE, hM0⟩ := hv
  have hts : ∀ w ∈ WG, w.before _ s = true := fun w h => atoms_spec (ws := ws_Cu_rankOfBest) B.pre w (List.mem_cons_of_mem _ h)
  subst hsz
  have C : Cx_Cu_rankOfBest p s m _ meth c D κ (hAx M s.heap.size) := ⟨B.exec, B.bytes, hml, B.returns, findClass_of_methodNamed B.named, hts, B.notSynchronized, hE, fun q h => Or.inr h⟩
  have hl := lv_entry ([.ref p0, .ref p1, .int p2, .int p3]) (n := 6) (Nat.le_of_ble_eq_true rfl)
  rw [lg_entry_eq]
  generalize (lg_sl ([.ref p0, .ref p1, .int p2, .int p3]) ++ List.replicate (6 - (lg_sl ([.ref p0, .ref p1, .int p2, .int p3])).length) Slot.unset).toArray = ls at hl ⊢
  exact eCu_rankOfBest C post p0 p1 p2 p3 M hwp s.heap [] ls (hM0.self (sz := s.heap.size)) va_S.rf hl
abbrev rm_Ma_floorDiv : Room := { frames := 0, cells := 0, slots := 0, locals := 0 }
def Cx_Ma_floorDiv (p : Program) (s : State) (m : MethodId) (args : Array Value) (meth : Method) (c : Code) (D : va_G) (κ : Nat → ClassId) (A : Nat → Prop) : Prop := p.tables.exec = Jvm.exec ∧ c.code = prog_13_method_49_code ∧ c.maxLocals = 6 ∧ meth.sig.returnType = (some .long) ∧ s.vm.findClass "java/lang/Math" = some m.cls ∧ (∀ w ∈ WG, w.before args s = true) ∧ meth.locks = false ∧ hEnv D kCl (hTys κ) A s ∧ (∀ q, s.heap.size ≤ q → A q)
def wMa_floorDiv_27 (post : Int64 → Hp → Prop)  (x4 : Int64) (M : Hp) : Prop := (post x4 M)
set_option maxRecDepth 100000 in
set_option maxHeartbeats 4000000 in
theorem tMa_floorDiv_27 {p : Program} {l : Launch} {e : Env} {s : State} {m : MethodId} {args : Array Value} {below : List Frame} {meth : Method} {c : Code} {D : va_G} {κ : Nat → ClassId} {A : Nat → Prop} (C : Cx_Ma_floorDiv p s m args meth c D κ A) (post : Int64 → Hp → Prop)  (x4 : Int64) (M : Hp) (hwp : wMa_floorDiv_27 post x4 M) : Y p l e rm_Ma_floorDiv s m args below meth c D kCl (hTys κ) A 6 0 0 (MQ below (va_Ql post (hB D kCl (hTys κ) A) A) args s 0 0 A) M 27 [(4, .long x4)] [] := by
  obtain ⟨hx, hb, hml, hr, hown, hts, hlocks, hE, hA⟩ := id C
  have hK := hE.1
  intro H locs ls hM hS hl
  unfold wMa_floorDiv_27 at hwp
  refine lv_lload hx hb d_Ma_floorDiv_27 (lv_at hl 0 rfl) ?_
  exact W.lret (v := x4) hx hb hr (fun t ht hW => ⟨⟨x4, M, rfl, hwp, by show hw D kCl (hTys κ) A M t.heap; rw [ht]; exact hM⟩, hS.F ht⟩) hS.2.2 d_Ma_floorDiv_29
def wpMa_floorDiv (p0 : Int64) (p1 : Int64) (M : Hp) (post : Int64 → Hp → Prop) : Prop := (¬ p1 = 0 ∧ (∀ z2 : Int64, z2 = (p0 / p1) → (((0 : Int64) ≤ (p0 ^^^ p1) → (wMa_floorDiv_27 post z2 M)) ∧ (¬ (0 : Int64) ≤ (p0 ^^^ p1) → (((z2 * p1) = p0 → (wMa_floorDiv_27 post z2 M)) ∧ (¬ (z2 * p1) = p0 → (post (z2 - (1 : Int64)) M)))))))
set_option maxRecDepth 100000 in
set_option maxHeartbeats 4000000 in
theorem eMa_floorDiv {p : Program} {l : Launch} {e : Env} {s : State} {m : MethodId} {args : Array Value} {below : List Frame} {meth : Method} {c : Code} {D : va_G} {κ : Nat → ClassId} {A : Nat → Prop} (C : Cx_Ma_floorDiv p s m args meth c D κ A) (post : Int64 → Hp → Prop) (p0 : Int64) (p1 : Int64) (M : Hp) (hwp : wpMa_floorDiv p0 p1 M post) : Y p l e rm_Ma_floorDiv s m args below meth c D kCl (hTys κ) A 6 0 0 (MQ below (va_Ql post (hB D kCl (hTys κ) A) A) args s 0 0 A) M 0 [(0, .long p0), (2, .long p1)] [] := by
  obtain ⟨hx, hb, hml, hr, hown, hts, hlocks, hE, hA⟩ := id C
  have hK := hE.1
  intro H locs ls hM hS hl
  unfold wpMa_floorDiv at hwp
  refine lv_lload_n hx hb d_Ma_floorDiv_0 rfl (lv_at hl 0 rfl) ?_
  refine lv_lload_n hx hb d_Ma_floorDiv_1 rfl (lv_at hl 1 rfl) ?_
  obtain ⟨h1, hwp⟩ := hwp
  refine lv_ldiv hx hb d_Ma_floorDiv_2 h1 ?_
  refine lv_topl (fun z2 ez2 => ?_)
  replace hwp := hwp z2 ez2
  refine lv_lstore (lv' := [(4, .long z2), (0, .long p0), (2, .long p1)]) hx hb d_Ma_floorDiv_3 hl (by decide) rfl (fun ls hl => ?_)
  refine lv_lload_n hx hb d_Ma_floorDiv_5 rfl (lv_at hl 1 rfl) ?_
  refine lv_lload_n hx hb d_Ma_floorDiv_6 rfl (lv_at hl 2 rfl) ?_
  refine lv_lxor hx hb d_Ma_floorDiv_7 ?_
  refine lv_lconst (v := 0) hx hb d_Ma_floorDiv_8 (by decide) ?_
  refine W.lcmp hx hb d_Ma_floorDiv_9 ?_
  refine lv_if_ge (tgt := 27) hx hb d_Ma_floorDiv_10 (by decide) (fun c3 => ?_) (fun c3 => ?_)
  · replace c3 := (lc_ge _ _).mp c3
    replace hwp := hwp.1 c3
    exact tMa_floorDiv_27 C post z2 M hwp H locs ls hM hS (lv_sub hl [0] rfl)
  · replace c3 := fun h9 => c3 ((lc_ge _ _).mpr h9)
    replace hwp := hwp.2 c3
    refine lv_lload hx hb d_Ma_floorDiv_13 (lv_at hl 0 rfl) ?_
    refine lv_lload_n hx hb d_Ma_floorDiv_15 rfl (lv_at hl 2 rfl) ?_
    refine lv_lmul hx hb d_Ma_floorDiv_16 ?_
    refine lv_lload_n hx hb d_Ma_floorDiv_17 rfl (lv_at hl 1 rfl) ?_
    refine W.lcmp hx hb d_Ma_floorDiv_18 ?_
    refine lv_if_eq (tgt := 27) hx hb d_Ma_floorDiv_19 (by decide) (fun c4 => ?_) (fun c4 => ?_)
    · replace c4 := (lc_eq _ _).mp c4
      replace hwp := hwp.1 c4
      exact tMa_floorDiv_27 C post z2 M hwp H locs ls hM hS (lv_sub hl [0] rfl)
    · replace c4 := fun h9 => c4 ((lc_eq _ _).mpr h9)
      replace hwp := hwp.2 c4
      refine lv_lload hx hb d_Ma_floorDiv_22 (lv_at hl 0 rfl) ?_
      refine lv_lconst (v := 1) hx hb d_Ma_floorDiv_24 (by decide) ?_
      refine lv_lsub hx hb d_Ma_floorDiv_25 ?_
      exact W.lret (v := (z2 - (1 : Int64))) hx hb hr (fun t ht hW => ⟨⟨(z2 - (1 : Int64)), M, rfl, hwp, by show hw D kCl (hTys κ) A M t.heap; rw [ht]; exact hM⟩, hS.F ht⟩) hS.2.2 d_Ma_floorDiv_26
set_option maxRecDepth 100000 in
set_option maxHeartbeats 4000000 in
theorem metMa_floorDiv (l : Launch) (D : va_G) (κ : Nat → ClassId) (sz : Nat) (p0 : Int64) (p1 : Int64) (M : Hp) (post : Int64 → Hp → Prop) (hwp : wpMa_floorDiv p0 p1 M post) : Met l y_Ma_floorDiv ws_Ma_floorDiv rm_Ma_floorDiv (hPc D kCl (hTys κ) M sz [.long p0, .long p1]) (va_Ql post (hB D kCl (hTys κ) (hAx M sz)) (hAx M sz)) 0 0 (hAx M sz) := by
  refine va_MetF (cc := prog_13_method_49_code) (maxL := 6) (ret := (some .long)) (by decide +kernel) rfl ?_
  intro p e s m args below meth c s₁ B hml hv
  obtain ⟨rfl, hsz, hE, hM0⟩ := hv
  have hts : ∀ w ∈ WG, w.before _ s = true := fun w h => atoms_spec (ws := ws_Ma_floorDiv) B.pre w (List.mem_cons_of_mem _ h)
  subst hsz
  have C : Cx_Ma_floorDiv p s m _ meth c D κ (hAx M s.heap.size) := ⟨B.exec, B.bytes, hml, B.returns, findClass_of_methodNamed B.named, hts, B.notSynchronized, hE, fun q h => Or.inr h⟩
  have hl := lv_entry ([.long p0, .long p1]) (n := 6) (Nat.le_of_ble_eq_true rfl)
  rw [lg_entry_eq]
  generalize (lg_sl ([.long p0, .long p1]) ++ List.replicate (6 - (lg_sl ([.long p0, .long p1])).length) Slot.unset).toArray = ls at hl ⊢
  exact eMa_floorDiv C post p0 p1 M hwp s.heap [] ls (hM0.self (sz := s.heap.size)) va_S.rf hl
abbrev rm_Cu_workOut : Room := { frames := 3, cells := 0, slots := 0, locals := 67 }
def Cx_Cu_workOut (p : Program) (s : State) (m : MethodId) (args : Array Value) (meth : Method) (c : Code) (D : va_G) (κ : Nat → ClassId) (A : Nat → Prop) : Prop := p.tables.exec = Jvm.exec ∧ c.code = prog_2_method_3_code ∧ c.maxLocals = 12 ∧ meth.sig.returnType = none ∧ s.vm.findClass "BuckTables$Cutter" = some m.cls ∧ (∀ w ∈ WG, w.before args s = true) ∧ meth.locks = false ∧ hEnv D kCl (hTys κ) A s ∧ (∀ q, s.heap.size ≤ q → A q)
def wCu_workOut_166 (post : Hp → Prop) (k44 : Nat → Nat → Int32 → Nat → Int32 → Int32 → Int32 → Hp → Prop) (k79 : Nat → Nat → Int32 → Nat → Int32 → Int32 → Int32 → Int64 → Int32 → Hp → Prop) (x0 : Nat) (x1 : Nat) (x2 : Int32) (x3 : Nat) (x4 : Int32) (x5 : Int32) (x6 : Int32) (x7 : Int64) (x9 : Int32) (M : Hp) : Prop := (∀ z1 : Int32, z1 = x9 + 1 → (k79 x0 x1 x2 x3 x4 x5 x6 x7 z1 M))
set_option maxRecDepth 100000 in
set_option maxHeartbeats 4000000 in
theorem tCu_workOut_166 {p : Program} {l : Launch} {e : Env} {s : State} {m : MethodId} {args : Array Value} {below : List Frame} {meth : Method} {c : Code} {D : va_G} {κ : Nat → ClassId} {A : Nat → Prop} (C : Cx_Cu_workOut p s m args meth c D κ A) (post : Hp → Prop) (k44 : Nat → Nat → Int32 → Nat → Int32 → Int32 → Int32 → Hp → Prop) (hk44 : ∀ (x0 : Nat) (x1 : Nat) (x2 : Int32) (x3 : Nat) (x4 : Int32) (x5 : Int32) (x6 : Int32) (M : Hp), k44 x0 x1 x2 x3 x4 x5 x6 M → Y p l e rm_Cu_workOut s m args below meth c D kCl (hTys κ) A 12 0 0 (MQ below (va_Qv post (hB D kCl (hTys κ) A) A) args s 0 0 A) M 44 [(0, .ref x0), (1, .ref x1), (2, .int x2), (3, .ref x3), (4, .int x4), (5, .int x5), (6, .int x6)] []) (k79 : Nat → Nat → Int32 → Nat → Int32 → Int32 → Int32 → Int64 → Int32 → Hp → Prop) (hk79 : ∀ (x0 : Nat) (x1 : Nat) (x2 : Int32) (x3 : Nat) (x4 : Int32) (x5 : Int32) (x6 : Int32) (x7 : Int64) (x9 : Int32) (M : Hp), k79 x0 x1 x2 x3 x4 x5 x6 x7 x9 M → Y p l e rm_Cu_workOut s m args below meth c D kCl (hTys κ) A 12 0 0 (MQ below (va_Qv post (hB D kCl (hTys κ) A) A) args s 0 0 A) M 79 [(0, .ref x0), (1, .ref x1), (2, .int x2), (3, .ref x3), (4, .int x4), (5, .int x5), (6, .int x6), (7, .long x7), (9, .int x9)] []) (x0 : Nat) (x1 : Nat) (x2 : Int32) (x3 : Nat) (x4 : Int32) (x5 : Int32) (x6 : Int32) (x7 : Int64) (x9 : Int32) (M : Hp) (hwp : wCu_workOut_166 post k44 k79 x0 x1 x2 x3 x4 x5 x6 x7 x9 M) : Y p l e rm_Cu_workOut s m args below meth c D kCl (hTys κ) A 12 0 0 (MQ below (va_Qv post (hB D kCl (hTys κ) A) A) args s 0 0 A) M 166 [(0, .ref x0), (1, .ref x1), (2, .int x2), (3, .ref x3), (4, .int x4), (5, .int x5), (6, .int x6), (7, .long x7), (9, .int x9)] [] := by
  obtain ⟨hx, hb, hml, hr, hown, hts, hlocks, hE, hA⟩ := id C
  have hK := hE.1
  intro H locs ls hM hS hl
  unfold wCu_workOut_166 at hwp
  obtain ⟨z1, ez1⟩ : ∃ y : Int32, y = x9 + 1 := ⟨_, rfl⟩
  replace hwp := hwp z1 ez1
  refine lv_iinc (v := z1) (lv' := [(9, .int z1), (0, .ref x0), (1, .ref x1), (2, .int x2), (3, .ref x3), (4, .int x4), (5, .int x5), (6, .int x6), (7, .long x7)]) hx hb d_Cu_workOut_166 hl (k := 8) rfl (by rw [ez1]; rfl) (by decide) rfl (fun ls hl => ?_)
  refine lv_goto (tgt := 79) hx hb d_Cu_workOut_169 (by decide) ?_
  exact hk79 x0 x1 x2 x3 x4 x5 x6 x7 z1 M hwp H locs ls hM hS (lv_sub hl [1, 2, 3, 4, 5, 6, 7, 8, 0] rfl)
def wCu_workOut_79 (post : Hp → Prop) (k44 : Nat → Nat → Int32 → Nat → Int32 → Int32 → Int32 → Hp → Prop) : Nat → Nat → Nat → Int32 → Nat → Int32 → Int32 → Int32 → Int64 → Int32 → Hp → Prop
  | 0 => fun _ _ _ _ _ _ _ _ _ _ => False
  | n + 1 => fun x0 x1 x2 x3 x4 x5 x6 x7 x9 M => ((x4 ≤ x9 → (∃ a3 : Nat, fA M x0 4 0 a3 ∧ (wpMa_floorDiv x7 (128 : Int64) M (fun (r8 : Int64) (M7 : Hp) => (∃ M13 : Hp, sJ M7 a3 x6 r8 M13 ∧ (∃ a14 : Nat, fA M13 x0 4 1 a14 ∧ (wpCu_endOf x7 M13 (fun (r19 : Int32) (M18 : Hp) => (∃ M24 : Hp, sI M18 a14 x6 r19 M24 ∧ (∀ z25 : Int32, z25 = x6 + (-1) → (k44 x0 x1 x2 x3 x4 x5 z25 M24))))))))))) ∧ (¬ x4 ≤ x9 → (∃ a26 : Nat, fA M x0 4 3 a26 ∧ (∃ a30 : Nat, aA 5 M a26 x9 a30 ∧ (∃ a36 : Nat, aA 4 M x3 x9 a36 ∧ (hob M x0 4 ∧ (wpCu_letEndIn x0 x1 a30 a36 x6 x5 M (fun (M42 : Hp) => (∃ a44 : Nat, fA M42 x0 4 3 a44 ∧ (∃ a48 : Nat, aA 5 M42 a44 x9 a48 ∧ (∃ a54 : Nat, fA M42 x1 1 8 a54 ∧ (∃ a58 : Nat, aA 6 M42 a54 x9 a58 ∧ (∃ v64 : Int32, aI M42 a58 x6 v64 ∧ (hob M42 a48 3 ∧ (wpWi_leaveBeyond a48 v64 M42 (fun (M69 : Hp) => (∃ a71 : Nat, fA M69 x0 4 3 a71 ∧ (∃ a75 : Nat, aA 5 M69 a71 x9 a75 ∧ (∃ a81 : Nat, aA 4 M69 x3 x9 a81 ∧ (wpCu_rankOfBest a75 a81 x6 x2 M69 (fun (r88 : Int64) (M87 : Hp) => ((r88 ≤ x7 → (wCu_workOut_166 post k44 (wCu_workOut_79 post k44 n) x0 x1 x2 x3 x4 x5 x6 x7 x9 M87)) ∧ (¬ r88 ≤ x7 → (∃ a90 : Nat, fA M87 x0 4 2 a90 ∧ (∃ M98 : Hp, sI M87 a90 x6 x9 M98 ∧ (wCu_workOut_166 post k44 (wCu_workOut_79 post k44 n) x0 x1 x2 x3 x4 x5 x6 r88 x9 M98))))))))))))))))))))))))))
set_option maxRecDepth 100000 in
set_option maxHeartbeats 4000000 in
theorem tCu_workOut_79 {p : Program} {l : Launch} {e : Env} {s : State} {m : MethodId} {args : Array Value} {below : List Frame} {meth : Method} {c : Code} {D : va_G} {κ : Nat → ClassId} {A : Nat → Prop} (C : Cx_Cu_workOut p s m args meth c D κ A) (post : Hp → Prop) (k44 : Nat → Nat → Int32 → Nat → Int32 → Int32 → Int32 → Hp → Prop) (hk44 : ∀ (x0 : Nat) (x1 : Nat) (x2 : Int32) (x3 : Nat) (x4 : Int32) (x5 : Int32) (x6 : Int32) (M : Hp), k44 x0 x1 x2 x3 x4 x5 x6 M → Y p l e rm_Cu_workOut s m args below meth c D kCl (hTys κ) A 12 0 0 (MQ below (va_Qv post (hB D kCl (hTys κ) A) A) args s 0 0 A) M 44 [(0, .ref x0), (1, .ref x1), (2, .int x2), (3, .ref x3), (4, .int x4), (5, .int x5), (6, .int x6)] []) : ∀ (n : Nat) (x0 : Nat) (x1 : Nat) (x2 : Int32) (x3 : Nat) (x4 : Int32) (x5 : Int32) (x6 : Int32) (x7 : Int64) (x9 : Int32) (M : Hp), wCu_workOut_79 post k44 n x0 x1 x2 x3 x4 x5 x6 x7 x9 M → Y p l e rm_Cu_workOut s m args below meth c D kCl (hTys κ) A 12 0 0 (MQ below (va_Qv post (hB D kCl (hTys κ) A) A) args s 0 0 A) M 79 [(0, .ref x0), (1, .ref x1), (2, .int x2), (3, .ref x3), (4, .int x4), (5, .int x5), (6, .int x6), (7, .long x7), (9, .int x9)] [] := by
  obtain ⟨hx, hb, hml, hr, hown, hts, hlocks, hE, hA⟩ := id C
  have hK := hE.1
  intro n
  induction n with
  | zero => intro x0 x1 x2 x3 x4 x5 x6 x7 x9 M hwp; exact hwp.elim
  | succ n ih =>
    intro x0 x1 x2 x3 x4 x5 x6 x7 x9 M hwp H locs ls hM hS hl
    unfold wCu_workOut_79 at hwp
    refine lv_iload hx hb d_Cu_workOut_79 (lv_at hl 8 rfl) ?_
    refine lv_iload hx hb d_Cu_workOut_81 (lv_at hl 4 rfl) ?_
    refine lv_icmp_ge (tgt := 172) hx hb d_Cu_workOut_83 (by decide) (fun c2 => ?_) (fun c2 => ?_)
    · replace hwp := hwp.1 c2
      refine lv_aload_n hx hb d_Cu_workOut_172 rfl (lv_at hl 0 rfl) ?_
      obtain ⟨a3, ⟨fs4, he5, hv6⟩, hwp⟩ := hwp
      refine h_get (C := "BuckTables$Cutter") (T := Tc4) (N := 4) hx hb hts inc4 hown hK hM he5 rfl 0 (by decide) (hts _ kw_56) (fun _ h9 => h9) hv6 d_Cu_workOut_173 ?_
      refine lv_iload hx hb d_Cu_workOut_176 (lv_at hl 6 rfl) ?_
      refine lv_lload hx hb d_Cu_workOut_178 (lv_at hl 7 rfl) ?_
      refine lv_ldc2 (v := (128)) hx hb hown (hts _ kw_288) d_Cu_workOut_180 ?_
      refine h_calll hM hS hA (va_runS (As := [.long x7, .long (128 : Int64)]) (rest := [.int x6, .ref a3]) ⟨hx, hb, hml, hown, hts⟩ (metMa_floorDiv l D κ H.size x7 (128 : Int64) M _ hwp) (va_cwS 2 hts (gSo kw_312 kw_313 kw_5 kw_314) rfl rfl rfl (by decide +kernel) ⟨(Nat.le_of_ble_eq_true rfl), (Nat.le_of_ble_eq_true rfl)⟩) (h_preS hE hM hS) rfl rfl hl.1 rfl (lv_room (Nat.le_of_ble_eq_true rfl)) d_Cu_workOut_183 ⟨(Nat.le_of_ble_eq_true rfl), (Nat.le_of_ble_eq_true rfl)⟩) (fun r8 M7 H locs hwp hM hS => ?_)
      obtain ⟨M13, ⟨n9, f10, ha11, hi12, eM13⟩, hwp⟩ := hwp
      refine h_last hx hb hK hM hS ha11 rfl hi12 d_Cu_workOut_186 (fun H locs hM hS => ?_)
      rw [← eM13] at hM
      refine lv_aload_n hx hb d_Cu_workOut_187 rfl (lv_at hl 0 rfl) ?_
      obtain ⟨a14, ⟨fs15, he16, hv17⟩, hwp⟩ := hwp
      refine h_get (C := "BuckTables$Cutter") (T := Tc4) (N := 4) hx hb hts inc4 hown hK hM he16 rfl 1 (by decide) (hts _ kw_57) (fun _ h9 => h9) hv17 d_Cu_workOut_188 ?_
      refine lv_iload hx hb d_Cu_workOut_191 (lv_at hl 6 rfl) ?_
      refine lv_lload hx hb d_Cu_workOut_193 (lv_at hl 7 rfl) ?_
      refine h_calli hM hS hA (va_runS (As := [.long x7]) (rest := [.int x6, .ref a14]) ⟨hx, hb, hml, hown, hts⟩ (metCu_endOf l D κ H.size x7 M13 _ hwp) (cwS 1 hts (gS kw_315 kw_303 kw_2 kw_304) rfl rfl rfl (by decide +kernel) ⟨(Nat.le_of_ble_eq_true rfl), (Nat.le_of_ble_eq_true rfl)⟩) (h_preS hE hM hS) rfl rfl hl.1 rfl (lv_room (Nat.le_of_ble_eq_true rfl)) d_Cu_workOut_195 ⟨(Nat.le_of_ble_eq_true rfl), (Nat.le_of_ble_eq_true rfl)⟩) (fun r19 M18 H locs hwp hM hS => ?_)
      obtain ⟨M24, ⟨n20, f21, ha22, hi23, eM24⟩, hwp⟩ := hwp
      refine h_iast hx hb hK hM hS ha22 rfl hi23 d_Cu_workOut_198 (fun H locs hM hS => ?_)
      rw [← eM24] at hM
      obtain ⟨z25, ez25⟩ : ∃ y : Int32, y = x6 + (-1) := ⟨_, rfl⟩
      replace hwp := hwp z25 ez25
      refine lv_iinc (v := z25) (lv' := [(6, .int z25), (0, .ref x0), (1, .ref x1), (2, .int x2), (3, .ref x3), (4, .int x4), (5, .int x5), (7, .long x7), (9, .int x9)]) hx hb d_Cu_workOut_199 hl (k := 6) rfl (by rw [ez25]; rfl) (by decide) rfl (fun ls hl => ?_)
      refine lv_goto (tgt := 44) hx hb d_Cu_workOut_202 (by decide) ?_
      exact hk44 x0 x1 x2 x3 x4 x5 z25 M24 hwp H locs ls hM hS (lv_sub hl [1, 2, 3, 4, 5, 6, 0] rfl)
    · replace hwp := hwp.2 c2
      refine lv_aload_n hx hb d_Cu_workOut_86 rfl (lv_at hl 0 rfl) ?_
      refine lv_aload_n hx hb d_Cu_workOut_87 rfl (lv_at hl 1 rfl) ?_
      refine lv_aload_n hx hb d_Cu_workOut_88 rfl (lv_at hl 0 rfl) ?_
      obtain ⟨a26, ⟨fs27, he28, hv29⟩, hwp⟩ := hwp
      refine h_get (C := "BuckTables$Cutter") (T := Tc4) (N := 4) hx hb hts inc4 hown hK hM he28 rfl 3 (by decide) (hts _ kw_59) (fun _ h9 => h9) hv29 d_Cu_workOut_89 ?_
      refine lv_iload hx hb d_Cu_workOut_92 (lv_at hl 8 rfl) ?_
      obtain ⟨a30, ⟨n31, f32, ha33, hi34, hy35⟩, hwp⟩ := hwp
      refine h_aald hx hb hK hM ha33 rfl hi34 hy35 d_Cu_workOut_94 ?_
      refine lv_aload_n hx hb d_Cu_workOut_95 rfl (lv_at hl 3 rfl) ?_
      refine lv_iload hx hb d_Cu_workOut_96 (lv_at hl 8 rfl) ?_
      obtain ⟨a36, ⟨n37, f38, ha39, hi40, hy41⟩, hwp⟩ := hwp
      refine h_aald hx hb hK hM ha39 rfl hi40 hy41 d_Cu_workOut_98 ?_
      refine lv_iload hx hb d_Cu_workOut_99 (lv_at hl 6 rfl) ?_
      refine lv_iload hx hb d_Cu_workOut_101 (lv_at hl 5 rfl) ?_
      obtain ⟨ho43, hwp⟩ := hwp
      refine h_callv hM hS hA (va_runV (As := [.ref x1, .ref a30, .ref a36, .int x6, .int x5]) (rest := []) ⟨hx, hb, hml, hown, hts⟩ (metCu_letEndIn l D κ H.size x0 x1 a30 a36 x6 x5 M _ hwp) (cwV 5 hts (gV kw_289 kw_291 kp_7 kw_2 kw_292) rfl rfl rfl (by decide +kernel) ⟨(Nat.le_of_ble_eq_true rfl), (Nat.le_of_ble_eq_true rfl)⟩) (h_preV hE hM hS ho43 (r := ("BuckTables$Cutter", Tc4, 4)) rfl) rfl rfl hl.1 rfl (lv_room (Nat.le_of_ble_eq_true rfl)) d_Cu_workOut_103 ⟨(Nat.le_of_ble_eq_true rfl), (Nat.le_of_ble_eq_true rfl)⟩) (fun M42 H locs hwp hM hS => ?_)
      refine lv_aload_n hx hb d_Cu_workOut_106 rfl (lv_at hl 0 rfl) ?_
      obtain ⟨a44, ⟨fs45, he46, hv47⟩, hwp⟩ := hwp
      refine h_get (C := "BuckTables$Cutter") (T := Tc4) (N := 4) hx hb hts inc4 hown hK hM he46 rfl 3 (by decide) (hts _ kw_59) (fun _ h9 => h9) hv47 d_Cu_workOut_107 ?_
      refine lv_iload hx hb d_Cu_workOut_110 (lv_at hl 8 rfl) ?_
      obtain ⟨a48, ⟨n49, f50, ha51, hi52, hy53⟩, hwp⟩ := hwp
      refine h_aald hx hb hK hM ha51 rfl hi52 hy53 d_Cu_workOut_112 ?_
      refine lv_aload_n hx hb d_Cu_workOut_113 rfl (lv_at hl 1 rfl) ?_
      obtain ⟨a54, ⟨fs55, he56, hv57⟩, hwp⟩ := hwp
      refine h_get (C := "BuckTables$Stem") (T := Tc1) (N := 12) hx hb hts inc1 hown hK hM he56 rfl 8 (by decide) (hts _ kw_120) (fun _ h9 => h9) hv57 d_Cu_workOut_114 ?_
      refine lv_iload hx hb d_Cu_workOut_117 (lv_at hl 8 rfl) ?_
      obtain ⟨a58, ⟨n59, f60, ha61, hi62, hy63⟩, hwp⟩ := hwp
      refine h_aalA hx hb hK hM ha61 rfl hi62 hy63 d_Cu_workOut_119 ?_
      refine lv_iload hx hb d_Cu_workOut_120 (lv_at hl 6 rfl) ?_
      obtain ⟨v64, ⟨n65, f66, ha67, hi68, ev64⟩, hwp⟩ := hwp
      refine h_iald hx hb hK hM ha67 rfl hi68 d_Cu_workOut_122 ?_
      rw [← ev64]
      obtain ⟨ho70, hwp⟩ := hwp
      refine h_callv hM hS hA (va_runV (As := [.int v64]) (rest := []) ⟨hx, hb, hml, hown, hts⟩ (metWi_leaveBeyond l D κ H.size a48 v64 M42 _ hwp) (cwV 1 hts (gV kw_298 kw_299 kw_300 kw_3 kw_301) rfl rfl rfl (by decide +kernel) ⟨(Nat.le_of_ble_eq_true rfl), (Nat.le_of_ble_eq_true rfl)⟩) (h_preV hE hM hS ho70 (r := ("BuckTables$Window", Tc3, 3)) rfl) rfl rfl hl.1 rfl (lv_room (Nat.le_of_ble_eq_true rfl)) d_Cu_workOut_123 ⟨(Nat.le_of_ble_eq_true rfl), (Nat.le_of_ble_eq_true rfl)⟩) (fun M69 H locs hwp hM hS => ?_)
      refine lv_aload_n hx hb d_Cu_workOut_126 rfl (lv_at hl 0 rfl) ?_
      obtain ⟨a71, ⟨fs72, he73, hv74⟩, hwp⟩ := hwp
      refine h_get (C := "BuckTables$Cutter") (T := Tc4) (N := 4) hx hb hts inc4 hown hK hM he73 rfl 3 (by decide) (hts _ kw_59) (fun _ h9 => h9) hv74 d_Cu_workOut_127 ?_
      refine lv_iload hx hb d_Cu_workOut_130 (lv_at hl 8 rfl) ?_
      obtain ⟨a75, ⟨n76, f77, ha78, hi79, hy80⟩, hwp⟩ := hwp
      refine h_aald hx hb hK hM ha78 rfl hi79 hy80 d_Cu_workOut_132 ?_
      refine lv_aload_n hx hb d_Cu_workOut_133 rfl (lv_at hl 3 rfl) ?_
      refine lv_iload hx hb d_Cu_workOut_134 (lv_at hl 8 rfl) ?_
      obtain ⟨a81, ⟨n82, f83, ha84, hi85, hy86⟩, hwp⟩ := hwp
      refine h_aald hx hb hK hM ha84 rfl hi85 hy86 d_Cu_workOut_136 ?_
      refine lv_iload hx hb d_Cu_workOut_137 (lv_at hl 6 rfl) ?_
      refine lv_iload_n hx hb d_Cu_workOut_139 rfl (lv_at hl 2 rfl) ?_
      refine h_calll hM hS hA (va_runS (As := [.ref a75, .ref a81, .int x6, .int x2]) (rest := []) ⟨hx, hb, hml, hown, hts⟩ (metCu_rankOfBest l D κ H.size a75 a81 x6 x2 M69 _ hwp) (cwS 4 hts (gS kw_308 kw_309 kw_2 kw_310) rfl rfl rfl (by decide +kernel) ⟨(Nat.le_of_ble_eq_true rfl), (Nat.le_of_ble_eq_true rfl)⟩) (h_preS hE hM hS) rfl rfl hl.1 rfl (lv_room (Nat.le_of_ble_eq_true rfl)) d_Cu_workOut_140 ⟨(Nat.le_of_ble_eq_true rfl), (Nat.le_of_ble_eq_true rfl)⟩) (fun r88 M87 H locs hwp hM hS => ?_)
      refine lv_lstore (lv' := [(10, .long r88), (0, .ref x0), (1, .ref x1), (2, .int x2), (3, .ref x3), (4, .int x4), (5, .int x5), (6, .int x6), (7, .long x7), (9, .int x9)]) hx hb d_Cu_workOut_143 hl (by decide) rfl (fun ls hl => ?_)
      refine lv_lload hx hb d_Cu_workOut_145 (lv_at hl 0 rfl) ?_
      refine lv_lload hx hb d_Cu_workOut_147 (lv_at hl 8 rfl) ?_
      refine W.lcmp hx hb d_Cu_workOut_149 ?_
      refine lv_if_le (tgt := 166) hx hb d_Cu_workOut_150 (by decide) (fun c89 => ?_) (fun c89 => ?_)
      · replace c89 := (lc_le _ _).mp c89
        replace hwp := hwp.1 c89
        exact tCu_workOut_166 C post k44 hk44 (wCu_workOut_79 post k44 n) ih x0 x1 x2 x3 x4 x5 x6 x7 x9 M87 hwp H locs ls hM hS (lv_sub hl [1, 2, 3, 4, 5, 6, 7, 8, 9] rfl)
      · replace c89 := fun h9 => c89 ((lc_le _ _).mpr h9)
        replace hwp := hwp.2 c89
        refine lv_lload hx hb d_Cu_workOut_153 (lv_at hl 0 rfl) ?_
        refine lv_lstore (lv' := [(7, .long r88), (10, .long r88), (0, .ref x0), (1, .ref x1), (2, .int x2), (3, .ref x3), (4, .int x4), (5, .int x5), (6, .int x6), (9, .int x9)]) hx hb d_Cu_workOut_155 hl (by decide) rfl (fun ls hl => ?_)
        refine lv_aload_n hx hb d_Cu_workOut_157 rfl (lv_at hl 2 rfl) ?_
        obtain ⟨a90, ⟨fs91, he92, hv93⟩, hwp⟩ := hwp
        refine h_get (C := "BuckTables$Cutter") (T := Tc4) (N := 4) hx hb hts inc4 hown hK hM he92 rfl 2 (by decide) (hts _ kw_58) (fun _ h9 => h9) hv93 d_Cu_workOut_158 ?_
        refine lv_iload hx hb d_Cu_workOut_161 (lv_at hl 8 rfl) ?_
        refine lv_iload hx hb d_Cu_workOut_163 (lv_at hl 9 rfl) ?_
        obtain ⟨M98, ⟨n94, f95, ha96, hi97, eM98⟩, hwp⟩ := hwp
        refine h_iast hx hb hK hM hS ha96 rfl hi97 d_Cu_workOut_165 (fun H locs hM hS => ?_)
        rw [← eM98] at hM
        exact tCu_workOut_166 C post k44 hk44 (wCu_workOut_79 post k44 n) ih x0 x1 x2 x3 x4 x5 x6 r88 x9 M98 hwp H locs ls hM hS (lv_sub hl [2, 3, 4, 5, 6, 7, 8, 0, 9] rfl)
def wCu_workOut_44 (post : Hp → Prop)  : Nat → Nat → Nat → Int32 → Nat → Int32 → Int32 → Int32 → Hp → Prop
  | 0 => fun _ _ _ _ _ _ _ _ => False
  | n + 1 => fun x0 x1 x2 x3 x4 x5 x6 M => ((x6 < 0 → (post M)) ∧ (¬ x6 < 0 → (∃ a100 : Nat, fA M x0 4 0 a100 ∧ (∃ v104 : Int64, aJ M a100 (x6 + (1 : Int32)) v104 ∧ (∀ z109 : Int64, z109 = ((v104 * (128 : Int64)) + (x6.toInt64)) → (∃ a110 : Nat, fA M x0 4 2 a110 ∧ (∃ M118 : Hp, sI M a110 x6 (-1 : Int32) M118 ∧ (∃ n119 : Nat, wCu_workOut_79 post (wCu_workOut_44 post n) n119 x0 x1 x2 x3 x4 x5 x6 z109 (0 : Int32) M118))))))))
set_option maxRecDepth 100000 in
set_option maxHeartbeats 4000000 in
theorem tCu_workOut_44 {p : Program} {l : Launch} {e : Env} {s : State} {m : MethodId} {args : Array Value} {below : List Frame} {meth : Method} {c : Code} {D : va_G} {κ : Nat → ClassId} {A : Nat → Prop} (C : Cx_Cu_workOut p s m args meth c D κ A) (post : Hp → Prop)  : ∀ (n : Nat) (x0 : Nat) (x1 : Nat) (x2 : Int32) (x3 : Nat) (x4 : Int32) (x5 : Int32) (x6 : Int32) (M : Hp), wCu_workOut_44 post n x0 x1 x2 x3 x4 x5 x6 M → Y p l e rm_Cu_workOut s m args below meth c D kCl (hTys κ) A 12 0 0 (MQ below (va_Qv post (hB D kCl (hTys κ) A) A) args s 0 0 A) M 44 [(0, .ref x0), (1, .ref x1), (2, .int x2), (3, .ref x3), (4, .int x4), (5, .int x5), (6, .int x6)] [] := by
  obtain ⟨hx, hb, hml, hr, hown, hts, hlocks, hE, hA⟩ := id C
  have hK := hE.1
  intro n
  induction n with
  | zero => intro x0 x1 x2 x3 x4 x5 x6 M hwp; exact hwp.elim
  | succ n ih =>
    intro x0 x1 x2 x3 x4 x5 x6 M hwp H locs ls hM hS hl
    unfold wCu_workOut_44 at hwp
    refine lv_iload hx hb d_Cu_workOut_44 (lv_at hl 6 rfl) ?_
    refine lv_if_lt (tgt := 205) hx hb d_Cu_workOut_46 (by decide) (fun c99 => ?_) (fun c99 => ?_)
    · replace hwp := hwp.1 c99
      exact W.vret hx hb hr (fun t ht hW => ⟨⟨M, rfl, hwp, by show hw D kCl (hTys κ) A M t.heap; rw [ht]; exact hM⟩, hS.F ht⟩) hS.2.2 d_Cu_workOut_205
    · replace hwp := hwp.2 c99
      refine lv_aload_n hx hb d_Cu_workOut_49 rfl (lv_at hl 0 rfl) ?_
      obtain ⟨a100, ⟨fs101, he102, hv103⟩, hwp⟩ := hwp
      refine h_get (C := "BuckTables$Cutter") (T := Tc4) (N := 4) hx hb hts inc4 hown hK hM he102 rfl 0 (by decide) (hts _ kw_56) (fun _ h9 => h9) hv103 d_Cu_workOut_50 ?_
      refine lv_iload hx hb d_Cu_workOut_53 (lv_at hl 6 rfl) ?_
      refine lv_iconst (v := 1) hx hb d_Cu_workOut_55 (by decide) ?_
      refine lv_iadd hx hb d_Cu_workOut_56 ?_
      obtain ⟨v104, ⟨n105, f106, ha107, hi108, ev104⟩, hwp⟩ := hwp
      refine h_lald hx hb hK hM ha107 rfl hi108 d_Cu_workOut_57 ?_
      rw [← ev104]
      refine lv_ldc2 (v := (128)) hx hb hown (hts _ kw_288) d_Cu_workOut_58 ?_
      refine lv_lmul hx hb d_Cu_workOut_61 ?_
      refine lv_iload hx hb d_Cu_workOut_62 (lv_at hl 6 rfl) ?_
      refine lv_i2l hx hb d_Cu_workOut_64 rfl ?_
      refine lv_ladd hx hb d_Cu_workOut_65 ?_
      refine lv_topl (fun z109 ez109 => ?_)
      replace hwp := hwp z109 ez109
      refine lv_lstore (lv' := [(7, .long z109), (0, .ref x0), (1, .ref x1), (2, .int x2), (3, .ref x3), (4, .int x4), (5, .int x5), (6, .int x6)]) hx hb d_Cu_workOut_66 hl (by decide) rfl (fun ls hl => ?_)
      refine lv_aload_n hx hb d_Cu_workOut_68 rfl (lv_at hl 1 rfl) ?_
      obtain ⟨a110, ⟨fs111, he112, hv113⟩, hwp⟩ := hwp
      refine h_get (C := "BuckTables$Cutter") (T := Tc4) (N := 4) hx hb hts inc4 hown hK hM he112 rfl 2 (by decide) (hts _ kw_58) (fun _ h9 => h9) hv113 d_Cu_workOut_69 ?_
      refine lv_iload hx hb d_Cu_workOut_72 (lv_at hl 7 rfl) ?_
      refine lv_iconst (v := -1) hx hb d_Cu_workOut_74 (by decide) ?_
      obtain ⟨M118, ⟨n114, f115, ha116, hi117, eM118⟩, hwp⟩ := hwp
      refine h_iast hx hb hK hM hS ha116 rfl hi117 d_Cu_workOut_75 (fun H locs hM hS => ?_)
      rw [← eM118] at hM
      refine lv_iconst (v := 0) hx hb d_Cu_workOut_76 (by decide) ?_
      refine lv_istore (lv' := [(9, .int (0 : Int32)), (7, .long z109), (0, .ref x0), (1, .ref x1), (2, .int x2), (3, .ref x3), (4, .int x4), (5, .int x5), (6, .int x6)]) hx hb d_Cu_workOut_77 hl (by decide) rfl (fun ls hl => ?_)
      obtain ⟨n119, hwp⟩ := hwp
      exact tCu_workOut_79 C post (wCu_workOut_44 post n) ih n119 x0 x1 x2 x3 x4 x5 x6 z109 (0 : Int32) M118 hwp H locs ls hM hS (lv_sub hl [2, 3, 4, 5, 6, 7, 8, 1, 0] rfl)
def wCu_workOut_3 (post : Hp → Prop)  : Nat → Nat → Nat → Int32 → Nat → Int32 → Int32 → Int32 → Hp → Prop
  | 0 => fun _ _ _ _ _ _ _ _ => False
  | n + 1 => fun x0 x1 x2 x3 x4 x5 x6 M => ((x4 ≤ x6 → (∃ a121 : Nat, fA M x0 4 0 a121 ∧ (∃ v125 : Int32, fI M x1 1 11 v125 ∧ (∃ M133 : Hp, sJ M a121 v125 (0 : Int64) M133 ∧ (∃ v134 : Int32, fI M133 x1 1 11 v134 ∧ (∀ z138 : Int32, z138 = (v134 - (1 : Int32)) → (∃ n139 : Nat, wCu_workOut_44 post n139 x0 x1 x2 x3 x4 x5 z138 M133))))))) ∧ (¬ x4 ≤ x6 → (∃ a140 : Nat, fA M x0 4 3 a140 ∧ (∃ a144 : Nat, aA 5 M a140 x6 a144 ∧ (hob M a144 3 ∧ (wpWi_clear a144 M (fun (M150 : Hp) => (∀ z152 : Int32, z152 = x6 + 1 → ((wCu_workOut_3 post n) x0 x1 x2 x3 x4 x5 z152 M150)))))))))
set_option maxRecDepth 100000 in
set_option maxHeartbeats 4000000 in
theorem tCu_workOut_3 {p : Program} {l : Launch} {e : Env} {s : State} {m : MethodId} {args : Array Value} {below : List Frame} {meth : Method} {c : Code} {D : va_G} {κ : Nat → ClassId} {A : Nat → Prop} (C : Cx_Cu_workOut p s m args meth c D κ A) (post : Hp → Prop)  : ∀ (n : Nat) (x0 : Nat) (x1 : Nat) (x2 : Int32) (x3 : Nat) (x4 : Int32) (x5 : Int32) (x6 : Int32) (M : Hp), wCu_workOut_3 post n x0 x1 x2 x3 x4 x5 x6 M → Y p l e rm_Cu_workOut s m args below meth c D kCl (hTys κ) A 12 0 0 (MQ below (va_Qv post (hB D kCl (hTys κ) A) A) args s 0 0 A) M 3 [(0, .ref x0), (1, .ref x1), (2, .int x2), (3, .ref x3), (4, .int x4), (5, .int x5), (6, .int x6)] [] := by
  obtain ⟨hx, hb, hml, hr, hown, hts, hlocks, hE, hA⟩ := id C
  have hK := hE.1
  intro n
  induction n with
  | zero => intro x0 x1 x2 x3 x4 x5 x6 M hwp; exact hwp.elim
  | succ n ih =>
    intro x0 x1 x2 x3 x4 x5 x6 M hwp H locs ls hM hS hl
    unfold wCu_workOut_3 at hwp
    refine lv_iload hx hb d_Cu_workOut_3 (lv_at hl 6 rfl) ?_
    refine lv_iload hx hb d_Cu_workOut_5 (lv_at hl 4 rfl) ?_
    refine lv_icmp_ge (tgt := 26) hx hb d_Cu_workOut_7 (by decide) (fun c120 => ?_) (fun c120 => ?_)
    · replace hwp := hwp.1 c120
      refine lv_aload_n hx hb d_Cu_workOut_26 rfl (lv_at hl 0 rfl) ?_
      obtain ⟨a121, ⟨fs122, he123, hv124⟩, hwp⟩ := hwp
      refine h_get (C := "BuckTables$Cutter") (T := Tc4) (N := 4) hx hb hts inc4 hown hK hM he123 rfl 0 (by decide) (hts _ kw_56) (fun _ h9 => h9) hv124 d_Cu_workOut_27 ?_
      refine lv_aload_n hx hb d_Cu_workOut_30 rfl (lv_at hl 1 rfl) ?_
      obtain ⟨v125, ⟨fs126, he127, hv128⟩, hwp⟩ := hwp
      refine h_get (C := "BuckTables$Stem") (T := Tc1) (N := 12) hx hb hts inc1 hown hK hM he127 rfl 11 (by decide) (hts _ kw_126) (fun _ h9 => h9) hv128 d_Cu_workOut_31 ?_
      refine lv_lconst (v := 0) hx hb d_Cu_workOut_34 (by decide) ?_
      obtain ⟨M133, ⟨n129, f130, ha131, hi132, eM133⟩, hwp⟩ := hwp
      refine h_last hx hb hK hM hS ha131 rfl hi132 d_Cu_workOut_35 (fun H locs hM hS => ?_)
      rw [← eM133] at hM
      refine lv_aload_n hx hb d_Cu_workOut_36 rfl (lv_at hl 1 rfl) ?_
      obtain ⟨v134, ⟨fs135, he136, hv137⟩, hwp⟩ := hwp
      refine h_get (C := "BuckTables$Stem") (T := Tc1) (N := 12) hx hb hts inc1 hown hK hM he136 rfl 11 (by decide) (hts _ kw_126) (fun _ h9 => h9) hv137 d_Cu_workOut_37 ?_
      refine lv_iconst (v := 1) hx hb d_Cu_workOut_40 (by decide) ?_
      refine lv_isub hx hb d_Cu_workOut_41 ?_
      refine lv_topi (fun z138 ez138 => ?_)
      replace hwp := hwp z138 ez138
      refine lv_istore (lv' := [(6, .int z138), (0, .ref x0), (1, .ref x1), (2, .int x2), (3, .ref x3), (4, .int x4), (5, .int x5)]) hx hb d_Cu_workOut_42 hl (by decide) rfl (fun ls hl => ?_)
      obtain ⟨n139, hwp⟩ := hwp
      exact tCu_workOut_44 C post n139 x0 x1 x2 x3 x4 x5 z138 M133 hwp H locs ls hM hS (lv_sub hl [1, 2, 3, 4, 5, 6, 0] rfl)
    · replace hwp := hwp.2 c120
      refine lv_aload_n hx hb d_Cu_workOut_10 rfl (lv_at hl 0 rfl) ?_
      obtain ⟨a140, ⟨fs141, he142, hv143⟩, hwp⟩ := hwp
      refine h_get (C := "BuckTables$Cutter") (T := Tc4) (N := 4) hx hb hts inc4 hown hK hM he142 rfl 3 (by decide) (hts _ kw_59) (fun _ h9 => h9) hv143 d_Cu_workOut_11 ?_
      refine lv_iload hx hb d_Cu_workOut_14 (lv_at hl 6 rfl) ?_
      obtain ⟨a144, ⟨n145, f146, ha147, hi148, hy149⟩, hwp⟩ := hwp
      refine h_aald hx hb hK hM ha147 rfl hi148 hy149 d_Cu_workOut_16 ?_
      obtain ⟨ho151, hwp⟩ := hwp
      refine h_callv hM hS hA (va_runV (As := []) (rest := []) ⟨hx, hb, hml, hown, hts⟩ (metWi_clear l D κ H.size a144 M _ hwp) (cwV 0 hts (gV kw_284 kw_285 kw_286 kw_3 kw_287) rfl rfl rfl (by decide +kernel) ⟨(Nat.le_of_ble_eq_true rfl), (Nat.le_of_ble_eq_true rfl)⟩) (h_preV hE hM hS ho151 (r := ("BuckTables$Window", Tc3, 3)) rfl) rfl rfl hl.1 rfl (lv_room (Nat.le_of_ble_eq_true rfl)) d_Cu_workOut_17 ⟨(Nat.le_of_ble_eq_true rfl), (Nat.le_of_ble_eq_true rfl)⟩) (fun M150 H locs hwp hM hS => ?_)
      obtain ⟨z152, ez152⟩ : ∃ y : Int32, y = x6 + 1 := ⟨_, rfl⟩
      replace hwp := hwp z152 ez152
      refine lv_iinc (v := z152) (lv' := [(6, .int z152), (0, .ref x0), (1, .ref x1), (2, .int x2), (3, .ref x3), (4, .int x4), (5, .int x5)]) hx hb d_Cu_workOut_20 hl (k := 6) rfl (by rw [ez152]; rfl) (by decide) rfl (fun ls hl => ?_)
      refine lv_goto (tgt := 3) hx hb d_Cu_workOut_23 (by decide) ?_
      exact ih x0 x1 x2 x3 x4 x5 z152 M150 hwp H locs ls hM hS (lv_sub hl [1, 2, 3, 4, 5, 6, 0] rfl)
def wpCu_workOut (self : Nat) (p0 : Nat) (p1 : Int32) (p2 : Nat) (p3 : Int32) (p4 : Int32) (M : Hp) (post : Hp → Prop) : Prop := (∃ n153 : Nat, wCu_workOut_3 post n153 self p0 p1 p2 p3 p4 (0 : Int32) M)
set_option maxRecDepth 100000 in
set_option maxHeartbeats 4000000 in
theorem eCu_workOut {p : Program} {l : Launch} {e : Env} {s : State} {m : MethodId} {args : Array Value} {below : List Frame} {meth : Method} {c : Code} {D : va_G} {κ : Nat → ClassId} {A : Nat → Prop} (C : Cx_Cu_workOut p s m args meth c D κ A) (post : Hp → Prop) (self : Nat) (p0 : Nat) (p1 : Int32) (p2 : Nat) (p3 : Int32) (p4 : Int32) (M : Hp) (hwp : wpCu_workOut self p0 p1 p2 p3 p4 M post) : Y p l e rm_Cu_workOut s m args below meth c D kCl (hTys κ) A 12 0 0 (MQ below (va_Qv post (hB D kCl (hTys κ) A) A) args s 0 0 A) M 0 [(0, .ref self), (1, .ref p0), (2, .int p1), (3, .ref p2), (4, .int p3), (5, .int p4)] [] := by
  obtain ⟨hx, hb, hml, hr, hown, hts, hlocks, hE, hA⟩ := id C
  have hK := hE.1
  intro H locs ls hM hS hl
  unfold wpCu_workOut at hwp
  refine lv_iconst (v := 0) hx hb d_Cu_workOut_0 (by decide) ?_
  refine lv_istore (lv' := [(6, .int (0 : Int32)), (0, .ref self), (1, .ref p0), (2, .int p1), (3, .ref p2), (4, .int p3), (5, .int p4)]) hx hb d_Cu_workOut_1 hl (by decide) rfl (fun ls hl => ?_)
  obtain ⟨n153, hwp⟩ := hwp
  exact tCu_workOut_3 C post n153 self p0 p1 p2 p3 p4 (0 : Int32) M hwp H locs ls hM hS (lv_sub hl [1, 2, 3, 4, 5, 6, 0] rfl)
set_option maxRecDepth 100000 in
set_option maxHeartbeats 4000000 in
theorem metCu_workOut (l : Launch) (D : va_G) (κ : Nat → ClassId) (sz : Nat) (self : Nat) (p0 : Nat) (p1 : Int32) (p2 : Nat) (p3 : Int32) (p4 : Int32) (M : Hp) (post : Hp → Prop) (hwp : wpCu_workOut self p0 p1 p2 p3 p4 M post) : Met l y_Cu_workOut ws_Cu_workOut rm_Cu_workOut (hPc D kCl (hTys κ) M sz [.ref self, .ref p0, .int p1, .ref p2, .int p3, .int p4]) (va_Qv post (hB D kCl (hTys κ) (hAx M sz)) (hAx M sz)) 0 0 (hAx M sz) := by
  refine Met.ofW (cc := prog_2_method_3_code) (maxL := 12) (ret := none) (by decide +kernel) rfl ?_
  intro p e s m args below meth c s₁ B hml hv
  obtain ⟨rfl, hsz, hE, hM0⟩ := hv
  have hts : ∀ w ∈ WG, w.before _ s = true := fun w h => atoms_spec (ws := ws_Cu_workOut) B.pre w (List.mem_cons_of_mem _ h)
  subst hsz
  have C : Cx_Cu_workOut p s m _ meth c D κ (hAx M s.heap.size) := ⟨B.exec, B.bytes, hml, B.returns, findClass_of_methodNamed B.named, hts, B.notSynchronized, hE, fun q h => Or.inr h⟩
  have hl := lv_entry ([.ref self, .ref p0, .int p1, .ref p2, .int p3, .int p4]) (n := 12) (Nat.le_of_ble_eq_true rfl)
  rw [lg_entry_eq]
  generalize (lg_sl ([.ref self, .ref p0, .int p1, .ref p2, .int p3, .int p4]) ++ List.replicate (12 - (lg_sl ([.ref self, .ref p0, .int p1, .ref p2, .int p3, .int p4])).length) Slot.unset).toArray = ls at hl ⊢
  exact eCu_workOut C post self p0 p1 p2 p3 p4 M hwp s.heap [] ls (hM0.self (sz := s.heap.size)) va_S.rf hl
