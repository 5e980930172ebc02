abbrev rm_Mo_wish : Room := { frames := 1, cells := 0, slots := 0, locals := 25 }
def Cx_Mo_wish (p : Program) (s : State) (m : MethodId) (args : Array Value) (meth : Method) (c : Code) (D : va_G) (κ : Nat → ClassId) (A : Nat → Prop) : Prop := p.tables.exec = Jvm.exec ∧ c.code = prog_8_method_17_code ∧ c.maxLocals = 5 ∧ meth.sig.returnType = (some .boolean) ∧ s.vm.findClass "BuckTablesModel" = some m.cls ∧ (∀ w ∈ WG, w.before args s = true) ∧ meth.locks = false ∧ hEnv D kCl (hTys κ) A s ∧ (∀ q, s.heap.size ≤ q → A q)
def wMo_wish_65 (post : Int32 → Hp → Prop)   (M : Hp) : Prop := (post (0 : Int32) M)
set_option maxRecDepth 100000 in
set_option maxHeartbeats 4000000 in
theorem tMo_wish_65 {p : Program} {l : Launch} {e : Env} {s : State} {m : MethodId} {args : Array Value} {below : List Frame} {meth : Method} {c : Code} {D : va_G} {κ : Nat → ClassId} {A : Nat → Prop} (C : Cx_Mo_wish p s m args meth c D κ A) (post : Int32 → Hp → Prop)   (M : Hp) (hwp : wMo_wish_65 post  M) : Y p l e rm_Mo_wish s m args below meth c D kCl (hTys κ) A 5 0 0 (MQ below (va_Qi post (hB D kCl (hTys κ) A) A) args s 0 0 A) M 65 [] [] := by
  obtain ⟨hx, hb, hml, hr, hown, hts, hlocks, hE, hA⟩ := id C
  have hK := hE.1
  intro H locs ls hM hS hl
  unfold wMo_wish_65 at hwp
  refine lv_iconst (v := 0) hx hb d_Mo_wish_65 (by decide) ?_
  exact W.zret (v := (0 : Int32)) hx hb hr (by decide) (fun t ht hW => ⟨⟨(0 : Int32), M, rfl, hwp, by show hw D kCl (hTys κ) A M t.heap; rw [ht]; exact hM⟩, hS.F ht⟩) hS.2.2 d_Mo_wish_66
def wMo_wish_39 (post : Int32 → Hp → Prop)  (x0 : Nat) (x1 : Int32) (x2 : Int32) (x3 : Int64) (y0 : Int32) (y1 : Nat) (M : Hp) : Prop := (∃ M1 : Hp, pF M y1 6 0 (.int y0) M1 ∧ (∃ v5 : Int32, fI M1 x0 6 0 v5 ∧ ((0 < v5 → (wMo_wish_65 post M1)) ∧ (¬ 0 < v5 → (∃ a10 : Nat, fA M1 x0 6 22 a10 ∧ (∃ v14 : Int64, aJ M1 a10 (((7 : Int32) * x1) + x2) v14 ∧ ((v14 = x3 → (wMo_wish_65 post M1)) ∧ (¬ v14 = x3 → (∃ a20 : Nat, fA M1 x0 6 22 a20 ∧ (∃ M28 : Hp, sJ M1 a20 (((7 : Int32) * x1) + x2) x3 M28 ∧ (hob M28 x0 6 ∧ (wpMo_told x0 (1 : Int32) M28 (fun (r31 : Int32) (M29 : Hp) => ((r31 = 0 ∨ r31 = 1) ∧ post r31 M29))))))))))))))
set_option maxRecDepth 100000 in
set_option maxHeartbeats 4000000 in
theorem tMo_wish_39 {p : Program} {l : Launch} {e : Env} {s : State} {m : MethodId} {args : Array Value} {below : List Frame} {meth : Method} {c : Code} {D : va_G} {κ : Nat → ClassId} {A : Nat → Prop} (C : Cx_Mo_wish p s m args meth c D κ A) (post : Int32 → Hp → Prop)  (x0 : Nat) (x1 : Int32) (x2 : Int32) (x3 : Int64) (y0 : Int32) (y1 : Nat) (M : Hp) (hwp : wMo_wish_39 post x0 x1 x2 x3 y0 y1 M) : Y p l e rm_Mo_wish s m args below meth c D kCl (hTys κ) A 5 0 0 (MQ below (va_Qi post (hB D kCl (hTys κ) A) A) args s 0 0 A) M 39 [(0, .ref x0), (1, .int x1), (2, .int x2), (3, .long x3)] [.int y0, .ref y1] := by
  obtain ⟨hx, hb, hml, hr, hown, hts, hlocks, hE, hA⟩ := id C
  have hK := hE.1
  intro H locs ls hM hS hl
  unfold wMo_wish_39 at hwp
  obtain ⟨M1, ⟨fs2, he3, hl4, eM1⟩, hwp⟩ := hwp
  refine h_put (C := "BuckTablesModel") (T := Tc6) (N := 36) (v := .int y0) (ty := .int) hx hb hts inc6 tyc6 tyc6_ok nmc6 hown hK hM hS he3 rfl 0 (by decide) (hts _ kw_720) (fun _ h9 => h9) rfl (by decide +kernel) rfl rfl hl4 d_Mo_wish_39 (fun H locs hM hS => ?_)
  rw [← eM1] at hM
  refine lv_aload_n hx hb d_Mo_wish_42 rfl (lv_at hl 0 rfl) ?_
  obtain ⟨v5, ⟨fs6, he7, hv8⟩, hwp⟩ := hwp
  refine h_get (C := "BuckTablesModel") (T := Tc6) (N := 36) hx hb hts inc6 hown hK hM he7 rfl 0 (by decide) (hts _ kw_720) (fun _ h9 => h9) hv8 d_Mo_wish_43 ?_
  refine lv_if_gt (tgt := 65) hx hb d_Mo_wish_46 (by decide) (fun c9 => ?_) (fun c9 => ?_)
  · replace hwp := hwp.1 c9
    exact tMo_wish_65 C post M1 hwp H locs ls hM hS (lv_sub hl [] rfl)
  · replace hwp := hwp.2 c9
    refine lv_aload_n hx hb d_Mo_wish_49 rfl (lv_at hl 0 rfl) ?_
    obtain ⟨a10, ⟨fs11, he12, hv13⟩, hwp⟩ := hwp
    refine h_get (C := "BuckTablesModel") (T := Tc6) (N := 36) hx hb hts inc6 hown hK hM he12 rfl 22 (by decide) (hts _ kw_742) (fun _ h9 => h9) hv13 d_Mo_wish_50 ?_
    refine lv_bipush (v := 7) hx hb d_Mo_wish_53 (by decide) ?_
    refine lv_iload_n hx hb d_Mo_wish_55 rfl (lv_at hl 1 rfl) ?_
    refine lv_imul hx hb d_Mo_wish_56 ?_
    refine lv_iload_n hx hb d_Mo_wish_57 rfl (lv_at hl 2 rfl) ?_
    refine lv_iadd hx hb d_Mo_wish_58 ?_
    obtain ⟨v14, ⟨n15, f16, ha17, hi18, ev14⟩, hwp⟩ := hwp
    refine h_lald hx hb hK hM ha17 rfl hi18 d_Mo_wish_59 ?_
    rw [← ev14]
    refine lv_lload_n hx hb d_Mo_wish_60 rfl (lv_at hl 3 rfl) ?_
    refine W.lcmp hx hb d_Mo_wish_61 ?_
    refine lv_if_ne (tgt := 67) hx hb d_Mo_wish_62 (by decide) (fun c19 => ?_) (fun c19 => ?_)
    · replace c19 := fun h9 => c19 ((lc_eq _ _).mpr h9)
      replace hwp := hwp.2 c19
      refine lv_aload_n hx hb d_Mo_wish_67 rfl (lv_at hl 0 rfl) ?_
      obtain ⟨a20, ⟨fs21, he22, hv23⟩, hwp⟩ := hwp
      refine h_get (C := "BuckTablesModel") (T := Tc6) (N := 36) hx hb hts inc6 hown hK hM he22 rfl 22 (by decide) (hts _ kw_742) (fun _ h9 => h9) hv23 d_Mo_wish_68 ?_
      refine lv_bipush (v := 7) hx hb d_Mo_wish_71 (by decide) ?_
      refine lv_iload_n hx hb d_Mo_wish_73 rfl (lv_at hl 1 rfl) ?_
      refine lv_imul hx hb d_Mo_wish_74 ?_
      refine lv_iload_n hx hb d_Mo_wish_75 rfl (lv_at hl 2 rfl) ?_
      refine lv_iadd hx hb d_Mo_wish_76 ?_
      refine lv_lload_n hx hb d_Mo_wish_77 rfl (lv_at hl 3 rfl) ?_
      obtain ⟨M28, ⟨n24, f25, ha26, hi27, eM28⟩, hwp⟩ := hwp
      refine h_last hx hb hK hM hS ha26 rfl hi27 d_Mo_wish_78 (fun H locs hM hS => ?_)
      rw [← eM28] at hM
      refine lv_aload_n hx hb d_Mo_wish_79 rfl (lv_at hl 0 rfl) ?_
      refine lv_iconst (v := 1) hx hb d_Mo_wish_80 (by decide) ?_
      obtain ⟨ho30, hwp⟩ := hwp
      refine h_calli hM hS hA (va_runV (As := [.int (1 : Int32)]) (rest := []) ⟨hx, hb, hml, hown, hts⟩ (metMo_told l D κ H.size x0 (1 : Int32) M28 _ hwp) (cwV 1 hts (gV kw_842 kw_844 kp_23 kw_8 kw_845) rfl rfl rfl (by decide +kernel) ⟨(Nat.le_of_ble_eq_true rfl), (Nat.le_of_ble_eq_true rfl)⟩) (h_preV hE hM hS ho30 (r := ("BuckTablesModel", Tc6, 36)) rfl) rfl rfl hl.1 rfl (lv_room (Nat.le_of_ble_eq_true rfl)) d_Mo_wish_81 ⟨(Nat.le_of_ble_eq_true rfl), (Nat.le_of_ble_eq_true rfl)⟩) (fun r31 M29 H locs hwp hM hS => ?_)
      obtain ⟨hz32, hwp⟩ := hwp
      exact W.zret (v := r31) hx hb hr (by rcases hz32 with h | h <;> rw [h] <;> rfl) (fun t ht hW => ⟨⟨r31, M29, rfl, hwp, by show hw D kCl (hTys κ) A M29 t.heap; rw [ht]; exact hM⟩, hS.F ht⟩) hS.2.2 d_Mo_wish_84
    · replace c19 := (lc_eq _ _).mp c19
      replace hwp := hwp.1 c19
      exact tMo_wish_65 C post M1 hwp H locs ls hM hS (lv_sub hl [] rfl)
def wMo_wish_38 (post : Int32 → Hp → Prop)  (x0 : Nat) (x1 : Int32) (x2 : Int32) (x3 : Int64) (y0 : Nat) (M : Hp) : Prop := (wMo_wish_39 post x0 x1 x2 x3 (2 : Int32) y0 M)
set_option maxRecDepth 100000 in
set_option maxHeartbeats 4000000 in
theorem tMo_wish_38 {p : Program} {l : Launch} {e : Env} {s : State} {m : MethodId} {args : Array Value} {below : List Frame} {meth : Method} {c : Code} {D : va_G} {κ : Nat → ClassId} {A : Nat → Prop} (C : Cx_Mo_wish p s m args meth c D κ A) (post : Int32 → Hp → Prop)  (x0 : Nat) (x1 : Int32) (x2 : Int32) (x3 : Int64) (y0 : Nat) (M : Hp) (hwp : wMo_wish_38 post x0 x1 x2 x3 y0 M) : Y p l e rm_Mo_wish s m args below meth c D kCl (hTys κ) A 5 0 0 (MQ below (va_Qi post (hB D kCl (hTys κ) A) A) args s 0 0 A) M 38 [(0, .ref x0), (1, .int x1), (2, .int x2), (3, .long x3)] [.ref y0] := by
  obtain ⟨hx, hb, hml, hr, hown, hts, hlocks, hE, hA⟩ := id C
  have hK := hE.1
  intro H locs ls hM hS hl
  unfold wMo_wish_38 at hwp
  refine lv_iconst (v := 2) hx hb d_Mo_wish_38 (by decide) ?_
  exact tMo_wish_39 C post x0 x1 x2 x3 (2 : Int32) y0 M hwp H locs ls hM hS (lv_sub hl [0, 1, 2, 3] rfl)
def wpMo_wish (self : Nat) (p0 : Int32) (p1 : Int32) (p2 : Int64) (M : Hp) (post : Int32 → Hp → Prop) : Prop := (hob M self 6 ∧ (wpMo_noProduct self p0 M (fun (r35 : Int32) (M33 : Hp) => ((r35 = 0 → (wpMo_isIn (p1.toInt64) (0 : Int64) (6 : Int64) M33 (fun (r38 : Int32) (M37 : Hp) => ((r38 = 0 → (wMo_wish_38 post self p0 p1 p2 self M37)) ∧ (¬ r38 = 0 → (wpMo_isIn p2 (0 : Int64) (100000 : Int64) M37 (fun (r41 : Int32) (M40 : Hp) => ((r41 = 0 → (wMo_wish_38 post self p0 p1 p2 self M40)) ∧ (¬ r41 = 0 → (wMo_wish_39 post self p0 p1 p2 (0 : Int32) self M40)))))))))) ∧ (¬ r35 = 0 → (post (0 : Int32) M33))))))
set_option maxRecDepth 100000 in
set_option maxHeartbeats 4000000 in
theorem eMo_wish {p : Program} {l : Launch} {e : Env} {s : State} {m : MethodId} {args : Array Value} {below : List Frame} {meth : Method} {c : Code} {D : va_G} {κ : Nat → ClassId} {A : Nat → Prop} (C : Cx_Mo_wish p s m args meth c D κ A) (post : Int32 → Hp → Prop) (self : Nat) (p0 : Int32) (p1 : Int32) (p2 : Int64) (M : Hp) (hwp : wpMo_wish self p0 p1 p2 M post) : Y p l e rm_Mo_wish s m args below meth c D kCl (hTys κ) A 5 0 0 (MQ below (va_Qi post (hB D kCl (hTys κ) A) A) args s 0 0 A) M 0 [(0, .ref self), (1, .int p0), (2, .int p1), (3, .long p2)] [] := by
  obtain ⟨hx, hb, hml, hr, hown, hts, hlocks, hE, hA⟩ := id C
  have hK := hE.1
  intro H locs ls hM hS hl
  unfold wpMo_wish at hwp
  refine lv_aload_n hx hb d_Mo_wish_0 rfl (lv_at hl 0 rfl) ?_
  refine lv_iload_n hx hb d_Mo_wish_1 rfl (lv_at hl 1 rfl) ?_
  obtain ⟨ho34, hwp⟩ := hwp
  refine h_calli hM hS hA (va_runV (As := [.int p0]) (rest := []) ⟨hx, hb, hml, hown, hts⟩ (metMo_noProduct l D κ H.size self p0 M _ hwp) (cwV 1 hts (gV kw_863 kw_865 kp_24 kw_8 kw_866) rfl rfl rfl (by decide +kernel) ⟨(Nat.le_of_ble_eq_true rfl), (Nat.le_of_ble_eq_true rfl)⟩) (h_preV hE hM hS ho34 (r := ("BuckTablesModel", Tc6, 36)) rfl) rfl rfl hl.1 rfl (lv_room (Nat.le_of_ble_eq_true rfl)) d_Mo_wish_2 ⟨(Nat.le_of_ble_eq_true rfl), (Nat.le_of_ble_eq_true rfl)⟩) (fun r35 M33 H locs hwp hM hS => ?_)
  refine lv_if_eq (tgt := 10) hx hb d_Mo_wish_5 (by decide) (fun c36 => ?_) (fun c36 => ?_)
  · replace hwp := hwp.1 c36
    refine lv_aload_n hx hb d_Mo_wish_10 rfl (lv_at hl 0 rfl) ?_
    refine lv_iload_n hx hb d_Mo_wish_11 rfl (lv_at hl 2 rfl) ?_
    refine lv_i2l hx hb d_Mo_wish_12 rfl ?_
    refine lv_lconst (v := 0) hx hb d_Mo_wish_13 (by decide) ?_
    refine lv_ldc2 (v := (6)) hx hb hown (hts _ kw_897) d_Mo_wish_14 ?_
    refine h_calli hM hS hA (va_runS (As := [.long (p1.toInt64), .long (0 : Int64), .long (6 : Int64)]) (rest := [.ref self]) ⟨hx, hb, hml, hown, hts⟩ (metMo_isIn l D κ H.size (p1.toInt64) (0 : Int64) (6 : Int64) M33 _ hwp) (cwS 3 hts (gS kw_838 kw_839 kw_8 kw_840) rfl rfl rfl (by decide +kernel) ⟨(Nat.le_of_ble_eq_true rfl), (Nat.le_of_ble_eq_true rfl)⟩) (h_preS hE hM hS) rfl rfl hl.1 rfl (lv_room (Nat.le_of_ble_eq_true rfl)) d_Mo_wish_17 ⟨(Nat.le_of_ble_eq_true rfl), (Nat.le_of_ble_eq_true rfl)⟩) (fun r38 M37 H locs hwp hM hS => ?_)
    refine lv_if_eq (tgt := 38) hx hb d_Mo_wish_20 (by decide) (fun c39 => ?_) (fun c39 => ?_)
    · replace hwp := hwp.1 c39
      exact tMo_wish_38 C post self p0 p1 p2 self M37 hwp H locs ls hM hS (lv_sub hl [0, 1, 2, 3] rfl)
    · replace hwp := hwp.2 c39
      refine lv_lload_n hx hb d_Mo_wish_23 rfl (lv_at hl 3 rfl) ?_
      refine lv_lconst (v := 0) hx hb d_Mo_wish_24 (by decide) ?_
      refine lv_ldc2 (v := (100000)) hx hb hown (hts _ kw_841) d_Mo_wish_25 ?_
      refine h_calli hM hS hA (va_runS (As := [.long p2, .long (0 : Int64), .long (100000 : Int64)]) (rest := [.ref self]) ⟨hx, hb, hml, hown, hts⟩ (metMo_isIn l D κ H.size p2 (0 : Int64) (100000 : Int64) M37 _ hwp) (cwS 3 hts (gS kw_838 kw_839 kw_8 kw_840) rfl rfl rfl (by decide +kernel) ⟨(Nat.le_of_ble_eq_true rfl), (Nat.le_of_ble_eq_true rfl)⟩) (h_preS hE hM hS) rfl rfl hl.1 rfl (lv_room (Nat.le_of_ble_eq_true rfl)) d_Mo_wish_28 ⟨(Nat.le_of_ble_eq_true rfl), (Nat.le_of_ble_eq_true rfl)⟩) (fun r41 M40 H locs hwp hM hS => ?_)
      refine lv_if_eq (tgt := 38) hx hb d_Mo_wish_31 (by decide) (fun c42 => ?_) (fun c42 => ?_)
      · replace hwp := hwp.1 c42
        exact tMo_wish_38 C post self p0 p1 p2 self M40 hwp H locs ls hM hS (lv_sub hl [0, 1, 2, 3] rfl)
      · replace hwp := hwp.2 c42
        refine lv_iconst (v := 0) hx hb d_Mo_wish_34 (by decide) ?_
        refine lv_goto (tgt := 39) hx hb d_Mo_wish_35 (by decide) ?_
        exact tMo_wish_39 C post self p0 p1 p2 (0 : Int32) self M40 hwp H locs ls hM hS (lv_sub hl [0, 1, 2, 3] rfl)
  · replace hwp := hwp.2 c36
    refine lv_iconst (v := 0) hx hb d_Mo_wish_8 (by decide) ?_
    exact W.zret (v := (0 : Int32)) hx hb hr (by decide) (fun t ht hW => ⟨⟨(0 : Int32), M33, rfl, hwp, by show hw D kCl (hTys κ) A M33 t.heap; rw [ht]; exact hM⟩, hS.F ht⟩) hS.2.2 d_Mo_wish_9
set_option maxRecDepth 100000 in
set_option maxHeartbeats 4000000 in
theorem metMo_wish (l : Launch) (D : va_G) (κ : Nat → ClassId) (sz : Nat) (self : Nat) (p0 : Int32) (p1 : Int32) (p2 : Int64) (M : Hp) (post : Int32 → Hp → Prop) (hwp : wpMo_wish self p0 p1 p2 M post) : Met l y_Mo_wish ws_Mo_wish rm_Mo_wish (hPc D kCl (hTys κ) M sz [.ref self, .int p0, .int p1, .long p2]) (va_Qi post (hB D kCl (hTys κ) (hAx M sz)) (hAx M sz)) 0 0 (hAx M sz) := by
  refine Met.ofW (cc := prog_8_method_17_code) (maxL := 5) (ret := (some .boolean)) (by decide +kernel) rfl ?_
  intro p e s m args below meth c s₁ B hml hv
  obtain ⟨rfl, hsz, hE, hM0⟩ := hv
  have hts : ∀ w ∈ WG, w.before _ s = true := fun w h => atoms_spec (ws := ws_Mo_wish) B.pre w (List.mem_cons_of_mem _ h)
  subst hsz
  have C : Cx_Mo_wish p s m _ meth c D κ (hAx M s.heap.size) := ⟨B.exec, B.bytes, hml, B.returns, findClass_of_methodNamed B.named, hts, B.notSynchronized, hE, fun q h => Or.inr h⟩
  have hl := lv_entry ([.ref self, .int p0, .int p1, .long p2]) (n := 5) (Nat.le_of_ble_eq_true rfl)
  rw [lg_entry_eq]
  generalize (lg_sl ([.ref self, .int p0, .int p1, .long p2]) ++ List.replicate (5 - (lg_sl ([.ref self, .int p0, .int p1, .long p2])).length) Slot.unset).toArray = ls at hl ⊢
  exact eMo_wish C post self p0 p1 p2 M hwp s.heap [] ls (hM0.self (sz := s.heap.size)) va_S.rf hl
abbrev rm_Mo_may : Room := { frames := 0, cells := 0, slots := 0, locals := 0 }
def Cx_Mo_may (p : Program) (s : State) (m : MethodId) (args : Array Value) (meth : Method) (c : Code) (D : va_G) (κ : Nat → ClassId) (A : Nat → Prop) : Prop := p.tables.exec = Jvm.exec ∧ c.code = prog_8_method_18_code ∧ c.maxLocals = 11 ∧ meth.sig.returnType = (some .boolean) ∧ s.vm.findClass "BuckTablesModel" = some m.cls ∧ (∀ w ∈ WG, w.before args s = true) ∧ meth.locks = false ∧ hEnv D kCl (hTys κ) A s ∧ (∀ q, s.heap.size ≤ q → A q)
def wMo_may_293 (post : Int32 → Hp → Prop)   (y0 : Int32) (M : Hp) : Prop := ((y0 = 0 ∨ y0 = 1) ∧ post y0 M)
set_option maxRecDepth 100000 in
set_option maxHeartbeats 4000000 in
theorem tMo_may_293 {p : Program} {l : Launch} {e : Env} {s : State} {m : MethodId} {args : Array Value} {below : List Frame} {meth : Method} {c : Code} {D : va_G} {κ : Nat → ClassId} {A : Nat → Prop} (C : Cx_Mo_may p s m args meth c D κ A) (post : Int32 → Hp → Prop)   (y0 : Int32) (M : Hp) (hwp : wMo_may_293 post y0 M) : Y p l e rm_Mo_may s m args below meth c D kCl (hTys κ) A 11 0 0 (MQ below (va_Qi post (hB D kCl (hTys κ) A) A) args s 0 0 A) M 293 [] [.int y0] := by
  obtain ⟨hx, hb, hml, hr, hown, hts, hlocks, hE, hA⟩ := id C
  have hK := hE.1
  intro H locs ls hM hS hl
  unfold wMo_may_293 at hwp
  obtain ⟨hz1, hwp⟩ := hwp
  exact W.zret (v := y0) hx hb hr (by rcases hz1 with h | h <;> rw [h] <;> rfl) (fun t ht hW => ⟨⟨y0, M, rfl, hwp, by show hw D kCl (hTys κ) A M t.heap; rw [ht]; exact hM⟩, hS.F ht⟩) hS.2.2 d_Mo_may_293
def wMo_may_292 (post : Int32 → Hp → Prop)   (M : Hp) : Prop := (wMo_may_293 post (0 : Int32) M)
set_option maxRecDepth 100000 in
set_option maxHeartbeats 4000000 in
theorem tMo_may_292 {p : Program} {l : Launch} {e : Env} {s : State} {m : MethodId} {args : Array Value} {below : List Frame} {meth : Method} {c : Code} {D : va_G} {κ : Nat → ClassId} {A : Nat → Prop} (C : Cx_Mo_may p s m args meth c D κ A) (post : Int32 → Hp → Prop)   (M : Hp) (hwp : wMo_may_292 post  M) : Y p l e rm_Mo_may s m args below meth c D kCl (hTys κ) A 11 0 0 (MQ below (va_Qi post (hB D kCl (hTys κ) A) A) args s 0 0 A) M 292 [] [] := by
  obtain ⟨hx, hb, hml, hr, hown, hts, hlocks, hE, hA⟩ := id C
  have hK := hE.1
  intro H locs ls hM hS hl
  unfold wMo_may_292 at hwp
  refine lv_iconst (v := 0) hx hb d_Mo_may_292 (by decide) ?_
  exact tMo_may_293 C post (0 : Int32) M hwp H locs ls hM hS (lv_sub hl [] rfl)
def wMo_may_241 (post : Int32 → Hp → Prop) (k210 : Nat → Int32 → Int32 → Int32 → Int32 → Hp → Prop) (x0 : Nat) (x4 : Int32) (x7 : Int32) (x10 : Int32) (y0 : Int32) (M : Hp) : Prop := (∀ z2 : Int32, z2 = x10 + 1 → (k210 x0 x4 x7 y0 z2 M))
set_option maxRecDepth 100000 in
set_option maxHeartbeats 4000000 in
theorem tMo_may_241 {p : Program} {l : Launch} {e : Env} {s : State} {m : MethodId} {args : Array Value} {below : List Frame} {meth : Method} {c : Code} {D : va_G} {κ : Nat → ClassId} {A : Nat → Prop} (C : Cx_Mo_may p s m args meth c D κ A) (post : Int32 → Hp → Prop) (k210 : Nat → Int32 → Int32 → Int32 → Int32 → Hp → Prop) (hk210 : ∀ (x0 : Nat) (x4 : Int32) (x7 : Int32) (x9 : Int32) (x10 : Int32) (M : Hp), k210 x0 x4 x7 x9 x10 M → Y p l e rm_Mo_may s m args below meth c D kCl (hTys κ) A 11 0 0 (MQ below (va_Qi post (hB D kCl (hTys κ) A) A) args s 0 0 A) M 210 [(0, .ref x0), (4, .int x4), (7, .int x7), (9, .int x9), (10, .int x10)] []) (x0 : Nat) (x4 : Int32) (x7 : Int32) (x10 : Int32) (y0 : Int32) (M : Hp) (hwp : wMo_may_241 post k210 x0 x4 x7 x10 y0 M) : Y p l e rm_Mo_may s m args below meth c D kCl (hTys κ) A 11 0 0 (MQ below (va_Qi post (hB D kCl (hTys κ) A) A) args s 0 0 A) M 241 [(0, .ref x0), (4, .int x4), (7, .int x7), (10, .int x10)] [.int y0] := by
  obtain ⟨hx, hb, hml, hr, hown, hts, hlocks, hE, hA⟩ := id C
  have hK := hE.1
  intro H locs ls hM hS hl
  unfold wMo_may_241 at hwp
  refine lv_istore (lv' := [(9, .int y0), (0, .ref x0), (4, .int x4), (7, .int x7), (10, .int x10)]) hx hb d_Mo_may_241 hl (by decide) rfl (fun ls hl => ?_)
  obtain ⟨z2, ez2⟩ : ∃ y : Int32, y = x10 + 1 := ⟨_, rfl⟩
  replace hwp := hwp z2 ez2
  refine lv_iinc (v := z2) (lv' := [(10, .int z2), (9, .int y0), (0, .ref x0), (4, .int x4), (7, .int x7)]) hx hb d_Mo_may_243 hl (k := 4) rfl (by rw [ez2]; rfl) (by decide) rfl (fun ls hl => ?_)
  refine lv_goto (tgt := 210) hx hb d_Mo_may_246 (by decide) ?_
  exact hk210 x0 x4 x7 y0 z2 M hwp H locs ls hM hS (lv_sub hl [2, 3, 4, 1, 0] rfl)
def wMo_may_210 (post : Int32 → Hp → Prop)  : Nat → Nat → Int32 → Int32 → Int32 → Int32 → Hp → Prop
  | 0 => fun _ _ _ _ _ _ => False
  | n + 1 => fun x0 x4 x7 x9 x10 M => ((x7 < x10 → (∃ a4 : Nat, fA M x0 6 7 a4 ∧ (∃ v8 : Int32, aI M a4 x7 v8 ∧ (∃ v13 : Int32, fI M x0 6 2 v13 ∧ (∃ a17 : Nat, fA M x0 6 17 a17 ∧ (∃ v21 : Int32, aI M a17 x4 v21 ∧ (((v8 - v13) < v21 → (wMo_may_292 post M)) ∧ (¬ (v8 - v13) < v21 → (∃ v27 : Int32, fI M x0 6 2 v27 ∧ (∃ a31 : Nat, fA M x0 6 18 a31 ∧ (∃ v35 : Int32, aI M a31 x4 v35 ∧ ((v35 < (x9 + v27) → (wMo_may_292 post M)) ∧ (¬ v35 < (x9 + v27) → (wMo_may_293 post (1 : Int32) M)))))))))))))) ∧ (¬ x7 < x10 → (∃ a41 : Nat, fA M x0 6 8 a41 ∧ (∃ v45 : Int32, aI M a41 x10 v45 ∧ ((v45 ≤ x9 → (wMo_may_241 post (wMo_may_210 post n) x0 x4 x7 x10 x9 M)) ∧ (¬ v45 ≤ x9 → (∃ a51 : Nat, fA M x0 6 8 a51 ∧ (∃ v55 : Int32, aI M a51 x10 v55 ∧ (wMo_may_241 post (wMo_may_210 post n) x0 x4 x7 x10 v55 M)))))))))
set_option maxRecDepth 100000 in
set_option maxHeartbeats 4000000 in
theorem tMo_may_210 {p : Program} {l : Launch} {e : Env} {s : State} {m : MethodId} {args : Array Value} {below : List Frame} {meth : Method} {c : Code} {D : va_G} {κ : Nat → ClassId} {A : Nat → Prop} (C : Cx_Mo_may p s m args meth c D κ A) (post : Int32 → Hp → Prop)  : ∀ (n : Nat) (x0 : Nat) (x4 : Int32) (x7 : Int32) (x9 : Int32) (x10 : Int32) (M : Hp), wMo_may_210 post n x0 x4 x7 x9 x10 M → Y p l e rm_Mo_may s m args below meth c D kCl (hTys κ) A 11 0 0 (MQ below (va_Qi post (hB D kCl (hTys κ) A) A) args s 0 0 A) M 210 [(0, .ref x0), (4, .int x4), (7, .int x7), (9, .int x9), (10, .int x10)] [] := by
  obtain ⟨hx, hb, hml, hr, hown, hts, hlocks, hE, hA⟩ := id C
  have hK := hE.1
  intro n
  induction n with
  | zero => intro x0 x4 x7 x9 x10 M hwp; exact hwp.elim
  | succ n ih =>
    intro x0 x4 x7 x9 x10 M hwp H locs ls hM hS hl
    unfold wMo_may_210 at hwp
    refine lv_iload hx hb d_Mo_may_210 (lv_at hl 4 rfl) ?_
    refine lv_iload hx hb d_Mo_may_212 (lv_at hl 2 rfl) ?_
    refine lv_icmp_gt (tgt := 249) hx hb d_Mo_may_214 (by decide) (fun c3 => ?_) (fun c3 => ?_)
    · replace hwp := hwp.1 c3
      refine lv_aload_n hx hb d_Mo_may_249 rfl (lv_at hl 0 rfl) ?_
      obtain ⟨a4, ⟨fs5, he6, hv7⟩, hwp⟩ := hwp
      refine h_get (C := "BuckTablesModel") (T := Tc6) (N := 36) hx hb hts inc6 hown hK hM he6 rfl 7 (by decide) (hts _ kw_727) (fun _ h9 => h9) hv7 d_Mo_may_250 ?_
      refine lv_iload hx hb d_Mo_may_253 (lv_at hl 2 rfl) ?_
      obtain ⟨v8, ⟨n9, f10, ha11, hi12, ev8⟩, hwp⟩ := hwp
      refine h_iald hx hb hK hM ha11 rfl hi12 d_Mo_may_255 ?_
      rw [← ev8]
      refine lv_aload_n hx hb d_Mo_may_256 rfl (lv_at hl 0 rfl) ?_
      obtain ⟨v13, ⟨fs14, he15, hv16⟩, hwp⟩ := hwp
      refine h_get (C := "BuckTablesModel") (T := Tc6) (N := 36) hx hb hts inc6 hown hK hM he15 rfl 2 (by decide) (hts _ kw_722) (fun _ h9 => h9) hv16 d_Mo_may_257 ?_
      refine lv_isub hx hb d_Mo_may_260 ?_
      refine lv_aload_n hx hb d_Mo_may_261 rfl (lv_at hl 0 rfl) ?_
      obtain ⟨a17, ⟨fs18, he19, hv20⟩, hwp⟩ := hwp
      refine h_get (C := "BuckTablesModel") (T := Tc6) (N := 36) hx hb hts inc6 hown hK hM he19 rfl 17 (by decide) (hts _ kw_737) (fun _ h9 => h9) hv20 d_Mo_may_262 ?_
      refine lv_iload hx hb d_Mo_may_265 (lv_at hl 1 rfl) ?_
      obtain ⟨v21, ⟨n22, f23, ha24, hi25, ev21⟩, hwp⟩ := hwp
      refine h_iald hx hb hK hM ha24 rfl hi25 d_Mo_may_267 ?_
      rw [← ev21]
      refine lv_icmp_lt (tgt := 292) hx hb d_Mo_may_268 (by decide) (fun c26 => ?_) (fun c26 => ?_)
      · replace hwp := hwp.1 c26
        exact tMo_may_292 C post M hwp H locs ls hM hS (lv_sub hl [] rfl)
      · replace hwp := hwp.2 c26
        refine lv_iload hx hb d_Mo_may_271 (lv_at hl 3 rfl) ?_
        refine lv_aload_n hx hb d_Mo_may_273 rfl (lv_at hl 0 rfl) ?_
        obtain ⟨v27, ⟨fs28, he29, hv30⟩, hwp⟩ := hwp
        refine h_get (C := "BuckTablesModel") (T := Tc6) (N := 36) hx hb hts inc6 hown hK hM he29 rfl 2 (by decide) (hts _ kw_722) (fun _ h9 => h9) hv30 d_Mo_may_274 ?_
        refine lv_iadd hx hb d_Mo_may_277 ?_
        refine lv_aload_n hx hb d_Mo_may_278 rfl (lv_at hl 0 rfl) ?_
        obtain ⟨a31, ⟨fs32, he33, hv34⟩, hwp⟩ := hwp
        refine h_get (C := "BuckTablesModel") (T := Tc6) (N := 36) hx hb hts inc6 hown hK hM he33 rfl 18 (by decide) (hts _ kw_738) (fun _ h9 => h9) hv34 d_Mo_may_279 ?_
        refine lv_iload hx hb d_Mo_may_282 (lv_at hl 1 rfl) ?_
        obtain ⟨v35, ⟨n36, f37, ha38, hi39, ev35⟩, hwp⟩ := hwp
        refine h_iald hx hb hK hM ha38 rfl hi39 d_Mo_may_284 ?_
        rw [← ev35]
        refine lv_icmp_gt (tgt := 292) hx hb d_Mo_may_285 (by decide) (fun c40 => ?_) (fun c40 => ?_)
        · replace hwp := hwp.1 c40
          exact tMo_may_292 C post M hwp H locs ls hM hS (lv_sub hl [] rfl)
        · replace hwp := hwp.2 c40
          refine lv_iconst (v := 1) hx hb d_Mo_may_288 (by decide) ?_
          refine lv_goto (tgt := 293) hx hb d_Mo_may_289 (by decide) ?_
          exact tMo_may_293 C post (1 : Int32) M hwp H locs ls hM hS (lv_sub hl [] rfl)
    · replace hwp := hwp.2 c3
      refine lv_aload_n hx hb d_Mo_may_217 rfl (lv_at hl 0 rfl) ?_
      obtain ⟨a41, ⟨fs42, he43, hv44⟩, hwp⟩ := hwp
      refine h_get (C := "BuckTablesModel") (T := Tc6) (N := 36) hx hb hts inc6 hown hK hM he43 rfl 8 (by decide) (hts _ kw_728) (fun _ h9 => h9) hv44 d_Mo_may_218 ?_
      refine lv_iload hx hb d_Mo_may_221 (lv_at hl 4 rfl) ?_
      obtain ⟨v45, ⟨n46, f47, ha48, hi49, ev45⟩, hwp⟩ := hwp
      refine h_iald hx hb hK hM ha48 rfl hi49 d_Mo_may_223 ?_
      rw [← ev45]
      refine lv_iload hx hb d_Mo_may_224 (lv_at hl 3 rfl) ?_
      refine lv_icmp_le (tgt := 239) hx hb d_Mo_may_226 (by decide) (fun c50 => ?_) (fun c50 => ?_)
      · replace hwp := hwp.1 c50
        refine lv_iload hx hb d_Mo_may_239 (lv_at hl 3 rfl) ?_
        exact tMo_may_241 C post (wMo_may_210 post n) ih x0 x4 x7 x10 x9 M hwp H locs ls hM hS (lv_sub hl [0, 1, 2, 4] rfl)
      · replace hwp := hwp.2 c50
        refine lv_aload_n hx hb d_Mo_may_229 rfl (lv_at hl 0 rfl) ?_
        obtain ⟨a51, ⟨fs52, he53, hv54⟩, hwp⟩ := hwp
        refine h_get (C := "BuckTablesModel") (T := Tc6) (N := 36) hx hb hts inc6 hown hK hM he53 rfl 8 (by decide) (hts _ kw_728) (fun _ h9 => h9) hv54 d_Mo_may_230 ?_
        refine lv_iload hx hb d_Mo_may_233 (lv_at hl 4 rfl) ?_
        obtain ⟨v55, ⟨n56, f57, ha58, hi59, ev55⟩, hwp⟩ := hwp
        refine h_iald hx hb hK hM ha58 rfl hi59 d_Mo_may_235 ?_
        rw [← ev55]
        refine lv_goto (tgt := 241) hx hb d_Mo_may_236 (by decide) ?_
        exact tMo_may_241 C post (wMo_may_210 post n) ih x0 x4 x7 x10 v55 M hwp H locs ls hM hS (lv_sub hl [0, 1, 2, 4] rfl)
def wMo_may_185 (post : Int32 → Hp → Prop)  : Nat → Nat → Int32 → Int32 → Int32 → Int32 → Hp → Prop
  | 0 => fun _ _ _ _ _ _ => False
  | n + 1 => fun x0 x4 x5 x7 x8 M => (∃ a60 : Nat, fA M x0 6 6 a60 ∧ (∃ v64 : Int32, aI M a60 x8 v64 ∧ ((v64 ≤ x5 → (∃ n70 : Nat, wMo_may_210 post n70 x0 x4 x7 (0 : Int32) x8 M)) ∧ (¬ v64 ≤ x5 → (∀ z71 : Int32, z71 = x8 + (-1) → ((wMo_may_185 post n) x0 x4 x5 x7 z71 M))))))
set_option maxRecDepth 100000 in
set_option maxHeartbeats 4000000 in
theorem tMo_may_185 {p : Program} {l : Launch} {e : Env} {s : State} {m : MethodId} {args : Array Value} {below : List Frame} {meth : Method} {c : Code} {D : va_G} {κ : Nat → ClassId} {A : Nat → Prop} (C : Cx_Mo_may p s m args meth c D κ A) (post : Int32 → Hp → Prop)  : ∀ (n : Nat) (x0 : Nat) (x4 : Int32) (x5 : Int32) (x7 : Int32) (x8 : Int32) (M : Hp), wMo_may_185 post n x0 x4 x5 x7 x8 M → Y p l e rm_Mo_may s m args below meth c D kCl (hTys κ) A 11 0 0 (MQ below (va_Qi post (hB D kCl (hTys κ) A) A) args s 0 0 A) M 185 [(0, .ref x0), (4, .int x4), (5, .int x5), (7, .int x7), (8, .int x8)] [] := by
  obtain ⟨hx, hb, hml, hr, hown, hts, hlocks, hE, hA⟩ := id C
  have hK := hE.1
  intro n
  induction n with
  | zero => intro x0 x4 x5 x7 x8 M hwp; exact hwp.elim
  | succ n ih =>
    intro x0 x4 x5 x7 x8 M hwp H locs ls hM hS hl
    unfold wMo_may_185 at hwp
    refine lv_aload_n hx hb d_Mo_may_185 rfl (lv_at hl 0 rfl) ?_
    obtain ⟨a60, ⟨fs61, he62, hv63⟩, hwp⟩ := hwp
    refine h_get (C := "BuckTablesModel") (T := Tc6) (N := 36) hx hb hts inc6 hown hK hM he62 rfl 6 (by decide) (hts _ kw_726) (fun _ h9 => h9) hv63 d_Mo_may_186 ?_
    refine lv_iload hx hb d_Mo_may_189 (lv_at hl 4 rfl) ?_
    obtain ⟨v64, ⟨n65, f66, ha67, hi68, ev64⟩, hwp⟩ := hwp
    refine h_iald hx hb hK hM ha67 rfl hi68 d_Mo_may_191 ?_
    rw [← ev64]
    refine lv_iload hx hb d_Mo_may_192 (lv_at hl 2 rfl) ?_
    refine lv_icmp_le (tgt := 203) hx hb d_Mo_may_194 (by decide) (fun c69 => ?_) (fun c69 => ?_)
    · replace hwp := hwp.1 c69
      refine lv_iconst (v := 0) hx hb d_Mo_may_203 (by decide) ?_
      refine lv_istore (lv' := [(9, .int (0 : Int32)), (0, .ref x0), (4, .int x4), (5, .int x5), (7, .int x7), (8, .int x8)]) hx hb d_Mo_may_204 hl (by decide) rfl (fun ls hl => ?_)
      refine lv_iload hx hb d_Mo_may_206 (lv_at hl 5 rfl) ?_
      refine lv_istore (lv' := [(10, .int x8), (9, .int (0 : Int32)), (0, .ref x0), (4, .int x4), (5, .int x5), (7, .int x7), (8, .int x8)]) hx hb d_Mo_may_208 hl (by decide) rfl (fun ls hl => ?_)
      obtain ⟨n70, hwp⟩ := hwp
      exact tMo_may_210 C post n70 x0 x4 x7 (0 : Int32) x8 M hwp H locs ls hM hS (lv_sub hl [2, 3, 5, 1, 0] rfl)
    · replace hwp := hwp.2 c69
      obtain ⟨z71, ez71⟩ : ∃ y : Int32, y = x8 + (-1) := ⟨_, rfl⟩
      replace hwp := hwp z71 ez71
      refine lv_iinc (v := z71) (lv' := [(8, .int z71), (0, .ref x0), (4, .int x4), (5, .int x5), (7, .int x7)]) hx hb d_Mo_may_197 hl (k := 4) rfl (by rw [ez71]; rfl) (by decide) rfl (fun ls hl => ?_)
      refine lv_goto (tgt := 185) hx hb d_Mo_may_200 (by decide) ?_
      exact ih x0 x4 x5 x7 z71 M hwp H locs ls hM hS (lv_sub hl [1, 2, 3, 4, 0] rfl)
def wMo_may_163 (post : Int32 → Hp → Prop)  : Nat → Nat → Int32 → Int32 → Int32 → Int32 → Hp → Prop
  | 0 => fun _ _ _ _ _ _ => False
  | n + 1 => fun x0 x4 x5 x6 x7 M => (∃ a72 : Nat, fA M x0 6 6 a72 ∧ (∃ v76 : Int32, aI M a72 x7 v76 ∧ ((x6 ≤ v76 → (∃ n82 : Nat, wMo_may_185 post n82 x0 x4 x5 x7 x7 M)) ∧ (¬ x6 ≤ v76 → (∀ z83 : Int32, z83 = x7 + 1 → ((wMo_may_163 post n) x0 x4 x5 x6 z83 M))))))
set_option maxRecDepth 100000 in
set_option maxHeartbeats 4000000 in
theorem tMo_may_163 {p : Program} {l : Launch} {e : Env} {s : State} {m : MethodId} {args : Array Value} {below : List Frame} {meth : Method} {c : Code} {D : va_G} {κ : Nat → ClassId} {A : Nat → Prop} (C : Cx_Mo_may p s m args meth c D κ A) (post : Int32 → Hp → Prop)  : ∀ (n : Nat) (x0 : Nat) (x4 : Int32) (x5 : Int32) (x6 : Int32) (x7 : Int32) (M : Hp), wMo_may_163 post n x0 x4 x5 x6 x7 M → Y p l e rm_Mo_may s m args below meth c D kCl (hTys κ) A 11 0 0 (MQ below (va_Qi post (hB D kCl (hTys κ) A) A) args s 0 0 A) M 163 [(0, .ref x0), (4, .int x4), (5, .int x5), (6, .int x6), (7, .int x7)] [] := by
  obtain ⟨hx, hb, hml, hr, hown, hts, hlocks, hE, hA⟩ := id C
  have hK := hE.1
  intro n
  induction n with
  | zero => intro x0 x4 x5 x6 x7 M hwp; exact hwp.elim
  | succ n ih =>
    intro x0 x4 x5 x6 x7 M hwp H locs ls hM hS hl
    unfold wMo_may_163 at hwp
    refine lv_aload_n hx hb d_Mo_may_163 rfl (lv_at hl 0 rfl) ?_
    obtain ⟨a72, ⟨fs73, he74, hv75⟩, hwp⟩ := hwp
    refine h_get (C := "BuckTablesModel") (T := Tc6) (N := 36) hx hb hts inc6 hown hK hM he74 rfl 6 (by decide) (hts _ kw_726) (fun _ h9 => h9) hv75 d_Mo_may_164 ?_
    refine lv_iload hx hb d_Mo_may_167 (lv_at hl 4 rfl) ?_
    obtain ⟨v76, ⟨n77, f78, ha79, hi80, ev76⟩, hwp⟩ := hwp
    refine h_iald hx hb hK hM ha79 rfl hi80 d_Mo_may_169 ?_
    rw [← ev76]
    refine lv_iload hx hb d_Mo_may_170 (lv_at hl 3 rfl) ?_
    refine lv_icmp_ge (tgt := 181) hx hb d_Mo_may_172 (by decide) (fun c81 => ?_) (fun c81 => ?_)
    · replace hwp := hwp.1 c81
      refine lv_iload hx hb d_Mo_may_181 (lv_at hl 4 rfl) ?_
      refine lv_istore (lv' := [(8, .int x7), (0, .ref x0), (4, .int x4), (5, .int x5), (6, .int x6), (7, .int x7)]) hx hb d_Mo_may_183 hl (by decide) rfl (fun ls hl => ?_)
      obtain ⟨n82, hwp⟩ := hwp
      exact tMo_may_185 C post n82 x0 x4 x5 x7 x7 M hwp H locs ls hM hS (lv_sub hl [1, 2, 3, 5, 0] rfl)
    · replace hwp := hwp.2 c81
      obtain ⟨z83, ez83⟩ : ∃ y : Int32, y = x7 + 1 := ⟨_, rfl⟩
      replace hwp := hwp z83 ez83
      refine lv_iinc (v := z83) (lv' := [(7, .int z83), (0, .ref x0), (4, .int x4), (5, .int x5), (6, .int x6)]) hx hb d_Mo_may_175 hl (k := 4) rfl (by rw [ez83]; rfl) (by decide) rfl (fun ls hl => ?_)
      refine lv_goto (tgt := 163) hx hb d_Mo_may_178 (by decide) ?_
      exact ih x0 x4 x5 x6 z83 M hwp H locs ls hM hS (lv_sub hl [1, 2, 3, 4, 0] rfl)
def wMo_may_151 (post : Int32 → Hp → Prop) (k88 : Nat → Int32 → Int32 → Int32 → Int32 → Int32 → Hp → Prop) (x0 : Nat) (x1 : Int32) (x4 : Int32) (x5 : Int32) (x6 : Int32) (x7 : Int32) (M : Hp) : Prop := (∀ z84 : Int32, z84 = x7 + 1 → (k88 x0 x1 x4 x5 x6 z84 M))
set_option maxRecDepth 100000 in
set_option maxHeartbeats 4000000 in
theorem tMo_may_151 {p : Program} {l : Launch} {e : Env} {s : State} {m : MethodId} {args : Array Value} {below : List Frame} {meth : Method} {c : Code} {D : va_G} {κ : Nat → ClassId} {A : Nat → Prop} (C : Cx_Mo_may p s m args meth c D κ A) (post : Int32 → Hp → Prop) (k88 : Nat → Int32 → Int32 → Int32 → Int32 → Int32 → Hp → Prop) (hk88 : ∀ (x0 : Nat) (x1 : Int32) (x4 : Int32) (x5 : Int32) (x6 : Int32) (x7 : Int32) (M : Hp), k88 x0 x1 x4 x5 x6 x7 M → Y p l e rm_Mo_may s m args below meth c D kCl (hTys κ) A 11 0 0 (MQ below (va_Qi post (hB D kCl (hTys κ) A) A) args s 0 0 A) M 88 [(0, .ref x0), (1, .int x1), (4, .int x4), (5, .int x5), (6, .int x6), (7, .int x7)] []) (x0 : Nat) (x1 : Int32) (x4 : Int32) (x5 : Int32) (x6 : Int32) (x7 : Int32) (M : Hp) (hwp : wMo_may_151 post k88 x0 x1 x4 x5 x6 x7 M) : Y p l e rm_Mo_may s m args below meth c D kCl (hTys κ) A 11 0 0 (MQ below (va_Qi post (hB D kCl (hTys κ) A) A) args s 0 0 A) M 151 [(0, .ref x0), (1, .int x1), (4, .int x4), (5, .int x5), (6, .int x6), (7, .int x7)] [] := by
  obtain ⟨hx, hb, hml, hr, hown, hts, hlocks, hE, hA⟩ := id C
  have hK := hE.1
  intro H locs ls hM hS hl
  unfold wMo_may_151 at hwp
  obtain ⟨z84, ez84⟩ : ∃ y : Int32, y = x7 + 1 := ⟨_, rfl⟩
  replace hwp := hwp z84 ez84
  refine lv_iinc (v := z84) (lv' := [(7, .int z84), (0, .ref x0), (1, .int x1), (4, .int x4), (5, .int x5), (6, .int x6)]) hx hb d_Mo_may_151 hl (k := 5) rfl (by rw [ez84]; rfl) (by decide) rfl (fun ls hl => ?_)
  refine lv_goto (tgt := 88) hx hb d_Mo_may_154 (by decide) ?_
  exact hk88 x0 x1 x4 x5 x6 z84 M hwp H locs ls hM hS (lv_sub hl [1, 2, 3, 4, 5, 0] rfl)
def wMo_may_88 (post : Int32 → Hp → Prop)  : Nat → Nat → Int32 → Int32 → Int32 → Int32 → Int32 → Hp → Prop
  | 0 => fun _ _ _ _ _ _ _ => False
  | n + 1 => fun x0 x1 x4 x5 x6 x7 M => (∃ a85 : Nat, fA M x0 6 9 a85 ∧ (∃ v89 : Int32, aI M a85 x1 v89 ∧ (((((20 : Int32) * x1) + v89) ≤ x7 → (∀ z95 : Int32, z95 = ((60 : Int32) * x1) → (∃ n96 : Nat, wMo_may_163 post n96 x0 x4 x5 x6 z95 M))) ∧ (¬ (((20 : Int32) * x1) + v89) ≤ x7 → (∃ a97 : Nat, fA M x0 6 20 a97 ∧ (∃ a101 : Nat, fA M x0 6 12 a101 ∧ (∃ v105 : Int32, aI M a101 x7 v105 ∧ (∃ v110 : Int32, aZ M a97 (((8 : Int32) * x4) + v105) v110 ∧ ((v110 = 0 → (wMo_may_151 post (wMo_may_88 post n) x0 x1 x4 x5 x6 x7 M)) ∧ (¬ v110 = 0 → (∃ a116 : Nat, fA M x0 6 10 a116 ∧ (∃ v120 : Int32, aI M a116 x7 v120 ∧ ((x6 ≤ v120 → (wMo_may_151 post (wMo_may_88 post n) x0 x1 x4 x5 x6 x7 M)) ∧ (¬ x6 ≤ v120 → (∃ a126 : Nat, fA M x0 6 11 a126 ∧ (∃ v130 : Int32, aI M a126 x7 v130 ∧ ((v130 ≤ x5 → (wMo_may_151 post (wMo_may_88 post n) x0 x1 x4 x5 x6 x7 M)) ∧ (¬ v130 ≤ x5 → (post (0 : Int32) M)))))))))))))))))))
set_option maxRecDepth 100000 in
set_option maxHeartbeats 4000000 in
theorem tMo_may_88 {p : Program} {l : Launch} {e : Env} {s : State} {m : MethodId} {args : Array Value} {below : List Frame} {meth : Method} {c : Code} {D : va_G} {κ : Nat → ClassId} {A : Nat → Prop} (C : Cx_Mo_may p s m args meth c D κ A) (post : Int32 → Hp → Prop)  : ∀ (n : Nat) (x0 : Nat) (x1 : Int32) (x4 : Int32) (x5 : Int32) (x6 : Int32) (x7 : Int32) (M : Hp), wMo_may_88 post n x0 x1 x4 x5 x6 x7 M → Y p l e rm_Mo_may s m args below meth c D kCl (hTys κ) A 11 0 0 (MQ below (va_Qi post (hB D kCl (hTys κ) A) A) args s 0 0 A) M 88 [(0, .ref x0), (1, .int x1), (4, .int x4), (5, .int x5), (6, .int x6), (7, .int x7)] [] := by
  obtain ⟨hx, hb, hml, hr, hown, hts, hlocks, hE, hA⟩ := id C
  have hK := hE.1
  intro n
  induction n with
  | zero => intro x0 x1 x4 x5 x6 x7 M hwp; exact hwp.elim
  | succ n ih =>
    intro x0 x1 x4 x5 x6 x7 M hwp H locs ls hM hS hl
    unfold wMo_may_88 at hwp
    refine lv_iload hx hb d_Mo_may_88 (lv_at hl 5 rfl) ?_
    refine lv_bipush (v := 20) hx hb d_Mo_may_90 (by decide) ?_
    refine lv_iload_n hx hb d_Mo_may_92 rfl (lv_at hl 1 rfl) ?_
    refine lv_imul hx hb d_Mo_may_93 ?_
    refine lv_aload_n hx hb d_Mo_may_94 rfl (lv_at hl 0 rfl) ?_
    obtain ⟨a85, ⟨fs86, he87, hv88⟩, hwp⟩ := hwp
    refine h_get (C := "BuckTablesModel") (T := Tc6) (N := 36) hx hb hts inc6 hown hK hM he87 rfl 9 (by decide) (hts _ kw_729) (fun _ h9 => h9) hv88 d_Mo_may_95 ?_
    refine lv_iload_n hx hb d_Mo_may_98 rfl (lv_at hl 1 rfl) ?_
    obtain ⟨v89, ⟨n90, f91, ha92, hi93, ev89⟩, hwp⟩ := hwp
    refine h_iald hx hb hK hM ha92 rfl hi93 d_Mo_may_99 ?_
    rw [← ev89]
    refine lv_iadd hx hb d_Mo_may_100 ?_
    refine lv_icmp_ge (tgt := 157) hx hb d_Mo_may_101 (by decide) (fun c94 => ?_) (fun c94 => ?_)
    · replace hwp := hwp.1 c94
      refine lv_bipush (v := 60) hx hb d_Mo_may_157 (by decide) ?_
      refine lv_iload_n hx hb d_Mo_may_159 rfl (lv_at hl 1 rfl) ?_
      refine lv_imul hx hb d_Mo_may_160 ?_
      refine lv_topi (fun z95 ez95 => ?_)
      replace hwp := hwp z95 ez95
      refine lv_istore (lv' := [(7, .int z95), (0, .ref x0), (1, .int x1), (4, .int x4), (5, .int x5), (6, .int x6)]) hx hb d_Mo_may_161 hl (by decide) rfl (fun ls hl => ?_)
      obtain ⟨n96, hwp⟩ := hwp
      exact tMo_may_163 C post n96 x0 x4 x5 x6 z95 M hwp H locs ls hM hS (lv_sub hl [1, 3, 4, 5, 0] rfl)
    · replace hwp := hwp.2 c94
      refine lv_aload_n hx hb d_Mo_may_104 rfl (lv_at hl 0 rfl) ?_
      obtain ⟨a97, ⟨fs98, he99, hv100⟩, hwp⟩ := hwp
      refine h_get (C := "BuckTablesModel") (T := Tc6) (N := 36) hx hb hts inc6 hown hK hM he99 rfl 20 (by decide) (hts _ kw_740) (fun _ h9 => h9) hv100 d_Mo_may_105 ?_
      refine lv_bipush (v := 8) hx hb d_Mo_may_108 (by decide) ?_
      refine lv_iload hx hb d_Mo_may_110 (lv_at hl 2 rfl) ?_
      refine lv_imul hx hb d_Mo_may_112 ?_
      refine lv_aload_n hx hb d_Mo_may_113 rfl (lv_at hl 0 rfl) ?_
      obtain ⟨a101, ⟨fs102, he103, hv104⟩, hwp⟩ := hwp
      refine h_get (C := "BuckTablesModel") (T := Tc6) (N := 36) hx hb hts inc6 hown hK hM he103 rfl 12 (by decide) (hts _ kw_732) (fun _ h9 => h9) hv104 d_Mo_may_114 ?_
      refine lv_iload hx hb d_Mo_may_117 (lv_at hl 5 rfl) ?_
      obtain ⟨v105, ⟨n106, f107, ha108, hi109, ev105⟩, hwp⟩ := hwp
      refine h_iald hx hb hK hM ha108 rfl hi109 d_Mo_may_119 ?_
      rw [← ev105]
      refine lv_iadd hx hb d_Mo_may_120 ?_
      obtain ⟨v110, ⟨n111, f112, ha113, hi114, ev110⟩, hwp⟩ := hwp
      refine h_zald hx hb hK hM ha113 rfl hi114 d_Mo_may_121 ?_
      rw [← ev110]
      refine lv_if_eq (tgt := 151) hx hb d_Mo_may_122 (by decide) (fun c115 => ?_) (fun c115 => ?_)
      · replace hwp := hwp.1 c115
        exact tMo_may_151 C post (wMo_may_88 post n) ih x0 x1 x4 x5 x6 x7 M hwp H locs ls hM hS (lv_sub hl [0, 1, 2, 3, 4, 5] rfl)
      · replace hwp := hwp.2 c115
        refine lv_aload_n hx hb d_Mo_may_125 rfl (lv_at hl 0 rfl) ?_
        obtain ⟨a116, ⟨fs117, he118, hv119⟩, hwp⟩ := hwp
        refine h_get (C := "BuckTablesModel") (T := Tc6) (N := 36) hx hb hts inc6 hown hK hM he118 rfl 10 (by decide) (hts _ kw_730) (fun _ h9 => h9) hv119 d_Mo_may_126 ?_
        refine lv_iload hx hb d_Mo_may_129 (lv_at hl 5 rfl) ?_
        obtain ⟨v120, ⟨n121, f122, ha123, hi124, ev120⟩, hwp⟩ := hwp
        refine h_iald hx hb hK hM ha123 rfl hi124 d_Mo_may_131 ?_
        rw [← ev120]
        refine lv_iload hx hb d_Mo_may_132 (lv_at hl 4 rfl) ?_
        refine lv_icmp_ge (tgt := 151) hx hb d_Mo_may_134 (by decide) (fun c125 => ?_) (fun c125 => ?_)
        · replace hwp := hwp.1 c125
          exact tMo_may_151 C post (wMo_may_88 post n) ih x0 x1 x4 x5 x6 x7 M hwp H locs ls hM hS (lv_sub hl [0, 1, 2, 3, 4, 5] rfl)
        · replace hwp := hwp.2 c125
          refine lv_aload_n hx hb d_Mo_may_137 rfl (lv_at hl 0 rfl) ?_
          obtain ⟨a126, ⟨fs127, he128, hv129⟩, hwp⟩ := hwp
          refine h_get (C := "BuckTablesModel") (T := Tc6) (N := 36) hx hb hts inc6 hown hK hM he128 rfl 11 (by decide) (hts _ kw_731) (fun _ h9 => h9) hv129 d_Mo_may_138 ?_
          refine lv_iload hx hb d_Mo_may_141 (lv_at hl 5 rfl) ?_
          obtain ⟨v130, ⟨n131, f132, ha133, hi134, ev130⟩, hwp⟩ := hwp
          refine h_iald hx hb hK hM ha133 rfl hi134 d_Mo_may_143 ?_
          rw [← ev130]
          refine lv_iload hx hb d_Mo_may_144 (lv_at hl 3 rfl) ?_
          refine lv_icmp_le (tgt := 151) hx hb d_Mo_may_146 (by decide) (fun c135 => ?_) (fun c135 => ?_)
          · replace hwp := hwp.1 c135
            exact tMo_may_151 C post (wMo_may_88 post n) ih x0 x1 x4 x5 x6 x7 M hwp H locs ls hM hS (lv_sub hl [0, 1, 2, 3, 4, 5] rfl)
          · replace hwp := hwp.2 c135
            refine lv_iconst (v := 0) hx hb d_Mo_may_149 (by decide) ?_
            exact W.zret (v := (0 : Int32)) hx hb hr (by decide) (fun t ht hW => ⟨⟨(0 : Int32), M, rfl, hwp, by show hw D kCl (hTys κ) A M t.heap; rw [ht]; exact hM⟩, hS.F ht⟩) hS.2.2 d_Mo_may_150
def wMo_may_53 (post : Int32 → Hp → Prop)  : Nat → Nat → Int32 → Int32 → Int32 → Int32 → Int32 → Int32 → Hp → Prop
  | 0 => fun _ _ _ _ _ _ _ _ => False
  | n + 1 => fun x0 x1 x3 x4 x5 x6 x7 M => ((x3 ≤ x7 → (∀ z137 : Int32, z137 = ((20 : Int32) * x1) → (∃ n138 : Nat, wMo_may_88 post n138 x0 x1 x4 x5 x6 z137 M))) ∧ (¬ x3 ≤ x7 → (∃ a139 : Nat, fA M x0 6 13 a139 ∧ (∃ v143 : Int32, aZ M a139 (((81 : Int32) * x1) + x7) v143 ∧ ((v143 = 0 → (∀ z149 : Int32, z149 = x7 + 1 → ((wMo_may_53 post n) x0 x1 x3 x4 x5 x6 z149 M))) ∧ (¬ v143 = 0 → (post (0 : Int32) M)))))))
set_option maxRecDepth 100000 in
set_option maxHeartbeats 4000000 in
theorem tMo_may_53 {p : Program} {l : Launch} {e : Env} {s : State} {m : MethodId} {args : Array Value} {below : List Frame} {meth : Method} {c : Code} {D : va_G} {κ : Nat → ClassId} {A : Nat → Prop} (C : Cx_Mo_may p s m args meth c D κ A) (post : Int32 → Hp → Prop)  : ∀ (n : Nat) (x0 : Nat) (x1 : Int32) (x3 : Int32) (x4 : Int32) (x5 : Int32) (x6 : Int32) (x7 : Int32) (M : Hp), wMo_may_53 post n x0 x1 x3 x4 x5 x6 x7 M → Y p l e rm_Mo_may s m args below meth c D kCl (hTys κ) A 11 0 0 (MQ below (va_Qi post (hB D kCl (hTys κ) A) A) args s 0 0 A) M 53 [(0, .ref x0), (1, .int x1), (3, .int x3), (4, .int x4), (5, .int x5), (6, .int x6), (7, .int x7)] [] := by
  obtain ⟨hx, hb, hml, hr, hown, hts, hlocks, hE, hA⟩ := id C
  have hK := hE.1
  intro n
  induction n with
  | zero => intro x0 x1 x3 x4 x5 x6 x7 M hwp; exact hwp.elim
  | succ n ih =>
    intro x0 x1 x3 x4 x5 x6 x7 M hwp H locs ls hM hS hl
    unfold wMo_may_53 at hwp
    refine lv_iload hx hb d_Mo_may_53 (lv_at hl 6 rfl) ?_
    refine lv_iload_n hx hb d_Mo_may_55 rfl (lv_at hl 2 rfl) ?_
    refine lv_icmp_ge (tgt := 82) hx hb d_Mo_may_56 (by decide) (fun c136 => ?_) (fun c136 => ?_)
    · replace hwp := hwp.1 c136
      refine lv_bipush (v := 20) hx hb d_Mo_may_82 (by decide) ?_
      refine lv_iload_n hx hb d_Mo_may_84 rfl (lv_at hl 1 rfl) ?_
      refine lv_imul hx hb d_Mo_may_85 ?_
      refine lv_topi (fun z137 ez137 => ?_)
      replace hwp := hwp z137 ez137
      refine lv_istore (lv' := [(7, .int z137), (0, .ref x0), (1, .int x1), (3, .int x3), (4, .int x4), (5, .int x5), (6, .int x6)]) hx hb d_Mo_may_86 hl (by decide) rfl (fun ls hl => ?_)
      obtain ⟨n138, hwp⟩ := hwp
      exact tMo_may_88 C post n138 x0 x1 x4 x5 x6 z137 M hwp H locs ls hM hS (lv_sub hl [1, 2, 4, 5, 6, 0] rfl)
    · replace hwp := hwp.2 c136
      refine lv_aload_n hx hb d_Mo_may_59 rfl (lv_at hl 0 rfl) ?_
      obtain ⟨a139, ⟨fs140, he141, hv142⟩, hwp⟩ := hwp
      refine h_get (C := "BuckTablesModel") (T := Tc6) (N := 36) hx hb hts inc6 hown hK hM he141 rfl 13 (by decide) (hts _ kw_733) (fun _ h9 => h9) hv142 d_Mo_may_60 ?_
      refine lv_bipush (v := 81) hx hb d_Mo_may_63 (by decide) ?_
      refine lv_iload_n hx hb d_Mo_may_65 rfl (lv_at hl 1 rfl) ?_
      refine lv_imul hx hb d_Mo_may_66 ?_
      refine lv_iload hx hb d_Mo_may_67 (lv_at hl 6 rfl) ?_
      refine lv_iadd hx hb d_Mo_may_69 ?_
      obtain ⟨v143, ⟨n144, f145, ha146, hi147, ev143⟩, hwp⟩ := hwp
      refine h_zald hx hb hK hM ha146 rfl hi147 d_Mo_may_70 ?_
      rw [← ev143]
      refine lv_if_eq (tgt := 76) hx hb d_Mo_may_71 (by decide) (fun c148 => ?_) (fun c148 => ?_)
      · replace hwp := hwp.1 c148
        obtain ⟨z149, ez149⟩ : ∃ y : Int32, y = x7 + 1 := ⟨_, rfl⟩
        replace hwp := hwp z149 ez149
        refine lv_iinc (v := z149) (lv' := [(7, .int z149), (0, .ref x0), (1, .int x1), (3, .int x3), (4, .int x4), (5, .int x5), (6, .int x6)]) hx hb d_Mo_may_76 hl (k := 6) rfl (by rw [ez149]; rfl) (by decide) rfl (fun ls hl => ?_)
        refine lv_goto (tgt := 53) hx hb d_Mo_may_79 (by decide) ?_
        exact ih x0 x1 x3 x4 x5 x6 z149 M hwp H locs ls hM hS (lv_sub hl [1, 2, 3, 4, 5, 6, 0] rfl)
      · replace hwp := hwp.2 c148
        refine lv_iconst (v := 0) hx hb d_Mo_may_74 (by decide) ?_
        exact W.zret (v := (0 : Int32)) hx hb hr (by decide) (fun t ht hW => ⟨⟨(0 : Int32), M, rfl, hwp, by show hw D kCl (hTys κ) A M t.heap; rw [ht]; exact hM⟩, hS.F ht⟩) hS.2.2 d_Mo_may_75
def wMo_may_46 (post : Int32 → Hp → Prop)   (M : Hp) : Prop := (post (0 : Int32) M)
set_option maxRecDepth 100000 in
set_option maxHeartbeats 4000000 in
theorem tMo_may_46 {p : Program} {l : Launch} {e : Env} {s : State} {m : MethodId} {args : Array Value} {below : List Frame} {meth : Method} {c : Code} {D : va_G} {κ : Nat → ClassId} {A : Nat → Prop} (C : Cx_Mo_may p s m args meth c D κ A) (post : Int32 → Hp → Prop)   (M : Hp) (hwp : wMo_may_46 post  M) : Y p l e rm_Mo_may s m args below meth c D kCl (hTys κ) A 11 0 0 (MQ below (va_Qi post (hB D kCl (hTys κ) A) A) args s 0 0 A) M 46 [] [] := by
  obtain ⟨hx, hb, hml, hr, hown, hts, hlocks, hE, hA⟩ := id C
  have hK := hE.1
  intro H locs ls hM hS hl
  unfold wMo_may_46 at hwp
  refine lv_iconst (v := 0) hx hb d_Mo_may_46 (by decide) ?_
  exact W.zret (v := (0 : Int32)) hx hb hr (by decide) (fun t ht hW => ⟨⟨(0 : Int32), M, rfl, hwp, by show hw D kCl (hTys κ) A M t.heap; rw [ht]; exact hM⟩, hS.F ht⟩) hS.2.2 d_Mo_may_47
def wpMo_may (self : Nat) (p0 : Int32) (p1 : Int32) (p2 : Int32) (p3 : Int32) (M : Hp) (post : Int32 → Hp → Prop) : Prop := (∃ v150 : Int32, fI M self 6 1 v150 ∧ (∀ z154 : Int32, z154 = (p1 * v150) → (∃ v155 : Int32, fI M self 6 1 v155 ∧ (∀ z159 : Int32, z159 = (p2 * v155) → (∃ a160 : Nat, fA M self 6 15 a160 ∧ (∃ v164 : Int32, aI M a160 p3 v164 ∧ (((z159 - z154) < v164 → (wMo_may_46 post M)) ∧ (¬ (z159 - z154) < v164 → (∃ a170 : Nat, fA M self 6 16 a170 ∧ (∃ v174 : Int32, aI M a170 p3 v174 ∧ (((z159 - z154) ≤ v174 → (∀ z180 : Int32, z180 = (p1 + (1 : Int32)) → (∃ n181 : Nat, wMo_may_53 post n181 self p0 p2 p3 z154 z159 z180 M))) ∧ (¬ (z159 - z154) ≤ v174 → (wMo_may_46 post M)))))))))))))
set_option maxRecDepth 100000 in
set_option maxHeartbeats 4000000 in
theorem eMo_may {p : Program} {l : Launch} {e : Env} {s : State} {m : MethodId} {args : Array Value} {below : List Frame} {meth : Method} {c : Code} {D : va_G} {κ : Nat → ClassId} {A : Nat → Prop} (C : Cx_Mo_may p s m args meth c D κ A) (post : Int32 → Hp → Prop) (self : Nat) (p0 : Int32) (p1 : Int32) (p2 : Int32) (p3 : Int32) (M : Hp) (hwp : wpMo_may self p0 p1 p2 p3 M post) : Y p l e rm_Mo_may s m args below meth c D kCl (hTys κ) A 11 0 0 (MQ below (va_Qi post (hB D kCl (hTys κ) A) A) args s 0 0 A) M 0 [(0, .ref self), (1, .int p0), (2, .int p1), (3, .int p2), (4, .int p3)] [] := by
  obtain ⟨hx, hb, hml, hr, hown, hts, hlocks, hE, hA⟩ := id C
  have hK := hE.1
  intro H locs ls hM hS hl
  unfold wpMo_may at hwp
  refine lv_iload_n hx hb d_Mo_may_0 rfl (lv_at hl 2 rfl) ?_
  refine lv_aload_n hx hb d_Mo_may_1 rfl (lv_at hl 0 rfl) ?_
  obtain ⟨v150, ⟨fs151, he152, hv153⟩, hwp⟩ := hwp
  refine h_get (C := "BuckTablesModel") (T := Tc6) (N := 36) hx hb hts inc6 hown hK hM he152 rfl 1 (by decide) (hts _ kw_721) (fun _ h9 => h9) hv153 d_Mo_may_2 ?_
  refine lv_imul hx hb d_Mo_may_5 ?_
  refine lv_topi (fun z154 ez154 => ?_)
  replace hwp := hwp z154 ez154
  refine lv_istore (lv' := [(5, .int z154), (0, .ref self), (1, .int p0), (2, .int p1), (3, .int p2), (4, .int p3)]) hx hb d_Mo_may_6 hl (by decide) rfl (fun ls hl => ?_)
  refine lv_iload_n hx hb d_Mo_may_8 rfl (lv_at hl 4 rfl) ?_
  refine lv_aload_n hx hb d_Mo_may_9 rfl (lv_at hl 1 rfl) ?_
  obtain ⟨v155, ⟨fs156, he157, hv158⟩, hwp⟩ := hwp
  refine h_get (C := "BuckTablesModel") (T := Tc6) (N := 36) hx hb hts inc6 hown hK hM he157 rfl 1 (by decide) (hts _ kw_721) (fun _ h9 => h9) hv158 d_Mo_may_10 ?_
  refine lv_imul hx hb d_Mo_may_13 ?_
  refine lv_topi (fun z159 ez159 => ?_)
  replace hwp := hwp z159 ez159
  refine lv_istore (lv' := [(6, .int z159), (5, .int z154), (0, .ref self), (1, .int p0), (2, .int p1), (3, .int p2), (4, .int p3)]) hx hb d_Mo_may_14 hl (by decide) rfl (fun ls hl => ?_)
  refine lv_iload hx hb d_Mo_may_16 (lv_at hl 0 rfl) ?_
  refine lv_iload hx hb d_Mo_may_18 (lv_at hl 1 rfl) ?_
  refine lv_isub hx hb d_Mo_may_20 ?_
  refine lv_aload_n hx hb d_Mo_may_21 rfl (lv_at hl 2 rfl) ?_
  obtain ⟨a160, ⟨fs161, he162, hv163⟩, hwp⟩ := hwp
  refine h_get (C := "BuckTablesModel") (T := Tc6) (N := 36) hx hb hts inc6 hown hK hM he162 rfl 15 (by decide) (hts _ kw_735) (fun _ h9 => h9) hv163 d_Mo_may_22 ?_
  refine lv_iload hx hb d_Mo_may_25 (lv_at hl 6 rfl) ?_
  obtain ⟨v164, ⟨n165, f166, ha167, hi168, ev164⟩, hwp⟩ := hwp
  refine h_iald hx hb hK hM ha167 rfl hi168 d_Mo_may_27 ?_
  rw [← ev164]
  refine lv_icmp_lt (tgt := 46) hx hb d_Mo_may_28 (by decide) (fun c169 => ?_) (fun c169 => ?_)
  · replace hwp := hwp.1 c169
    exact tMo_may_46 C post M hwp H locs ls hM hS (lv_sub hl [] rfl)
  · replace hwp := hwp.2 c169
    refine lv_iload hx hb d_Mo_may_31 (lv_at hl 0 rfl) ?_
    refine lv_iload hx hb d_Mo_may_33 (lv_at hl 1 rfl) ?_
    refine lv_isub hx hb d_Mo_may_35 ?_
    refine lv_aload_n hx hb d_Mo_may_36 rfl (lv_at hl 2 rfl) ?_
    obtain ⟨a170, ⟨fs171, he172, hv173⟩, hwp⟩ := hwp
    refine h_get (C := "BuckTablesModel") (T := Tc6) (N := 36) hx hb hts inc6 hown hK hM he172 rfl 16 (by decide) (hts _ kw_736) (fun _ h9 => h9) hv173 d_Mo_may_37 ?_
    refine lv_iload hx hb d_Mo_may_40 (lv_at hl 6 rfl) ?_
    obtain ⟨v174, ⟨n175, f176, ha177, hi178, ev174⟩, hwp⟩ := hwp
    refine h_iald hx hb hK hM ha177 rfl hi178 d_Mo_may_42 ?_
    rw [← ev174]
    refine lv_icmp_le (tgt := 48) hx hb d_Mo_may_43 (by decide) (fun c179 => ?_) (fun c179 => ?_)
    · replace hwp := hwp.1 c179
      refine lv_iload_n hx hb d_Mo_may_48 rfl (lv_at hl 4 rfl) ?_
      refine lv_iconst (v := 1) hx hb d_Mo_may_49 (by decide) ?_
      refine lv_iadd hx hb d_Mo_may_50 ?_
      refine lv_topi (fun z180 ez180 => ?_)
      replace hwp := hwp z180 ez180
      refine lv_istore (lv' := [(7, .int z180), (6, .int z159), (5, .int z154), (0, .ref self), (1, .int p0), (2, .int p1), (3, .int p2), (4, .int p3)]) hx hb d_Mo_may_51 hl (by decide) rfl (fun ls hl => ?_)
      obtain ⟨n181, hwp⟩ := hwp
      exact tMo_may_53 C post n181 self p0 p2 p3 z154 z159 z180 M hwp H locs ls hM hS (lv_sub hl [3, 4, 6, 7, 2, 1, 0] rfl)
    · replace hwp := hwp.2 c179
      exact tMo_may_46 C post M hwp H locs ls hM hS (lv_sub hl [] rfl)
set_option maxRecDepth 100000 in
set_option maxHeartbeats 4000000 in
theorem metMo_may (l : Launch) (D : va_G) (κ : Nat → ClassId) (sz : Nat) (self : Nat) (p0 : Int32) (p1 : Int32) (p2 : Int32) (p3 : Int32) (M : Hp) (post : Int32 → Hp → Prop) (hwp : wpMo_may self p0 p1 p2 p3 M post) : Met l y_Mo_may ws_Mo_may rm_Mo_may (hPc D kCl (hTys κ) M sz [.ref self, .int p0, .int p1, .int p2, .int p3]) (va_Qi post (hB D kCl (hTys κ) (hAx M sz)) (hAx M sz)) 0 0 (hAx M sz) := by
  refine Met.ofW (cc := prog_8_method_18_code) (maxL := 11) (ret := (some .boolean)) (by decide +kernel) rfl ?_
  intro p e s m args below meth c s₁ B hml hv
  obtain ⟨rfl, hsz, hE, hM0⟩ := hv
  have hts : ∀ w ∈ WG, w.before _ s = true := fun w h => atoms_spec (ws := ws_Mo_may) B.pre w (List.mem_cons_of_mem _ h)
  subst hsz
  have C : Cx_Mo_may p s m _ meth c D κ (hAx M s.heap.size) := ⟨B.exec, B.bytes, hml, B.returns, findClass_of_methodNamed B.named, hts, B.notSynchronized, hE, fun q h => Or.inr h⟩
  have hl := lv_entry ([.ref self, .int p0, .int p1, .int p2, .int p3]) (n := 11) (Nat.le_of_ble_eq_true rfl)
  rw [lg_entry_eq]
  generalize (lg_sl ([.ref self, .int p0, .int p1, .int p2, .int p3]) ++ List.replicate (11 - (lg_sl ([.ref self, .int p0, .int p1, .int p2, .int p3])).length) Slot.unset).toArray = ls at hl ⊢
  exact eMo_may C post self p0 p1 p2 p3 M hwp s.heap [] ls (hM0.self (sz := s.heap.size)) va_S.rf hl
abbrev rm_Mo_worthOf : Room := { frames := 0, cells := 0, slots := 0, locals := 0 }
def Cx_Mo_worthOf (p : Program) (s : State) (m : MethodId) (args : Array Value) (meth : Method) (c : Code) (D : va_G) (κ : Nat → ClassId) (A : Nat → Prop) : Prop := p.tables.exec = Jvm.exec ∧ c.code = prog_8_method_19_code ∧ c.maxLocals = 4 ∧ meth.sig.returnType = (some .long) ∧ s.vm.findClass "BuckTablesModel" = some m.cls ∧ (∀ w ∈ WG, w.before args s = true) ∧ meth.locks = false ∧ hEnv D kCl (hTys κ) A s ∧ (∀ q, s.heap.size ≤ q → A q)
def wpMo_worthOf (self : Nat) (p0 : Int32) (p1 : Int32) (p2 : Int32) (M : Hp) (post : Int64 → Hp → Prop) : Prop := (∃ a1 : Nat, fA M self 6 19 a1 ∧ (∃ v5 : Int64, aJ M a1 p2 v5 ∧ (∃ a10 : Nat, fA M self 6 22 a10 ∧ (∃ v14 : Int64, aJ M a10 (((7 : Int32) * p2) + p0) v14 ∧ (post ((v5 * (p1.toInt64)) + v14) M)))))
set_option maxRecDepth 100000 in
set_option maxHeartbeats 4000000 in
theorem eMo_worthOf {p : Program} {l : Launch} {e : Env} {s : State} {m : MethodId} {args : Array Value} {below : List Frame} {meth : Method} {c : Code} {D : va_G} {κ : Nat → ClassId} {A : Nat → Prop} (C : Cx_Mo_worthOf p s m args meth c D κ A) (post : Int64 → Hp → Prop) (self : Nat) (p0 : Int32) (p1 : Int32) (p2 : Int32) (M : Hp) (hwp : wpMo_worthOf self p0 p1 p2 M post) : Y p l e rm_Mo_worthOf s m args below meth c D kCl (hTys κ) A 4 0 0 (MQ below (va_Ql post (hB D kCl (hTys κ) A) A) args s 0 0 A) M 0 [(0, .ref self), (1, .int p0), (2, .int p1), (3, .int p2)] [] := by
  obtain ⟨hx, hb, hml, hr, hown, hts, hlocks, hE, hA⟩ := id C
  have hK := hE.1
  intro H locs ls hM hS hl
  unfold wpMo_worthOf at hwp
  refine lv_aload_n hx hb d_Mo_worthOf_0 rfl (lv_at hl 0 rfl) ?_
  obtain ⟨a1, ⟨fs2, he3, hv4⟩, hwp⟩ := hwp
  refine h_get (C := "BuckTablesModel") (T := Tc6) (N := 36) hx hb hts inc6 hown hK hM he3 rfl 19 (by decide) (hts _ kw_739) (fun _ h9 => h9) hv4 d_Mo_worthOf_1 ?_
  refine lv_iload_n hx hb d_Mo_worthOf_4 rfl (lv_at hl 3 rfl) ?_
  obtain ⟨v5, ⟨n6, f7, ha8, hi9, ev5⟩, hwp⟩ := hwp
  refine h_lald hx hb hK hM ha8 rfl hi9 d_Mo_worthOf_5 ?_
  rw [← ev5]
  refine lv_iload_n hx hb d_Mo_worthOf_6 rfl (lv_at hl 2 rfl) ?_
  refine lv_i2l hx hb d_Mo_worthOf_7 rfl ?_
  refine lv_lmul hx hb d_Mo_worthOf_8 ?_
  refine lv_aload_n hx hb d_Mo_worthOf_9 rfl (lv_at hl 0 rfl) ?_
  obtain ⟨a10, ⟨fs11, he12, hv13⟩, hwp⟩ := hwp
  refine h_get (C := "BuckTablesModel") (T := Tc6) (N := 36) hx hb hts inc6 hown hK hM he12 rfl 22 (by decide) (hts _ kw_742) (fun _ h9 => h9) hv13 d_Mo_worthOf_10 ?_
  refine lv_bipush (v := 7) hx hb d_Mo_worthOf_13 (by decide) ?_
  refine lv_iload_n hx hb d_Mo_worthOf_15 rfl (lv_at hl 3 rfl) ?_
  refine lv_imul hx hb d_Mo_worthOf_16 ?_
  refine lv_iload_n hx hb d_Mo_worthOf_17 rfl (lv_at hl 1 rfl) ?_
  refine lv_iadd hx hb d_Mo_worthOf_18 ?_
  obtain ⟨v14, ⟨n15, f16, ha17, hi18, ev14⟩, hwp⟩ := hwp
  refine h_lald hx hb hK hM ha17 rfl hi18 d_Mo_worthOf_19 ?_
  rw [← ev14]
  refine lv_ladd hx hb d_Mo_worthOf_20 ?_
  exact W.lret (v := ((v5 * (p1.toInt64)) + v14)) hx hb hr (fun t ht hW => ⟨⟨((v5 * (p1.toInt64)) + v14), M, rfl, hwp, by show hw D kCl (hTys κ) A M t.heap; rw [ht]; exact hM⟩, hS.F ht⟩) hS.2.2 d_Mo_worthOf_21
set_option maxRecDepth 100000 in
set_option maxHeartbeats 4000000 in
theorem metMo_worthOf (l : Launch) (D : va_G) (κ : Nat → ClassId) (sz : Nat) (self : Nat) (p0 : Int32) (p1 : Int32) (p2 : Int32) (M : Hp) (post : Int64 → Hp → Prop) (hwp : wpMo_worthOf self p0 p1 p2 M post) : Met l y_Mo_worthOf ws_Mo_worthOf rm_Mo_worthOf (hPc D kCl (hTys κ) M sz [.ref self, .int p0, .int p1, .int p2]) (va_Ql post (hB D kCl (hTys κ) (hAx M sz)) (hAx M sz)) 0 0 (hAx M sz) := by
  refine Met.ofW (cc := prog_8_method_19_code) (maxL := 4) (ret := (some .long)) (by decide +kernel) rfl ?_
  intro p e s m args below meth c s₁ B hml hv
  obtain ⟨rfl, hsz, hE, hM0⟩ := hv
  have hts : ∀ w ∈ WG, w.before _ s = true := fun w h => atoms_spec (ws := ws_Mo_worthOf) B.pre w (List.mem_cons_of_mem _ h)
  subst hsz
  have C : Cx_Mo_worthOf p s m _ meth c D κ (hAx M s.heap.size) := ⟨B.exec, B.bytes, hml, B.returns, findClass_of_methodNamed B.named, hts, B.notSynchronized, hE, fun q h => Or.inr h⟩
  have hl := lv_entry ([.ref self, .int p0, .int p1, .int p2]) (n := 4) (Nat.le_of_ble_eq_true rfl)
  rw [lg_entry_eq]
  generalize (lg_sl ([.ref self, .int p0, .int p1, .int p2]) ++ List.replicate (4 - (lg_sl ([.ref self, .int p0, .int p1, .int p2])).length) Slot.unset).toArray = ls at hl ⊢
  exact eMo_worthOf C post self p0 p1 p2 M hwp s.heap [] ls (hM0.self (sz := s.heap.size)) va_S.rf hl
abbrev rm_Mo_behind : Room := { frames := 0, cells := 0, slots := 0, locals := 0 }
def Cx_Mo_behind (p : Program) (s : State) (m : MethodId) (args : Array Value) (meth : Method) (c : Code) (D : va_G) (κ : Nat → ClassId) (A : Nat → Prop) : Prop := p.tables.exec = Jvm.exec ∧ c.code = prog_8_method_20_code ∧ c.maxLocals = 3 ∧ meth.sig.returnType = (some .int) ∧ s.vm.findClass "BuckTablesModel" = some m.cls ∧ (∀ w ∈ WG, w.before args s = true) ∧ meth.locks = false ∧ hEnv D kCl (hTys κ) A s ∧ (∀ q, s.heap.size ≤ q → A q)
def wMo_behind_29 (post : Int32 → Hp → Prop)   (y0 : Int32) (M : Hp) : Prop := (post y0 M)
set_option maxRecDepth 100000 in
set_option maxHeartbeats 4000000 in
theorem tMo_behind_29 {p : Program} {l : Launch} {e : Env} {s : State} {m : MethodId} {args : Array Value} {below : List Frame} {meth : Method} {c : Code} {D : va_G} {κ : Nat → ClassId} {A : Nat → Prop} (C : Cx_Mo_behind p s m args meth c D κ A) (post : Int32 → Hp → Prop)   (y0 : Int32) (M : Hp) (hwp : wMo_behind_29 post y0 M) : Y p l e rm_Mo_behind s m args below meth c D kCl (hTys κ) A 3 0 0 (MQ below (va_Qi post (hB D kCl (hTys κ) A) A) args s 0 0 A) M 29 [] [.int y0] := by
  obtain ⟨hx, hb, hml, hr, hown, hts, hlocks, hE, hA⟩ := id C
  have hK := hE.1
  intro H locs ls hM hS hl
  unfold wMo_behind_29 at hwp
  exact W.iret (v := y0) hx hb hr (fun t ht hW => ⟨⟨y0, M, rfl, hwp, by show hw D kCl (hTys κ) A M t.heap; rw [ht]; exact hM⟩, hS.F ht⟩) hS.2.2 d_Mo_behind_29
def wpMo_behind (self : Nat) (p0 : Int32) (p1 : Int32) (M : Hp) (post : Int32 → Hp → Prop) : Prop := ((p1 = p0 → (wMo_behind_29 post p0 M)) ∧ (¬ p1 = p0 → (∃ v2 : Int32, fI M self 6 3 v2 ∧ ((p0 ≤ (p1 + v2) → (wMo_behind_29 post p0 M)) ∧ (¬ p0 ≤ (p1 + v2) → (∃ v7 : Int32, fI M self 6 3 v7 ∧ (wMo_behind_29 post (p1 + v7) M)))))))
set_option maxRecDepth 100000 in
set_option maxHeartbeats 4000000 in
theorem eMo_behind {p : Program} {l : Launch} {e : Env} {s : State} {m : MethodId} {args : Array Value} {below : List Frame} {meth : Method} {c : Code} {D : va_G} {κ : Nat → ClassId} {A : Nat → Prop} (C : Cx_Mo_behind p s m args meth c D κ A) (post : Int32 → Hp → Prop) (self : Nat) (p0 : Int32) (p1 : Int32) (M : Hp) (hwp : wpMo_behind self p0 p1 M post) : Y p l e rm_Mo_behind s m args below meth c D kCl (hTys κ) A 3 0 0 (MQ below (va_Qi post (hB D kCl (hTys κ) A) A) args s 0 0 A) M 0 [(0, .ref self), (1, .int p0), (2, .int p1)] [] := by
  obtain ⟨hx, hb, hml, hr, hown, hts, hlocks, hE, hA⟩ := id C
  have hK := hE.1
  intro H locs ls hM hS hl
  unfold wpMo_behind at hwp
  refine lv_iload_n hx hb d_Mo_behind_0 rfl (lv_at hl 2 rfl) ?_
  refine lv_iload_n hx hb d_Mo_behind_1 rfl (lv_at hl 1 rfl) ?_
  refine lv_icmp_ne (tgt := 9) hx hb d_Mo_behind_2 (by decide) (fun c1 => ?_) (fun c1 => ?_)
  · replace hwp := hwp.2 c1
    refine lv_iload_n hx hb d_Mo_behind_9 rfl (lv_at hl 2 rfl) ?_
    refine lv_aload_n hx hb d_Mo_behind_10 rfl (lv_at hl 0 rfl) ?_
    obtain ⟨v2, ⟨fs3, he4, hv5⟩, hwp⟩ := hwp
    refine h_get (C := "BuckTablesModel") (T := Tc6) (N := 36) hx hb hts inc6 hown hK hM he4 rfl 3 (by decide) (hts _ kw_723) (fun _ h9 => h9) hv5 d_Mo_behind_11 ?_
    refine lv_iadd hx hb d_Mo_behind_14 ?_
    refine lv_iload_n hx hb d_Mo_behind_15 rfl (lv_at hl 1 rfl) ?_
    refine lv_icmp_ge (tgt := 28) hx hb d_Mo_behind_16 (by decide) (fun c6 => ?_) (fun c6 => ?_)
    · replace hwp := hwp.1 c6
      refine lv_iload_n hx hb d_Mo_behind_28 rfl (lv_at hl 1 rfl) ?_
      exact tMo_behind_29 C post p0 M hwp H locs ls hM hS (lv_sub hl [] rfl)
    · replace hwp := hwp.2 c6
      refine lv_iload_n hx hb d_Mo_behind_19 rfl (lv_at hl 2 rfl) ?_
      refine lv_aload_n hx hb d_Mo_behind_20 rfl (lv_at hl 0 rfl) ?_
      obtain ⟨v7, ⟨fs8, he9, hv10⟩, hwp⟩ := hwp
      refine h_get (C := "BuckTablesModel") (T := Tc6) (N := 36) hx hb hts inc6 hown hK hM he9 rfl 3 (by decide) (hts _ kw_723) (fun _ h9 => h9) hv10 d_Mo_behind_21 ?_
      refine lv_iadd hx hb d_Mo_behind_24 ?_
      refine lv_goto (tgt := 29) hx hb d_Mo_behind_25 (by decide) ?_
      exact tMo_behind_29 C post (p1 + v7) M hwp H locs ls hM hS (lv_sub hl [] rfl)
  · replace hwp := hwp.1 c1
    refine lv_iload_n hx hb d_Mo_behind_5 rfl (lv_at hl 1 rfl) ?_
    refine lv_goto (tgt := 29) hx hb d_Mo_behind_6 (by decide) ?_
    exact tMo_behind_29 C post p0 M hwp H locs ls hM hS (lv_sub hl [] rfl)
set_option maxRecDepth 100000 in
set_option maxHeartbeats 4000000 in
theorem metMo_behind (l : Launch) (D : va_G) (κ : Nat → ClassId) (sz : Nat) (self : Nat) (p0 : Int32) (p1 : Int32) (M : Hp) (post : Int32 → Hp → Prop) (hwp : wpMo_behind self p0 p1 M post) : Met l y_Mo_behind ws_Mo_behind rm_Mo_behind (hPc D kCl (hTys κ) M sz [.ref self, .int p0, .int p1]) (va_Qi post (hB D kCl (hTys κ) (hAx M sz)) (hAx M sz)) 0 0 (hAx M sz) := by
  refine Met.ofW (cc := prog_8_method_20_code) (maxL := 3) (ret := (some .int)) (by decide +kernel) rfl ?_
  intro p e s m args below meth c s₁ B hml hv
  obtain ⟨rfl, hsz, hE, hM0⟩ := hv
  have hts : ∀ w ∈ WG, w.before _ s = true := fun w h => atoms_spec (ws := ws_Mo_behind) B.pre w (List.mem_cons_of_mem _ h)
  subst hsz
  have C : Cx_Mo_behind p s m _ meth c D κ (hAx M s.heap.size) := ⟨B.exec, B.bytes, hml, B.returns, findClass_of_methodNamed B.named, hts, B.notSynchronized, hE, fun q h => Or.inr h⟩
  have hl := lv_entry ([.ref self, .int p0, .int p1]) (n := 3) (Nat.le_of_ble_eq_true rfl)
  rw [lg_entry_eq]
  generalize (lg_sl ([.ref self, .int p0, .int p1]) ++ List.replicate (3 - (lg_sl ([.ref self, .int p0, .int p1])).length) Slot.unset).toArray = ls at hl ⊢
  exact eMo_behind C post self p0 p1 M hwp s.heap [] ls (hM0.self (sz := s.heap.size)) va_S.rf hl
