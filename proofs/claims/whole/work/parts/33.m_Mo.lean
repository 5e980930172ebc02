abbrev rm_Mo_noProduct : Room := { frames := 0, cells := 0, slots := 0, locals := 0 }
def Cx_Mo_noProduct (p : Program) (s : State) (m : MethodId) (args : Array Value) (meth : Method) (c : Code) (D : va_G) (κ : Nat → ClassId) (A : Nat → Prop) : Prop := p.tables.exec = Jvm.exec ∧ c.code = prog_8_method_10_code ∧ c.maxLocals = 2 ∧ meth.sig.returnType = (some .boolean) ∧ s.vm.findClass "BuckTablesModel" = some m.cls ∧ (∀ w ∈ WG, w.before args s = true) ∧ meth.locks = false ∧ hEnv D kCl (hTys κ) A s ∧ (∀ q, s.heap.size ≤ q → A q)
def wMo_noProduct_33 (post : Int32 → Hp → Prop)   (y0 : Int32) (M : Hp) : Prop := ((y0 = 0 ∨ y0 = 1) ∧ post y0 M)
set_option maxRecDepth 100000 in
set_option maxHeartbeats 4000000 in
theorem tMo_noProduct_33 {p : Program} {l : Launch} {e : Env} {s : State} {m : MethodId} {args : Array Value} {below : List Frame} {meth : Method} {c : Code} {D : va_G} {κ : Nat → ClassId} {A : Nat → Prop} (C : Cx_Mo_noProduct p s m args meth c D κ A) (post : Int32 → Hp → Prop)   (y0 : Int32) (M : Hp) (hwp : wMo_noProduct_33 post y0 M) : Y p l e rm_Mo_noProduct s m args below meth c D kCl (hTys κ) A 2 0 0 (MQ below (va_Qi post (hB D kCl (hTys κ) A) A) args s 0 0 A) M 33 [] [.int y0] := by
  obtain ⟨hx, hb, hml, hr, hown, hts, hlocks, hE, hA⟩ := id C
  have hK := hE.1
  intro H locs ls hM hS hl
  unfold wMo_noProduct_33 at hwp
  obtain ⟨hz1, hwp⟩ := hwp
  exact W.zret (v := y0) hx hb hr (by rcases hz1 with h | h <;> rw [h] <;> rfl) (fun t ht hW => ⟨⟨y0, M, rfl, hwp, by show hw D kCl (hTys κ) A M t.heap; rw [ht]; exact hM⟩, hS.F ht⟩) hS.2.2 d_Mo_noProduct_33
def wMo_noProduct_18 (post : Int32 → Hp → Prop)  (x0 : Nat) (y0 : Int32) (y1 : Nat) (M : Hp) : Prop := (∃ M2 : Hp, pF M y1 6 0 (.int y0) M2 ∧ (∃ v6 : Int32, fI M2 x0 6 0 v6 ∧ ((v6 ≤ 0 → (wMo_noProduct_33 post (0 : Int32) M2)) ∧ (¬ v6 ≤ 0 → (wMo_noProduct_33 post (1 : Int32) M2)))))
set_option maxRecDepth 100000 in
set_option maxHeartbeats 4000000 in
theorem tMo_noProduct_18 {p : Program} {l : Launch} {e : Env} {s : State} {m : MethodId} {args : Array Value} {below : List Frame} {meth : Method} {c : Code} {D : va_G} {κ : Nat → ClassId} {A : Nat → Prop} (C : Cx_Mo_noProduct p s m args meth c D κ A) (post : Int32 → Hp → Prop)  (x0 : Nat) (y0 : Int32) (y1 : Nat) (M : Hp) (hwp : wMo_noProduct_18 post x0 y0 y1 M) : Y p l e rm_Mo_noProduct s m args below meth c D kCl (hTys κ) A 2 0 0 (MQ below (va_Qi post (hB D kCl (hTys κ) A) A) args s 0 0 A) M 18 [(0, .ref x0)] [.int y0, .ref y1] := by
  obtain ⟨hx, hb, hml, hr, hown, hts, hlocks, hE, hA⟩ := id C
  have hK := hE.1
  intro H locs ls hM hS hl
  unfold wMo_noProduct_18 at hwp
  obtain ⟨M2, ⟨fs3, he4, hl5, eM2⟩, hwp⟩ := hwp
  refine h_put (C := "BuckTablesModel") (T := Tc6) (N := 36) (v := .int y0) (ty := .int) hx hb hts inc6 tyc6 tyc6_ok nmc6 hown hK hM hS he4 rfl 0 (by decide) (hts _ kw_720) (fun _ h9 => h9) rfl (by decide +kernel) rfl rfl hl5 d_Mo_noProduct_18 (fun H locs hM hS => ?_)
  rw [← eM2] at hM
  refine lv_aload_n hx hb d_Mo_noProduct_21 rfl (lv_at hl 0 rfl) ?_
  obtain ⟨v6, ⟨fs7, he8, hv9⟩, hwp⟩ := hwp
  refine h_get (C := "BuckTablesModel") (T := Tc6) (N := 36) hx hb hts inc6 hown hK hM he8 rfl 0 (by decide) (hts _ kw_720) (fun _ h9 => h9) hv9 d_Mo_noProduct_22 ?_
  refine lv_if_le (tgt := 32) hx hb d_Mo_noProduct_25 (by decide) (fun c10 => ?_) (fun c10 => ?_)
  · replace hwp := hwp.1 c10
    refine lv_iconst (v := 0) hx hb d_Mo_noProduct_32 (by decide) ?_
    exact tMo_noProduct_33 C post (0 : Int32) M2 hwp H locs ls hM hS (lv_sub hl [] rfl)
  · replace hwp := hwp.2 c10
    refine lv_iconst (v := 1) hx hb d_Mo_noProduct_28 (by decide) ?_
    refine lv_goto (tgt := 33) hx hb d_Mo_noProduct_29 (by decide) ?_
    exact tMo_noProduct_33 C post (1 : Int32) M2 hwp H locs ls hM hS (lv_sub hl [] rfl)
def wMo_noProduct_13 (post : Int32 → Hp → Prop)  (x0 : Nat) (y0 : Nat) (M : Hp) : Prop := (wMo_noProduct_18 post x0 (1 : Int32) y0 M)
set_option maxRecDepth 100000 in
set_option maxHeartbeats 4000000 in
theorem tMo_noProduct_13 {p : Program} {l : Launch} {e : Env} {s : State} {m : MethodId} {args : Array Value} {below : List Frame} {meth : Method} {c : Code} {D : va_G} {κ : Nat → ClassId} {A : Nat → Prop} (C : Cx_Mo_noProduct p s m args meth c D κ A) (post : Int32 → Hp → Prop)  (x0 : Nat) (y0 : Nat) (M : Hp) (hwp : wMo_noProduct_13 post x0 y0 M) : Y p l e rm_Mo_noProduct s m args below meth c D kCl (hTys κ) A 2 0 0 (MQ below (va_Qi post (hB D kCl (hTys κ) A) A) args s 0 0 A) M 13 [(0, .ref x0)] [.ref y0] := by
  obtain ⟨hx, hb, hml, hr, hown, hts, hlocks, hE, hA⟩ := id C
  have hK := hE.1
  intro H locs ls hM hS hl
  unfold wMo_noProduct_13 at hwp
  refine lv_iconst (v := 1) hx hb d_Mo_noProduct_13 (by decide) ?_
  refine lv_goto (tgt := 18) hx hb d_Mo_noProduct_14 (by decide) ?_
  exact tMo_noProduct_18 C post x0 (1 : Int32) y0 M hwp H locs ls hM hS (lv_sub hl [0] rfl)
def wpMo_noProduct (self : Nat) (p0 : Int32) (M : Hp) (post : Int32 → Hp → Prop) : Prop := ((p0 < 0 → (wMo_noProduct_13 post self self M)) ∧ (¬ p0 < 0 → (∃ v12 : Int32, fI M self 6 14 v12 ∧ ((p0 < v12 → (wMo_noProduct_18 post self (0 : Int32) self M)) ∧ (¬ p0 < v12 → (wMo_noProduct_13 post self self M))))))
set_option maxRecDepth 100000 in
set_option maxHeartbeats 4000000 in
theorem eMo_noProduct {p : Program} {l : Launch} {e : Env} {s : State} {m : MethodId} {args : Array Value} {below : List Frame} {meth : Method} {c : Code} {D : va_G} {κ : Nat → ClassId} {A : Nat → Prop} (C : Cx_Mo_noProduct p s m args meth c D κ A) (post : Int32 → Hp → Prop) (self : Nat) (p0 : Int32) (M : Hp) (hwp : wpMo_noProduct self p0 M post) : Y p l e rm_Mo_noProduct s m args below meth c D kCl (hTys κ) A 2 0 0 (MQ below (va_Qi post (hB D kCl (hTys κ) A) A) args s 0 0 A) M 0 [(0, .ref self), (1, .int p0)] [] := by
  obtain ⟨hx, hb, hml, hr, hown, hts, hlocks, hE, hA⟩ := id C
  have hK := hE.1
  intro H locs ls hM hS hl
  unfold wpMo_noProduct at hwp
  refine lv_aload_n hx hb d_Mo_noProduct_0 rfl (lv_at hl 0 rfl) ?_
  refine lv_iload_n hx hb d_Mo_noProduct_1 rfl (lv_at hl 1 rfl) ?_
  refine lv_if_lt (tgt := 13) hx hb d_Mo_noProduct_2 (by decide) (fun c11 => ?_) (fun c11 => ?_)
  · replace hwp := hwp.1 c11
    exact tMo_noProduct_13 C post self self M hwp H locs ls hM hS (lv_sub hl [0] rfl)
  · replace hwp := hwp.2 c11
    refine lv_iload_n hx hb d_Mo_noProduct_5 rfl (lv_at hl 1 rfl) ?_
    refine lv_aload_n hx hb d_Mo_noProduct_6 rfl (lv_at hl 0 rfl) ?_
    obtain ⟨v12, ⟨fs13, he14, hv15⟩, hwp⟩ := hwp
    refine h_get (C := "BuckTablesModel") (T := Tc6) (N := 36) hx hb hts inc6 hown hK hM he14 rfl 14 (by decide) (hts _ kw_734) (fun _ h9 => h9) hv15 d_Mo_noProduct_7 ?_
    refine lv_icmp_lt (tgt := 17) hx hb d_Mo_noProduct_10 (by decide) (fun c16 => ?_) (fun c16 => ?_)
    · replace hwp := hwp.1 c16
      refine lv_iconst (v := 0) hx hb d_Mo_noProduct_17 (by decide) ?_
      exact tMo_noProduct_18 C post self (0 : Int32) self M hwp H locs ls hM hS (lv_sub hl [0] rfl)
    · replace hwp := hwp.2 c16
      exact tMo_noProduct_13 C post self self M hwp H locs ls hM hS (lv_sub hl [0] rfl)
set_option maxRecDepth 100000 in
set_option maxHeartbeats 4000000 in
theorem metMo_noProduct (l : Launch) (D : va_G) (κ : Nat → ClassId) (sz : Nat) (self : Nat) (p0 : Int32) (M : Hp) (post : Int32 → Hp → Prop) (hwp : wpMo_noProduct self p0 M post) : Met l y_Mo_noProduct ws_Mo_noProduct rm_Mo_noProduct (hPc D kCl (hTys κ) M sz [.ref self, .int p0]) (va_Qi post (hB D kCl (hTys κ) (hAx M sz)) (hAx M sz)) 0 0 (hAx M sz) := by
  refine Met.ofW (cc := prog_8_method_10_code) (maxL := 2) (ret := (some .boolean)) (by decide +kernel) rfl ?_
  intro p e s m args below meth c s₁ B hml hv
  obtain ⟨rfl, hsz, hE, hM0⟩ := hv
  have hts : ∀ w ∈ WG, w.before _ s = true := fun w h => atoms_spec (ws := ws_Mo_noProduct) B.pre w (List.mem_cons_of_mem _ h)
  subst hsz
  have C : Cx_Mo_noProduct p s m _ meth c D κ (hAx M s.heap.size) := ⟨B.exec, B.bytes, hml, B.returns, findClass_of_methodNamed B.named, hts, B.notSynchronized, hE, fun q h => Or.inr h⟩
  have hl := lv_entry ([.ref self, .int p0]) (n := 2) (Nat.le_of_ble_eq_true rfl)
  rw [lg_entry_eq]
  generalize (lg_sl ([.ref self, .int p0]) ++ List.replicate (2 - (lg_sl ([.ref self, .int p0])).length) Slot.unset).toArray = ls at hl ⊢
  exact eMo_noProduct C post self p0 M hwp s.heap [] ls (hM0.self (sz := s.heap.size)) va_S.rf hl
abbrev rm_Mo_bars : Room := { frames := 1, cells := 0, slots := 0, locals := 25 }
def Cx_Mo_bars (p : Program) (s : State) (m : MethodId) (args : Array Value) (meth : Method) (c : Code) (D : va_G) (κ : Nat → ClassId) (A : Nat → Prop) : Prop := p.tables.exec = Jvm.exec ∧ c.code = prog_8_method_11_code ∧ c.maxLocals = 3 ∧ meth.sig.returnType = (some .boolean) ∧ s.vm.findClass "BuckTablesModel" = some m.cls ∧ (∀ w ∈ WG, w.before args s = true) ∧ meth.locks = false ∧ hEnv D kCl (hTys κ) A s ∧ (∀ q, s.heap.size ≤ q → A q)
def wMo_bars_52 (post : Int32 → Hp → Prop)   (M : Hp) : Prop := (post (0 : Int32) M)
set_option maxRecDepth 100000 in
set_option maxHeartbeats 4000000 in
theorem tMo_bars_52 {p : Program} {l : Launch} {e : Env} {s : State} {m : MethodId} {args : Array Value} {below : List Frame} {meth : Method} {c : Code} {D : va_G} {κ : Nat → ClassId} {A : Nat → Prop} (C : Cx_Mo_bars p s m args meth c D κ A) (post : Int32 → Hp → Prop)   (M : Hp) (hwp : wMo_bars_52 post  M) : Y p l e rm_Mo_bars s m args below meth c D kCl (hTys κ) A 3 0 0 (MQ below (va_Qi post (hB D kCl (hTys κ) A) A) args s 0 0 A) M 52 [] [] := by
  obtain ⟨hx, hb, hml, hr, hown, hts, hlocks, hE, hA⟩ := id C
  have hK := hE.1
  intro H locs ls hM hS hl
  unfold wMo_bars_52 at hwp
  refine lv_iconst (v := 0) hx hb d_Mo_bars_52 (by decide) ?_
  exact W.zret (v := (0 : Int32)) hx hb hr (by decide) (fun t ht hW => ⟨⟨(0 : Int32), M, rfl, hwp, by show hw D kCl (hTys κ) A M t.heap; rw [ht]; exact hM⟩, hS.F ht⟩) hS.2.2 d_Mo_bars_53
def wMo_bars_28 (post : Int32 → Hp → Prop)  (x0 : Nat) (x1 : Int32) (x2 : Int32) (y0 : Int32) (y1 : Nat) (M : Hp) : Prop := (∃ M1 : Hp, pF M y1 6 0 (.int y0) M1 ∧ (∃ v5 : Int32, fI M1 x0 6 0 v5 ∧ ((0 < v5 → (wMo_bars_52 post M1)) ∧ (¬ 0 < v5 → (∃ a10 : Nat, fA M1 x0 6 20 a10 ∧ (∃ v14 : Int32, aZ M1 a10 (((8 : Int32) * x1) + x2) v14 ∧ ((v14 = 0 → (∃ a20 : Nat, fA M1 x0 6 20 a20 ∧ (∃ M28 : Hp, sZ M1 a20 (((8 : Int32) * x1) + x2) (1 : Int32) M28 ∧ (hob M28 x0 6 ∧ (wpMo_told x0 (1 : Int32) M28 (fun (r31 : Int32) (M29 : Hp) => ((r31 = 0 ∨ r31 = 1) ∧ post r31 M29))))))) ∧ (¬ v14 = 0 → (wMo_bars_52 post M1)))))))))
set_option maxRecDepth 100000 in
set_option maxHeartbeats 4000000 in
theorem tMo_bars_28 {p : Program} {l : Launch} {e : Env} {s : State} {m : MethodId} {args : Array Value} {below : List Frame} {meth : Method} {c : Code} {D : va_G} {κ : Nat → ClassId} {A : Nat → Prop} (C : Cx_Mo_bars p s m args meth c D κ A) (post : Int32 → Hp → Prop)  (x0 : Nat) (x1 : Int32) (x2 : Int32) (y0 : Int32) (y1 : Nat) (M : Hp) (hwp : wMo_bars_28 post x0 x1 x2 y0 y1 M) : Y p l e rm_Mo_bars s m args below meth c D kCl (hTys κ) A 3 0 0 (MQ below (va_Qi post (hB D kCl (hTys κ) A) A) args s 0 0 A) M 28 [(0, .ref x0), (1, .int x1), (2, .int x2)] [.int y0, .ref y1] := by
  obtain ⟨hx, hb, hml, hr, hown, hts, hlocks, hE, hA⟩ := id C
  have hK := hE.1
  intro H locs ls hM hS hl
  unfold wMo_bars_28 at hwp
  obtain ⟨M1, ⟨fs2, he3, hl4, eM1⟩, hwp⟩ := hwp
  refine h_put (C := "BuckTablesModel") (T := Tc6) (N := 36) (v := .int y0) (ty := .int) hx hb hts inc6 tyc6 tyc6_ok nmc6 hown hK hM hS he3 rfl 0 (by decide) (hts _ kw_720) (fun _ h9 => h9) rfl (by decide +kernel) rfl rfl hl4 d_Mo_bars_28 (fun H locs hM hS => ?_)
  rw [← eM1] at hM
  refine lv_aload_n hx hb d_Mo_bars_31 rfl (lv_at hl 0 rfl) ?_
  obtain ⟨v5, ⟨fs6, he7, hv8⟩, hwp⟩ := hwp
  refine h_get (C := "BuckTablesModel") (T := Tc6) (N := 36) hx hb hts inc6 hown hK hM he7 rfl 0 (by decide) (hts _ kw_720) (fun _ h9 => h9) hv8 d_Mo_bars_32 ?_
  refine lv_if_gt (tgt := 52) hx hb d_Mo_bars_35 (by decide) (fun c9 => ?_) (fun c9 => ?_)
  · replace hwp := hwp.1 c9
    exact tMo_bars_52 C post M1 hwp H locs ls hM hS (lv_sub hl [] rfl)
  · replace hwp := hwp.2 c9
    refine lv_aload_n hx hb d_Mo_bars_38 rfl (lv_at hl 0 rfl) ?_
    obtain ⟨a10, ⟨fs11, he12, hv13⟩, hwp⟩ := hwp
    refine h_get (C := "BuckTablesModel") (T := Tc6) (N := 36) hx hb hts inc6 hown hK hM he12 rfl 20 (by decide) (hts _ kw_740) (fun _ h9 => h9) hv13 d_Mo_bars_39 ?_
    refine lv_bipush (v := 8) hx hb d_Mo_bars_42 (by decide) ?_
    refine lv_iload_n hx hb d_Mo_bars_44 rfl (lv_at hl 1 rfl) ?_
    refine lv_imul hx hb d_Mo_bars_45 ?_
    refine lv_iload_n hx hb d_Mo_bars_46 rfl (lv_at hl 2 rfl) ?_
    refine lv_iadd hx hb d_Mo_bars_47 ?_
    obtain ⟨v14, ⟨n15, f16, ha17, hi18, ev14⟩, hwp⟩ := hwp
    refine h_zald hx hb hK hM ha17 rfl hi18 d_Mo_bars_48 ?_
    rw [← ev14]
    refine lv_if_eq (tgt := 54) hx hb d_Mo_bars_49 (by decide) (fun c19 => ?_) (fun c19 => ?_)
    · replace hwp := hwp.1 c19
      refine lv_aload_n hx hb d_Mo_bars_54 rfl (lv_at hl 0 rfl) ?_
      obtain ⟨a20, ⟨fs21, he22, hv23⟩, hwp⟩ := hwp
      refine h_get (C := "BuckTablesModel") (T := Tc6) (N := 36) hx hb hts inc6 hown hK hM he22 rfl 20 (by decide) (hts _ kw_740) (fun _ h9 => h9) hv23 d_Mo_bars_55 ?_
      refine lv_bipush (v := 8) hx hb d_Mo_bars_58 (by decide) ?_
      refine lv_iload_n hx hb d_Mo_bars_60 rfl (lv_at hl 1 rfl) ?_
      refine lv_imul hx hb d_Mo_bars_61 ?_
      refine lv_iload_n hx hb d_Mo_bars_62 rfl (lv_at hl 2 rfl) ?_
      refine lv_iadd hx hb d_Mo_bars_63 ?_
      refine lv_iconst (v := 1) hx hb d_Mo_bars_64 (by decide) ?_
      obtain ⟨M28, ⟨n24, f25, ha26, hi27, eM28⟩, hwp⟩ := hwp
      refine h_zast hx hb hK hM hS ha26 rfl hi27 d_Mo_bars_65 (fun H locs hM hS => ?_)
      rw [← eM28] at hM
      refine lv_aload_n hx hb d_Mo_bars_66 rfl (lv_at hl 0 rfl) ?_
      refine lv_iconst (v := 1) hx hb d_Mo_bars_67 (by decide) ?_
      obtain ⟨ho30, hwp⟩ := hwp
      refine h_calli hM hS hA (va_runV (As := [.int (1 : Int32)]) (rest := []) ⟨hx, hb, hml, hown, hts⟩ (metMo_told l D κ H.size x0 (1 : Int32) M28 _ hwp) (cwV 1 hts (gV kw_842 kw_844 kp_23 kw_8 kw_845) rfl rfl rfl (by decide +kernel) ⟨(Nat.le_of_ble_eq_true rfl), (Nat.le_of_ble_eq_true rfl)⟩) (h_preV hE hM hS ho30 (r := ("BuckTablesModel", Tc6, 36)) rfl) rfl rfl hl.1 rfl (lv_room (Nat.le_of_ble_eq_true rfl)) d_Mo_bars_68 ⟨(Nat.le_of_ble_eq_true rfl), (Nat.le_of_ble_eq_true rfl)⟩) (fun r31 M29 H locs hwp hM hS => ?_)
      obtain ⟨hz32, hwp⟩ := hwp
      exact W.zret (v := r31) hx hb hr (by rcases hz32 with h | h <;> rw [h] <;> rfl) (fun t ht hW => ⟨⟨r31, M29, rfl, hwp, by show hw D kCl (hTys κ) A M29 t.heap; rw [ht]; exact hM⟩, hS.F ht⟩) hS.2.2 d_Mo_bars_71
    · replace hwp := hwp.2 c19
      exact tMo_bars_52 C post M1 hwp H locs ls hM hS (lv_sub hl [] rfl)
def wpMo_bars (self : Nat) (p0 : Int32) (p1 : Int32) (M : Hp) (post : Int32 → Hp → Prop) : Prop := (hob M self 6 ∧ (wpMo_noProduct self p0 M (fun (r35 : Int32) (M33 : Hp) => ((r35 = 0 → (wpMo_isIn (p1.toInt64) (0 : Int64) (7 : Int64) M33 (fun (r38 : Int32) (M37 : Hp) => ((r38 = 0 → (wMo_bars_28 post self p0 p1 (2 : Int32) self M37)) ∧ (¬ r38 = 0 → (wMo_bars_28 post self p0 p1 (0 : Int32) self M37)))))) ∧ (¬ r35 = 0 → (post (0 : Int32) M33))))))
set_option maxRecDepth 100000 in
set_option maxHeartbeats 4000000 in
theorem eMo_bars {p : Program} {l : Launch} {e : Env} {s : State} {m : MethodId} {args : Array Value} {below : List Frame} {meth : Method} {c : Code} {D : va_G} {κ : Nat → ClassId} {A : Nat → Prop} (C : Cx_Mo_bars p s m args meth c D κ A) (post : Int32 → Hp → Prop) (self : Nat) (p0 : Int32) (p1 : Int32) (M : Hp) (hwp : wpMo_bars self p0 p1 M post) : Y p l e rm_Mo_bars s m args below meth c D kCl (hTys κ) A 3 0 0 (MQ below (va_Qi post (hB D kCl (hTys κ) A) A) args s 0 0 A) M 0 [(0, .ref self), (1, .int p0), (2, .int p1)] [] := by
  obtain ⟨hx, hb, hml, hr, hown, hts, hlocks, hE, hA⟩ := id C
  have hK := hE.1
  intro H locs ls hM hS hl
  unfold wpMo_bars at hwp
  refine lv_aload_n hx hb d_Mo_bars_0 rfl (lv_at hl 0 rfl) ?_
  refine lv_iload_n hx hb d_Mo_bars_1 rfl (lv_at hl 1 rfl) ?_
  obtain ⟨ho34, hwp⟩ := hwp
  refine h_calli hM hS hA (va_runV (As := [.int p0]) (rest := []) ⟨hx, hb, hml, hown, hts⟩ (metMo_noProduct l D κ H.size self p0 M _ hwp) (cwV 1 hts (gV kw_863 kw_865 kp_24 kw_8 kw_866) rfl rfl rfl (by decide +kernel) ⟨(Nat.le_of_ble_eq_true rfl), (Nat.le_of_ble_eq_true rfl)⟩) (h_preV hE hM hS ho34 (r := ("BuckTablesModel", Tc6, 36)) rfl) rfl rfl hl.1 rfl (lv_room (Nat.le_of_ble_eq_true rfl)) d_Mo_bars_2 ⟨(Nat.le_of_ble_eq_true rfl), (Nat.le_of_ble_eq_true rfl)⟩) (fun r35 M33 H locs hwp hM hS => ?_)
  refine lv_if_eq (tgt := 10) hx hb d_Mo_bars_5 (by decide) (fun c36 => ?_) (fun c36 => ?_)
  · replace hwp := hwp.1 c36
    refine lv_aload_n hx hb d_Mo_bars_10 rfl (lv_at hl 0 rfl) ?_
    refine lv_iload_n hx hb d_Mo_bars_11 rfl (lv_at hl 2 rfl) ?_
    refine lv_i2l hx hb d_Mo_bars_12 rfl ?_
    refine lv_lconst (v := 0) hx hb d_Mo_bars_13 (by decide) ?_
    refine lv_ldc2 (v := (7)) hx hb hown (hts _ kw_850) d_Mo_bars_14 ?_
    refine h_calli hM hS hA (va_runS (As := [.long (p1.toInt64), .long (0 : Int64), .long (7 : Int64)]) (rest := [.ref self]) ⟨hx, hb, hml, hown, hts⟩ (metMo_isIn l D κ H.size (p1.toInt64) (0 : Int64) (7 : Int64) M33 _ hwp) (cwS 3 hts (gS kw_838 kw_839 kw_8 kw_840) rfl rfl rfl (by decide +kernel) ⟨(Nat.le_of_ble_eq_true rfl), (Nat.le_of_ble_eq_true rfl)⟩) (h_preS hE hM hS) rfl rfl hl.1 rfl (lv_room (Nat.le_of_ble_eq_true rfl)) d_Mo_bars_17 ⟨(Nat.le_of_ble_eq_true rfl), (Nat.le_of_ble_eq_true rfl)⟩) (fun r38 M37 H locs hwp hM hS => ?_)
    refine lv_if_eq (tgt := 27) hx hb d_Mo_bars_20 (by decide) (fun c39 => ?_) (fun c39 => ?_)
    · replace hwp := hwp.1 c39
      refine lv_iconst (v := 2) hx hb d_Mo_bars_27 (by decide) ?_
      exact tMo_bars_28 C post self p0 p1 (2 : Int32) self M37 hwp H locs ls hM hS (lv_sub hl [0, 1, 2] rfl)
    · replace hwp := hwp.2 c39
      refine lv_iconst (v := 0) hx hb d_Mo_bars_23 (by decide) ?_
      refine lv_goto (tgt := 28) hx hb d_Mo_bars_24 (by decide) ?_
      exact tMo_bars_28 C post self p0 p1 (0 : Int32) self M37 hwp H locs ls hM hS (lv_sub hl [0, 1, 2] rfl)
  · replace hwp := hwp.2 c36
    refine lv_iconst (v := 0) hx hb d_Mo_bars_8 (by decide) ?_
    exact W.zret (v := (0 : Int32)) hx hb hr (by decide) (fun t ht hW => ⟨⟨(0 : Int32), M33, rfl, hwp, by show hw D kCl (hTys κ) A M33 t.heap; rw [ht]; exact hM⟩, hS.F ht⟩) hS.2.2 d_Mo_bars_9
set_option maxRecDepth 100000 in
set_option maxHeartbeats 4000000 in
theorem metMo_bars (l : Launch) (D : va_G) (κ : Nat → ClassId) (sz : Nat) (self : Nat) (p0 : Int32) (p1 : Int32) (M : Hp) (post : Int32 → Hp → Prop) (hwp : wpMo_bars self p0 p1 M post) : Met l y_Mo_bars ws_Mo_bars rm_Mo_bars (hPc D kCl (hTys κ) M sz [.ref self, .int p0, .int p1]) (va_Qi post (hB D kCl (hTys κ) (hAx M sz)) (hAx M sz)) 0 0 (hAx M sz) := by
  refine Met.ofW (cc := prog_8_method_11_code) (maxL := 3) (ret := (some .boolean)) (by decide +kernel) rfl ?_
  intro p e s m args below meth c s₁ B hml hv
  obtain ⟨rfl, hsz, hE, hM0⟩ := hv
  have hts : ∀ w ∈ WG, w.before _ s = true := fun w h => atoms_spec (ws := ws_Mo_bars) B.pre w (List.mem_cons_of_mem _ h)
  subst hsz
  have C : Cx_Mo_bars p s m _ meth c D κ (hAx M s.heap.size) := ⟨B.exec, B.bytes, hml, B.returns, findClass_of_methodNamed B.named, hts, B.notSynchronized, hE, fun q h => Or.inr h⟩
  have hl := lv_entry ([.ref self, .int p0, .int p1]) (n := 3) (Nat.le_of_ble_eq_true rfl)
  rw [lg_entry_eq]
  generalize (lg_sl ([.ref self, .int p0, .int p1]) ++ List.replicate (3 - (lg_sl ([.ref self, .int p0, .int p1])).length) Slot.unset).toArray = ls at hl ⊢
  exact eMo_bars C post self p0 p1 M hwp s.heap [] ls (hM0.self (sz := s.heap.size)) va_S.rf hl
abbrev rm_Mo_isEnd : Room := { frames := 1, cells := 0, slots := 0, locals := 21 }
def Cx_Mo_isEnd (p : Program) (s : State) (m : MethodId) (args : Array Value) (meth : Method) (c : Code) (D : va_G) (κ : Nat → ClassId) (A : Nat → Prop) : Prop := p.tables.exec = Jvm.exec ∧ c.code = prog_8_method_12_code ∧ c.maxLocals = 2 ∧ meth.sig.returnType = (some .boolean) ∧ s.vm.findClass "BuckTablesModel" = some m.cls ∧ (∀ w ∈ WG, w.before args s = true) ∧ meth.locks = false ∧ hEnv D kCl (hTys κ) A s ∧ (∀ q, s.heap.size ≤ q → A q)
def wMo_isEnd_37 (post : Int32 → Hp → Prop)   (y0 : Int32) (M : Hp) : Prop := ((y0 = 0 ∨ y0 = 1) ∧ post y0 M)
set_option maxRecDepth 100000 in
set_option maxHeartbeats 4000000 in
theorem tMo_isEnd_37 {p : Program} {l : Launch} {e : Env} {s : State} {m : MethodId} {args : Array Value} {below : List Frame} {meth : Method} {c : Code} {D : va_G} {κ : Nat → ClassId} {A : Nat → Prop} (C : Cx_Mo_isEnd p s m args meth c D κ A) (post : Int32 → Hp → Prop)   (y0 : Int32) (M : Hp) (hwp : wMo_isEnd_37 post y0 M) : Y p l e rm_Mo_isEnd s m args below meth c D kCl (hTys κ) A 2 0 0 (MQ below (va_Qi post (hB D kCl (hTys κ) A) A) args s 0 0 A) M 37 [] [.int y0] := by
  obtain ⟨hx, hb, hml, hr, hown, hts, hlocks, hE, hA⟩ := id C
  have hK := hE.1
  intro H locs ls hM hS hl
  unfold wMo_isEnd_37 at hwp
  obtain ⟨hz1, hwp⟩ := hwp
  exact W.zret (v := y0) hx hb hr (by rcases hz1 with h | h <;> rw [h] <;> rfl) (fun t ht hW => ⟨⟨y0, M, rfl, hwp, by show hw D kCl (hTys κ) A M t.heap; rw [ht]; exact hM⟩, hS.F ht⟩) hS.2.2 d_Mo_isEnd_37
def wMo_isEnd_36 (post : Int32 → Hp → Prop)   (M : Hp) : Prop := (wMo_isEnd_37 post (0 : Int32) M)
set_option maxRecDepth 100000 in
set_option maxHeartbeats 4000000 in
theorem tMo_isEnd_36 {p : Program} {l : Launch} {e : Env} {s : State} {m : MethodId} {args : Array Value} {below : List Frame} {meth : Method} {c : Code} {D : va_G} {κ : Nat → ClassId} {A : Nat → Prop} (C : Cx_Mo_isEnd p s m args meth c D κ A) (post : Int32 → Hp → Prop)   (M : Hp) (hwp : wMo_isEnd_36 post  M) : Y p l e rm_Mo_isEnd s m args below meth c D kCl (hTys κ) A 2 0 0 (MQ below (va_Qi post (hB D kCl (hTys κ) A) A) args s 0 0 A) M 36 [] [] := by
  obtain ⟨hx, hb, hml, hr, hown, hts, hlocks, hE, hA⟩ := id C
  have hK := hE.1
  intro H locs ls hM hS hl
  unfold wMo_isEnd_36 at hwp
  refine lv_iconst (v := 0) hx hb d_Mo_isEnd_36 (by decide) ?_
  exact tMo_isEnd_37 C post (0 : Int32) M hwp H locs ls hM hS (lv_sub hl [] rfl)
def wpMo_isEnd (self : Nat) (p0 : Int32) (M : Hp) (post : Int32 → Hp → Prop) : Prop := ((p0 ≤ 0 → (wMo_isEnd_36 post M)) ∧ (¬ p0 ≤ 0 → (∃ v3 : Int32, fI M self 6 1 v3 ∧ (¬ v3 = 0 ∧ (((p0 - p0 / v3 * v3) = 0 → (∃ v9 : Int32, fI M self 6 1 v9 ∧ (¬ v9 = 0 ∧ (∃ v14 : Int32, fI M self 6 4 v14 ∧ (hob M self 6 ∧ (wpMo_stepsOf self (v14 - (1 : Int32)) M (fun (r20 : Int32) (M18 : Hp) => ((r20 < (p0 / v9) → (wMo_isEnd_36 post M18)) ∧ (¬ r20 < (p0 / v9) → (wMo_isEnd_37 post (1 : Int32) M18)))))))))) ∧ (¬ (p0 - p0 / v3 * v3) = 0 → (wMo_isEnd_36 post M)))))))
set_option maxRecDepth 100000 in
set_option maxHeartbeats 4000000 in
theorem eMo_isEnd {p : Program} {l : Launch} {e : Env} {s : State} {m : MethodId} {args : Array Value} {below : List Frame} {meth : Method} {c : Code} {D : va_G} {κ : Nat → ClassId} {A : Nat → Prop} (C : Cx_Mo_isEnd p s m args meth c D κ A) (post : Int32 → Hp → Prop) (self : Nat) (p0 : Int32) (M : Hp) (hwp : wpMo_isEnd self p0 M post) : Y p l e rm_Mo_isEnd s m args below meth c D kCl (hTys κ) A 2 0 0 (MQ below (va_Qi post (hB D kCl (hTys κ) A) A) args s 0 0 A) M 0 [(0, .ref self), (1, .int p0)] [] := by
  obtain ⟨hx, hb, hml, hr, hown, hts, hlocks, hE, hA⟩ := id C
  have hK := hE.1
  intro H locs ls hM hS hl
  unfold wpMo_isEnd at hwp
  refine lv_iload_n hx hb d_Mo_isEnd_0 rfl (lv_at hl 1 rfl) ?_
  refine lv_if_le (tgt := 36) hx hb d_Mo_isEnd_1 (by decide) (fun c2 => ?_) (fun c2 => ?_)
  · replace hwp := hwp.1 c2
    exact tMo_isEnd_36 C post M hwp H locs ls hM hS (lv_sub hl [] rfl)
  · replace hwp := hwp.2 c2
    refine lv_iload_n hx hb d_Mo_isEnd_4 rfl (lv_at hl 1 rfl) ?_
    refine lv_aload_n hx hb d_Mo_isEnd_5 rfl (lv_at hl 0 rfl) ?_
    obtain ⟨v3, ⟨fs4, he5, hv6⟩, hwp⟩ := hwp
    refine h_get (C := "BuckTablesModel") (T := Tc6) (N := 36) hx hb hts inc6 hown hK hM he5 rfl 1 (by decide) (hts _ kw_721) (fun _ h9 => h9) hv6 d_Mo_isEnd_6 ?_
    obtain ⟨h7, hwp⟩ := hwp
    refine lv_irem hx hb d_Mo_isEnd_9 h7 ?_
    refine lv_if_ne (tgt := 36) hx hb d_Mo_isEnd_10 (by decide) (fun c8 => ?_) (fun c8 => ?_)
    · replace hwp := hwp.2 c8
      exact tMo_isEnd_36 C post M hwp H locs ls hM hS (lv_sub hl [] rfl)
    · replace hwp := hwp.1 c8
      refine lv_iload_n hx hb d_Mo_isEnd_13 rfl (lv_at hl 1 rfl) ?_
      refine lv_aload_n hx hb d_Mo_isEnd_14 rfl (lv_at hl 0 rfl) ?_
      obtain ⟨v9, ⟨fs10, he11, hv12⟩, hwp⟩ := hwp
      refine h_get (C := "BuckTablesModel") (T := Tc6) (N := 36) hx hb hts inc6 hown hK hM he11 rfl 1 (by decide) (hts _ kw_721) (fun _ h9 => h9) hv12 d_Mo_isEnd_15 ?_
      obtain ⟨h13, hwp⟩ := hwp
      refine lv_idiv hx hb d_Mo_isEnd_18 h13 ?_
      refine lv_aload_n hx hb d_Mo_isEnd_19 rfl (lv_at hl 0 rfl) ?_
      refine lv_aload_n hx hb d_Mo_isEnd_20 rfl (lv_at hl 0 rfl) ?_
      obtain ⟨v14, ⟨fs15, he16, hv17⟩, hwp⟩ := hwp
      refine h_get (C := "BuckTablesModel") (T := Tc6) (N := 36) hx hb hts inc6 hown hK hM he16 rfl 4 (by decide) (hts _ kw_724) (fun _ h9 => h9) hv17 d_Mo_isEnd_21 ?_
      refine lv_iconst (v := 1) hx hb d_Mo_isEnd_24 (by decide) ?_
      refine lv_isub hx hb d_Mo_isEnd_25 ?_
      obtain ⟨ho19, hwp⟩ := hwp
      refine h_calli hM hS hA (va_runV (As := [.int (v14 - (1 : Int32))]) (rest := [.int (p0 / v9)]) ⟨hx, hb, hml, hown, hts⟩ (metMo_stepsOf l D κ H.size self (v14 - (1 : Int32)) M _ hwp) (cwV 1 hts (gV kw_875 kw_877 kp_26 kw_8 kw_878) rfl rfl rfl (by decide +kernel) ⟨(Nat.le_of_ble_eq_true rfl), (Nat.le_of_ble_eq_true rfl)⟩) (h_preV hE hM hS ho19 (r := ("BuckTablesModel", Tc6, 36)) rfl) rfl rfl hl.1 rfl (lv_room (Nat.le_of_ble_eq_true rfl)) d_Mo_isEnd_26 ⟨(Nat.le_of_ble_eq_true rfl), (Nat.le_of_ble_eq_true rfl)⟩) (fun r20 M18 H locs hwp hM hS => ?_)
      refine lv_icmp_gt (tgt := 36) hx hb d_Mo_isEnd_29 (by decide) (fun c21 => ?_) (fun c21 => ?_)
      · replace hwp := hwp.1 c21
        exact tMo_isEnd_36 C post M18 hwp H locs ls hM hS (lv_sub hl [] rfl)
      · replace hwp := hwp.2 c21
        refine lv_iconst (v := 1) hx hb d_Mo_isEnd_32 (by decide) ?_
        refine lv_goto (tgt := 37) hx hb d_Mo_isEnd_33 (by decide) ?_
        exact tMo_isEnd_37 C post (1 : Int32) M18 hwp H locs ls hM hS (lv_sub hl [] rfl)
set_option maxRecDepth 100000 in
set_option maxHeartbeats 4000000 in
theorem metMo_isEnd (l : Launch) (D : va_G) (κ : Nat → ClassId) (sz : Nat) (self : Nat) (p0 : Int32) (M : Hp) (post : Int32 → Hp → Prop) (hwp : wpMo_isEnd self p0 M post) : Met l y_Mo_isEnd ws_Mo_isEnd rm_Mo_isEnd (hPc D kCl (hTys κ) M sz [.ref self, .int p0]) (va_Qi post (hB D kCl (hTys κ) (hAx M sz)) (hAx M sz)) 0 0 (hAx M sz) := by
  refine Met.ofW (cc := prog_8_method_12_code) (maxL := 2) (ret := (some .boolean)) (by decide +kernel) rfl ?_
  intro p e s m args below meth c s₁ B hml hv
  obtain ⟨rfl, hsz, hE, hM0⟩ := hv
  have hts : ∀ w ∈ WG, w.before _ s = true := fun w h => atoms_spec (ws := ws_Mo_isEnd) B.pre w (List.mem_cons_of_mem _ h)
  subst hsz
  have C : Cx_Mo_isEnd p s m _ meth c D κ (hAx M s.heap.size) := ⟨B.exec, B.bytes, hml, B.returns, findClass_of_methodNamed B.named, hts, B.notSynchronized, hE, fun q h => Or.inr h⟩
  have hl := lv_entry ([.ref self, .int p0]) (n := 2) (Nat.le_of_ble_eq_true rfl)
  rw [lg_entry_eq]
  generalize (lg_sl ([.ref self, .int p0]) ++ List.replicate (2 - (lg_sl ([.ref self, .int p0])).length) Slot.unset).toArray = ls at hl ⊢
  exact eMo_isEnd C post self p0 M hwp s.heap [] ls (hM0.self (sz := s.heap.size)) va_S.rf hl
abbrev rm_Mo_force : Room := { frames := 2, cells := 0, slots := 0, locals := 42 }
def Cx_Mo_force (p : Program) (s : State) (m : MethodId) (args : Array Value) (meth : Method) (c : Code) (D : va_G) (κ : Nat → ClassId) (A : Nat → Prop) : Prop := p.tables.exec = Jvm.exec ∧ c.code = prog_8_method_13_code ∧ c.maxLocals = 2 ∧ meth.sig.returnType = (some .boolean) ∧ s.vm.findClass "BuckTablesModel" = some m.cls ∧ (∀ w ∈ WG, w.before args s = true) ∧ meth.locks = false ∧ hEnv D kCl (hTys κ) A s ∧ (∀ q, s.heap.size ≤ q → A q)
def wMo_force_60 (post : Int32 → Hp → Prop)   (M : Hp) : Prop := (post (0 : Int32) M)
set_option maxRecDepth 100000 in
set_option maxHeartbeats 4000000 in
theorem tMo_force_60 {p : Program} {l : Launch} {e : Env} {s : State} {m : MethodId} {args : Array Value} {below : List Frame} {meth : Method} {c : Code} {D : va_G} {κ : Nat → ClassId} {A : Nat → Prop} (C : Cx_Mo_force p s m args meth c D κ A) (post : Int32 → Hp → Prop)   (M : Hp) (hwp : wMo_force_60 post  M) : Y p l e rm_Mo_force s m args below meth c D kCl (hTys κ) A 2 0 0 (MQ below (va_Qi post (hB D kCl (hTys κ) A) A) args s 0 0 A) M 60 [] [] := by
  obtain ⟨hx, hb, hml, hr, hown, hts, hlocks, hE, hA⟩ := id C
  have hK := hE.1
  intro H locs ls hM hS hl
  unfold wMo_force_60 at hwp
  refine lv_iconst (v := 0) hx hb d_Mo_force_60 (by decide) ?_
  exact W.zret (v := (0 : Int32)) hx hb hr (by decide) (fun t ht hW => ⟨⟨(0 : Int32), M, rfl, hwp, by show hw D kCl (hTys κ) A M t.heap; rw [ht]; exact hM⟩, hS.F ht⟩) hS.2.2 d_Mo_force_61
def wMo_force_18 (post : Int32 → Hp → Prop)  (x0 : Nat) (x1 : Int32) (y0 : Int32) (y1 : Nat) (M : Hp) : Prop := (∃ M1 : Hp, pF M y1 6 0 (.int y0) M1 ∧ (∃ v5 : Int32, fI M1 x0 6 0 v5 ∧ ((0 < v5 → (wMo_force_60 post M1)) ∧ (¬ 0 < v5 → (hob M1 x0 6 ∧ (wpMo_isEnd x0 x1 M1 (fun (r12 : Int32) (M10 : Hp) => ((r12 = 0 → (wMo_force_60 post M10)) ∧ (¬ r12 = 0 → (∃ a14 : Nat, fA M10 x0 6 13 a14 ∧ (∃ v18 : Int32, fI M10 x0 6 4 v18 ∧ (∃ v22 : Int32, fI M10 x0 6 1 v22 ∧ (¬ v22 = 0 ∧ (∃ v27 : Int32, aZ M10 a14 (((81 : Int32) * (v18 - (1 : Int32))) + (x1 / v22)) v27 ∧ ((v27 = 0 → (∃ a33 : Nat, fA M10 x0 6 13 a33 ∧ (∃ v37 : Int32, fI M10 x0 6 4 v37 ∧ (∃ v41 : Int32, fI M10 x0 6 1 v41 ∧ (¬ v41 = 0 ∧ (∃ M50 : Hp, sZ M10 a33 (((81 : Int32) * (v37 - (1 : Int32))) + (x1 / v41)) (1 : Int32) M50 ∧ (hob M50 x0 6 ∧ (wpMo_told x0 (1 : Int32) M50 (fun (r53 : Int32) (M51 : Hp) => ((r53 = 0 ∨ r53 = 1) ∧ post r53 M51)))))))))) ∧ (¬ v27 = 0 → (wMo_force_60 post M10)))))))))))))))))
set_option maxRecDepth 100000 in
set_option maxHeartbeats 4000000 in
theorem tMo_force_18 {p : Program} {l : Launch} {e : Env} {s : State} {m : MethodId} {args : Array Value} {below : List Frame} {meth : Method} {c : Code} {D : va_G} {κ : Nat → ClassId} {A : Nat → Prop} (C : Cx_Mo_force p s m args meth c D κ A) (post : Int32 → Hp → Prop)  (x0 : Nat) (x1 : Int32) (y0 : Int32) (y1 : Nat) (M : Hp) (hwp : wMo_force_18 post x0 x1 y0 y1 M) : Y p l e rm_Mo_force s m args below meth c D kCl (hTys κ) A 2 0 0 (MQ below (va_Qi post (hB D kCl (hTys κ) A) A) args s 0 0 A) M 18 [(0, .ref x0), (1, .int x1)] [.int y0, .ref y1] := by
  obtain ⟨hx, hb, hml, hr, hown, hts, hlocks, hE, hA⟩ := id C
  have hK := hE.1
  intro H locs ls hM hS hl
  unfold wMo_force_18 at hwp
  obtain ⟨M1, ⟨fs2, he3, hl4, eM1⟩, hwp⟩ := hwp
  refine h_put (C := "BuckTablesModel") (T := Tc6) (N := 36) (v := .int y0) (ty := .int) hx hb hts inc6 tyc6 tyc6_ok nmc6 hown hK hM hS he3 rfl 0 (by decide) (hts _ kw_720) (fun _ h9 => h9) rfl (by decide +kernel) rfl rfl hl4 d_Mo_force_18 (fun H locs hM hS => ?_)
  rw [← eM1] at hM
  refine lv_aload_n hx hb d_Mo_force_21 rfl (lv_at hl 0 rfl) ?_
  obtain ⟨v5, ⟨fs6, he7, hv8⟩, hwp⟩ := hwp
  refine h_get (C := "BuckTablesModel") (T := Tc6) (N := 36) hx hb hts inc6 hown hK hM he7 rfl 0 (by decide) (hts _ kw_720) (fun _ h9 => h9) hv8 d_Mo_force_22 ?_
  refine lv_if_gt (tgt := 60) hx hb d_Mo_force_25 (by decide) (fun c9 => ?_) (fun c9 => ?_)
  · replace hwp := hwp.1 c9
    exact tMo_force_60 C post M1 hwp H locs ls hM hS (lv_sub hl [] rfl)
  · replace hwp := hwp.2 c9
    refine lv_aload_n hx hb d_Mo_force_28 rfl (lv_at hl 0 rfl) ?_
    refine lv_iload_n hx hb d_Mo_force_29 rfl (lv_at hl 1 rfl) ?_
    obtain ⟨ho11, hwp⟩ := hwp
    refine h_calli hM hS hA (va_runV (As := [.int x1]) (rest := []) ⟨hx, hb, hml, hown, hts⟩ (metMo_isEnd l D κ H.size x0 x1 M1 _ hwp) (cwV 1 hts (gV kw_871 kw_873 kp_25 kw_8 kw_874) rfl rfl rfl (by decide +kernel) ⟨(Nat.le_of_ble_eq_true rfl), (Nat.le_of_ble_eq_true rfl)⟩) (h_preV hE hM hS ho11 (r := ("BuckTablesModel", Tc6, 36)) rfl) rfl rfl hl.1 rfl (lv_room (Nat.le_of_ble_eq_true rfl)) d_Mo_force_30 ⟨(Nat.le_of_ble_eq_true rfl), (Nat.le_of_ble_eq_true rfl)⟩) (fun r12 M10 H locs hwp hM hS => ?_)
    refine lv_if_eq (tgt := 60) hx hb d_Mo_force_33 (by decide) (fun c13 => ?_) (fun c13 => ?_)
    · replace hwp := hwp.1 c13
      exact tMo_force_60 C post M10 hwp H locs ls hM hS (lv_sub hl [] rfl)
    · replace hwp := hwp.2 c13
      refine lv_aload_n hx hb d_Mo_force_36 rfl (lv_at hl 0 rfl) ?_
      obtain ⟨a14, ⟨fs15, he16, hv17⟩, hwp⟩ := hwp
      refine h_get (C := "BuckTablesModel") (T := Tc6) (N := 36) hx hb hts inc6 hown hK hM he16 rfl 13 (by decide) (hts _ kw_733) (fun _ h9 => h9) hv17 d_Mo_force_37 ?_
      refine lv_bipush (v := 81) hx hb d_Mo_force_40 (by decide) ?_
      refine lv_aload_n hx hb d_Mo_force_42 rfl (lv_at hl 0 rfl) ?_
      obtain ⟨v18, ⟨fs19, he20, hv21⟩, hwp⟩ := hwp
      refine h_get (C := "BuckTablesModel") (T := Tc6) (N := 36) hx hb hts inc6 hown hK hM he20 rfl 4 (by decide) (hts _ kw_724) (fun _ h9 => h9) hv21 d_Mo_force_43 ?_
      refine lv_iconst (v := 1) hx hb d_Mo_force_46 (by decide) ?_
      refine lv_isub hx hb d_Mo_force_47 ?_
      refine lv_imul hx hb d_Mo_force_48 ?_
      refine lv_iload_n hx hb d_Mo_force_49 rfl (lv_at hl 1 rfl) ?_
      refine lv_aload_n hx hb d_Mo_force_50 rfl (lv_at hl 0 rfl) ?_
      obtain ⟨v22, ⟨fs23, he24, hv25⟩, hwp⟩ := hwp
      refine h_get (C := "BuckTablesModel") (T := Tc6) (N := 36) hx hb hts inc6 hown hK hM he24 rfl 1 (by decide) (hts _ kw_721) (fun _ h9 => h9) hv25 d_Mo_force_51 ?_
      obtain ⟨h26, hwp⟩ := hwp
      refine lv_idiv hx hb d_Mo_force_54 h26 ?_
      refine lv_iadd hx hb d_Mo_force_55 ?_
      obtain ⟨v27, ⟨n28, f29, ha30, hi31, ev27⟩, hwp⟩ := hwp
      refine h_zald hx hb hK hM ha30 rfl hi31 d_Mo_force_56 ?_
      rw [← ev27]
      refine lv_if_eq (tgt := 62) hx hb d_Mo_force_57 (by decide) (fun c32 => ?_) (fun c32 => ?_)
      · replace hwp := hwp.1 c32
        refine lv_aload_n hx hb d_Mo_force_62 rfl (lv_at hl 0 rfl) ?_
        obtain ⟨a33, ⟨fs34, he35, hv36⟩, hwp⟩ := hwp
        refine h_get (C := "BuckTablesModel") (T := Tc6) (N := 36) hx hb hts inc6 hown hK hM he35 rfl 13 (by decide) (hts _ kw_733) (fun _ h9 => h9) hv36 d_Mo_force_63 ?_
        refine lv_bipush (v := 81) hx hb d_Mo_force_66 (by decide) ?_
        refine lv_aload_n hx hb d_Mo_force_68 rfl (lv_at hl 0 rfl) ?_
        obtain ⟨v37, ⟨fs38, he39, hv40⟩, hwp⟩ := hwp
        refine h_get (C := "BuckTablesModel") (T := Tc6) (N := 36) hx hb hts inc6 hown hK hM he39 rfl 4 (by decide) (hts _ kw_724) (fun _ h9 => h9) hv40 d_Mo_force_69 ?_
        refine lv_iconst (v := 1) hx hb d_Mo_force_72 (by decide) ?_
        refine lv_isub hx hb d_Mo_force_73 ?_
        refine lv_imul hx hb d_Mo_force_74 ?_
        refine lv_iload_n hx hb d_Mo_force_75 rfl (lv_at hl 1 rfl) ?_
        refine lv_aload_n hx hb d_Mo_force_76 rfl (lv_at hl 0 rfl) ?_
        obtain ⟨v41, ⟨fs42, he43, hv44⟩, hwp⟩ := hwp
        refine h_get (C := "BuckTablesModel") (T := Tc6) (N := 36) hx hb hts inc6 hown hK hM he43 rfl 1 (by decide) (hts _ kw_721) (fun _ h9 => h9) hv44 d_Mo_force_77 ?_
        obtain ⟨h45, hwp⟩ := hwp
        refine lv_idiv hx hb d_Mo_force_80 h45 ?_
        refine lv_iadd hx hb d_Mo_force_81 ?_
        refine lv_iconst (v := 1) hx hb d_Mo_force_82 (by decide) ?_
        obtain ⟨M50, ⟨n46, f47, ha48, hi49, eM50⟩, hwp⟩ := hwp
        refine h_zast hx hb hK hM hS ha48 rfl hi49 d_Mo_force_83 (fun H locs hM hS => ?_)
        rw [← eM50] at hM
        refine lv_aload_n hx hb d_Mo_force_84 rfl (lv_at hl 0 rfl) ?_
        refine lv_iconst (v := 1) hx hb d_Mo_force_85 (by decide) ?_
        obtain ⟨ho52, hwp⟩ := hwp
        refine h_calli hM hS hA (va_runV (As := [.int (1 : Int32)]) (rest := []) ⟨hx, hb, hml, hown, hts⟩ (metMo_told l D κ H.size x0 (1 : Int32) M50 _ hwp) (cwV 1 hts (gV kw_842 kw_844 kp_23 kw_8 kw_845) rfl rfl rfl (by decide +kernel) ⟨(Nat.le_of_ble_eq_true rfl), (Nat.le_of_ble_eq_true rfl)⟩) (h_preV hE hM hS ho52 (r := ("BuckTablesModel", Tc6, 36)) rfl) rfl rfl hl.1 rfl (lv_room (Nat.le_of_ble_eq_true rfl)) d_Mo_force_86 ⟨(Nat.le_of_ble_eq_true rfl), (Nat.le_of_ble_eq_true rfl)⟩) (fun r53 M51 H locs hwp hM hS => ?_)
        obtain ⟨hz54, hwp⟩ := hwp
        exact W.zret (v := r53) hx hb hr (by rcases hz54 with h | h <;> rw [h] <;> rfl) (fun t ht hW => ⟨⟨r53, M51, rfl, hwp, by show hw D kCl (hTys κ) A M51 t.heap; rw [ht]; exact hM⟩, hS.F ht⟩) hS.2.2 d_Mo_force_89
      · replace hwp := hwp.2 c32
        exact tMo_force_60 C post M10 hwp H locs ls hM hS (lv_sub hl [] rfl)
def wpMo_force (self : Nat) (p0 : Int32) (M : Hp) (post : Int32 → Hp → Prop) : Prop := (wpMo_isIn (p0.toInt64) (0 : Int64) (10000000 : Int64) M (fun (r56 : Int32) (M55 : Hp) => ((r56 = 0 → (wMo_force_18 post self p0 (1 : Int32) self M55)) ∧ (¬ r56 = 0 → (wMo_force_18 post self p0 (0 : Int32) self M55)))))
set_option maxRecDepth 100000 in
set_option maxHeartbeats 4000000 in
theorem eMo_force {p : Program} {l : Launch} {e : Env} {s : State} {m : MethodId} {args : Array Value} {below : List Frame} {meth : Method} {c : Code} {D : va_G} {κ : Nat → ClassId} {A : Nat → Prop} (C : Cx_Mo_force p s m args meth c D κ A) (post : Int32 → Hp → Prop) (self : Nat) (p0 : Int32) (M : Hp) (hwp : wpMo_force self p0 M post) : Y p l e rm_Mo_force s m args below meth c D kCl (hTys κ) A 2 0 0 (MQ below (va_Qi post (hB D kCl (hTys κ) A) A) args s 0 0 A) M 0 [(0, .ref self), (1, .int p0)] [] := by
  obtain ⟨hx, hb, hml, hr, hown, hts, hlocks, hE, hA⟩ := id C
  have hK := hE.1
  intro H locs ls hM hS hl
  unfold wpMo_force at hwp
  refine lv_aload_n hx hb d_Mo_force_0 rfl (lv_at hl 0 rfl) ?_
  refine lv_iload_n hx hb d_Mo_force_1 rfl (lv_at hl 1 rfl) ?_
  refine lv_i2l hx hb d_Mo_force_2 rfl ?_
  refine lv_lconst (v := 0) hx hb d_Mo_force_3 (by decide) ?_
  refine lv_ldc2 (v := (10000000)) hx hb hown (hts _ kw_837) d_Mo_force_4 ?_
  refine h_calli hM hS hA (va_runS (As := [.long (p0.toInt64), .long (0 : Int64), .long (10000000 : Int64)]) (rest := [.ref self]) ⟨hx, hb, hml, hown, hts⟩ (metMo_isIn l D κ H.size (p0.toInt64) (0 : Int64) (10000000 : Int64) M _ hwp) (cwS 3 hts (gS kw_838 kw_839 kw_8 kw_840) rfl rfl rfl (by decide +kernel) ⟨(Nat.le_of_ble_eq_true rfl), (Nat.le_of_ble_eq_true rfl)⟩) (h_preS hE hM hS) rfl rfl hl.1 rfl (lv_room (Nat.le_of_ble_eq_true rfl)) d_Mo_force_7 ⟨(Nat.le_of_ble_eq_true rfl), (Nat.le_of_ble_eq_true rfl)⟩) (fun r56 M55 H locs hwp hM hS => ?_)
  refine lv_if_eq (tgt := 17) hx hb d_Mo_force_10 (by decide) (fun c57 => ?_) (fun c57 => ?_)
  · replace hwp := hwp.1 c57
    refine lv_iconst (v := 1) hx hb d_Mo_force_17 (by decide) ?_
    exact tMo_force_18 C post self p0 (1 : Int32) self M55 hwp H locs ls hM hS (lv_sub hl [0, 1] rfl)
  · replace hwp := hwp.2 c57
    refine lv_iconst (v := 0) hx hb d_Mo_force_13 (by decide) ?_
    refine lv_goto (tgt := 18) hx hb d_Mo_force_14 (by decide) ?_
    exact tMo_force_18 C post self p0 (0 : Int32) self M55 hwp H locs ls hM hS (lv_sub hl [0, 1] rfl)
set_option maxRecDepth 100000 in
set_option maxHeartbeats 4000000 in
theorem metMo_force (l : Launch) (D : va_G) (κ : Nat → ClassId) (sz : Nat) (self : Nat) (p0 : Int32) (M : Hp) (post : Int32 → Hp → Prop) (hwp : wpMo_force self p0 M post) : Met l y_Mo_force ws_Mo_force rm_Mo_force (hPc D kCl (hTys κ) M sz [.ref self, .int p0]) (va_Qi post (hB D kCl (hTys κ) (hAx M sz)) (hAx M sz)) 0 0 (hAx M sz) := by
  refine Met.ofW (cc := prog_8_method_13_code) (maxL := 2) (ret := (some .boolean)) (by decide +kernel) rfl ?_
  intro p e s m args below meth c s₁ B hml hv
  obtain ⟨rfl, hsz, hE, hM0⟩ := hv
  have hts : ∀ w ∈ WG, w.before _ s = true := fun w h => atoms_spec (ws := ws_Mo_force) B.pre w (List.mem_cons_of_mem _ h)
  subst hsz
  have C : Cx_Mo_force p s m _ meth c D κ (hAx M s.heap.size) := ⟨B.exec, B.bytes, hml, B.returns, findClass_of_methodNamed B.named, hts, B.notSynchronized, hE, fun q h => Or.inr h⟩
  have hl := lv_entry ([.ref self, .int p0]) (n := 2) (Nat.le_of_ble_eq_true rfl)
  rw [lg_entry_eq]
  generalize (lg_sl ([.ref self, .int p0]) ++ List.replicate (2 - (lg_sl ([.ref self, .int p0])).length) Slot.unset).toArray = ls at hl ⊢
  exact eMo_force C post self p0 M hwp s.heap [] ls (hM0.self (sz := s.heap.size)) va_S.rf hl
abbrev rm_Mo_margin : Room := { frames := 1, cells := 0, slots := 0, locals := 25 }
def Cx_Mo_margin (p : Program) (s : State) (m : MethodId) (args : Array Value) (meth : Method) (c : Code) (D : va_G) (κ : Nat → ClassId) (A : Nat → Prop) : Prop := p.tables.exec = Jvm.exec ∧ c.code = prog_8_method_14_code ∧ c.maxLocals = 2 ∧ meth.sig.returnType = (some .boolean) ∧ s.vm.findClass "BuckTablesModel" = some m.cls ∧ (∀ w ∈ WG, w.before args s = true) ∧ meth.locks = false ∧ hEnv D kCl (hTys κ) A s ∧ (∀ q, s.heap.size ≤ q → A q)
def wMo_margin_36 (post : Int32 → Hp → Prop)   (M : Hp) : Prop := (post (0 : Int32) M)
set_option maxRecDepth 100000 in
set_option maxHeartbeats 4000000 in
theorem tMo_margin_36 {p : Program} {l : Launch} {e : Env} {s : State} {m : MethodId} {args : Array Value} {below : List Frame} {meth : Method} {c : Code} {D : va_G} {κ : Nat → ClassId} {A : Nat → Prop} (C : Cx_Mo_margin p s m args meth c D κ A) (post : Int32 → Hp → Prop)   (M : Hp) (hwp : wMo_margin_36 post  M) : Y p l e rm_Mo_margin s m args below meth c D kCl (hTys κ) A 2 0 0 (MQ below (va_Qi post (hB D kCl (hTys κ) A) A) args s 0 0 A) M 36 [] [] := by
  obtain ⟨hx, hb, hml, hr, hown, hts, hlocks, hE, hA⟩ := id C
  have hK := hE.1
  intro H locs ls hM hS hl
  unfold wMo_margin_36 at hwp
  refine lv_iconst (v := 0) hx hb d_Mo_margin_36 (by decide) ?_
  exact W.zret (v := (0 : Int32)) hx hb hr (by decide) (fun t ht hW => ⟨⟨(0 : Int32), M, rfl, hwp, by show hw D kCl (hTys κ) A M t.heap; rw [ht]; exact hM⟩, hS.F ht⟩) hS.2.2 d_Mo_margin_37
def wMo_margin_18 (post : Int32 → Hp → Prop)  (x0 : Nat) (x1 : Int32) (y0 : Int32) (y1 : Nat) (M : Hp) : Prop := (∃ M1 : Hp, pF M y1 6 0 (.int y0) M1 ∧ (∃ v5 : Int32, fI M1 x0 6 0 v5 ∧ ((0 < v5 → (wMo_margin_36 post M1)) ∧ (¬ 0 < v5 → (∃ v10 : Int32, fI M1 x0 6 2 v10 ∧ ((x1 = v10 → (wMo_margin_36 post M1)) ∧ (¬ x1 = v10 → (∃ M15 : Hp, pF M1 x0 6 2 (.int x1) M15 ∧ (hob M15 x0 6 ∧ (wpMo_told x0 (1 : Int32) M15 (fun (r21 : Int32) (M19 : Hp) => ((r21 = 0 ∨ r21 = 1) ∧ post r21 M19))))))))))))
set_option maxRecDepth 100000 in
set_option maxHeartbeats 4000000 in
theorem tMo_margin_18 {p : Program} {l : Launch} {e : Env} {s : State} {m : MethodId} {args : Array Value} {below : List Frame} {meth : Method} {c : Code} {D : va_G} {κ : Nat → ClassId} {A : Nat → Prop} (C : Cx_Mo_margin p s m args meth c D κ A) (post : Int32 → Hp → Prop)  (x0 : Nat) (x1 : Int32) (y0 : Int32) (y1 : Nat) (M : Hp) (hwp : wMo_margin_18 post x0 x1 y0 y1 M) : Y p l e rm_Mo_margin s m args below meth c D kCl (hTys κ) A 2 0 0 (MQ below (va_Qi post (hB D kCl (hTys κ) A) A) args s 0 0 A) M 18 [(0, .ref x0), (1, .int x1)] [.int y0, .ref y1] := by
  obtain ⟨hx, hb, hml, hr, hown, hts, hlocks, hE, hA⟩ := id C
  have hK := hE.1
  intro H locs ls hM hS hl
  unfold wMo_margin_18 at hwp
  obtain ⟨M1, ⟨fs2, he3, hl4, eM1⟩, hwp⟩ := hwp
  refine h_put (C := "BuckTablesModel") (T := Tc6) (N := 36) (v := .int y0) (ty := .int) hx hb hts inc6 tyc6 tyc6_ok nmc6 hown hK hM hS he3 rfl 0 (by decide) (hts _ kw_720) (fun _ h9 => h9) rfl (by decide +kernel) rfl rfl hl4 d_Mo_margin_18 (fun H locs hM hS => ?_)
  rw [← eM1] at hM
  refine lv_aload_n hx hb d_Mo_margin_21 rfl (lv_at hl 0 rfl) ?_
  obtain ⟨v5, ⟨fs6, he7, hv8⟩, hwp⟩ := hwp
  refine h_get (C := "BuckTablesModel") (T := Tc6) (N := 36) hx hb hts inc6 hown hK hM he7 rfl 0 (by decide) (hts _ kw_720) (fun _ h9 => h9) hv8 d_Mo_margin_22 ?_
  refine lv_if_gt (tgt := 36) hx hb d_Mo_margin_25 (by decide) (fun c9 => ?_) (fun c9 => ?_)
  · replace hwp := hwp.1 c9
    exact tMo_margin_36 C post M1 hwp H locs ls hM hS (lv_sub hl [] rfl)
  · replace hwp := hwp.2 c9
    refine lv_iload_n hx hb d_Mo_margin_28 rfl (lv_at hl 1 rfl) ?_
    refine lv_aload_n hx hb d_Mo_margin_29 rfl (lv_at hl 0 rfl) ?_
    obtain ⟨v10, ⟨fs11, he12, hv13⟩, hwp⟩ := hwp
    refine h_get (C := "BuckTablesModel") (T := Tc6) (N := 36) hx hb hts inc6 hown hK hM he12 rfl 2 (by decide) (hts _ kw_722) (fun _ h9 => h9) hv13 d_Mo_margin_30 ?_
    refine lv_icmp_ne (tgt := 38) hx hb d_Mo_margin_33 (by decide) (fun c14 => ?_) (fun c14 => ?_)
    · replace hwp := hwp.2 c14
      refine lv_aload_n hx hb d_Mo_margin_38 rfl (lv_at hl 0 rfl) ?_
      refine lv_iload_n hx hb d_Mo_margin_39 rfl (lv_at hl 1 rfl) ?_
      obtain ⟨M15, ⟨fs16, he17, hl18, eM15⟩, hwp⟩ := hwp
      refine h_put (C := "BuckTablesModel") (T := Tc6) (N := 36) (v := .int x1) (ty := .int) hx hb hts inc6 tyc6 tyc6_ok nmc6 hown hK hM hS he17 rfl 2 (by decide) (hts _ kw_722) (fun _ h9 => h9) rfl (by decide +kernel) rfl rfl hl18 d_Mo_margin_40 (fun H locs hM hS => ?_)
      rw [← eM15] at hM
      refine lv_aload_n hx hb d_Mo_margin_43 rfl (lv_at hl 0 rfl) ?_
      refine lv_iconst (v := 1) hx hb d_Mo_margin_44 (by decide) ?_
      obtain ⟨ho20, hwp⟩ := hwp
      refine h_calli hM hS hA (va_runV (As := [.int (1 : Int32)]) (rest := []) ⟨hx, hb, hml, hown, hts⟩ (metMo_told l D κ H.size x0 (1 : Int32) M15 _ hwp) (cwV 1 hts (gV kw_842 kw_844 kp_23 kw_8 kw_845) rfl rfl rfl (by decide +kernel) ⟨(Nat.le_of_ble_eq_true rfl), (Nat.le_of_ble_eq_true rfl)⟩) (h_preV hE hM hS ho20 (r := ("BuckTablesModel", Tc6, 36)) rfl) rfl rfl hl.1 rfl (lv_room (Nat.le_of_ble_eq_true rfl)) d_Mo_margin_45 ⟨(Nat.le_of_ble_eq_true rfl), (Nat.le_of_ble_eq_true rfl)⟩) (fun r21 M19 H locs hwp hM hS => ?_)
      obtain ⟨hz22, hwp⟩ := hwp
      exact W.zret (v := r21) hx hb hr (by rcases hz22 with h | h <;> rw [h] <;> rfl) (fun t ht hW => ⟨⟨r21, M19, rfl, hwp, by show hw D kCl (hTys κ) A M19 t.heap; rw [ht]; exact hM⟩, hS.F ht⟩) hS.2.2 d_Mo_margin_48
    · replace hwp := hwp.1 c14
      exact tMo_margin_36 C post M1 hwp H locs ls hM hS (lv_sub hl [] rfl)
def wpMo_margin (self : Nat) (p0 : Int32) (M : Hp) (post : Int32 → Hp → Prop) : Prop := (wpMo_isIn (p0.toInt64) (0 : Int64) (100000 : Int64) M (fun (r24 : Int32) (M23 : Hp) => ((r24 = 0 → (wMo_margin_18 post self p0 (1 : Int32) self M23)) ∧ (¬ r24 = 0 → (wMo_margin_18 post self p0 (0 : Int32) self M23)))))
set_option maxRecDepth 100000 in
set_option maxHeartbeats 4000000 in
theorem eMo_margin {p : Program} {l : Launch} {e : Env} {s : State} {m : MethodId} {args : Array Value} {below : List Frame} {meth : Method} {c : Code} {D : va_G} {κ : Nat → ClassId} {A : Nat → Prop} (C : Cx_Mo_margin p s m args meth c D κ A) (post : Int32 → Hp → Prop) (self : Nat) (p0 : Int32) (M : Hp) (hwp : wpMo_margin self p0 M post) : Y p l e rm_Mo_margin s m args below meth c D kCl (hTys κ) A 2 0 0 (MQ below (va_Qi post (hB D kCl (hTys κ) A) A) args s 0 0 A) M 0 [(0, .ref self), (1, .int p0)] [] := by
  obtain ⟨hx, hb, hml, hr, hown, hts, hlocks, hE, hA⟩ := id C
  have hK := hE.1
  intro H locs ls hM hS hl
  unfold wpMo_margin at hwp
  refine lv_aload_n hx hb d_Mo_margin_0 rfl (lv_at hl 0 rfl) ?_
  refine lv_iload_n hx hb d_Mo_margin_1 rfl (lv_at hl 1 rfl) ?_
  refine lv_i2l hx hb d_Mo_margin_2 rfl ?_
  refine lv_lconst (v := 0) hx hb d_Mo_margin_3 (by decide) ?_
  refine lv_ldc2 (v := (100000)) hx hb hown (hts _ kw_841) d_Mo_margin_4 ?_
  refine h_calli hM hS hA (va_runS (As := [.long (p0.toInt64), .long (0 : Int64), .long (100000 : Int64)]) (rest := [.ref self]) ⟨hx, hb, hml, hown, hts⟩ (metMo_isIn l D κ H.size (p0.toInt64) (0 : Int64) (100000 : Int64) M _ hwp) (cwS 3 hts (gS kw_838 kw_839 kw_8 kw_840) rfl rfl rfl (by decide +kernel) ⟨(Nat.le_of_ble_eq_true rfl), (Nat.le_of_ble_eq_true rfl)⟩) (h_preS hE hM hS) rfl rfl hl.1 rfl (lv_room (Nat.le_of_ble_eq_true rfl)) d_Mo_margin_7 ⟨(Nat.le_of_ble_eq_true rfl), (Nat.le_of_ble_eq_true rfl)⟩) (fun r24 M23 H locs hwp hM hS => ?_)
  refine lv_if_eq (tgt := 17) hx hb d_Mo_margin_10 (by decide) (fun c25 => ?_) (fun c25 => ?_)
  · replace hwp := hwp.1 c25
    refine lv_iconst (v := 1) hx hb d_Mo_margin_17 (by decide) ?_
    exact tMo_margin_18 C post self p0 (1 : Int32) self M23 hwp H locs ls hM hS (lv_sub hl [0, 1] rfl)
  · replace hwp := hwp.2 c25
    refine lv_iconst (v := 0) hx hb d_Mo_margin_13 (by decide) ?_
    refine lv_goto (tgt := 18) hx hb d_Mo_margin_14 (by decide) ?_
    exact tMo_margin_18 C post self p0 (0 : Int32) self M23 hwp H locs ls hM hS (lv_sub hl [0, 1] rfl)
set_option maxRecDepth 100000 in
set_option maxHeartbeats 4000000 in
theorem metMo_margin (l : Launch) (D : va_G) (κ : Nat → ClassId) (sz : Nat) (self : Nat) (p0 : Int32) (M : Hp) (post : Int32 → Hp → Prop) (hwp : wpMo_margin self p0 M post) : Met l y_Mo_margin ws_Mo_margin rm_Mo_margin (hPc D kCl (hTys κ) M sz [.ref self, .int p0]) (va_Qi post (hB D kCl (hTys κ) (hAx M sz)) (hAx M sz)) 0 0 (hAx M sz) := by
  refine Met.ofW (cc := prog_8_method_14_code) (maxL := 2) (ret := (some .boolean)) (by decide +kernel) rfl ?_
  intro p e s m args below meth c s₁ B hml hv
  obtain ⟨rfl, hsz, hE, hM0⟩ := hv
  have hts : ∀ w ∈ WG, w.before _ s = true := fun w h => atoms_spec (ws := ws_Mo_margin) B.pre w (List.mem_cons_of_mem _ h)
  subst hsz
  have C : Cx_Mo_margin p s m _ meth c D κ (hAx M s.heap.size) := ⟨B.exec, B.bytes, hml, B.returns, findClass_of_methodNamed B.named, hts, B.notSynchronized, hE, fun q h => Or.inr h⟩
  have hl := lv_entry ([.ref self, .int p0]) (n := 2) (Nat.le_of_ble_eq_true rfl)
  rw [lg_entry_eq]
  generalize (lg_sl ([.ref self, .int p0]) ++ List.replicate (2 - (lg_sl ([.ref self, .int p0])).length) Slot.unset).toArray = ls at hl ⊢
  exact eMo_margin C post self p0 M hwp s.heap [] ls (hM0.self (sz := s.heap.size)) va_S.rf hl
abbrev rm_Mo_saw : Room := { frames := 1, cells := 0, slots := 0, locals := 25 }
def Cx_Mo_saw (p : Program) (s : State) (m : MethodId) (args : Array Value) (meth : Method) (c : Code) (D : va_G) (κ : Nat → ClassId) (A : Nat → Prop) : Prop := p.tables.exec = Jvm.exec ∧ c.code = prog_8_method_15_code ∧ c.maxLocals = 2 ∧ meth.sig.returnType = (some .boolean) ∧ s.vm.findClass "BuckTablesModel" = some m.cls ∧ (∀ w ∈ WG, w.before args s = true) ∧ meth.locks = false ∧ hEnv D kCl (hTys κ) A s ∧ (∀ q, s.heap.size ≤ q → A q)
def wMo_saw_36 (post : Int32 → Hp → Prop)   (M : Hp) : Prop := (post (0 : Int32) M)
set_option maxRecDepth 100000 in
set_option maxHeartbeats 4000000 in
theorem tMo_saw_36 {p : Program} {l : Launch} {e : Env} {s : State} {m : MethodId} {args : Array Value} {below : List Frame} {meth : Method} {c : Code} {D : va_G} {κ : Nat → ClassId} {A : Nat → Prop} (C : Cx_Mo_saw p s m args meth c D κ A) (post : Int32 → Hp → Prop)   (M : Hp) (hwp : wMo_saw_36 post  M) : Y p l e rm_Mo_saw s m args below meth c D kCl (hTys κ) A 2 0 0 (MQ below (va_Qi post (hB D kCl (hTys κ) A) A) args s 0 0 A) M 36 [] [] := by
  obtain ⟨hx, hb, hml, hr, hown, hts, hlocks, hE, hA⟩ := id C
  have hK := hE.1
  intro H locs ls hM hS hl
  unfold wMo_saw_36 at hwp
  refine lv_iconst (v := 0) hx hb d_Mo_saw_36 (by decide) ?_
  exact W.zret (v := (0 : Int32)) hx hb hr (by decide) (fun t ht hW => ⟨⟨(0 : Int32), M, rfl, hwp, by show hw D kCl (hTys κ) A M t.heap; rw [ht]; exact hM⟩, hS.F ht⟩) hS.2.2 d_Mo_saw_37
def wMo_saw_18 (post : Int32 → Hp → Prop)  (x0 : Nat) (x1 : Int32) (y0 : Int32) (y1 : Nat) (M : Hp) : Prop := (∃ M1 : Hp, pF M y1 6 0 (.int y0) M1 ∧ (∃ v5 : Int32, fI M1 x0 6 0 v5 ∧ ((0 < v5 → (wMo_saw_36 post M1)) ∧ (¬ 0 < v5 → (∃ v10 : Int32, fI M1 x0 6 3 v10 ∧ ((x1 = v10 → (wMo_saw_36 post M1)) ∧ (¬ x1 = v10 → (∃ M15 : Hp, pF M1 x0 6 3 (.int x1) M15 ∧ (hob M15 x0 6 ∧ (wpMo_told x0 (1 : Int32) M15 (fun (r21 : Int32) (M19 : Hp) => ((r21 = 0 ∨ r21 = 1) ∧ post r21 M19))))))))))))
set_option maxRecDepth 100000 in
set_option maxHeartbeats 4000000 in
theorem tMo_saw_18 {p : Program} {l : Launch} {e : Env} {s : State} {m : MethodId} {args : Array Value} {below : List Frame} {meth : Method} {c : Code} {D : va_G} {κ : Nat → ClassId} {A : Nat → Prop} (C : Cx_Mo_saw p s m args meth c D κ A) (post : Int32 → Hp → Prop)  (x0 : Nat) (x1 : Int32) (y0 : Int32) (y1 : Nat) (M : Hp) (hwp : wMo_saw_18 post x0 x1 y0 y1 M) : Y p l e rm_Mo_saw s m args below meth c D kCl (hTys κ) A 2 0 0 (MQ below (va_Qi post (hB D kCl (hTys κ) A) A) args s 0 0 A) M 18 [(0, .ref x0), (1, .int x1)] [.int y0, .ref y1] := by
  obtain ⟨hx, hb, hml, hr, hown, hts, hlocks, hE, hA⟩ := id C
  have hK := hE.1
  intro H locs ls hM hS hl
  unfold wMo_saw_18 at hwp
  obtain ⟨M1, ⟨fs2, he3, hl4, eM1⟩, hwp⟩ := hwp
  refine h_put (C := "BuckTablesModel") (T := Tc6) (N := 36) (v := .int y0) (ty := .int) hx hb hts inc6 tyc6 tyc6_ok nmc6 hown hK hM hS he3 rfl 0 (by decide) (hts _ kw_720) (fun _ h9 => h9) rfl (by decide +kernel) rfl rfl hl4 d_Mo_saw_18 (fun H locs hM hS => ?_)
  rw [← eM1] at hM
  refine lv_aload_n hx hb d_Mo_saw_21 rfl (lv_at hl 0 rfl) ?_
  obtain ⟨v5, ⟨fs6, he7, hv8⟩, hwp⟩ := hwp
  refine h_get (C := "BuckTablesModel") (T := Tc6) (N := 36) hx hb hts inc6 hown hK hM he7 rfl 0 (by decide) (hts _ kw_720) (fun _ h9 => h9) hv8 d_Mo_saw_22 ?_
  refine lv_if_gt (tgt := 36) hx hb d_Mo_saw_25 (by decide) (fun c9 => ?_) (fun c9 => ?_)
  · replace hwp := hwp.1 c9
    exact tMo_saw_36 C post M1 hwp H locs ls hM hS (lv_sub hl [] rfl)
  · replace hwp := hwp.2 c9
    refine lv_iload_n hx hb d_Mo_saw_28 rfl (lv_at hl 1 rfl) ?_
    refine lv_aload_n hx hb d_Mo_saw_29 rfl (lv_at hl 0 rfl) ?_
    obtain ⟨v10, ⟨fs11, he12, hv13⟩, hwp⟩ := hwp
    refine h_get (C := "BuckTablesModel") (T := Tc6) (N := 36) hx hb hts inc6 hown hK hM he12 rfl 3 (by decide) (hts _ kw_723) (fun _ h9 => h9) hv13 d_Mo_saw_30 ?_
    refine lv_icmp_ne (tgt := 38) hx hb d_Mo_saw_33 (by decide) (fun c14 => ?_) (fun c14 => ?_)
    · replace hwp := hwp.2 c14
      refine lv_aload_n hx hb d_Mo_saw_38 rfl (lv_at hl 0 rfl) ?_
      refine lv_iload_n hx hb d_Mo_saw_39 rfl (lv_at hl 1 rfl) ?_
      obtain ⟨M15, ⟨fs16, he17, hl18, eM15⟩, hwp⟩ := hwp
      refine h_put (C := "BuckTablesModel") (T := Tc6) (N := 36) (v := .int x1) (ty := .int) hx hb hts inc6 tyc6 tyc6_ok nmc6 hown hK hM hS he17 rfl 3 (by decide) (hts _ kw_723) (fun _ h9 => h9) rfl (by decide +kernel) rfl rfl hl18 d_Mo_saw_40 (fun H locs hM hS => ?_)
      rw [← eM15] at hM
      refine lv_aload_n hx hb d_Mo_saw_43 rfl (lv_at hl 0 rfl) ?_
      refine lv_iconst (v := 1) hx hb d_Mo_saw_44 (by decide) ?_
      obtain ⟨ho20, hwp⟩ := hwp
      refine h_calli hM hS hA (va_runV (As := [.int (1 : Int32)]) (rest := []) ⟨hx, hb, hml, hown, hts⟩ (metMo_told l D κ H.size x0 (1 : Int32) M15 _ hwp) (cwV 1 hts (gV kw_842 kw_844 kp_23 kw_8 kw_845) rfl rfl rfl (by decide +kernel) ⟨(Nat.le_of_ble_eq_true rfl), (Nat.le_of_ble_eq_true rfl)⟩) (h_preV hE hM hS ho20 (r := ("BuckTablesModel", Tc6, 36)) rfl) rfl rfl hl.1 rfl (lv_room (Nat.le_of_ble_eq_true rfl)) d_Mo_saw_45 ⟨(Nat.le_of_ble_eq_true rfl), (Nat.le_of_ble_eq_true rfl)⟩) (fun r21 M19 H locs hwp hM hS => ?_)
      obtain ⟨hz22, hwp⟩ := hwp
      exact W.zret (v := r21) hx hb hr (by rcases hz22 with h | h <;> rw [h] <;> rfl) (fun t ht hW => ⟨⟨r21, M19, rfl, hwp, by show hw D kCl (hTys κ) A M19 t.heap; rw [ht]; exact hM⟩, hS.F ht⟩) hS.2.2 d_Mo_saw_48
    · replace hwp := hwp.1 c14
      exact tMo_saw_36 C post M1 hwp H locs ls hM hS (lv_sub hl [] rfl)
def wpMo_saw (self : Nat) (p0 : Int32) (M : Hp) (post : Int32 → Hp → Prop) : Prop := (wpMo_isIn (p0.toInt64) (0 : Int64) (3 : Int64) M (fun (r24 : Int32) (M23 : Hp) => ((r24 = 0 → (wMo_saw_18 post self p0 (1 : Int32) self M23)) ∧ (¬ r24 = 0 → (wMo_saw_18 post self p0 (0 : Int32) self M23)))))
set_option maxRecDepth 100000 in
set_option maxHeartbeats 4000000 in
theorem eMo_saw {p : Program} {l : Launch} {e : Env} {s : State} {m : MethodId} {args : Array Value} {below : List Frame} {meth : Method} {c : Code} {D : va_G} {κ : Nat → ClassId} {A : Nat → Prop} (C : Cx_Mo_saw p s m args meth c D κ A) (post : Int32 → Hp → Prop) (self : Nat) (p0 : Int32) (M : Hp) (hwp : wpMo_saw self p0 M post) : Y p l e rm_Mo_saw s m args below meth c D kCl (hTys κ) A 2 0 0 (MQ below (va_Qi post (hB D kCl (hTys κ) A) A) args s 0 0 A) M 0 [(0, .ref self), (1, .int p0)] [] := by
  obtain ⟨hx, hb, hml, hr, hown, hts, hlocks, hE, hA⟩ := id C
  have hK := hE.1
  intro H locs ls hM hS hl
  unfold wpMo_saw at hwp
  refine lv_aload_n hx hb d_Mo_saw_0 rfl (lv_at hl 0 rfl) ?_
  refine lv_iload_n hx hb d_Mo_saw_1 rfl (lv_at hl 1 rfl) ?_
  refine lv_i2l hx hb d_Mo_saw_2 rfl ?_
  refine lv_lconst (v := 0) hx hb d_Mo_saw_3 (by decide) ?_
  refine lv_ldc2 (v := (3)) hx hb hown (hts _ kw_887) d_Mo_saw_4 ?_
  refine h_calli hM hS hA (va_runS (As := [.long (p0.toInt64), .long (0 : Int64), .long (3 : Int64)]) (rest := [.ref self]) ⟨hx, hb, hml, hown, hts⟩ (metMo_isIn l D κ H.size (p0.toInt64) (0 : Int64) (3 : Int64) M _ hwp) (cwS 3 hts (gS kw_838 kw_839 kw_8 kw_840) rfl rfl rfl (by decide +kernel) ⟨(Nat.le_of_ble_eq_true rfl), (Nat.le_of_ble_eq_true rfl)⟩) (h_preS hE hM hS) rfl rfl hl.1 rfl (lv_room (Nat.le_of_ble_eq_true rfl)) d_Mo_saw_7 ⟨(Nat.le_of_ble_eq_true rfl), (Nat.le_of_ble_eq_true rfl)⟩) (fun r24 M23 H locs hwp hM hS => ?_)
  refine lv_if_eq (tgt := 17) hx hb d_Mo_saw_10 (by decide) (fun c25 => ?_) (fun c25 => ?_)
  · replace hwp := hwp.1 c25
    refine lv_iconst (v := 1) hx hb d_Mo_saw_17 (by decide) ?_
    exact tMo_saw_18 C post self p0 (1 : Int32) self M23 hwp H locs ls hM hS (lv_sub hl [0, 1] rfl)
  · replace hwp := hwp.2 c25
    refine lv_iconst (v := 0) hx hb d_Mo_saw_13 (by decide) ?_
    refine lv_goto (tgt := 18) hx hb d_Mo_saw_14 (by decide) ?_
    exact tMo_saw_18 C post self p0 (0 : Int32) self M23 hwp H locs ls hM hS (lv_sub hl [0, 1] rfl)
set_option maxRecDepth 100000 in
set_option maxHeartbeats 4000000 in
theorem metMo_saw (l : Launch) (D : va_G) (κ : Nat → ClassId) (sz : Nat) (self : Nat) (p0 : Int32) (M : Hp) (post : Int32 → Hp → Prop) (hwp : wpMo_saw self p0 M post) : Met l y_Mo_saw ws_Mo_saw rm_Mo_saw (hPc D kCl (hTys κ) M sz [.ref self, .int p0]) (va_Qi post (hB D kCl (hTys κ) (hAx M sz)) (hAx M sz)) 0 0 (hAx M sz) := by
  refine Met.ofW (cc := prog_8_method_15_code) (maxL := 2) (ret := (some .boolean)) (by decide +kernel) rfl ?_
  intro p e s m args below meth c s₁ B hml hv
  obtain ⟨rfl, hsz, hE, hM0⟩ := hv
  have hts : ∀ w ∈ WG, w.before _ s = true := fun w h => atoms_spec (ws := ws_Mo_saw) B.pre w (List.mem_cons_of_mem _ h)
  subst hsz
  have C : Cx_Mo_saw p s m _ meth c D κ (hAx M s.heap.size) := ⟨B.exec, B.bytes, hml, B.returns, findClass_of_methodNamed B.named, hts, B.notSynchronized, hE, fun q h => Or.inr h⟩
  have hl := lv_entry ([.ref self, .int p0]) (n := 2) (Nat.le_of_ble_eq_true rfl)
  rw [lg_entry_eq]
  generalize (lg_sl ([.ref self, .int p0]) ++ List.replicate (2 - (lg_sl ([.ref self, .int p0])).length) Slot.unset).toArray = ls at hl ⊢
  exact eMo_saw C post self p0 M hwp s.heap [] ls (hM0.self (sz := s.heap.size)) va_S.rf hl
abbrev rm_Mo_limit : Room := { frames := 1, cells := 0, slots := 0, locals := 25 }
def Cx_Mo_limit (p : Program) (s : State) (m : MethodId) (args : Array Value) (meth : Method) (c : Code) (D : va_G) (κ : Nat → ClassId) (A : Nat → Prop) : Prop := p.tables.exec = Jvm.exec ∧ c.code = prog_8_method_16_code ∧ c.maxLocals = 4 ∧ meth.sig.returnType = (some .boolean) ∧ s.vm.findClass "BuckTablesModel" = some m.cls ∧ (∀ w ∈ WG, w.before args s = true) ∧ meth.locks = false ∧ hEnv D kCl (hTys κ) A s ∧ (∀ q, s.heap.size ≤ q → A q)
def wMo_limit_48 (post : Int32 → Hp → Prop)   (M : Hp) : Prop := (post (0 : Int32) M)
set_option maxRecDepth 100000 in
set_option maxHeartbeats 4000000 in
theorem tMo_limit_48 {p : Program} {l : Launch} {e : Env} {s : State} {m : MethodId} {args : Array Value} {below : List Frame} {meth : Method} {c : Code} {D : va_G} {κ : Nat → ClassId} {A : Nat → Prop} (C : Cx_Mo_limit p s m args meth c D κ A) (post : Int32 → Hp → Prop)   (M : Hp) (hwp : wMo_limit_48 post  M) : Y p l e rm_Mo_limit s m args below meth c D kCl (hTys κ) A 4 0 0 (MQ below (va_Qi post (hB D kCl (hTys κ) A) A) args s 0 0 A) M 48 [] [] := by
  obtain ⟨hx, hb, hml, hr, hown, hts, hlocks, hE, hA⟩ := id C
  have hK := hE.1
  intro H locs ls hM hS hl
  unfold wMo_limit_48 at hwp
  refine lv_iconst (v := 0) hx hb d_Mo_limit_48 (by decide) ?_
  exact W.zret (v := (0 : Int32)) hx hb hr (by decide) (fun t ht hW => ⟨⟨(0 : Int32), M, rfl, hwp, by show hw D kCl (hTys κ) A M t.heap; rw [ht]; exact hM⟩, hS.F ht⟩) hS.2.2 d_Mo_limit_49
def wMo_limit_27 (post : Int32 → Hp → Prop)  (x0 : Nat) (x1 : Int32) (x2 : Int64) (y0 : Int32) (y1 : Nat) (M : Hp) : Prop := (∃ M1 : Hp, pF M y1 6 0 (.int y0) M1 ∧ (∃ v5 : Int32, fI M1 x0 6 0 v5 ∧ ((0 < v5 → (wMo_limit_48 post M1)) ∧ (¬ 0 < v5 → (∃ a10 : Nat, fA M1 x0 6 21 a10 ∧ (∃ v14 : Int64, aJ M1 a10 x1 v14 ∧ ((v14 = x2 → (wMo_limit_48 post M1)) ∧ (¬ v14 = x2 → (∃ a20 : Nat, fA M1 x0 6 21 a20 ∧ (∃ M28 : Hp, sJ M1 a20 x1 x2 M28 ∧ (hob M28 x0 6 ∧ (wpMo_told x0 (1 : Int32) M28 (fun (r31 : Int32) (M29 : Hp) => ((r31 = 0 ∨ r31 = 1) ∧ post r31 M29))))))))))))))
set_option maxRecDepth 100000 in
set_option maxHeartbeats 4000000 in
theorem tMo_limit_27 {p : Program} {l : Launch} {e : Env} {s : State} {m : MethodId} {args : Array Value} {below : List Frame} {meth : Method} {c : Code} {D : va_G} {κ : Nat → ClassId} {A : Nat → Prop} (C : Cx_Mo_limit p s m args meth c D κ A) (post : Int32 → Hp → Prop)  (x0 : Nat) (x1 : Int32) (x2 : Int64) (y0 : Int32) (y1 : Nat) (M : Hp) (hwp : wMo_limit_27 post x0 x1 x2 y0 y1 M) : Y p l e rm_Mo_limit s m args below meth c D kCl (hTys κ) A 4 0 0 (MQ below (va_Qi post (hB D kCl (hTys κ) A) A) args s 0 0 A) M 27 [(0, .ref x0), (1, .int x1), (2, .long x2)] [.int y0, .ref y1] := by
  obtain ⟨hx, hb, hml, hr, hown, hts, hlocks, hE, hA⟩ := id C
  have hK := hE.1
  intro H locs ls hM hS hl
  unfold wMo_limit_27 at hwp
  obtain ⟨M1, ⟨fs2, he3, hl4, eM1⟩, hwp⟩ := hwp
  refine h_put (C := "BuckTablesModel") (T := Tc6) (N := 36) (v := .int y0) (ty := .int) hx hb hts inc6 tyc6 tyc6_ok nmc6 hown hK hM hS he3 rfl 0 (by decide) (hts _ kw_720) (fun _ h9 => h9) rfl (by decide +kernel) rfl rfl hl4 d_Mo_limit_27 (fun H locs hM hS => ?_)
  rw [← eM1] at hM
  refine lv_aload_n hx hb d_Mo_limit_30 rfl (lv_at hl 0 rfl) ?_
  obtain ⟨v5, ⟨fs6, he7, hv8⟩, hwp⟩ := hwp
  refine h_get (C := "BuckTablesModel") (T := Tc6) (N := 36) hx hb hts inc6 hown hK hM he7 rfl 0 (by decide) (hts _ kw_720) (fun _ h9 => h9) hv8 d_Mo_limit_31 ?_
  refine lv_if_gt (tgt := 48) hx hb d_Mo_limit_34 (by decide) (fun c9 => ?_) (fun c9 => ?_)
  · replace hwp := hwp.1 c9
    exact tMo_limit_48 C post M1 hwp H locs ls hM hS (lv_sub hl [] rfl)
  · replace hwp := hwp.2 c9
    refine lv_aload_n hx hb d_Mo_limit_37 rfl (lv_at hl 0 rfl) ?_
    obtain ⟨a10, ⟨fs11, he12, hv13⟩, hwp⟩ := hwp
    refine h_get (C := "BuckTablesModel") (T := Tc6) (N := 36) hx hb hts inc6 hown hK hM he12 rfl 21 (by decide) (hts _ kw_741) (fun _ h9 => h9) hv13 d_Mo_limit_38 ?_
    refine lv_iload_n hx hb d_Mo_limit_41 rfl (lv_at hl 1 rfl) ?_
    obtain ⟨v14, ⟨n15, f16, ha17, hi18, ev14⟩, hwp⟩ := hwp
    refine h_lald hx hb hK hM ha17 rfl hi18 d_Mo_limit_42 ?_
    rw [← ev14]
    refine lv_lload_n hx hb d_Mo_limit_43 rfl (lv_at hl 2 rfl) ?_
    refine W.lcmp hx hb d_Mo_limit_44 ?_
    refine lv_if_ne (tgt := 50) hx hb d_Mo_limit_45 (by decide) (fun c19 => ?_) (fun c19 => ?_)
    · replace c19 := fun h9 => c19 ((lc_eq _ _).mpr h9)
      replace hwp := hwp.2 c19
      refine lv_aload_n hx hb d_Mo_limit_50 rfl (lv_at hl 0 rfl) ?_
      obtain ⟨a20, ⟨fs21, he22, hv23⟩, hwp⟩ := hwp
      refine h_get (C := "BuckTablesModel") (T := Tc6) (N := 36) hx hb hts inc6 hown hK hM he22 rfl 21 (by decide) (hts _ kw_741) (fun _ h9 => h9) hv23 d_Mo_limit_51 ?_
      refine lv_iload_n hx hb d_Mo_limit_54 rfl (lv_at hl 1 rfl) ?_
      refine lv_lload_n hx hb d_Mo_limit_55 rfl (lv_at hl 2 rfl) ?_
      obtain ⟨M28, ⟨n24, f25, ha26, hi27, eM28⟩, hwp⟩ := hwp
      refine h_last hx hb hK hM hS ha26 rfl hi27 d_Mo_limit_56 (fun H locs hM hS => ?_)
      rw [← eM28] at hM
      refine lv_aload_n hx hb d_Mo_limit_57 rfl (lv_at hl 0 rfl) ?_
      refine lv_iconst (v := 1) hx hb d_Mo_limit_58 (by decide) ?_
      obtain ⟨ho30, hwp⟩ := hwp
      refine h_calli hM hS hA (va_runV (As := [.int (1 : Int32)]) (rest := []) ⟨hx, hb, hml, hown, hts⟩ (metMo_told l D κ H.size x0 (1 : Int32) M28 _ hwp) (cwV 1 hts (gV kw_842 kw_844 kp_23 kw_8 kw_845) rfl rfl rfl (by decide +kernel) ⟨(Nat.le_of_ble_eq_true rfl), (Nat.le_of_ble_eq_true rfl)⟩) (h_preV hE hM hS ho30 (r := ("BuckTablesModel", Tc6, 36)) rfl) rfl rfl hl.1 rfl (lv_room (Nat.le_of_ble_eq_true rfl)) d_Mo_limit_59 ⟨(Nat.le_of_ble_eq_true rfl), (Nat.le_of_ble_eq_true rfl)⟩) (fun r31 M29 H locs hwp hM hS => ?_)
      obtain ⟨hz32, hwp⟩ := hwp
      exact W.zret (v := r31) hx hb hr (by rcases hz32 with h | h <;> rw [h] <;> rfl) (fun t ht hW => ⟨⟨r31, M29, rfl, hwp, by show hw D kCl (hTys κ) A M29 t.heap; rw [ht]; exact hM⟩, hS.F ht⟩) hS.2.2 d_Mo_limit_62
    · replace c19 := (lc_eq _ _).mp c19
      replace hwp := hwp.1 c19
      exact tMo_limit_48 C post M1 hwp H locs ls hM hS (lv_sub hl [] rfl)
def wpMo_limit (self : Nat) (p0 : Int32) (p1 : Int64) (M : Hp) (post : Int32 → Hp → Prop) : Prop := (hob M self 6 ∧ (wpMo_noProduct self p0 M (fun (r35 : Int32) (M33 : Hp) => ((r35 = 0 → (wpMo_isIn p1 (0 : Int64) (1000 : Int64) M33 (fun (r38 : Int32) (M37 : Hp) => ((r38 = 0 → (wMo_limit_27 post self p0 p1 (2 : Int32) self M37)) ∧ (¬ r38 = 0 → (wMo_limit_27 post self p0 p1 (0 : Int32) self M37)))))) ∧ (¬ r35 = 0 → (post (0 : Int32) M33))))))
set_option maxRecDepth 100000 in
set_option maxHeartbeats 4000000 in
theorem eMo_limit {p : Program} {l : Launch} {e : Env} {s : State} {m : MethodId} {args : Array Value} {below : List Frame} {meth : Method} {c : Code} {D : va_G} {κ : Nat → ClassId} {A : Nat → Prop} (C : Cx_Mo_limit p s m args meth c D κ A) (post : Int32 → Hp → Prop) (self : Nat) (p0 : Int32) (p1 : Int64) (M : Hp) (hwp : wpMo_limit self p0 p1 M post) : Y p l e rm_Mo_limit s m args below meth c D kCl (hTys κ) A 4 0 0 (MQ below (va_Qi post (hB D kCl (hTys κ) A) A) args s 0 0 A) M 0 [(0, .ref self), (1, .int p0), (2, .long p1)] [] := by
  obtain ⟨hx, hb, hml, hr, hown, hts, hlocks, hE, hA⟩ := id C
  have hK := hE.1
  intro H locs ls hM hS hl
  unfold wpMo_limit at hwp
  refine lv_aload_n hx hb d_Mo_limit_0 rfl (lv_at hl 0 rfl) ?_
  refine lv_iload_n hx hb d_Mo_limit_1 rfl (lv_at hl 1 rfl) ?_
  obtain ⟨ho34, hwp⟩ := hwp
  refine h_calli hM hS hA (va_runV (As := [.int p0]) (rest := []) ⟨hx, hb, hml, hown, hts⟩ (metMo_noProduct l D κ H.size self p0 M _ hwp) (cwV 1 hts (gV kw_863 kw_865 kp_24 kw_8 kw_866) rfl rfl rfl (by decide +kernel) ⟨(Nat.le_of_ble_eq_true rfl), (Nat.le_of_ble_eq_true rfl)⟩) (h_preV hE hM hS ho34 (r := ("BuckTablesModel", Tc6, 36)) rfl) rfl rfl hl.1 rfl (lv_room (Nat.le_of_ble_eq_true rfl)) d_Mo_limit_2 ⟨(Nat.le_of_ble_eq_true rfl), (Nat.le_of_ble_eq_true rfl)⟩) (fun r35 M33 H locs hwp hM hS => ?_)
  refine lv_if_eq (tgt := 10) hx hb d_Mo_limit_5 (by decide) (fun c36 => ?_) (fun c36 => ?_)
  · replace hwp := hwp.1 c36
    refine lv_aload_n hx hb d_Mo_limit_10 rfl (lv_at hl 0 rfl) ?_
    refine lv_lload_n hx hb d_Mo_limit_11 rfl (lv_at hl 2 rfl) ?_
    refine lv_lconst (v := 0) hx hb d_Mo_limit_12 (by decide) ?_
    refine lv_ldc2 (v := (1000)) hx hb hown (hts _ kw_892) d_Mo_limit_13 ?_
    refine h_calli hM hS hA (va_runS (As := [.long p1, .long (0 : Int64), .long (1000 : Int64)]) (rest := [.ref self]) ⟨hx, hb, hml, hown, hts⟩ (metMo_isIn l D κ H.size p1 (0 : Int64) (1000 : Int64) M33 _ hwp) (cwS 3 hts (gS kw_838 kw_839 kw_8 kw_840) rfl rfl rfl (by decide +kernel) ⟨(Nat.le_of_ble_eq_true rfl), (Nat.le_of_ble_eq_true rfl)⟩) (h_preS hE hM hS) rfl rfl hl.1 rfl (lv_room (Nat.le_of_ble_eq_true rfl)) d_Mo_limit_16 ⟨(Nat.le_of_ble_eq_true rfl), (Nat.le_of_ble_eq_true rfl)⟩) (fun r38 M37 H locs hwp hM hS => ?_)
    refine lv_if_eq (tgt := 26) hx hb d_Mo_limit_19 (by decide) (fun c39 => ?_) (fun c39 => ?_)
    · replace hwp := hwp.1 c39
      refine lv_iconst (v := 2) hx hb d_Mo_limit_26 (by decide) ?_
      exact tMo_limit_27 C post self p0 p1 (2 : Int32) self M37 hwp H locs ls hM hS (lv_sub hl [0, 1, 2] rfl)
    · replace hwp := hwp.2 c39
      refine lv_iconst (v := 0) hx hb d_Mo_limit_22 (by decide) ?_
      refine lv_goto (tgt := 27) hx hb d_Mo_limit_23 (by decide) ?_
      exact tMo_limit_27 C post self p0 p1 (0 : Int32) self M37 hwp H locs ls hM hS (lv_sub hl [0, 1, 2] rfl)
  · replace hwp := hwp.2 c36
    refine lv_iconst (v := 0) hx hb d_Mo_limit_8 (by decide) ?_
    exact W.zret (v := (0 : Int32)) hx hb hr (by decide) (fun t ht hW => ⟨⟨(0 : Int32), M33, rfl, hwp, by show hw D kCl (hTys κ) A M33 t.heap; rw [ht]; exact hM⟩, hS.F ht⟩) hS.2.2 d_Mo_limit_9
set_option maxRecDepth 100000 in
set_option maxHeartbeats 4000000 in
theorem metMo_limit (l : Launch) (D : va_G) (κ : Nat → ClassId) (sz : Nat) (self : Nat) (p0 : Int32) (p1 : Int64) (M : Hp) (post : Int32 → Hp → Prop) (hwp : wpMo_limit self p0 p1 M post) : Met l y_Mo_limit ws_Mo_limit rm_Mo_limit (hPc D kCl (hTys κ) M sz [.ref self, .int p0, .long p1]) (va_Qi post (hB D kCl (hTys κ) (hAx M sz)) (hAx M sz)) 0 0 (hAx M sz) := by
  refine Met.ofW (cc := prog_8_method_16_code) (maxL := 4) (ret := (some .boolean)) (by decide +kernel) rfl ?_
  intro p e s m args below meth c s₁ B hml hv
  obtain ⟨rfl, hsz, hE, hM0⟩ := hv
  have hts : ∀ w ∈ WG, w.before _ s = true := fun w h => atoms_spec (ws := ws_Mo_limit) B.pre w (List.mem_cons_of_mem _ h)
  subst hsz
  have C : Cx_Mo_limit p s m _ meth c D κ (hAx M s.heap.size) := ⟨B.exec, B.bytes, hml, B.returns, findClass_of_methodNamed B.named, hts, B.notSynchronized, hE, fun q h => Or.inr h⟩
  have hl := lv_entry ([.ref self, .int p0, .long p1]) (n := 4) (Nat.le_of_ble_eq_true rfl)
  rw [lg_entry_eq]
  generalize (lg_sl ([.ref self, .int p0, .long p1]) ++ List.replicate (4 - (lg_sl ([.ref self, .int p0, .long p1])).length) Slot.unset).toArray = ls at hl ⊢
  exact eMo_limit C post self p0 p1 M hwp s.heap [] ls (hM0.self (sz := s.heap.size)) va_S.rf hl
