abbrev rm_Mo_greatest : Room := { frames := 2, cells := 0, slots := 0, locals := 48 }
def Cx_Mo_greatest (p : Program) (s : State) (m : MethodId) (args : Array Value) (meth : Method) (c : Code) (D : va_G) (κ : Nat → ClassId) (A : Nat → Prop) : Prop := p.tables.exec = Jvm.exec ∧ c.code = prog_8_method_48_code ∧ c.maxLocals = 1 ∧ meth.sig.returnType = (some .boolean) ∧ s.vm.findClass "BuckTablesModel" = some m.cls ∧ (∀ w ∈ WG, w.before args s = true) ∧ meth.locks = false ∧ hEnv D kCl (hTys κ) A s ∧ (∀ q, s.heap.size ≤ q → A q)
def wMo_greatest_24 (post : Int32 → Hp → Prop)   (y0 : Int32) (M : Hp) : Prop := ((y0 = 0 ∨ y0 = 1) ∧ post y0 M)
set_option maxRecDepth 100000 in
set_option maxHeartbeats 4000000 in
theorem tMo_greatest_24 {p : Program} {l : Launch} {e : Env} {s : State} {m : MethodId} {args : Array Value} {below : List Frame} {meth : Method} {c : Code} {D : va_G} {κ : Nat → ClassId} {A : Nat → Prop} (C : Cx_Mo_greatest p s m args meth c D κ A) (post : Int32 → Hp → Prop)   (y0 : Int32) (M : Hp) (hwp : wMo_greatest_24 post y0 M) : Y p l e rm_Mo_greatest s m args below meth c D kCl (hTys κ) A 1 0 0 (MQ below (va_Qi post (hB D kCl (hTys κ) A) A) args s 0 0 A) M 24 [] [.int y0] := by
  obtain ⟨hx, hb, hml, hr, hown, hts, hlocks, hE, hA⟩ := id C
  have hK := hE.1
  intro H locs ls hM hS hl
  unfold wMo_greatest_24 at hwp
  obtain ⟨hz1, hwp⟩ := hwp
  exact W.zret (v := y0) hx hb hr (by rcases hz1 with h | h <;> rw [h] <;> rfl) (fun t ht hW => ⟨⟨y0, M, rfl, hwp, by show hw D kCl (hTys κ) A M t.heap; rw [ht]; exact hM⟩, hS.F ht⟩) hS.2.2 d_Mo_greatest_24
def wMo_greatest_23 (post : Int32 → Hp → Prop)   (M : Hp) : Prop := (wMo_greatest_24 post (0 : Int32) M)
set_option maxRecDepth 100000 in
set_option maxHeartbeats 4000000 in
theorem tMo_greatest_23 {p : Program} {l : Launch} {e : Env} {s : State} {m : MethodId} {args : Array Value} {below : List Frame} {meth : Method} {c : Code} {D : va_G} {κ : Nat → ClassId} {A : Nat → Prop} (C : Cx_Mo_greatest p s m args meth c D κ A) (post : Int32 → Hp → Prop)   (M : Hp) (hwp : wMo_greatest_23 post  M) : Y p l e rm_Mo_greatest s m args below meth c D kCl (hTys κ) A 1 0 0 (MQ below (va_Qi post (hB D kCl (hTys κ) A) A) args s 0 0 A) M 23 [] [] := by
  obtain ⟨hx, hb, hml, hr, hown, hts, hlocks, hE, hA⟩ := id C
  have hK := hE.1
  intro H locs ls hM hS hl
  unfold wMo_greatest_23 at hwp
  refine lv_iconst (v := 0) hx hb d_Mo_greatest_23 (by decide) ?_
  exact tMo_greatest_24 C post (0 : Int32) M hwp H locs ls hM hS (lv_sub hl [] rfl)
def wpMo_greatest (self : Nat) (M : Hp) (post : Int32 → Hp → Prop) : Prop := (hob M self 6 ∧ (wpMo_none self M (fun (r4 : Int32) (M2 : Hp) => ((r4 = 0 → (hob M2 self 6 ∧ (wpMo_trueWorth self M2 (fun (r8 : Int64) (M6 : Hp) => (∃ v9 : Int64, fJ M6 self 6 35 v9 ∧ ((r8 = v9 → (wMo_greatest_24 post (1 : Int32) M6)) ∧ (¬ r8 = v9 → (wMo_greatest_23 post M6)))))))) ∧ (¬ r4 = 0 → (wMo_greatest_23 post M2))))))
set_option maxRecDepth 100000 in
set_option maxHeartbeats 4000000 in
theorem eMo_greatest {p : Program} {l : Launch} {e : Env} {s : State} {m : MethodId} {args : Array Value} {below : List Frame} {meth : Method} {c : Code} {D : va_G} {κ : Nat → ClassId} {A : Nat → Prop} (C : Cx_Mo_greatest p s m args meth c D κ A) (post : Int32 → Hp → Prop) (self : Nat) (M : Hp) (hwp : wpMo_greatest self M post) : Y p l e rm_Mo_greatest s m args below meth c D kCl (hTys κ) A 1 0 0 (MQ below (va_Qi post (hB D kCl (hTys κ) A) A) args s 0 0 A) M 0 [(0, .ref self)] [] := by
  obtain ⟨hx, hb, hml, hr, hown, hts, hlocks, hE, hA⟩ := id C
  have hK := hE.1
  intro H locs ls hM hS hl
  unfold wpMo_greatest at hwp
  refine lv_aload_n hx hb d_Mo_greatest_0 rfl (lv_at hl 0 rfl) ?_
  obtain ⟨ho3, hwp⟩ := hwp
  refine h_calli hM hS hA (va_runV (As := []) (rest := []) ⟨hx, hb, hml, hown, hts⟩ (metMo_none l D κ H.size self M _ hwp) (cwV 0 hts (gV kw_979 kw_981 kp_44 kw_8 kw_982) rfl rfl rfl (by decide +kernel) ⟨(Nat.le_of_ble_eq_true rfl), (Nat.le_of_ble_eq_true rfl)⟩) (h_preV hE hM hS ho3 (r := ("BuckTablesModel", Tc6, 36)) rfl) rfl rfl hl.1 rfl (lv_room (Nat.le_of_ble_eq_true rfl)) d_Mo_greatest_1 ⟨(Nat.le_of_ble_eq_true rfl), (Nat.le_of_ble_eq_true rfl)⟩) (fun r4 M2 H locs hwp hM hS => ?_)
  refine lv_if_ne (tgt := 23) hx hb d_Mo_greatest_4 (by decide) (fun c5 => ?_) (fun c5 => ?_)
  · replace hwp := hwp.2 c5
    exact tMo_greatest_23 C post M2 hwp H locs ls hM hS (lv_sub hl [] rfl)
  · replace hwp := hwp.1 c5
    refine lv_aload_n hx hb d_Mo_greatest_7 rfl (lv_at hl 0 rfl) ?_
    obtain ⟨ho7, hwp⟩ := hwp
    refine h_calll hM hS hA (va_runV (As := []) (rest := []) ⟨hx, hb, hml, hown, hts⟩ (metMo_trueWorth l D κ H.size self M2 _ hwp) (cwV 0 hts (gV kw_955 kw_957 kp_39 kw_8 kw_958) rfl rfl rfl (by decide +kernel) ⟨(Nat.le_of_ble_eq_true rfl), (Nat.le_of_ble_eq_true rfl)⟩) (h_preV hE hM hS ho7 (r := ("BuckTablesModel", Tc6, 36)) rfl) rfl rfl hl.1 rfl (lv_room (Nat.le_of_ble_eq_true rfl)) d_Mo_greatest_8 ⟨(Nat.le_of_ble_eq_true rfl), (Nat.le_of_ble_eq_true rfl)⟩) (fun r8 M6 H locs hwp hM hS => ?_)
    refine lv_aload_n hx hb d_Mo_greatest_11 rfl (lv_at hl 0 rfl) ?_
    obtain ⟨v9, ⟨fs10, he11, hv12⟩, hwp⟩ := hwp
    refine h_get (C := "BuckTablesModel") (T := Tc6) (N := 36) hx hb hts inc6 hown hK hM he11 rfl 35 (by decide) (hts _ kw_755) (fun _ h9 => h9) hv12 d_Mo_greatest_12 ?_
    refine W.lcmp hx hb d_Mo_greatest_15 ?_
    refine lv_if_ne (tgt := 23) hx hb d_Mo_greatest_16 (by decide) (fun c13 => ?_) (fun c13 => ?_)
    · replace c13 := fun h9 => c13 ((lc_eq _ _).mpr h9)
      replace hwp := hwp.2 c13
      exact tMo_greatest_23 C post M6 hwp H locs ls hM hS (lv_sub hl [] rfl)
    · replace c13 := (lc_eq _ _).mp c13
      replace hwp := hwp.1 c13
      refine lv_iconst (v := 1) hx hb d_Mo_greatest_19 (by decide) ?_
      refine lv_goto (tgt := 24) hx hb d_Mo_greatest_20 (by decide) ?_
      exact tMo_greatest_24 C post (1 : Int32) M6 hwp H locs ls hM hS (lv_sub hl [] rfl)
set_option maxRecDepth 100000 in
set_option maxHeartbeats 4000000 in
theorem metMo_greatest (l : Launch) (D : va_G) (κ : Nat → ClassId) (sz : Nat) (self : Nat) (M : Hp) (post : Int32 → Hp → Prop) (hwp : wpMo_greatest self M post) : Met l y_Mo_greatest ws_Mo_greatest rm_Mo_greatest (hPc D kCl (hTys κ) M sz [.ref self]) (va_Qi post (hB D kCl (hTys κ) (hAx M sz)) (hAx M sz)) 0 0 (hAx M sz) := by
  refine Met.ofW (cc := prog_8_method_48_code) (maxL := 1) (ret := (some .boolean)) (by decide +kernel) rfl ?_
  intro p e s m args below meth c s₁ B hml hv
  obtain ⟨rfl, hsz, hE, hM0⟩ := hv
  have hts : ∀ w ∈ WG, w.before _ s = true := fun w h => atoms_spec (ws := ws_Mo_greatest) B.pre w (List.mem_cons_of_mem _ h)
  subst hsz
  have C : Cx_Mo_greatest p s m _ meth c D κ (hAx M s.heap.size) := ⟨B.exec, B.bytes, hml, B.returns, findClass_of_methodNamed B.named, hts, B.notSynchronized, hE, fun q h => Or.inr h⟩
  have hl := lv_entry ([.ref self]) (n := 1) (Nat.le_of_ble_eq_true rfl)
  rw [lg_entry_eq]
  generalize (lg_sl ([.ref self]) ++ List.replicate (1 - (lg_sl ([.ref self])).length) Slot.unset).toArray = ls at hl ⊢
  exact eMo_greatest C post self M hwp s.heap [] ls (hM0.self (sz := s.heap.size)) va_S.rf hl
