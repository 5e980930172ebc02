abbrev rm_Mo_run : Room := { frames := 4, cells := 0, slots := 0, locals := 105 }
def Cx_Mo_run (p : Program) (s : State) (m : MethodId) (args : Array Value) (meth : Method) (c : Code) (D : va_G) (κ : Nat → ClassId) (A : Nat → Prop) : Prop := p.tables.exec = Jvm.exec ∧ c.code = prog_8_method_29_code ∧ c.maxLocals = 2 ∧ meth.sig.returnType = (some .int) ∧ s.vm.findClass "BuckTablesModel" = some m.cls ∧ (∀ w ∈ WG, w.before args s = true) ∧ meth.locks = false ∧ hEnv D kCl (hTys κ) A s ∧ (∀ q, s.heap.size ≤ q → A q)
def wMo_run_7 (post : Int32 → Hp → Prop)  : Nat → Nat → Int32 → Hp → Prop
  | 0 => fun _ _ _ => False
  | n + 1 => fun x0 x1 M => (((8 : Int32) ≤ x1 → (hob M x0 6 ∧ (wpMo_plan x0 M (fun (r4 : Int64) (M2 : Hp) => (∃ M5 : Hp, pF M2 x0 6 35 (.long r4) M5 ∧ (∃ M9 : Hp, pF M5 x0 6 34 (.int (0 : Int32)) M9 ∧ (∃ M13 : Hp, pF M9 x0 6 33 (.int (1 : Int32)) M13 ∧ (hob M13 x0 6 ∧ (wpMo_logCount x0 M13 (fun (r19 : Int32) (M17 : Hp) => (post r19 M17))))))))))) ∧ (¬ (8 : Int32) ≤ x1 → (∃ a20 : Nat, fA M x0 6 23 a20 ∧ (∃ M28 : Hp, sJ M a20 x1 (0 : Int64) M28 ∧ (∃ a29 : Nat, fA M28 x0 6 24 a29 ∧ (∃ M37 : Hp, sJ M28 a29 x1 (0 : Int64) M37 ∧ (∀ z38 : Int32, z38 = x1 + 1 → ((wMo_run_7 post n) x0 z38 M37))))))))
set_option maxRecDepth 100000 in
set_option maxHeartbeats 4000000 in
theorem tMo_run_7 {p : Program} {l : Launch} {e : Env} {s : State} {m : MethodId} {args : Array Value} {below : List Frame} {meth : Method} {c : Code} {D : va_G} {κ : Nat → ClassId} {A : Nat → Prop} (C : Cx_Mo_run p s m args meth c D κ A) (post : Int32 → Hp → Prop)  : ∀ (n : Nat) (x0 : Nat) (x1 : Int32) (M : Hp), wMo_run_7 post n x0 x1 M → Y p l e rm_Mo_run s m args below meth c D kCl (hTys κ) A 2 0 0 (MQ below (va_Qi post (hB D kCl (hTys κ) A) A) args s 0 0 A) M 7 [(0, .ref x0), (1, .int x1)] [] := by
  obtain ⟨hx, hb, hml, hr, hown, hts, hlocks, hE, hA⟩ := id C
  have hK := hE.1
  intro n
  induction n with
  | zero => intro x0 x1 M hwp; exact hwp.elim
  | succ n ih =>
    intro x0 x1 M hwp H locs ls hM hS hl
    unfold wMo_run_7 at hwp
    refine lv_iload_n hx hb d_Mo_run_7 rfl (lv_at hl 1 rfl) ?_
    refine lv_bipush (v := 8) hx hb d_Mo_run_8 (by decide) ?_
    refine lv_icmp_ge (tgt := 33) hx hb d_Mo_run_10 (by decide) (fun c1 => ?_) (fun c1 => ?_)
    · replace hwp := hwp.1 c1
      refine lv_aload_n hx hb d_Mo_run_33 rfl (lv_at hl 0 rfl) ?_
      refine lv_aload_n hx hb d_Mo_run_34 rfl (lv_at hl 0 rfl) ?_
      obtain ⟨ho3, hwp⟩ := hwp
      refine h_calll hM hS hA (va_runV (As := []) (rest := [.ref x0]) ⟨hx, hb, hml, hown, hts⟩ (metMo_plan l D κ H.size x0 M _ hwp) (cwV 0 hts (gV kw_902 kw_904 kp_27 kw_8 kw_905) rfl rfl rfl (by decide +kernel) ⟨(Nat.le_of_ble_eq_true rfl), (Nat.le_of_ble_eq_true rfl)⟩) (h_preV hE hM hS ho3 (r := ("BuckTablesModel", Tc6, 36)) rfl) rfl rfl hl.1 rfl (lv_room (Nat.le_of_ble_eq_true rfl)) d_Mo_run_35 ⟨(Nat.le_of_ble_eq_true rfl), (Nat.le_of_ble_eq_true rfl)⟩) (fun r4 M2 H locs hwp hM hS => ?_)
      obtain ⟨M5, ⟨fs6, he7, hl8, eM5⟩, hwp⟩ := hwp
      refine h_put (C := "BuckTablesModel") (T := Tc6) (N := 36) (v := .long r4) (ty := .long) hx hb hts inc6 tyc6 tyc6_ok nmc6 hown hK hM hS he7 rfl 35 (by decide) (hts _ kw_755) (fun _ h9 => h9) rfl (by decide +kernel) rfl rfl hl8 d_Mo_run_38 (fun H locs hM hS => ?_)
      rw [← eM5] at hM
      refine lv_aload_n hx hb d_Mo_run_41 rfl (lv_at hl 0 rfl) ?_
      refine lv_iconst (v := 0) hx hb d_Mo_run_42 (by decide) ?_
      obtain ⟨M9, ⟨fs10, he11, hl12, eM9⟩, hwp⟩ := hwp
      refine h_put (C := "BuckTablesModel") (T := Tc6) (N := 36) (v := .int (0 : Int32)) (ty := .int) hx hb hts inc6 tyc6 tyc6_ok nmc6 hown hK hM hS he11 rfl 34 (by decide) (hts _ kw_754) (fun _ h9 => h9) rfl (by decide +kernel) rfl rfl hl12 d_Mo_run_43 (fun H locs hM hS => ?_)
      rw [← eM9] at hM
      refine lv_aload_n hx hb d_Mo_run_46 rfl (lv_at hl 0 rfl) ?_
      refine lv_iconst (v := 1) hx hb d_Mo_run_47 (by decide) ?_
      obtain ⟨M13, ⟨fs14, he15, hl16, eM13⟩, hwp⟩ := hwp
      refine h_put (C := "BuckTablesModel") (T := Tc6) (N := 36) (v := .int (1 : Int32)) (ty := .boolean) hx hb hts inc6 tyc6 tyc6_ok nmc6 hown hK hM hS he15 rfl 33 (by decide) (hts _ kw_753) (fun _ h9 => h9) rfl (by decide +kernel) (by decide) (by decide) hl16 d_Mo_run_48 (fun H locs hM hS => ?_)
      rw [← eM13] at hM
      refine lv_aload_n hx hb d_Mo_run_51 rfl (lv_at hl 0 rfl) ?_
      obtain ⟨ho18, hwp⟩ := hwp
      refine h_calli hM hS hA (va_runV (As := []) (rest := []) ⟨hx, hb, hml, hown, hts⟩ (metMo_logCount l D κ H.size x0 M13 _ hwp) (cwV 0 hts (gV kw_934 kw_936 kp_35 kw_8 kw_937) rfl rfl rfl (by decide +kernel) ⟨(Nat.le_of_ble_eq_true rfl), (Nat.le_of_ble_eq_true rfl)⟩) (h_preV hE hM hS ho18 (r := ("BuckTablesModel", Tc6, 36)) rfl) rfl rfl hl.1 rfl (lv_room (Nat.le_of_ble_eq_true rfl)) d_Mo_run_52 ⟨(Nat.le_of_ble_eq_true rfl), (Nat.le_of_ble_eq_true rfl)⟩) (fun r19 M17 H locs hwp hM hS => ?_)
      exact W.iret (v := r19) hx hb hr (fun t ht hW => ⟨⟨r19, M17, rfl, hwp, by show hw D kCl (hTys κ) A M17 t.heap; rw [ht]; exact hM⟩, hS.F ht⟩) hS.2.2 d_Mo_run_55
    · replace hwp := hwp.2 c1
      refine lv_aload_n hx hb d_Mo_run_13 rfl (lv_at hl 0 rfl) ?_
      obtain ⟨a20, ⟨fs21, he22, hv23⟩, hwp⟩ := hwp
      refine h_get (C := "BuckTablesModel") (T := Tc6) (N := 36) hx hb hts inc6 hown hK hM he22 rfl 23 (by decide) (hts _ kw_743) (fun _ h9 => h9) hv23 d_Mo_run_14 ?_
      refine lv_iload_n hx hb d_Mo_run_17 rfl (lv_at hl 1 rfl) ?_
      refine lv_lconst (v := 0) hx hb d_Mo_run_18 (by decide) ?_
      obtain ⟨M28, ⟨n24, f25, ha26, hi27, eM28⟩, hwp⟩ := hwp
      refine h_last hx hb hK hM hS ha26 rfl hi27 d_Mo_run_19 (fun H locs hM hS => ?_)
      rw [← eM28] at hM
      refine lv_aload_n hx hb d_Mo_run_20 rfl (lv_at hl 0 rfl) ?_
      obtain ⟨a29, ⟨fs30, he31, hv32⟩, hwp⟩ := hwp
      refine h_get (C := "BuckTablesModel") (T := Tc6) (N := 36) hx hb hts inc6 hown hK hM he31 rfl 24 (by decide) (hts _ kw_744) (fun _ h9 => h9) hv32 d_Mo_run_21 ?_
      refine lv_iload_n hx hb d_Mo_run_24 rfl (lv_at hl 1 rfl) ?_
      refine lv_lconst (v := 0) hx hb d_Mo_run_25 (by decide) ?_
      obtain ⟨M37, ⟨n33, f34, ha35, hi36, eM37⟩, hwp⟩ := hwp
      refine h_last hx hb hK hM hS ha35 rfl hi36 d_Mo_run_26 (fun H locs hM hS => ?_)
      rw [← eM37] at hM
      obtain ⟨z38, ez38⟩ : ∃ y : Int32, y = x1 + 1 := ⟨_, rfl⟩
      replace hwp := hwp z38 ez38
      refine lv_iinc (v := z38) (lv' := [(1, .int z38), (0, .ref x0)]) hx hb d_Mo_run_27 hl (k := 1) rfl (by rw [ez38]; rfl) (by decide) rfl (fun ls hl => ?_)
      refine lv_goto (tgt := 7) hx hb d_Mo_run_30 (by decide) ?_
      exact ih x0 z38 M37 hwp H locs ls hM hS (lv_sub hl [1, 0] rfl)
def wpMo_run (self : Nat) (M : Hp) (post : Int32 → Hp → Prop) : Prop := (∃ M39 : Hp, pF M self 6 0 (.int (0 : Int32)) M39 ∧ (∃ n43 : Nat, wMo_run_7 post n43 self (0 : Int32) M39))
set_option maxRecDepth 100000 in
set_option maxHeartbeats 4000000 in
theorem eMo_run {p : Program} {l : Launch} {e : Env} {s : State} {m : MethodId} {args : Array Value} {below : List Frame} {meth : Method} {c : Code} {D : va_G} {κ : Nat → ClassId} {A : Nat → Prop} (C : Cx_Mo_run p s m args meth c D κ A) (post : Int32 → Hp → Prop) (self : Nat) (M : Hp) (hwp : wpMo_run self M post) : Y p l e rm_Mo_run s m args below meth c D kCl (hTys κ) A 2 0 0 (MQ below (va_Qi post (hB D kCl (hTys κ) A) A) args s 0 0 A) M 0 [(0, .ref self)] [] := by
  obtain ⟨hx, hb, hml, hr, hown, hts, hlocks, hE, hA⟩ := id C
  have hK := hE.1
  intro H locs ls hM hS hl
  unfold wpMo_run at hwp
  refine lv_aload_n hx hb d_Mo_run_0 rfl (lv_at hl 0 rfl) ?_
  refine lv_iconst (v := 0) hx hb d_Mo_run_1 (by decide) ?_
  obtain ⟨M39, ⟨fs40, he41, hl42, eM39⟩, hwp⟩ := hwp
  refine h_put (C := "BuckTablesModel") (T := Tc6) (N := 36) (v := .int (0 : Int32)) (ty := .int) hx hb hts inc6 tyc6 tyc6_ok nmc6 hown hK hM hS he41 rfl 0 (by decide) (hts _ kw_720) (fun _ h9 => h9) rfl (by decide +kernel) rfl rfl hl42 d_Mo_run_2 (fun H locs hM hS => ?_)
  rw [← eM39] at hM
  refine lv_iconst (v := 0) hx hb d_Mo_run_5 (by decide) ?_
  refine lv_istore_n (lv' := [(1, .int (0 : Int32)), (0, .ref self)]) hx hb d_Mo_run_6 rfl hl (by decide) rfl (fun ls hl => ?_)
  obtain ⟨n43, hwp⟩ := hwp
  exact tMo_run_7 C post n43 self (0 : Int32) M39 hwp H locs ls hM hS (lv_sub hl [1, 0] rfl)
set_option maxRecDepth 100000 in
set_option maxHeartbeats 4000000 in
theorem metMo_run (l : Launch) (D : va_G) (κ : Nat → ClassId) (sz : Nat) (self : Nat) (M : Hp) (post : Int32 → Hp → Prop) (hwp : wpMo_run self M post) : Met l y_Mo_run ws_Mo_run rm_Mo_run (hPc D kCl (hTys κ) M sz [.ref self]) (va_Qi post (hB D kCl (hTys κ) (hAx M sz)) (hAx M sz)) 0 0 (hAx M sz) := by
  refine Met.ofW (cc := prog_8_method_29_code) (maxL := 2) (ret := (some .int)) (by decide +kernel) rfl ?_
  intro p e s m args below meth c s₁ B hml hv
  obtain ⟨rfl, hsz, hE, hM0⟩ := hv
  have hts : ∀ w ∈ WG, w.before _ s = true := fun w h => atoms_spec (ws := ws_Mo_run) B.pre w (List.mem_cons_of_mem _ h)
  subst hsz
  have C : Cx_Mo_run p s m _ meth c D κ (hAx M s.heap.size) := ⟨B.exec, B.bytes, hml, B.returns, findClass_of_methodNamed B.named, hts, B.notSynchronized, hE, fun q h => Or.inr h⟩
  have hl := lv_entry ([.ref self]) (n := 2) (Nat.le_of_ble_eq_true rfl)
  rw [lg_entry_eq]
  generalize (lg_sl ([.ref self]) ++ List.replicate (2 - (lg_sl ([.ref self])).length) Slot.unset).toArray = ls at hl ⊢
  exact eMo_run C post self M hwp s.heap [] ls (hM0.self (sz := s.heap.size)) va_S.rf hl
abbrev rm_Mo_copy : Room := { frames := 0, cells := 0, slots := 0, locals := 0 }
def Cx_Mo_copy (p : Program) (s : State) (m : MethodId) (args : Array Value) (meth : Method) (c : Code) (D : va_G) (κ : Nat → ClassId) (A : Nat → Prop) : Prop := p.tables.exec = Jvm.exec ∧ c.code = prog_8_method_30_code ∧ c.maxLocals = 4 ∧ meth.sig.returnType = none ∧ s.vm.findClass "BuckTablesModel" = some m.cls ∧ (∀ w ∈ WG, w.before args s = true) ∧ meth.locks = false ∧ hEnv D kCl (hTys κ) A s ∧ (∀ q, s.heap.size ≤ q → A q)
def wMo_copy_2 (post : Hp → Prop)  : Nat → Nat → Nat → Int32 → Hp → Prop
  | 0 => fun _ _ _ _ => False
  | n + 1 => fun x1 x2 x3 M => (((486 : Int32) ≤ x3 → (post M)) ∧ (¬ (486 : Int32) ≤ x3 → (∃ v2 : Int32, aI M x1 x3 v2 ∧ (∃ M11 : Hp, sI M x2 x3 v2 M11 ∧ (∀ z12 : Int32, z12 = x3 + 1 → ((wMo_copy_2 post n) x1 x2 z12 M11))))))
set_option maxRecDepth 100000 in
set_option maxHeartbeats 4000000 in
theorem tMo_copy_2 {p : Program} {l : Launch} {e : Env} {s : State} {m : MethodId} {args : Array Value} {below : List Frame} {meth : Method} {c : Code} {D : va_G} {κ : Nat → ClassId} {A : Nat → Prop} (C : Cx_Mo_copy p s m args meth c D κ A) (post : Hp → Prop)  : ∀ (n : Nat) (x1 : Nat) (x2 : Nat) (x3 : Int32) (M : Hp), wMo_copy_2 post n x1 x2 x3 M → Y p l e rm_Mo_copy s m args below meth c D kCl (hTys κ) A 4 0 0 (MQ below (va_Qv post (hB D kCl (hTys κ) A) A) args s 0 0 A) M 2 [(1, .ref x1), (2, .ref x2), (3, .int x3)] [] := by
  obtain ⟨hx, hb, hml, hr, hown, hts, hlocks, hE, hA⟩ := id C
  have hK := hE.1
  intro n
  induction n with
  | zero => intro x1 x2 x3 M hwp; exact hwp.elim
  | succ n ih =>
    intro x1 x2 x3 M hwp H locs ls hM hS hl
    unfold wMo_copy_2 at hwp
    refine lv_iload_n hx hb d_Mo_copy_2 rfl (lv_at hl 2 rfl) ?_
    refine lv_sipush (v := 486) hx hb d_Mo_copy_3 (by decide) ?_
    refine lv_icmp_ge (tgt := 21) hx hb d_Mo_copy_6 (by decide) (fun c1 => ?_) (fun c1 => ?_)
    · replace hwp := hwp.1 c1
      exact W.vret hx hb hr (fun t ht hW => ⟨⟨M, rfl, hwp, by show hw D kCl (hTys κ) A M t.heap; rw [ht]; exact hM⟩, hS.F ht⟩) hS.2.2 d_Mo_copy_21
    · replace hwp := hwp.2 c1
      refine lv_aload_n hx hb d_Mo_copy_9 rfl (lv_at hl 1 rfl) ?_
      refine lv_iload_n hx hb d_Mo_copy_10 rfl (lv_at hl 2 rfl) ?_
      refine lv_aload_n hx hb d_Mo_copy_11 rfl (lv_at hl 0 rfl) ?_
      refine lv_iload_n hx hb d_Mo_copy_12 rfl (lv_at hl 2 rfl) ?_
      obtain ⟨v2, ⟨n3, f4, ha5, hi6, ev2⟩, hwp⟩ := hwp
      refine h_iald hx hb hK hM ha5 rfl hi6 d_Mo_copy_13 ?_
      rw [← ev2]
      obtain ⟨M11, ⟨n7, f8, ha9, hi10, eM11⟩, hwp⟩ := hwp
      refine h_iast hx hb hK hM hS ha9 rfl hi10 d_Mo_copy_14 (fun H locs hM hS => ?_)
      rw [← eM11] at hM
      obtain ⟨z12, ez12⟩ : ∃ y : Int32, y = x3 + 1 := ⟨_, rfl⟩
      replace hwp := hwp z12 ez12
      refine lv_iinc (v := z12) (lv' := [(3, .int z12), (1, .ref x1), (2, .ref x2)]) hx hb d_Mo_copy_15 hl (k := 2) rfl (by rw [ez12]; rfl) (by decide) rfl (fun ls hl => ?_)
      refine lv_goto (tgt := 2) hx hb d_Mo_copy_18 (by decide) ?_
      exact ih x1 x2 z12 M11 hwp H locs ls hM hS (lv_sub hl [1, 2, 0] rfl)
def wpMo_copy (self : Nat) (p0 : Nat) (p1 : Nat) (M : Hp) (post : Hp → Prop) : Prop := (∃ n13 : Nat, wMo_copy_2 post n13 p0 p1 (0 : Int32) M)
set_option maxRecDepth 100000 in
set_option maxHeartbeats 4000000 in
theorem eMo_copy {p : Program} {l : Launch} {e : Env} {s : State} {m : MethodId} {args : Array Value} {below : List Frame} {meth : Method} {c : Code} {D : va_G} {κ : Nat → ClassId} {A : Nat → Prop} (C : Cx_Mo_copy p s m args meth c D κ A) (post : Hp → Prop) (self : Nat) (p0 : Nat) (p1 : Nat) (M : Hp) (hwp : wpMo_copy self p0 p1 M post) : Y p l e rm_Mo_copy s m args below meth c D kCl (hTys κ) A 4 0 0 (MQ below (va_Qv post (hB D kCl (hTys κ) A) A) args s 0 0 A) M 0 [(0, .ref self), (1, .ref p0), (2, .ref p1)] [] := by
  obtain ⟨hx, hb, hml, hr, hown, hts, hlocks, hE, hA⟩ := id C
  have hK := hE.1
  intro H locs ls hM hS hl
  unfold wpMo_copy at hwp
  refine lv_iconst (v := 0) hx hb d_Mo_copy_0 (by decide) ?_
  refine lv_istore_n (lv' := [(3, .int (0 : Int32)), (0, .ref self), (1, .ref p0), (2, .ref p1)]) hx hb d_Mo_copy_1 rfl hl (by decide) rfl (fun ls hl => ?_)
  obtain ⟨n13, hwp⟩ := hwp
  exact tMo_copy_2 C post n13 p0 p1 (0 : Int32) M hwp H locs ls hM hS (lv_sub hl [2, 3, 0] rfl)
set_option maxRecDepth 100000 in
set_option maxHeartbeats 4000000 in
theorem metMo_copy (l : Launch) (D : va_G) (κ : Nat → ClassId) (sz : Nat) (self : Nat) (p0 : Nat) (p1 : Nat) (M : Hp) (post : Hp → Prop) (hwp : wpMo_copy self p0 p1 M post) : Met l y_Mo_copy ws_Mo_copy rm_Mo_copy (hPc D kCl (hTys κ) M sz [.ref self, .ref p0, .ref p1]) (va_Qv post (hB D kCl (hTys κ) (hAx M sz)) (hAx M sz)) 0 0 (hAx M sz) := by
  refine Met.ofW (cc := prog_8_method_30_code) (maxL := 4) (ret := none) (by decide +kernel) rfl ?_
  intro p e s m args below meth c s₁ B hml hv
  obtain ⟨rfl, hsz, hE, hM0⟩ := hv
  have hts : ∀ w ∈ WG, w.before _ s = true := fun w h => atoms_spec (ws := ws_Mo_copy) B.pre w (List.mem_cons_of_mem _ h)
  subst hsz
  have C : Cx_Mo_copy p s m _ meth c D κ (hAx M s.heap.size) := ⟨B.exec, B.bytes, hml, B.returns, findClass_of_methodNamed B.named, hts, B.notSynchronized, hE, fun q h => Or.inr h⟩
  have hl := lv_entry ([.ref self, .ref p0, .ref p1]) (n := 4) (Nat.le_of_ble_eq_true rfl)
  rw [lg_entry_eq]
  generalize (lg_sl ([.ref self, .ref p0, .ref p1]) ++ List.replicate (4 - (lg_sl ([.ref self, .ref p0, .ref p1])).length) Slot.unset).toArray = ls at hl ⊢
  exact eMo_copy C post self p0 p1 M hwp s.heap [] ls (hM0.self (sz := s.heap.size)) va_S.rf hl
abbrev rm_Mo_allHold : Room := { frames := 2, cells := 0, slots := 0, locals := 45 }
def Cx_Mo_allHold (p : Program) (s : State) (m : MethodId) (args : Array Value) (meth : Method) (c : Code) (D : va_G) (κ : Nat → ClassId) (A : Nat → Prop) : Prop := p.tables.exec = Jvm.exec ∧ c.code = prog_8_method_31_code ∧ c.maxLocals = 3 ∧ meth.sig.returnType = (some .boolean) ∧ s.vm.findClass "BuckTablesModel" = some m.cls ∧ (∀ w ∈ WG, w.before args s = true) ∧ meth.locks = false ∧ hEnv D kCl (hTys κ) A s ∧ (∀ q, s.heap.size ≤ q → A q)
def wMo_allHold_48 (post : Int32 → Hp → Prop) (k4 : Nat → Int32 → Int32 → Hp → Prop) (x0 : Nat) (x2 : Int32) (y0 : Int32) (M : Hp) : Prop := (∀ z1 : Int32, z1 = x2 + 1 → (k4 x0 y0 z1 M))
set_option maxRecDepth 100000 in
set_option maxHeartbeats 4000000 in
theorem tMo_allHold_48 {p : Program} {l : Launch} {e : Env} {s : State} {m : MethodId} {args : Array Value} {below : List Frame} {meth : Method} {c : Code} {D : va_G} {κ : Nat → ClassId} {A : Nat → Prop} (C : Cx_Mo_allHold p s m args meth c D κ A) (post : Int32 → Hp → Prop) (k4 : Nat → Int32 → Int32 → Hp → Prop) (hk4 : ∀ (x0 : Nat) (x1 : Int32) (x2 : Int32) (M : Hp), k4 x0 x1 x2 M → Y p l e rm_Mo_allHold s m args below meth c D kCl (hTys κ) A 3 0 0 (MQ below (va_Qi post (hB D kCl (hTys κ) A) A) args s 0 0 A) M 4 [(0, .ref x0), (1, .int x1), (2, .int x2)] []) (x0 : Nat) (x2 : Int32) (y0 : Int32) (M : Hp) (hwp : wMo_allHold_48 post k4 x0 x2 y0 M) : Y p l e rm_Mo_allHold s m args below meth c D kCl (hTys κ) A 3 0 0 (MQ below (va_Qi post (hB D kCl (hTys κ) A) A) args s 0 0 A) M 48 [(0, .ref x0), (2, .int x2)] [.int y0] := by
  obtain ⟨hx, hb, hml, hr, hown, hts, hlocks, hE, hA⟩ := id C
  have hK := hE.1
  intro H locs ls hM hS hl
  unfold wMo_allHold_48 at hwp
  refine lv_istore_n (lv' := [(1, .int y0), (0, .ref x0), (2, .int x2)]) hx hb d_Mo_allHold_48 rfl hl (by decide) rfl (fun ls hl => ?_)
  obtain ⟨z1, ez1⟩ : ∃ y : Int32, y = x2 + 1 := ⟨_, rfl⟩
  replace hwp := hwp z1 ez1
  refine lv_iinc (v := z1) (lv' := [(2, .int z1), (1, .int y0), (0, .ref x0)]) hx hb d_Mo_allHold_49 hl (k := 2) rfl (by rw [ez1]; rfl) (by decide) rfl (fun ls hl => ?_)
  refine lv_goto (tgt := 4) hx hb d_Mo_allHold_52 (by decide) ?_
  exact hk4 x0 y0 z1 M hwp H locs ls hM hS (lv_sub hl [2, 1, 0] rfl)
def wMo_allHold_47 (post : Int32 → Hp → Prop) (k4 : Nat → Int32 → Int32 → Hp → Prop) (x0 : Nat) (x2 : Int32) (M : Hp) : Prop := (wMo_allHold_48 post k4 x0 x2 (0 : Int32) M)
set_option maxRecDepth 100000 in
set_option maxHeartbeats 4000000 in
theorem tMo_allHold_47 {p : Program} {l : Launch} {e : Env} {s : State} {m : MethodId} {args : Array Value} {below : List Frame} {meth : Method} {c : Code} {D : va_G} {κ : Nat → ClassId} {A : Nat → Prop} (C : Cx_Mo_allHold p s m args meth c D κ A) (post : Int32 → Hp → Prop) (k4 : Nat → Int32 → Int32 → Hp → Prop) (hk4 : ∀ (x0 : Nat) (x1 : Int32) (x2 : Int32) (M : Hp), k4 x0 x1 x2 M → Y p l e rm_Mo_allHold s m args below meth c D kCl (hTys κ) A 3 0 0 (MQ below (va_Qi post (hB D kCl (hTys κ) A) A) args s 0 0 A) M 4 [(0, .ref x0), (1, .int x1), (2, .int x2)] []) (x0 : Nat) (x2 : Int32) (M : Hp) (hwp : wMo_allHold_47 post k4 x0 x2 M) : Y p l e rm_Mo_allHold s m args below meth c D kCl (hTys κ) A 3 0 0 (MQ below (va_Qi post (hB D kCl (hTys κ) A) A) args s 0 0 A) M 47 [(0, .ref x0), (2, .int x2)] [] := by
  obtain ⟨hx, hb, hml, hr, hown, hts, hlocks, hE, hA⟩ := id C
  have hK := hE.1
  intro H locs ls hM hS hl
  unfold wMo_allHold_47 at hwp
  refine lv_iconst (v := 0) hx hb d_Mo_allHold_47 (by decide) ?_
  exact tMo_allHold_48 C post k4 hk4 x0 x2 (0 : Int32) M hwp H locs ls hM hS (lv_sub hl [0, 1] rfl)
def wMo_allHold_43 (post : Int32 → Hp → Prop) (k4 : Nat → Int32 → Int32 → Hp → Prop) (x0 : Nat) (x2 : Int32) (M : Hp) : Prop := (wMo_allHold_48 post k4 x0 x2 (1 : Int32) M)
set_option maxRecDepth 100000 in
set_option maxHeartbeats 4000000 in
theorem tMo_allHold_43 {p : Program} {l : Launch} {e : Env} {s : State} {m : MethodId} {args : Array Value} {below : List Frame} {meth : Method} {c : Code} {D : va_G} {κ : Nat → ClassId} {A : Nat → Prop} (C : Cx_Mo_allHold p s m args meth c D κ A) (post : Int32 → Hp → Prop) (k4 : Nat → Int32 → Int32 → Hp → Prop) (hk4 : ∀ (x0 : Nat) (x1 : Int32) (x2 : Int32) (M : Hp), k4 x0 x1 x2 M → Y p l e rm_Mo_allHold s m args below meth c D kCl (hTys κ) A 3 0 0 (MQ below (va_Qi post (hB D kCl (hTys κ) A) A) args s 0 0 A) M 4 [(0, .ref x0), (1, .int x1), (2, .int x2)] []) (x0 : Nat) (x2 : Int32) (M : Hp) (hwp : wMo_allHold_43 post k4 x0 x2 M) : Y p l e rm_Mo_allHold s m args below meth c D kCl (hTys κ) A 3 0 0 (MQ below (va_Qi post (hB D kCl (hTys κ) A) A) args s 0 0 A) M 43 [(0, .ref x0), (2, .int x2)] [] := by
  obtain ⟨hx, hb, hml, hr, hown, hts, hlocks, hE, hA⟩ := id C
  have hK := hE.1
  intro H locs ls hM hS hl
  unfold wMo_allHold_43 at hwp
  refine lv_iconst (v := 1) hx hb d_Mo_allHold_43 (by decide) ?_
  refine lv_goto (tgt := 48) hx hb d_Mo_allHold_44 (by decide) ?_
  exact tMo_allHold_48 C post k4 hk4 x0 x2 (1 : Int32) M hwp H locs ls hM hS (lv_sub hl [0, 1] rfl)
def wMo_allHold_4 (post : Int32 → Hp → Prop)  : Nat → Nat → Int32 → Int32 → Hp → Prop
  | 0 => fun _ _ _ _ => False
  | n + 1 => fun x0 x1 x2 M => (∃ v2 : Int32, fI M x0 6 14 v2 ∧ ((v2 ≤ x2 → ((x1 = 0 ∨ x1 = 1) ∧ post x1 M)) ∧ (¬ v2 ≤ x2 → ((x1 = 0 → (wMo_allHold_47 post (wMo_allHold_4 post n) x0 x2 M)) ∧ (¬ x1 = 0 → (∃ a9 : Nat, fA M x0 6 21 a9 ∧ (∃ v13 : Int64, aJ M a9 x2 v13 ∧ ((v13 < (0 : Int64) → (wMo_allHold_43 post (wMo_allHold_4 post n) x0 x2 M)) ∧ (¬ v13 < (0 : Int64) → (hob M x0 6 ∧ (wpMo_countOf x0 x2 M (fun (r21 : Int32) (M19 : Hp) => (∃ a22 : Nat, fA M19 x0 6 21 a22 ∧ (∃ v26 : Int64, aJ M19 a22 x2 v26 ∧ ((v26 < (r21.toInt64) → (wMo_allHold_47 post (wMo_allHold_4 post n) x0 x2 M19)) ∧ (¬ v26 < (r21.toInt64) → (wMo_allHold_43 post (wMo_allHold_4 post n) x0 x2 M19)))))))))))))))))
set_option maxRecDepth 100000 in
set_option maxHeartbeats 4000000 in
theorem tMo_allHold_4 {p : Program} {l : Launch} {e : Env} {s : State} {m : MethodId} {args : Array Value} {below : List Frame} {meth : Method} {c : Code} {D : va_G} {κ : Nat → ClassId} {A : Nat → Prop} (C : Cx_Mo_allHold p s m args meth c D κ A) (post : Int32 → Hp → Prop)  : ∀ (n : Nat) (x0 : Nat) (x1 : Int32) (x2 : Int32) (M : Hp), wMo_allHold_4 post n x0 x1 x2 M → Y p l e rm_Mo_allHold s m args below meth c D kCl (hTys κ) A 3 0 0 (MQ below (va_Qi post (hB D kCl (hTys κ) A) A) args s 0 0 A) M 4 [(0, .ref x0), (1, .int x1), (2, .int x2)] [] := by
  obtain ⟨hx, hb, hml, hr, hown, hts, hlocks, hE, hA⟩ := id C
  have hK := hE.1
  intro n
  induction n with
  | zero => intro x0 x1 x2 M hwp; exact hwp.elim
  | succ n ih =>
    intro x0 x1 x2 M hwp H locs ls hM hS hl
    unfold wMo_allHold_4 at hwp
    refine lv_iload_n hx hb d_Mo_allHold_4 rfl (lv_at hl 2 rfl) ?_
    refine lv_aload_n hx hb d_Mo_allHold_5 rfl (lv_at hl 0 rfl) ?_
    obtain ⟨v2, ⟨fs3, he4, hv5⟩, hwp⟩ := hwp
    refine h_get (C := "BuckTablesModel") (T := Tc6) (N := 36) hx hb hts inc6 hown hK hM he4 rfl 14 (by decide) (hts _ kw_734) (fun _ h9 => h9) hv5 d_Mo_allHold_6 ?_
    refine lv_icmp_ge (tgt := 55) hx hb d_Mo_allHold_9 (by decide) (fun c6 => ?_) (fun c6 => ?_)
    · replace hwp := hwp.1 c6
      refine lv_iload_n hx hb d_Mo_allHold_55 rfl (lv_at hl 1 rfl) ?_
      obtain ⟨hz7, hwp⟩ := hwp
      exact W.zret (v := x1) hx hb hr (by rcases hz7 with h | h <;> rw [h] <;> rfl) (fun t ht hW => ⟨⟨x1, M, rfl, hwp, by show hw D kCl (hTys κ) A M t.heap; rw [ht]; exact hM⟩, hS.F ht⟩) hS.2.2 d_Mo_allHold_56
    · replace hwp := hwp.2 c6
      refine lv_iload_n hx hb d_Mo_allHold_12 rfl (lv_at hl 1 rfl) ?_
      refine lv_if_eq (tgt := 47) hx hb d_Mo_allHold_13 (by decide) (fun c8 => ?_) (fun c8 => ?_)
      · replace hwp := hwp.1 c8
        exact tMo_allHold_47 C post (wMo_allHold_4 post n) ih x0 x2 M hwp H locs ls hM hS (lv_sub hl [0, 2] rfl)
      · replace hwp := hwp.2 c8
        refine lv_aload_n hx hb d_Mo_allHold_16 rfl (lv_at hl 0 rfl) ?_
        obtain ⟨a9, ⟨fs10, he11, hv12⟩, hwp⟩ := hwp
        refine h_get (C := "BuckTablesModel") (T := Tc6) (N := 36) hx hb hts inc6 hown hK hM he11 rfl 21 (by decide) (hts _ kw_741) (fun _ h9 => h9) hv12 d_Mo_allHold_17 ?_
        refine lv_iload_n hx hb d_Mo_allHold_20 rfl (lv_at hl 2 rfl) ?_
        obtain ⟨v13, ⟨n14, f15, ha16, hi17, ev13⟩, hwp⟩ := hwp
        refine h_lald hx hb hK hM ha16 rfl hi17 d_Mo_allHold_21 ?_
        rw [← ev13]
        refine lv_lconst (v := 0) hx hb d_Mo_allHold_22 (by decide) ?_
        refine W.lcmp hx hb d_Mo_allHold_23 ?_
        refine lv_if_lt (tgt := 43) hx hb d_Mo_allHold_24 (by decide) (fun c18 => ?_) (fun c18 => ?_)
        · replace c18 := (lc_lt _ _).mp c18
          replace hwp := hwp.1 c18
          exact tMo_allHold_43 C post (wMo_allHold_4 post n) ih x0 x2 M hwp H locs ls hM hS (lv_sub hl [0, 2] rfl)
        · replace c18 := fun h9 => c18 ((lc_lt _ _).mpr h9)
          replace hwp := hwp.2 c18
          refine lv_aload_n hx hb d_Mo_allHold_27 rfl (lv_at hl 0 rfl) ?_
          refine lv_iload_n hx hb d_Mo_allHold_28 rfl (lv_at hl 2 rfl) ?_
          obtain ⟨ho20, hwp⟩ := hwp
          refine h_calli hM hS hA (va_runV (As := [.int x2]) (rest := []) ⟨hx, hb, hml, hown, hts⟩ (metMo_countOf l D κ H.size x0 x2 M _ hwp) (cwV 1 hts (gV kw_938 kw_940 kp_36 kw_8 kw_941) rfl rfl rfl (by decide +kernel) ⟨(Nat.le_of_ble_eq_true rfl), (Nat.le_of_ble_eq_true rfl)⟩) (h_preV hE hM hS ho20 (r := ("BuckTablesModel", Tc6, 36)) rfl) rfl rfl hl.1 rfl (lv_room (Nat.le_of_ble_eq_true rfl)) d_Mo_allHold_29 ⟨(Nat.le_of_ble_eq_true rfl), (Nat.le_of_ble_eq_true rfl)⟩) (fun r21 M19 H locs hwp hM hS => ?_)
          refine lv_i2l hx hb d_Mo_allHold_32 rfl ?_
          refine lv_aload_n hx hb d_Mo_allHold_33 rfl (lv_at hl 0 rfl) ?_
          obtain ⟨a22, ⟨fs23, he24, hv25⟩, hwp⟩ := hwp
          refine h_get (C := "BuckTablesModel") (T := Tc6) (N := 36) hx hb hts inc6 hown hK hM he24 rfl 21 (by decide) (hts _ kw_741) (fun _ h9 => h9) hv25 d_Mo_allHold_34 ?_
          refine lv_iload_n hx hb d_Mo_allHold_37 rfl (lv_at hl 2 rfl) ?_
          obtain ⟨v26, ⟨n27, f28, ha29, hi30, ev26⟩, hwp⟩ := hwp
          refine h_lald hx hb hK hM ha29 rfl hi30 d_Mo_allHold_38 ?_
          rw [← ev26]
          refine W.lcmp hx hb d_Mo_allHold_39 ?_
          refine lv_if_gt (tgt := 47) hx hb d_Mo_allHold_40 (by decide) (fun c31 => ?_) (fun c31 => ?_)
          · replace c31 := (lc_gt _ _).mp c31
            replace hwp := hwp.1 c31
            exact tMo_allHold_47 C post (wMo_allHold_4 post n) ih x0 x2 M19 hwp H locs ls hM hS (lv_sub hl [0, 2] rfl)
          · replace c31 := fun h9 => c31 ((lc_gt _ _).mpr h9)
            replace hwp := hwp.2 c31
            exact tMo_allHold_43 C post (wMo_allHold_4 post n) ih x0 x2 M19 hwp H locs ls hM hS (lv_sub hl [0, 2] rfl)
def wpMo_allHold (self : Nat) (M : Hp) (post : Int32 → Hp → Prop) : Prop := (∃ n32 : Nat, wMo_allHold_4 post n32 self (1 : Int32) (0 : Int32) M)
set_option maxRecDepth 100000 in
set_option maxHeartbeats 4000000 in
theorem eMo_allHold {p : Program} {l : Launch} {e : Env} {s : State} {m : MethodId} {args : Array Value} {below : List Frame} {meth : Method} {c : Code} {D : va_G} {κ : Nat → ClassId} {A : Nat → Prop} (C : Cx_Mo_allHold p s m args meth c D κ A) (post : Int32 → Hp → Prop) (self : Nat) (M : Hp) (hwp : wpMo_allHold self M post) : Y p l e rm_Mo_allHold s m args below meth c D kCl (hTys κ) A 3 0 0 (MQ below (va_Qi post (hB D kCl (hTys κ) A) A) args s 0 0 A) M 0 [(0, .ref self)] [] := by
  obtain ⟨hx, hb, hml, hr, hown, hts, hlocks, hE, hA⟩ := id C
  have hK := hE.1
  intro H locs ls hM hS hl
  unfold wpMo_allHold at hwp
  refine lv_iconst (v := 1) hx hb d_Mo_allHold_0 (by decide) ?_
  refine lv_istore_n (lv' := [(1, .int (1 : Int32)), (0, .ref self)]) hx hb d_Mo_allHold_1 rfl hl (by decide) rfl (fun ls hl => ?_)
  refine lv_iconst (v := 0) hx hb d_Mo_allHold_2 (by decide) ?_
  refine lv_istore_n (lv' := [(2, .int (0 : Int32)), (1, .int (1 : Int32)), (0, .ref self)]) hx hb d_Mo_allHold_3 rfl hl (by decide) rfl (fun ls hl => ?_)
  obtain ⟨n32, hwp⟩ := hwp
  exact tMo_allHold_4 C post n32 self (1 : Int32) (0 : Int32) M hwp H locs ls hM hS (lv_sub hl [2, 1, 0] rfl)
set_option maxRecDepth 100000 in
set_option maxHeartbeats 4000000 in
theorem metMo_allHold (l : Launch) (D : va_G) (κ : Nat → ClassId) (sz : Nat) (self : Nat) (M : Hp) (post : Int32 → Hp → Prop) (hwp : wpMo_allHold self M post) : Met l y_Mo_allHold ws_Mo_allHold rm_Mo_allHold (hPc D kCl (hTys κ) M sz [.ref self]) (va_Qi post (hB D kCl (hTys κ) (hAx M sz)) (hAx M sz)) 0 0 (hAx M sz) := by
  refine Met.ofW (cc := prog_8_method_31_code) (maxL := 3) (ret := (some .boolean)) (by decide +kernel) rfl ?_
  intro p e s m args below meth c s₁ B hml hv
  obtain ⟨rfl, hsz, hE, hM0⟩ := hv
  have hts : ∀ w ∈ WG, w.before _ s = true := fun w h => atoms_spec (ws := ws_Mo_allHold) B.pre w (List.mem_cons_of_mem _ h)
  subst hsz
  have C : Cx_Mo_allHold p s m _ meth c D κ (hAx M s.heap.size) := ⟨B.exec, B.bytes, hml, B.returns, findClass_of_methodNamed B.named, hts, B.notSynchronized, hE, fun q h => Or.inr h⟩
  have hl := lv_entry ([.ref self]) (n := 3) (Nat.le_of_ble_eq_true rfl)
  rw [lg_entry_eq]
  generalize (lg_sl ([.ref self]) ++ List.replicate (3 - (lg_sl ([.ref self])).length) Slot.unset).toArray = ls at hl ⊢
  exact eMo_allHold C post self M hwp s.heap [] ls (hM0.self (sz := s.heap.size)) va_S.rf hl
abbrev rm_Mo_isSettled : Room := { frames := 3, cells := 0, slots := 0, locals := 67 }
def Cx_Mo_isSettled (p : Program) (s : State) (m : MethodId) (args : Array Value) (meth : Method) (c : Code) (D : va_G) (κ : Nat → ClassId) (A : Nat → Prop) : Prop := p.tables.exec = Jvm.exec ∧ c.code = prog_8_method_32_code ∧ c.maxLocals = 3 ∧ meth.sig.returnType = (some .boolean) ∧ s.vm.findClass "BuckTablesModel" = some m.cls ∧ (∀ w ∈ WG, w.before args s = true) ∧ meth.locks = false ∧ hEnv D kCl (hTys κ) A s ∧ (∀ q, s.heap.size ≤ q → A q)
def wMo_isSettled_51 (post : Int32 → Hp → Prop) (k7 : Nat → Int32 → Int32 → Hp → Prop) (x0 : Nat) (x2 : Int32) (y0 : Int32) (M : Hp) : Prop := (∀ z1 : Int32, z1 = x2 + 1 → (k7 x0 y0 z1 M))
set_option maxRecDepth 100000 in
set_option maxHeartbeats 4000000 in
theorem tMo_isSettled_51 {p : Program} {l : Launch} {e : Env} {s : State} {m : MethodId} {args : Array Value} {below : List Frame} {meth : Method} {c : Code} {D : va_G} {κ : Nat → ClassId} {A : Nat → Prop} (C : Cx_Mo_isSettled p s m args meth c D κ A) (post : Int32 → Hp → Prop) (k7 : Nat → Int32 → Int32 → Hp → Prop) (hk7 : ∀ (x0 : Nat) (x1 : Int32) (x2 : Int32) (M : Hp), k7 x0 x1 x2 M → Y p l e rm_Mo_isSettled s m args below meth c D kCl (hTys κ) A 3 0 0 (MQ below (va_Qi post (hB D kCl (hTys κ) A) A) args s 0 0 A) M 7 [(0, .ref x0), (1, .int x1), (2, .int x2)] []) (x0 : Nat) (x2 : Int32) (y0 : Int32) (M : Hp) (hwp : wMo_isSettled_51 post k7 x0 x2 y0 M) : Y p l e rm_Mo_isSettled s m args below meth c D kCl (hTys κ) A 3 0 0 (MQ below (va_Qi post (hB D kCl (hTys κ) A) A) args s 0 0 A) M 51 [(0, .ref x0), (2, .int x2)] [.int y0] := by
  obtain ⟨hx, hb, hml, hr, hown, hts, hlocks, hE, hA⟩ := id C
  have hK := hE.1
  intro H locs ls hM hS hl
  unfold wMo_isSettled_51 at hwp
  refine lv_istore_n (lv' := [(1, .int y0), (0, .ref x0), (2, .int x2)]) hx hb d_Mo_isSettled_51 rfl hl (by decide) rfl (fun ls hl => ?_)
  obtain ⟨z1, ez1⟩ : ∃ y : Int32, y = x2 + 1 := ⟨_, rfl⟩
  replace hwp := hwp z1 ez1
  refine lv_iinc (v := z1) (lv' := [(2, .int z1), (1, .int y0), (0, .ref x0)]) hx hb d_Mo_isSettled_52 hl (k := 2) rfl (by rw [ez1]; rfl) (by decide) rfl (fun ls hl => ?_)
  refine lv_goto (tgt := 7) hx hb d_Mo_isSettled_55 (by decide) ?_
  exact hk7 x0 y0 z1 M hwp H locs ls hM hS (lv_sub hl [2, 1, 0] rfl)
def wMo_isSettled_50 (post : Int32 → Hp → Prop) (k7 : Nat → Int32 → Int32 → Hp → Prop) (x0 : Nat) (x2 : Int32) (M : Hp) : Prop := (wMo_isSettled_51 post k7 x0 x2 (0 : Int32) M)
set_option maxRecDepth 100000 in
set_option maxHeartbeats 4000000 in
theorem tMo_isSettled_50 {p : Program} {l : Launch} {e : Env} {s : State} {m : MethodId} {args : Array Value} {below : List Frame} {meth : Method} {c : Code} {D : va_G} {κ : Nat → ClassId} {A : Nat → Prop} (C : Cx_Mo_isSettled p s m args meth c D κ A) (post : Int32 → Hp → Prop) (k7 : Nat → Int32 → Int32 → Hp → Prop) (hk7 : ∀ (x0 : Nat) (x1 : Int32) (x2 : Int32) (M : Hp), k7 x0 x1 x2 M → Y p l e rm_Mo_isSettled s m args below meth c D kCl (hTys κ) A 3 0 0 (MQ below (va_Qi post (hB D kCl (hTys κ) A) A) args s 0 0 A) M 7 [(0, .ref x0), (1, .int x1), (2, .int x2)] []) (x0 : Nat) (x2 : Int32) (M : Hp) (hwp : wMo_isSettled_50 post k7 x0 x2 M) : Y p l e rm_Mo_isSettled s m args below meth c D kCl (hTys κ) A 3 0 0 (MQ below (va_Qi post (hB D kCl (hTys κ) A) A) args s 0 0 A) M 50 [(0, .ref x0), (2, .int x2)] [] := by
  obtain ⟨hx, hb, hml, hr, hown, hts, hlocks, hE, hA⟩ := id C
  have hK := hE.1
  intro H locs ls hM hS hl
  unfold wMo_isSettled_50 at hwp
  refine lv_iconst (v := 0) hx hb d_Mo_isSettled_50 (by decide) ?_
  exact tMo_isSettled_51 C post k7 hk7 x0 x2 (0 : Int32) M hwp H locs ls hM hS (lv_sub hl [0, 1] rfl)
def wMo_isSettled_46 (post : Int32 → Hp → Prop) (k7 : Nat → Int32 → Int32 → Hp → Prop) (x0 : Nat) (x2 : Int32) (M : Hp) : Prop := (wMo_isSettled_51 post k7 x0 x2 (1 : Int32) M)
set_option maxRecDepth 100000 in
set_option maxHeartbeats 4000000 in
theorem tMo_isSettled_46 {p : Program} {l : Launch} {e : Env} {s : State} {m : MethodId} {args : Array Value} {below : List Frame} {meth : Method} {c : Code} {D : va_G} {κ : Nat → ClassId} {A : Nat → Prop} (C : Cx_Mo_isSettled p s m args meth c D κ A) (post : Int32 → Hp → Prop) (k7 : Nat → Int32 → Int32 → Hp → Prop) (hk7 : ∀ (x0 : Nat) (x1 : Int32) (x2 : Int32) (M : Hp), k7 x0 x1 x2 M → Y p l e rm_Mo_isSettled s m args below meth c D kCl (hTys κ) A 3 0 0 (MQ below (va_Qi post (hB D kCl (hTys κ) A) A) args s 0 0 A) M 7 [(0, .ref x0), (1, .int x1), (2, .int x2)] []) (x0 : Nat) (x2 : Int32) (M : Hp) (hwp : wMo_isSettled_46 post k7 x0 x2 M) : Y p l e rm_Mo_isSettled s m args below meth c D kCl (hTys κ) A 3 0 0 (MQ below (va_Qi post (hB D kCl (hTys κ) A) A) args s 0 0 A) M 46 [(0, .ref x0), (2, .int x2)] [] := by
  obtain ⟨hx, hb, hml, hr, hown, hts, hlocks, hE, hA⟩ := id C
  have hK := hE.1
  intro H locs ls hM hS hl
  unfold wMo_isSettled_46 at hwp
  refine lv_iconst (v := 1) hx hb d_Mo_isSettled_46 (by decide) ?_
  refine lv_goto (tgt := 51) hx hb d_Mo_isSettled_47 (by decide) ?_
  exact tMo_isSettled_51 C post k7 hk7 x0 x2 (1 : Int32) M hwp H locs ls hM hS (lv_sub hl [0, 1] rfl)
def wMo_isSettled_7 (post : Int32 → Hp → Prop)  : Nat → Nat → Int32 → Int32 → Hp → Prop
  | 0 => fun _ _ _ _ => False
  | n + 1 => fun x0 x1 x2 M => (∃ v2 : Int32, fI M x0 6 14 v2 ∧ ((v2 ≤ x2 → ((x1 = 0 ∨ x1 = 1) ∧ post x1 M)) ∧ (¬ v2 ≤ x2 → ((x1 = 0 → (wMo_isSettled_50 post (wMo_isSettled_7 post n) x0 x2 M)) ∧ (¬ x1 = 0 → (∃ a9 : Nat, fA M x0 6 23 a9 ∧ (∃ v13 : Int64, aJ M a9 x2 v13 ∧ ((v13 = (0 : Int64) → (wMo_isSettled_46 post (wMo_isSettled_7 post n) x0 x2 M)) ∧ (¬ v13 = (0 : Int64) → (hob M x0 6 ∧ (wpMo_countOf x0 x2 M (fun (r21 : Int32) (M19 : Hp) => (∃ a22 : Nat, fA M19 x0 6 21 a22 ∧ (∃ v26 : Int64, aJ M19 a22 x2 v26 ∧ (((r21.toInt64) = v26 → (wMo_isSettled_46 post (wMo_isSettled_7 post n) x0 x2 M19)) ∧ (¬ (r21.toInt64) = v26 → (wMo_isSettled_50 post (wMo_isSettled_7 post n) x0 x2 M19)))))))))))))))))
set_option maxRecDepth 100000 in
set_option maxHeartbeats 4000000 in
theorem tMo_isSettled_7 {p : Program} {l : Launch} {e : Env} {s : State} {m : MethodId} {args : Array Value} {below : List Frame} {meth : Method} {c : Code} {D : va_G} {κ : Nat → ClassId} {A : Nat → Prop} (C : Cx_Mo_isSettled p s m args meth c D κ A) (post : Int32 → Hp → Prop)  : ∀ (n : Nat) (x0 : Nat) (x1 : Int32) (x2 : Int32) (M : Hp), wMo_isSettled_7 post n x0 x1 x2 M → Y p l e rm_Mo_isSettled s m args below meth c D kCl (hTys κ) A 3 0 0 (MQ below (va_Qi post (hB D kCl (hTys κ) A) A) args s 0 0 A) M 7 [(0, .ref x0), (1, .int x1), (2, .int x2)] [] := by
  obtain ⟨hx, hb, hml, hr, hown, hts, hlocks, hE, hA⟩ := id C
  have hK := hE.1
  intro n
  induction n with
  | zero => intro x0 x1 x2 M hwp; exact hwp.elim
  | succ n ih =>
    intro x0 x1 x2 M hwp H locs ls hM hS hl
    unfold wMo_isSettled_7 at hwp
    refine lv_iload_n hx hb d_Mo_isSettled_7 rfl (lv_at hl 2 rfl) ?_
    refine lv_aload_n hx hb d_Mo_isSettled_8 rfl (lv_at hl 0 rfl) ?_
    obtain ⟨v2, ⟨fs3, he4, hv5⟩, hwp⟩ := hwp
    refine h_get (C := "BuckTablesModel") (T := Tc6) (N := 36) hx hb hts inc6 hown hK hM he4 rfl 14 (by decide) (hts _ kw_734) (fun _ h9 => h9) hv5 d_Mo_isSettled_9 ?_
    refine lv_icmp_ge (tgt := 58) hx hb d_Mo_isSettled_12 (by decide) (fun c6 => ?_) (fun c6 => ?_)
    · replace hwp := hwp.1 c6
      refine lv_iload_n hx hb d_Mo_isSettled_58 rfl (lv_at hl 1 rfl) ?_
      obtain ⟨hz7, hwp⟩ := hwp
      exact W.zret (v := x1) hx hb hr (by rcases hz7 with h | h <;> rw [h] <;> rfl) (fun t ht hW => ⟨⟨x1, M, rfl, hwp, by show hw D kCl (hTys κ) A M t.heap; rw [ht]; exact hM⟩, hS.F ht⟩) hS.2.2 d_Mo_isSettled_59
    · replace hwp := hwp.2 c6
      refine lv_iload_n hx hb d_Mo_isSettled_15 rfl (lv_at hl 1 rfl) ?_
      refine lv_if_eq (tgt := 50) hx hb d_Mo_isSettled_16 (by decide) (fun c8 => ?_) (fun c8 => ?_)
      · replace hwp := hwp.1 c8
        exact tMo_isSettled_50 C post (wMo_isSettled_7 post n) ih x0 x2 M hwp H locs ls hM hS (lv_sub hl [0, 2] rfl)
      · replace hwp := hwp.2 c8
        refine lv_aload_n hx hb d_Mo_isSettled_19 rfl (lv_at hl 0 rfl) ?_
        obtain ⟨a9, ⟨fs10, he11, hv12⟩, hwp⟩ := hwp
        refine h_get (C := "BuckTablesModel") (T := Tc6) (N := 36) hx hb hts inc6 hown hK hM he11 rfl 23 (by decide) (hts _ kw_743) (fun _ h9 => h9) hv12 d_Mo_isSettled_20 ?_
        refine lv_iload_n hx hb d_Mo_isSettled_23 rfl (lv_at hl 2 rfl) ?_
        obtain ⟨v13, ⟨n14, f15, ha16, hi17, ev13⟩, hwp⟩ := hwp
        refine h_lald hx hb hK hM ha16 rfl hi17 d_Mo_isSettled_24 ?_
        rw [← ev13]
        refine lv_lconst (v := 0) hx hb d_Mo_isSettled_25 (by decide) ?_
        refine W.lcmp hx hb d_Mo_isSettled_26 ?_
        refine lv_if_eq (tgt := 46) hx hb d_Mo_isSettled_27 (by decide) (fun c18 => ?_) (fun c18 => ?_)
        · replace c18 := (lc_eq _ _).mp c18
          replace hwp := hwp.1 c18
          exact tMo_isSettled_46 C post (wMo_isSettled_7 post n) ih x0 x2 M hwp H locs ls hM hS (lv_sub hl [0, 2] rfl)
        · replace c18 := fun h9 => c18 ((lc_eq _ _).mpr h9)
          replace hwp := hwp.2 c18
          refine lv_aload_n hx hb d_Mo_isSettled_30 rfl (lv_at hl 0 rfl) ?_
          refine lv_iload_n hx hb d_Mo_isSettled_31 rfl (lv_at hl 2 rfl) ?_
          obtain ⟨ho20, hwp⟩ := hwp
          refine h_calli hM hS hA (va_runV (As := [.int x2]) (rest := []) ⟨hx, hb, hml, hown, hts⟩ (metMo_countOf l D κ H.size x0 x2 M _ hwp) (cwV 1 hts (gV kw_938 kw_940 kp_36 kw_8 kw_941) rfl rfl rfl (by decide +kernel) ⟨(Nat.le_of_ble_eq_true rfl), (Nat.le_of_ble_eq_true rfl)⟩) (h_preV hE hM hS ho20 (r := ("BuckTablesModel", Tc6, 36)) rfl) rfl rfl hl.1 rfl (lv_room (Nat.le_of_ble_eq_true rfl)) d_Mo_isSettled_32 ⟨(Nat.le_of_ble_eq_true rfl), (Nat.le_of_ble_eq_true rfl)⟩) (fun r21 M19 H locs hwp hM hS => ?_)
          refine lv_i2l hx hb d_Mo_isSettled_35 rfl ?_
          refine lv_aload_n hx hb d_Mo_isSettled_36 rfl (lv_at hl 0 rfl) ?_
          obtain ⟨a22, ⟨fs23, he24, hv25⟩, hwp⟩ := hwp
          refine h_get (C := "BuckTablesModel") (T := Tc6) (N := 36) hx hb hts inc6 hown hK hM he24 rfl 21 (by decide) (hts _ kw_741) (fun _ h9 => h9) hv25 d_Mo_isSettled_37 ?_
          refine lv_iload_n hx hb d_Mo_isSettled_40 rfl (lv_at hl 2 rfl) ?_
          obtain ⟨v26, ⟨n27, f28, ha29, hi30, ev26⟩, hwp⟩ := hwp
          refine h_lald hx hb hK hM ha29 rfl hi30 d_Mo_isSettled_41 ?_
          rw [← ev26]
          refine W.lcmp hx hb d_Mo_isSettled_42 ?_
          refine lv_if_ne (tgt := 50) hx hb d_Mo_isSettled_43 (by decide) (fun c31 => ?_) (fun c31 => ?_)
          · replace c31 := fun h9 => c31 ((lc_eq _ _).mpr h9)
            replace hwp := hwp.2 c31
            exact tMo_isSettled_50 C post (wMo_isSettled_7 post n) ih x0 x2 M19 hwp H locs ls hM hS (lv_sub hl [0, 2] rfl)
          · replace c31 := (lc_eq _ _).mp c31
            replace hwp := hwp.1 c31
            exact tMo_isSettled_46 C post (wMo_isSettled_7 post n) ih x0 x2 M19 hwp H locs ls hM hS (lv_sub hl [0, 2] rfl)
def wpMo_isSettled (self : Nat) (M : Hp) (post : Int32 → Hp → Prop) : Prop := (hob M self 6 ∧ (wpMo_allHold self M (fun (r34 : Int32) (M32 : Hp) => (∃ n35 : Nat, wMo_isSettled_7 post n35 self r34 (0 : Int32) M32))))
set_option maxRecDepth 100000 in
set_option maxHeartbeats 4000000 in
theorem eMo_isSettled {p : Program} {l : Launch} {e : Env} {s : State} {m : MethodId} {args : Array Value} {below : List Frame} {meth : Method} {c : Code} {D : va_G} {κ : Nat → ClassId} {A : Nat → Prop} (C : Cx_Mo_isSettled p s m args meth c D κ A) (post : Int32 → Hp → Prop) (self : Nat) (M : Hp) (hwp : wpMo_isSettled self M post) : Y p l e rm_Mo_isSettled s m args below meth c D kCl (hTys κ) A 3 0 0 (MQ below (va_Qi post (hB D kCl (hTys κ) A) A) args s 0 0 A) M 0 [(0, .ref self)] [] := by
  obtain ⟨hx, hb, hml, hr, hown, hts, hlocks, hE, hA⟩ := id C
  have hK := hE.1
  intro H locs ls hM hS hl
  unfold wpMo_isSettled at hwp
  refine lv_aload_n hx hb d_Mo_isSettled_0 rfl (lv_at hl 0 rfl) ?_
  obtain ⟨ho33, hwp⟩ := hwp
  refine h_calli hM hS hA (va_runV (As := []) (rest := []) ⟨hx, hb, hml, hown, hts⟩ (metMo_allHold l D κ H.size self M _ hwp) (cwV 0 hts (gV kw_951 kw_953 kp_38 kw_8 kw_954) rfl rfl rfl (by decide +kernel) ⟨(Nat.le_of_ble_eq_true rfl), (Nat.le_of_ble_eq_true rfl)⟩) (h_preV hE hM hS ho33 (r := ("BuckTablesModel", Tc6, 36)) rfl) rfl rfl hl.1 rfl (lv_room (Nat.le_of_ble_eq_true rfl)) d_Mo_isSettled_1 ⟨(Nat.le_of_ble_eq_true rfl), (Nat.le_of_ble_eq_true rfl)⟩) (fun r34 M32 H locs hwp hM hS => ?_)
  refine lv_istore_n (lv' := [(1, .int r34), (0, .ref self)]) hx hb d_Mo_isSettled_4 rfl hl (by decide) rfl (fun ls hl => ?_)
  refine lv_iconst (v := 0) hx hb d_Mo_isSettled_5 (by decide) ?_
  refine lv_istore_n (lv' := [(2, .int (0 : Int32)), (1, .int r34), (0, .ref self)]) hx hb d_Mo_isSettled_6 rfl hl (by decide) rfl (fun ls hl => ?_)
  obtain ⟨n35, hwp⟩ := hwp
  exact tMo_isSettled_7 C post n35 self r34 (0 : Int32) M32 hwp H locs ls hM hS (lv_sub hl [2, 1, 0] rfl)
set_option maxRecDepth 100000 in
set_option maxHeartbeats 4000000 in
theorem metMo_isSettled (l : Launch) (D : va_G) (κ : Nat → ClassId) (sz : Nat) (self : Nat) (M : Hp) (post : Int32 → Hp → Prop) (hwp : wpMo_isSettled self M post) : Met l y_Mo_isSettled ws_Mo_isSettled rm_Mo_isSettled (hPc D kCl (hTys κ) M sz [.ref self]) (va_Qi post (hB D kCl (hTys κ) (hAx M sz)) (hAx M sz)) 0 0 (hAx M sz) := by
  refine Met.ofW (cc := prog_8_method_32_code) (maxL := 3) (ret := (some .boolean)) (by decide +kernel) rfl ?_
  intro p e s m args below meth c s₁ B hml hv
  obtain ⟨rfl, hsz, hE, hM0⟩ := hv
  have hts : ∀ w ∈ WG, w.before _ s = true := fun w h => atoms_spec (ws := ws_Mo_isSettled) B.pre w (List.mem_cons_of_mem _ h)
  subst hsz
  have C : Cx_Mo_isSettled p s m _ meth c D κ (hAx M s.heap.size) := ⟨B.exec, B.bytes, hml, B.returns, findClass_of_methodNamed B.named, hts, B.notSynchronized, hE, fun q h => Or.inr h⟩
  have hl := lv_entry ([.ref self]) (n := 3) (Nat.le_of_ble_eq_true rfl)
  rw [lg_entry_eq]
  generalize (lg_sl ([.ref self]) ++ List.replicate (3 - (lg_sl ([.ref self])).length) Slot.unset).toArray = ls at hl ⊢
  exact eMo_isSettled C post self M hwp s.heap [] ls (hM0.self (sz := s.heap.size)) va_S.rf hl
abbrev rm_Mo_setPrices : Room := { frames := 2, cells := 0, slots := 0, locals := 45 }
def Cx_Mo_setPrices (p : Program) (s : State) (m : MethodId) (args : Array Value) (meth : Method) (c : Code) (D : va_G) (κ : Nat → ClassId) (A : Nat → Prop) : Prop := p.tables.exec = Jvm.exec ∧ c.code = prog_8_method_33_code ∧ c.maxLocals = 7 ∧ meth.sig.returnType = none ∧ s.vm.findClass "BuckTablesModel" = some m.cls ∧ (∀ w ∈ WG, w.before args s = true) ∧ meth.locks = false ∧ hEnv D kCl (hTys κ) A s ∧ (∀ q, s.heap.size ≤ q → A q)
def wMo_setPrices_95 (post : Hp → Prop) (k2 : Nat → Int32 → Int32 → Hp → Prop) (x0 : Nat) (x1 : Int32) (x2 : Int32) (y0 : Int64) (y1 : Int32) (y2 : Nat) (M : Hp) : Prop := (∃ M5 : Hp, sJ M y2 y1 y0 M5 ∧ (∀ z6 : Int32, z6 = x2 + 1 → (k2 x0 x1 z6 M5)))
set_option maxRecDepth 100000 in
set_option maxHeartbeats 4000000 in
theorem tMo_setPrices_95 {p : Program} {l : Launch} {e : Env} {s : State} {m : MethodId} {args : Array Value} {below : List Frame} {meth : Method} {c : Code} {D : va_G} {κ : Nat → ClassId} {A : Nat → Prop} (C : Cx_Mo_setPrices p s m args meth c D κ A) (post : Hp → Prop) (k2 : Nat → Int32 → Int32 → Hp → Prop) (hk2 : ∀ (x0 : Nat) (x1 : Int32) (x2 : Int32) (M : Hp), k2 x0 x1 x2 M → Y p l e rm_Mo_setPrices s m args below meth c D kCl (hTys κ) A 7 0 0 (MQ below (va_Qv post (hB D kCl (hTys κ) A) A) args s 0 0 A) M 2 [(0, .ref x0), (1, .int x1), (2, .int x2)] []) (x0 : Nat) (x1 : Int32) (x2 : Int32) (y0 : Int64) (y1 : Int32) (y2 : Nat) (M : Hp) (hwp : wMo_setPrices_95 post k2 x0 x1 x2 y0 y1 y2 M) : Y p l e rm_Mo_setPrices s m args below meth c D kCl (hTys κ) A 7 0 0 (MQ below (va_Qv post (hB D kCl (hTys κ) A) A) args s 0 0 A) M 95 [(0, .ref x0), (1, .int x1), (2, .int x2)] [.long y0, .int y1, .ref y2] := by
  obtain ⟨hx, hb, hml, hr, hown, hts, hlocks, hE, hA⟩ := id C
  have hK := hE.1
  intro H locs ls hM hS hl
  unfold wMo_setPrices_95 at hwp
  obtain ⟨M5, ⟨n1, f2, ha3, hi4, eM5⟩, hwp⟩ := hwp
  refine h_last hx hb hK hM hS ha3 rfl hi4 d_Mo_setPrices_95 (fun H locs hM hS => ?_)
  rw [← eM5] at hM
  obtain ⟨z6, ez6⟩ : ∃ y : Int32, y = x2 + 1 := ⟨_, rfl⟩
  replace hwp := hwp z6 ez6
  refine lv_iinc (v := z6) (lv' := [(2, .int z6), (0, .ref x0), (1, .int x1)]) hx hb d_Mo_setPrices_96 hl (k := 2) rfl (by rw [ez6]; rfl) (by decide) rfl (fun ls hl => ?_)
  refine lv_goto (tgt := 2) hx hb d_Mo_setPrices_99 (by decide) ?_
  exact hk2 x0 x1 z6 M5 hwp H locs ls hM hS (lv_sub hl [1, 2, 0] rfl)
def wMo_setPrices_89 (post : Hp → Prop) (k2 : Nat → Int32 → Int32 → Hp → Prop) (x0 : Nat) (x1 : Int32) (x2 : Int32) (y0 : Int32) (y1 : Nat) (M : Hp) : Prop := (wMo_setPrices_95 post k2 x0 x1 x2 (0 : Int64) y0 y1 M)
set_option maxRecDepth 100000 in
set_option maxHeartbeats 4000000 in
theorem tMo_setPrices_89 {p : Program} {l : Launch} {e : Env} {s : State} {m : MethodId} {args : Array Value} {below : List Frame} {meth : Method} {c : Code} {D : va_G} {κ : Nat → ClassId} {A : Nat → Prop} (C : Cx_Mo_setPrices p s m args meth c D κ A) (post : Hp → Prop) (k2 : Nat → Int32 → Int32 → Hp → Prop) (hk2 : ∀ (x0 : Nat) (x1 : Int32) (x2 : Int32) (M : Hp), k2 x0 x1 x2 M → Y p l e rm_Mo_setPrices s m args below meth c D kCl (hTys κ) A 7 0 0 (MQ below (va_Qv post (hB D kCl (hTys κ) A) A) args s 0 0 A) M 2 [(0, .ref x0), (1, .int x1), (2, .int x2)] []) (x0 : Nat) (x1 : Int32) (x2 : Int32) (y0 : Int32) (y1 : Nat) (M : Hp) (hwp : wMo_setPrices_89 post k2 x0 x1 x2 y0 y1 M) : Y p l e rm_Mo_setPrices s m args below meth c D kCl (hTys κ) A 7 0 0 (MQ below (va_Qv post (hB D kCl (hTys κ) A) A) args s 0 0 A) M 89 [(0, .ref x0), (1, .int x1), (2, .int x2)] [.int y0, .ref y1] := by
  obtain ⟨hx, hb, hml, hr, hown, hts, hlocks, hE, hA⟩ := id C
  have hK := hE.1
  intro H locs ls hM hS hl
  unfold wMo_setPrices_89 at hwp
  refine lv_lconst (v := 0) hx hb d_Mo_setPrices_89 (by decide) ?_
  refine lv_goto (tgt := 95) hx hb d_Mo_setPrices_90 (by decide) ?_
  exact tMo_setPrices_95 C post k2 hk2 x0 x1 x2 (0 : Int64) y0 y1 M hwp H locs ls hM hS (lv_sub hl [0, 1, 2] rfl)
def wMo_setPrices_41 (post : Hp → Prop) (k2 : Nat → Int32 → Int32 → Hp → Prop) (x0 : Nat) (x1 : Int32) (x2 : Int32) (y0 : Int64) (M : Hp) : Prop := (∃ a7 : Nat, fA M x0 6 23 a7 ∧ (∃ v11 : Int64, aJ M a7 x2 v11 ∧ (hob M x0 6 ∧ (wpMo_countOf x0 x2 M (fun (r18 : Int32) (M16 : Hp) => (∃ a19 : Nat, fA M16 x0 6 21 a19 ∧ (∃ v23 : Int64, aJ M16 a19 x2 v23 ∧ (∀ z28 : Int64, z28 = (v11 + (((r18.toInt64) - v23) * y0)) → (∃ a29 : Nat, fA M16 x0 6 23 a29 ∧ (∃ a33 : Nat, fA M16 x0 6 21 a33 ∧ (∃ v37 : Int64, aJ M16 a33 x2 v37 ∧ ((v37 < (0 : Int64) → (wMo_setPrices_89 post k2 x0 x1 x2 x2 a29 M16)) ∧ (¬ v37 < (0 : Int64) → (((0 : Int64) ≤ z28 → (wMo_setPrices_95 post k2 x0 x1 x2 z28 x2 a29 M16)) ∧ (¬ (0 : Int64) ≤ z28 → (wMo_setPrices_89 post k2 x0 x1 x2 x2 a29 M16))))))))))))))))
set_option maxRecDepth 100000 in
set_option maxHeartbeats 4000000 in
theorem tMo_setPrices_41 {p : Program} {l : Launch} {e : Env} {s : State} {m : MethodId} {args : Array Value} {below : List Frame} {meth : Method} {c : Code} {D : va_G} {κ : Nat → ClassId} {A : Nat → Prop} (C : Cx_Mo_setPrices p s m args meth c D κ A) (post : Hp → Prop) (k2 : Nat → Int32 → Int32 → Hp → Prop) (hk2 : ∀ (x0 : Nat) (x1 : Int32) (x2 : Int32) (M : Hp), k2 x0 x1 x2 M → Y p l e rm_Mo_setPrices s m args below meth c D kCl (hTys κ) A 7 0 0 (MQ below (va_Qv post (hB D kCl (hTys κ) A) A) args s 0 0 A) M 2 [(0, .ref x0), (1, .int x1), (2, .int x2)] []) (x0 : Nat) (x1 : Int32) (x2 : Int32) (y0 : Int64) (M : Hp) (hwp : wMo_setPrices_41 post k2 x0 x1 x2 y0 M) : Y p l e rm_Mo_setPrices s m args below meth c D kCl (hTys κ) A 7 0 0 (MQ below (va_Qv post (hB D kCl (hTys κ) A) A) args s 0 0 A) M 41 [(0, .ref x0), (1, .int x1), (2, .int x2)] [.long y0] := by
  obtain ⟨hx, hb, hml, hr, hown, hts, hlocks, hE, hA⟩ := id C
  have hK := hE.1
  intro H locs ls hM hS hl
  unfold wMo_setPrices_41 at hwp
  refine lv_lstore_n (lv' := [(3, .long y0), (0, .ref x0), (1, .int x1), (2, .int x2)]) hx hb d_Mo_setPrices_41 rfl hl (by decide) rfl (fun ls hl => ?_)
  refine lv_aload_n hx hb d_Mo_setPrices_42 rfl (lv_at hl 1 rfl) ?_
  obtain ⟨a7, ⟨fs8, he9, hv10⟩, hwp⟩ := hwp
  refine h_get (C := "BuckTablesModel") (T := Tc6) (N := 36) hx hb hts inc6 hown hK hM he9 rfl 23 (by decide) (hts _ kw_743) (fun _ h9 => h9) hv10 d_Mo_setPrices_43 ?_
  refine lv_iload_n hx hb d_Mo_setPrices_46 rfl (lv_at hl 3 rfl) ?_
  obtain ⟨v11, ⟨n12, f13, ha14, hi15, ev11⟩, hwp⟩ := hwp
  refine h_lald hx hb hK hM ha14 rfl hi15 d_Mo_setPrices_47 ?_
  rw [← ev11]
  refine lv_aload_n hx hb d_Mo_setPrices_48 rfl (lv_at hl 1 rfl) ?_
  refine lv_iload_n hx hb d_Mo_setPrices_49 rfl (lv_at hl 3 rfl) ?_
  obtain ⟨ho17, hwp⟩ := hwp
  refine h_calli hM hS hA (va_runV (As := [.int x2]) (rest := [.long v11]) ⟨hx, hb, hml, hown, hts⟩ (metMo_countOf l D κ H.size x0 x2 M _ hwp) (cwV 1 hts (gV kw_938 kw_940 kp_36 kw_8 kw_941) rfl rfl rfl (by decide +kernel) ⟨(Nat.le_of_ble_eq_true rfl), (Nat.le_of_ble_eq_true rfl)⟩) (h_preV hE hM hS ho17 (r := ("BuckTablesModel", Tc6, 36)) rfl) rfl rfl hl.1 rfl (lv_room (Nat.le_of_ble_eq_true rfl)) d_Mo_setPrices_50 ⟨(Nat.le_of_ble_eq_true rfl), (Nat.le_of_ble_eq_true rfl)⟩) (fun r18 M16 H locs hwp hM hS => ?_)
  refine lv_i2l hx hb d_Mo_setPrices_53 rfl ?_
  refine lv_aload_n hx hb d_Mo_setPrices_54 rfl (lv_at hl 1 rfl) ?_
  obtain ⟨a19, ⟨fs20, he21, hv22⟩, hwp⟩ := hwp
  refine h_get (C := "BuckTablesModel") (T := Tc6) (N := 36) hx hb hts inc6 hown hK hM he21 rfl 21 (by decide) (hts _ kw_741) (fun _ h9 => h9) hv22 d_Mo_setPrices_55 ?_
  refine lv_iload_n hx hb d_Mo_setPrices_58 rfl (lv_at hl 3 rfl) ?_
  obtain ⟨v23, ⟨n24, f25, ha26, hi27, ev23⟩, hwp⟩ := hwp
  refine h_lald hx hb hK hM ha26 rfl hi27 d_Mo_setPrices_59 ?_
  rw [← ev23]
  refine lv_lsub hx hb d_Mo_setPrices_60 ?_
  refine lv_lload_n hx hb d_Mo_setPrices_61 rfl (lv_at hl 0 rfl) ?_
  refine lv_lmul hx hb d_Mo_setPrices_62 ?_
  refine lv_ladd hx hb d_Mo_setPrices_63 ?_
  refine lv_topl (fun z28 ez28 => ?_)
  replace hwp := hwp z28 ez28
  refine lv_lstore (lv' := [(5, .long z28), (3, .long y0), (0, .ref x0), (1, .int x1), (2, .int x2)]) hx hb d_Mo_setPrices_64 hl (by decide) rfl (fun ls hl => ?_)
  refine lv_aload_n hx hb d_Mo_setPrices_66 rfl (lv_at hl 2 rfl) ?_
  obtain ⟨a29, ⟨fs30, he31, hv32⟩, hwp⟩ := hwp
  refine h_get (C := "BuckTablesModel") (T := Tc6) (N := 36) hx hb hts inc6 hown hK hM he31 rfl 23 (by decide) (hts _ kw_743) (fun _ h9 => h9) hv32 d_Mo_setPrices_67 ?_
  refine lv_iload_n hx hb d_Mo_setPrices_70 rfl (lv_at hl 4 rfl) ?_
  refine lv_aload_n hx hb d_Mo_setPrices_71 rfl (lv_at hl 2 rfl) ?_
  obtain ⟨a33, ⟨fs34, he35, hv36⟩, hwp⟩ := hwp
  refine h_get (C := "BuckTablesModel") (T := Tc6) (N := 36) hx hb hts inc6 hown hK hM he35 rfl 21 (by decide) (hts _ kw_741) (fun _ h9 => h9) hv36 d_Mo_setPrices_72 ?_
  refine lv_iload_n hx hb d_Mo_setPrices_75 rfl (lv_at hl 4 rfl) ?_
  obtain ⟨v37, ⟨n38, f39, ha40, hi41, ev37⟩, hwp⟩ := hwp
  refine h_lald hx hb hK hM ha40 rfl hi41 d_Mo_setPrices_76 ?_
  rw [← ev37]
  refine lv_lconst (v := 0) hx hb d_Mo_setPrices_77 (by decide) ?_
  refine W.lcmp hx hb d_Mo_setPrices_78 ?_
  refine lv_if_lt (tgt := 89) hx hb d_Mo_setPrices_79 (by decide) (fun c42 => ?_) (fun c42 => ?_)
  · replace c42 := (lc_lt _ _).mp c42
    replace hwp := hwp.1 c42
    exact tMo_setPrices_89 C post k2 hk2 x0 x1 x2 x2 a29 M16 hwp H locs ls hM hS (lv_sub hl [2, 3, 4] rfl)
  · replace c42 := fun h9 => c42 ((lc_lt _ _).mpr h9)
    replace hwp := hwp.2 c42
    refine lv_lload hx hb d_Mo_setPrices_82 (lv_at hl 0 rfl) ?_
    refine lv_lconst (v := 0) hx hb d_Mo_setPrices_84 (by decide) ?_
    refine W.lcmp hx hb d_Mo_setPrices_85 ?_
    refine lv_if_ge (tgt := 93) hx hb d_Mo_setPrices_86 (by decide) (fun c43 => ?_) (fun c43 => ?_)
    · replace c43 := (lc_ge _ _).mp c43
      replace hwp := hwp.1 c43
      refine lv_lload hx hb d_Mo_setPrices_93 (lv_at hl 0 rfl) ?_
      exact tMo_setPrices_95 C post k2 hk2 x0 x1 x2 z28 x2 a29 M16 hwp H locs ls hM hS (lv_sub hl [2, 3, 4] rfl)
    · replace c43 := fun h9 => c43 ((lc_ge _ _).mpr h9)
      replace hwp := hwp.2 c43
      exact tMo_setPrices_89 C post k2 hk2 x0 x1 x2 x2 a29 M16 hwp H locs ls hM hS (lv_sub hl [2, 3, 4] rfl)
def wMo_setPrices_2 (post : Hp → Prop)  : Nat → Nat → Int32 → Int32 → Hp → Prop
  | 0 => fun _ _ _ _ => False
  | n + 1 => fun x0 x1 x2 M => (∃ v44 : Int32, fI M x0 6 14 v44 ∧ ((v44 ≤ x2 → (post M)) ∧ (¬ v44 ≤ x2 → (∃ a49 : Nat, fA M x0 6 24 a49 ∧ (∃ a53 : Nat, fA M x0 6 23 a53 ∧ (∃ v57 : Int64, aJ M a53 x2 v57 ∧ (∃ M66 : Hp, sJ M a49 x2 v57 M66 ∧ (¬ x1 = 0 ∧ ((((1024 : Int32) / x1) ≤ (1 : Int32) → (wMo_setPrices_41 post (wMo_setPrices_2 post n) x0 x1 x2 (1 : Int64) M66)) ∧ (¬ ((1024 : Int32) / x1) ≤ (1 : Int32) → (¬ x1 = 0 ∧ (wMo_setPrices_41 post (wMo_setPrices_2 post n) x0 x1 x2 (((1024 : Int32) / x1).toInt64) M66))))))))))))
set_option maxRecDepth 100000 in
set_option maxHeartbeats 4000000 in
theorem tMo_setPrices_2 {p : Program} {l : Launch} {e : Env} {s : State} {m : MethodId} {args : Array Value} {below : List Frame} {meth : Method} {c : Code} {D : va_G} {κ : Nat → ClassId} {A : Nat → Prop} (C : Cx_Mo_setPrices p s m args meth c D κ A) (post : Hp → Prop)  : ∀ (n : Nat) (x0 : Nat) (x1 : Int32) (x2 : Int32) (M : Hp), wMo_setPrices_2 post n x0 x1 x2 M → Y p l e rm_Mo_setPrices s m args below meth c D kCl (hTys κ) A 7 0 0 (MQ below (va_Qv post (hB D kCl (hTys κ) A) A) args s 0 0 A) M 2 [(0, .ref x0), (1, .int x1), (2, .int x2)] [] := by
  obtain ⟨hx, hb, hml, hr, hown, hts, hlocks, hE, hA⟩ := id C
  have hK := hE.1
  intro n
  induction n with
  | zero => intro x0 x1 x2 M hwp; exact hwp.elim
  | succ n ih =>
    intro x0 x1 x2 M hwp H locs ls hM hS hl
    unfold wMo_setPrices_2 at hwp
    refine lv_iload_n hx hb d_Mo_setPrices_2 rfl (lv_at hl 2 rfl) ?_
    refine lv_aload_n hx hb d_Mo_setPrices_3 rfl (lv_at hl 0 rfl) ?_
    obtain ⟨v44, ⟨fs45, he46, hv47⟩, hwp⟩ := hwp
    refine h_get (C := "BuckTablesModel") (T := Tc6) (N := 36) hx hb hts inc6 hown hK hM he46 rfl 14 (by decide) (hts _ kw_734) (fun _ h9 => h9) hv47 d_Mo_setPrices_4 ?_
    refine lv_icmp_ge (tgt := 102) hx hb d_Mo_setPrices_7 (by decide) (fun c48 => ?_) (fun c48 => ?_)
    · replace hwp := hwp.1 c48
      exact W.vret hx hb hr (fun t ht hW => ⟨⟨M, rfl, hwp, by show hw D kCl (hTys κ) A M t.heap; rw [ht]; exact hM⟩, hS.F ht⟩) hS.2.2 d_Mo_setPrices_102
    · replace hwp := hwp.2 c48
      refine lv_aload_n hx hb d_Mo_setPrices_10 rfl (lv_at hl 0 rfl) ?_
      obtain ⟨a49, ⟨fs50, he51, hv52⟩, hwp⟩ := hwp
      refine h_get (C := "BuckTablesModel") (T := Tc6) (N := 36) hx hb hts inc6 hown hK hM he51 rfl 24 (by decide) (hts _ kw_744) (fun _ h9 => h9) hv52 d_Mo_setPrices_11 ?_
      refine lv_iload_n hx hb d_Mo_setPrices_14 rfl (lv_at hl 2 rfl) ?_
      refine lv_aload_n hx hb d_Mo_setPrices_15 rfl (lv_at hl 0 rfl) ?_
      obtain ⟨a53, ⟨fs54, he55, hv56⟩, hwp⟩ := hwp
      refine h_get (C := "BuckTablesModel") (T := Tc6) (N := 36) hx hb hts inc6 hown hK hM he55 rfl 23 (by decide) (hts _ kw_743) (fun _ h9 => h9) hv56 d_Mo_setPrices_16 ?_
      refine lv_iload_n hx hb d_Mo_setPrices_19 rfl (lv_at hl 2 rfl) ?_
      obtain ⟨v57, ⟨n58, f59, ha60, hi61, ev57⟩, hwp⟩ := hwp
      refine h_lald hx hb hK hM ha60 rfl hi61 d_Mo_setPrices_20 ?_
      rw [← ev57]
      obtain ⟨M66, ⟨n62, f63, ha64, hi65, eM66⟩, hwp⟩ := hwp
      refine h_last hx hb hK hM hS ha64 rfl hi65 d_Mo_setPrices_21 (fun H locs hM hS => ?_)
      rw [← eM66] at hM
      refine lv_sipush (v := 1024) hx hb d_Mo_setPrices_22 (by decide) ?_
      refine lv_iload_n hx hb d_Mo_setPrices_25 rfl (lv_at hl 1 rfl) ?_
      obtain ⟨h67, hwp⟩ := hwp
      refine lv_idiv hx hb d_Mo_setPrices_26 h67 ?_
      refine lv_iconst (v := 1) hx hb d_Mo_setPrices_27 (by decide) ?_
      refine lv_icmp_le (tgt := 40) hx hb d_Mo_setPrices_28 (by decide) (fun c68 => ?_) (fun c68 => ?_)
      · replace hwp := hwp.1 c68
        refine lv_lconst (v := 1) hx hb d_Mo_setPrices_40 (by decide) ?_
        exact tMo_setPrices_41 C post (wMo_setPrices_2 post n) ih x0 x1 x2 (1 : Int64) M66 hwp H locs ls hM hS (lv_sub hl [0, 1, 2] rfl)
      · replace hwp := hwp.2 c68
        refine lv_sipush (v := 1024) hx hb d_Mo_setPrices_31 (by decide) ?_
        refine lv_iload_n hx hb d_Mo_setPrices_34 rfl (lv_at hl 1 rfl) ?_
        obtain ⟨h69, hwp⟩ := hwp
        refine lv_idiv hx hb d_Mo_setPrices_35 h69 ?_
        refine lv_i2l hx hb d_Mo_setPrices_36 rfl ?_
        refine lv_goto (tgt := 41) hx hb d_Mo_setPrices_37 (by decide) ?_
        exact tMo_setPrices_41 C post (wMo_setPrices_2 post n) ih x0 x1 x2 (((1024 : Int32) / x1).toInt64) M66 hwp H locs ls hM hS (lv_sub hl [0, 1, 2] rfl)
def wpMo_setPrices (self : Nat) (p0 : Int32) (M : Hp) (post : Hp → Prop) : Prop := (∃ n70 : Nat, wMo_setPrices_2 post n70 self p0 (0 : Int32) M)
set_option maxRecDepth 100000 in
set_option maxHeartbeats 4000000 in
theorem eMo_setPrices {p : Program} {l : Launch} {e : Env} {s : State} {m : MethodId} {args : Array Value} {below : List Frame} {meth : Method} {c : Code} {D : va_G} {κ : Nat → ClassId} {A : Nat → Prop} (C : Cx_Mo_setPrices p s m args meth c D κ A) (post : Hp → Prop) (self : Nat) (p0 : Int32) (M : Hp) (hwp : wpMo_setPrices self p0 M post) : Y p l e rm_Mo_setPrices s m args below meth c D kCl (hTys κ) A 7 0 0 (MQ below (va_Qv post (hB D kCl (hTys κ) A) A) args s 0 0 A) M 0 [(0, .ref self), (1, .int p0)] [] := by
  obtain ⟨hx, hb, hml, hr, hown, hts, hlocks, hE, hA⟩ := id C
  have hK := hE.1
  intro H locs ls hM hS hl
  unfold wpMo_setPrices at hwp
  refine lv_iconst (v := 0) hx hb d_Mo_setPrices_0 (by decide) ?_
  refine lv_istore_n (lv' := [(2, .int (0 : Int32)), (0, .ref self), (1, .int p0)]) hx hb d_Mo_setPrices_1 rfl hl (by decide) rfl (fun ls hl => ?_)
  obtain ⟨n70, hwp⟩ := hwp
  exact tMo_setPrices_2 C post n70 self p0 (0 : Int32) M hwp H locs ls hM hS (lv_sub hl [1, 2, 0] rfl)
set_option maxRecDepth 100000 in
set_option maxHeartbeats 4000000 in
theorem metMo_setPrices (l : Launch) (D : va_G) (κ : Nat → ClassId) (sz : Nat) (self : Nat) (p0 : Int32) (M : Hp) (post : Hp → Prop) (hwp : wpMo_setPrices self p0 M post) : Met l y_Mo_setPrices ws_Mo_setPrices rm_Mo_setPrices (hPc D kCl (hTys κ) M sz [.ref self, .int p0]) (va_Qv post (hB D kCl (hTys κ) (hAx M sz)) (hAx M sz)) 0 0 (hAx M sz) := by
  refine Met.ofW (cc := prog_8_method_33_code) (maxL := 7) (ret := none) (by decide +kernel) rfl ?_
  intro p e s m args below meth c s₁ B hml hv
  obtain ⟨rfl, hsz, hE, hM0⟩ := hv
  have hts : ∀ w ∈ WG, w.before _ s = true := fun w h => atoms_spec (ws := ws_Mo_setPrices) B.pre w (List.mem_cons_of_mem _ h)
  subst hsz
  have C : Cx_Mo_setPrices p s m _ meth c D κ (hAx M s.heap.size) := ⟨B.exec, B.bytes, hml, B.returns, findClass_of_methodNamed B.named, hts, B.notSynchronized, hE, fun q h => Or.inr h⟩
  have hl := lv_entry ([.ref self, .int p0]) (n := 7) (Nat.le_of_ble_eq_true rfl)
  rw [lg_entry_eq]
  generalize (lg_sl ([.ref self, .int p0]) ++ List.replicate (7 - (lg_sl ([.ref self, .int p0])).length) Slot.unset).toArray = ls at hl ⊢
  exact eMo_setPrices C post self p0 M hwp s.heap [] ls (hM0.self (sz := s.heap.size)) va_S.rf hl
abbrev rm_Mo_giveWay : Room := { frames := 2, cells := 0, slots := 0, locals := 45 }
def Cx_Mo_giveWay (p : Program) (s : State) (m : MethodId) (args : Array Value) (meth : Method) (c : Code) (D : va_G) (κ : Nat → ClassId) (A : Nat → Prop) : Prop := p.tables.exec = Jvm.exec ∧ c.code = prog_8_method_34_code ∧ c.maxLocals = 6 ∧ meth.sig.returnType = none ∧ s.vm.findClass "BuckTablesModel" = some m.cls ∧ (∀ w ∈ WG, w.before args s = true) ∧ meth.locks = false ∧ hEnv D kCl (hTys κ) A s ∧ (∀ q, s.heap.size ≤ q → A q)
def wMo_giveWay_110 (post : Hp → Prop) (k36 : Nat → Int32 → Int32 → Int32 → Hp → Prop) (k49 : Nat → Int32 → Int32 → Int32 → Int32 → Hp → Prop) (x0 : Nat) (x1 : Int32) (x2 : Int32) (x3 : Int32) (x4 : Int32) (M : Hp) : Prop := (∀ z1 : Int32, z1 = x4 + (-1) → (k49 x0 x1 x2 x3 z1 M))
set_option maxRecDepth 100000 in
set_option maxHeartbeats 4000000 in
theorem tMo_giveWay_110 {p : Program} {l : Launch} {e : Env} {s : State} {m : MethodId} {args : Array Value} {below : List Frame} {meth : Method} {c : Code} {D : va_G} {κ : Nat → ClassId} {A : Nat → Prop} (C : Cx_Mo_giveWay p s m args meth c D κ A) (post : Hp → Prop) (k36 : Nat → Int32 → Int32 → Int32 → Hp → Prop) (hk36 : ∀ (x0 : Nat) (x1 : Int32) (x2 : Int32) (x3 : Int32) (M : Hp), k36 x0 x1 x2 x3 M → Y p l e rm_Mo_giveWay s m args below meth c D kCl (hTys κ) A 6 0 0 (MQ below (va_Qv post (hB D kCl (hTys κ) A) A) args s 0 0 A) M 36 [(0, .ref x0), (1, .int x1), (2, .int x2), (3, .int x3)] []) (k49 : Nat → Int32 → Int32 → Int32 → Int32 → Hp → Prop) (hk49 : ∀ (x0 : Nat) (x1 : Int32) (x2 : Int32) (x3 : Int32) (x4 : Int32) (M : Hp), k49 x0 x1 x2 x3 x4 M → Y p l e rm_Mo_giveWay s m args below meth c D kCl (hTys κ) A 6 0 0 (MQ below (va_Qv post (hB D kCl (hTys κ) A) A) args s 0 0 A) M 49 [(0, .ref x0), (1, .int x1), (2, .int x2), (3, .int x3), (4, .int x4)] []) (x0 : Nat) (x1 : Int32) (x2 : Int32) (x3 : Int32) (x4 : Int32) (M : Hp) (hwp : wMo_giveWay_110 post k36 k49 x0 x1 x2 x3 x4 M) : Y p l e rm_Mo_giveWay s m args below meth c D kCl (hTys κ) A 6 0 0 (MQ below (va_Qv post (hB D kCl (hTys κ) A) A) args s 0 0 A) M 110 [(0, .ref x0), (1, .int x1), (2, .int x2), (3, .int x3), (4, .int x4)] [] := by
  obtain ⟨hx, hb, hml, hr, hown, hts, hlocks, hE, hA⟩ := id C
  have hK := hE.1
  intro H locs ls hM hS hl
  unfold wMo_giveWay_110 at hwp
  obtain ⟨z1, ez1⟩ : ∃ y : Int32, y = x4 + (-1) := ⟨_, rfl⟩
  replace hwp := hwp z1 ez1
  refine lv_iinc (v := z1) (lv' := [(4, .int z1), (0, .ref x0), (1, .int x1), (2, .int x2), (3, .int x3)]) hx hb d_Mo_giveWay_110 hl (k := 4) rfl (by rw [ez1]; rfl) (by decide) rfl (fun ls hl => ?_)
  refine lv_goto (tgt := 49) hx hb d_Mo_giveWay_113 (by decide) ?_
  exact hk49 x0 x1 x2 x3 z1 M hwp H locs ls hM hS (lv_sub hl [1, 2, 3, 4, 0] rfl)
def wMo_giveWay_49 (post : Hp → Prop) (k36 : Nat → Int32 → Int32 → Int32 → Hp → Prop) : Nat → Nat → Int32 → Int32 → Int32 → Int32 → Hp → Prop
  | 0 => fun _ _ _ _ _ _ => False
  | n + 1 => fun x0 x1 x2 x3 x4 M => ((x4 < 0 → (∀ z3 : Int32, z3 = x3 + (-1) → (k36 x0 x1 x2 z3 M))) ∧ (¬ x4 < 0 → (∀ z4 : Int32, z4 = (((81 : Int32) * x3) + x4) → ((x2 ≤ 0 → (wMo_giveWay_110 post k36 (wMo_giveWay_49 post k36 n) x0 x1 x2 x3 x4 M)) ∧ (¬ x2 ≤ 0 → (∃ a6 : Nat, fA M x0 6 25 a6 ∧ (∃ v10 : Int32, aI M a6 z4 v10 ∧ ((v10 = (1 : Int32) → (∃ a16 : Nat, fA M x0 6 27 a16 ∧ (∃ v20 : Int32, aI M a16 z4 v20 ∧ ((v20 = x1 → (∃ a26 : Nat, fA M x0 6 26 a26 ∧ (∃ v30 : Int32, aI M a26 z4 v30 ∧ (hob M x0 6 ∧ (wpMo_mark x0 x3 x4 (x4 + v30) (2 : Int32) M (fun (M35 : Hp) => (∀ z37 : Int32, z37 = x2 + (-1) → (wMo_giveWay_110 post k36 (wMo_giveWay_49 post k36 n) x0 x1 z37 x3 x4 M35)))))))) ∧ (¬ v20 = x1 → (wMo_giveWay_110 post k36 (wMo_giveWay_49 post k36 n) x0 x1 x2 x3 x4 M)))))) ∧ (¬ v10 = (1 : Int32) → (wMo_giveWay_110 post k36 (wMo_giveWay_49 post k36 n) x0 x1 x2 x3 x4 M))))))))))
set_option maxRecDepth 100000 in
set_option maxHeartbeats 4000000 in
theorem tMo_giveWay_49 {p : Program} {l : Launch} {e : Env} {s : State} {m : MethodId} {args : Array Value} {below : List Frame} {meth : Method} {c : Code} {D : va_G} {κ : Nat → ClassId} {A : Nat → Prop} (C : Cx_Mo_giveWay p s m args meth c D κ A) (post : Hp → Prop) (k36 : Nat → Int32 → Int32 → Int32 → Hp → Prop) (hk36 : ∀ (x0 : Nat) (x1 : Int32) (x2 : Int32) (x3 : Int32) (M : Hp), k36 x0 x1 x2 x3 M → Y p l e rm_Mo_giveWay s m args below meth c D kCl (hTys κ) A 6 0 0 (MQ below (va_Qv post (hB D kCl (hTys κ) A) A) args s 0 0 A) M 36 [(0, .ref x0), (1, .int x1), (2, .int x2), (3, .int x3)] []) : ∀ (n : Nat) (x0 : Nat) (x1 : Int32) (x2 : Int32) (x3 : Int32) (x4 : Int32) (M : Hp), wMo_giveWay_49 post k36 n x0 x1 x2 x3 x4 M → Y p l e rm_Mo_giveWay s m args below meth c D kCl (hTys κ) A 6 0 0 (MQ below (va_Qv post (hB D kCl (hTys κ) A) A) args s 0 0 A) M 49 [(0, .ref x0), (1, .int x1), (2, .int x2), (3, .int x3), (4, .int x4)] [] := by
  obtain ⟨hx, hb, hml, hr, hown, hts, hlocks, hE, hA⟩ := id C
  have hK := hE.1
  intro n
  induction n with
  | zero => intro x0 x1 x2 x3 x4 M hwp; exact hwp.elim
  | succ n ih =>
    intro x0 x1 x2 x3 x4 M hwp H locs ls hM hS hl
    unfold wMo_giveWay_49 at hwp
    refine lv_iload hx hb d_Mo_giveWay_49 (lv_at hl 4 rfl) ?_
    refine lv_if_lt (tgt := 116) hx hb d_Mo_giveWay_51 (by decide) (fun c2 => ?_) (fun c2 => ?_)
    · replace hwp := hwp.1 c2
      obtain ⟨z3, ez3⟩ : ∃ y : Int32, y = x3 + (-1) := ⟨_, rfl⟩
      replace hwp := hwp z3 ez3
      refine lv_iinc (v := z3) (lv' := [(3, .int z3), (0, .ref x0), (1, .int x1), (2, .int x2), (4, .int x4)]) hx hb d_Mo_giveWay_116 hl (k := 3) rfl (by rw [ez3]; rfl) (by decide) rfl (fun ls hl => ?_)
      refine lv_goto (tgt := 36) hx hb d_Mo_giveWay_119 (by decide) ?_
      exact hk36 x0 x1 x2 z3 M hwp H locs ls hM hS (lv_sub hl [1, 2, 3, 0] rfl)
    · replace hwp := hwp.2 c2
      refine lv_bipush (v := 81) hx hb d_Mo_giveWay_54 (by decide) ?_
      refine lv_iload_n hx hb d_Mo_giveWay_56 rfl (lv_at hl 3 rfl) ?_
      refine lv_imul hx hb d_Mo_giveWay_57 ?_
      refine lv_iload hx hb d_Mo_giveWay_58 (lv_at hl 4 rfl) ?_
      refine lv_iadd hx hb d_Mo_giveWay_60 ?_
      refine lv_topi (fun z4 ez4 => ?_)
      replace hwp := hwp z4 ez4
      refine lv_istore (lv' := [(5, .int z4), (0, .ref x0), (1, .int x1), (2, .int x2), (3, .int x3), (4, .int x4)]) hx hb d_Mo_giveWay_61 hl (by decide) rfl (fun ls hl => ?_)
      refine lv_iload_n hx hb d_Mo_giveWay_63 rfl (lv_at hl 3 rfl) ?_
      refine lv_if_le (tgt := 110) hx hb d_Mo_giveWay_64 (by decide) (fun c5 => ?_) (fun c5 => ?_)
      · replace hwp := hwp.1 c5
        exact tMo_giveWay_110 C post k36 hk36 (wMo_giveWay_49 post k36 n) ih x0 x1 x2 x3 x4 M hwp H locs ls hM hS (lv_sub hl [1, 2, 3, 4, 5] rfl)
      · replace hwp := hwp.2 c5
        refine lv_aload_n hx hb d_Mo_giveWay_67 rfl (lv_at hl 1 rfl) ?_
        obtain ⟨a6, ⟨fs7, he8, hv9⟩, hwp⟩ := hwp
        refine h_get (C := "BuckTablesModel") (T := Tc6) (N := 36) hx hb hts inc6 hown hK hM he8 rfl 25 (by decide) (hts _ kw_745) (fun _ h9 => h9) hv9 d_Mo_giveWay_68 ?_
        refine lv_iload hx hb d_Mo_giveWay_71 (lv_at hl 0 rfl) ?_
        obtain ⟨v10, ⟨n11, f12, ha13, hi14, ev10⟩, hwp⟩ := hwp
        refine h_iald hx hb hK hM ha13 rfl hi14 d_Mo_giveWay_73 ?_
        rw [← ev10]
        refine lv_iconst (v := 1) hx hb d_Mo_giveWay_74 (by decide) ?_
        refine lv_icmp_ne (tgt := 110) hx hb d_Mo_giveWay_75 (by decide) (fun c15 => ?_) (fun c15 => ?_)
        · replace hwp := hwp.2 c15
          exact tMo_giveWay_110 C post k36 hk36 (wMo_giveWay_49 post k36 n) ih x0 x1 x2 x3 x4 M hwp H locs ls hM hS (lv_sub hl [1, 2, 3, 4, 5] rfl)
        · replace hwp := hwp.1 c15
          refine lv_aload_n hx hb d_Mo_giveWay_78 rfl (lv_at hl 1 rfl) ?_
          obtain ⟨a16, ⟨fs17, he18, hv19⟩, hwp⟩ := hwp
          refine h_get (C := "BuckTablesModel") (T := Tc6) (N := 36) hx hb hts inc6 hown hK hM he18 rfl 27 (by decide) (hts _ kw_747) (fun _ h9 => h9) hv19 d_Mo_giveWay_79 ?_
          refine lv_iload hx hb d_Mo_giveWay_82 (lv_at hl 0 rfl) ?_
          obtain ⟨v20, ⟨n21, f22, ha23, hi24, ev20⟩, hwp⟩ := hwp
          refine h_iald hx hb hK hM ha23 rfl hi24 d_Mo_giveWay_84 ?_
          rw [← ev20]
          refine lv_iload_n hx hb d_Mo_giveWay_85 rfl (lv_at hl 2 rfl) ?_
          refine lv_icmp_ne (tgt := 110) hx hb d_Mo_giveWay_86 (by decide) (fun c25 => ?_) (fun c25 => ?_)
          · replace hwp := hwp.2 c25
            exact tMo_giveWay_110 C post k36 hk36 (wMo_giveWay_49 post k36 n) ih x0 x1 x2 x3 x4 M hwp H locs ls hM hS (lv_sub hl [1, 2, 3, 4, 5] rfl)
          · replace hwp := hwp.1 c25
            refine lv_aload_n hx hb d_Mo_giveWay_89 rfl (lv_at hl 1 rfl) ?_
            refine lv_iload_n hx hb d_Mo_giveWay_90 rfl (lv_at hl 4 rfl) ?_
            refine lv_iload hx hb d_Mo_giveWay_91 (lv_at hl 5 rfl) ?_
            refine lv_iload hx hb d_Mo_giveWay_93 (lv_at hl 5 rfl) ?_
            refine lv_aload_n hx hb d_Mo_giveWay_95 rfl (lv_at hl 1 rfl) ?_
            obtain ⟨a26, ⟨fs27, he28, hv29⟩, hwp⟩ := hwp
            refine h_get (C := "BuckTablesModel") (T := Tc6) (N := 36) hx hb hts inc6 hown hK hM he28 rfl 26 (by decide) (hts _ kw_746) (fun _ h9 => h9) hv29 d_Mo_giveWay_96 ?_
            refine lv_iload hx hb d_Mo_giveWay_99 (lv_at hl 0 rfl) ?_
            obtain ⟨v30, ⟨n31, f32, ha33, hi34, ev30⟩, hwp⟩ := hwp
            refine h_iald hx hb hK hM ha33 rfl hi34 d_Mo_giveWay_101 ?_
            rw [← ev30]
            refine lv_iadd hx hb d_Mo_giveWay_102 ?_
            refine lv_iconst (v := 2) hx hb d_Mo_giveWay_103 (by decide) ?_
            obtain ⟨ho36, hwp⟩ := hwp
            refine h_callv hM hS hA (va_runV (As := [.int x3, .int x4, .int (x4 + v30), .int (2 : Int32)]) (rest := []) ⟨hx, hb, hml, hown, hts⟩ (metMo_mark l D κ H.size x0 x3 x4 (x4 + v30) (2 : Int32) M _ hwp) (cwV 4 hts (gV kw_930 kw_932 kp_34 kw_8 kw_933) rfl rfl rfl (by decide +kernel) ⟨(Nat.le_of_ble_eq_true rfl), (Nat.le_of_ble_eq_true rfl)⟩) (h_preV hE hM hS ho36 (r := ("BuckTablesModel", Tc6, 36)) rfl) rfl rfl hl.1 rfl (lv_room (Nat.le_of_ble_eq_true rfl)) d_Mo_giveWay_104 ⟨(Nat.le_of_ble_eq_true rfl), (Nat.le_of_ble_eq_true rfl)⟩) (fun M35 H locs hwp hM hS => ?_)
            obtain ⟨z37, ez37⟩ : ∃ y : Int32, y = x2 + (-1) := ⟨_, rfl⟩
            replace hwp := hwp z37 ez37
            refine lv_iinc (v := z37) (lv' := [(2, .int z37), (5, .int z4), (0, .ref x0), (1, .int x1), (3, .int x3), (4, .int x4)]) hx hb d_Mo_giveWay_107 hl (k := 3) rfl (by rw [ez37]; rfl) (by decide) rfl (fun ls hl => ?_)
            exact tMo_giveWay_110 C post k36 hk36 (wMo_giveWay_49 post k36 n) ih x0 x1 z37 x3 x4 M35 hwp H locs ls hM hS (lv_sub hl [2, 3, 0, 4, 5] rfl)
def wMo_giveWay_36 (post : Hp → Prop)  : Nat → Nat → Int32 → Int32 → Int32 → Hp → Prop
  | 0 => fun _ _ _ _ _ => False
  | n + 1 => fun x0 x1 x2 x3 M => ((x3 < 0 → (post M)) ∧ (¬ x3 < 0 → (hob M x0 6 ∧ (wpMo_stepsOf x0 x3 M (fun (r41 : Int32) (M39 : Hp) => (∀ z42 : Int32, z42 = (r41 - (1 : Int32)) → (∃ n43 : Nat, wMo_giveWay_49 post (wMo_giveWay_36 post n) n43 x0 x1 x2 x3 z42 M39)))))))
set_option maxRecDepth 100000 in
set_option maxHeartbeats 4000000 in
theorem tMo_giveWay_36 {p : Program} {l : Launch} {e : Env} {s : State} {m : MethodId} {args : Array Value} {below : List Frame} {meth : Method} {c : Code} {D : va_G} {κ : Nat → ClassId} {A : Nat → Prop} (C : Cx_Mo_giveWay p s m args meth c D κ A) (post : Hp → Prop)  : ∀ (n : Nat) (x0 : Nat) (x1 : Int32) (x2 : Int32) (x3 : Int32) (M : Hp), wMo_giveWay_36 post n x0 x1 x2 x3 M → Y p l e rm_Mo_giveWay s m args below meth c D kCl (hTys κ) A 6 0 0 (MQ below (va_Qv post (hB D kCl (hTys κ) A) A) args s 0 0 A) M 36 [(0, .ref x0), (1, .int x1), (2, .int x2), (3, .int x3)] [] := by
  obtain ⟨hx, hb, hml, hr, hown, hts, hlocks, hE, hA⟩ := id C
  have hK := hE.1
  intro n
  induction n with
  | zero => intro x0 x1 x2 x3 M hwp; exact hwp.elim
  | succ n ih =>
    intro x0 x1 x2 x3 M hwp H locs ls hM hS hl
    unfold wMo_giveWay_36 at hwp
    refine lv_iload_n hx hb d_Mo_giveWay_36 rfl (lv_at hl 3 rfl) ?_
    refine lv_if_lt (tgt := 122) hx hb d_Mo_giveWay_37 (by decide) (fun c38 => ?_) (fun c38 => ?_)
    · replace hwp := hwp.1 c38
      exact W.vret hx hb hr (fun t ht hW => ⟨⟨M, rfl, hwp, by show hw D kCl (hTys κ) A M t.heap; rw [ht]; exact hM⟩, hS.F ht⟩) hS.2.2 d_Mo_giveWay_122
    · replace hwp := hwp.2 c38
      refine lv_aload_n hx hb d_Mo_giveWay_40 rfl (lv_at hl 0 rfl) ?_
      refine lv_iload_n hx hb d_Mo_giveWay_41 rfl (lv_at hl 3 rfl) ?_
      obtain ⟨ho40, hwp⟩ := hwp
      refine h_calli hM hS hA (va_runV (As := [.int x3]) (rest := []) ⟨hx, hb, hml, hown, hts⟩ (metMo_stepsOf l D κ H.size x0 x3 M _ hwp) (cwV 1 hts (gV kw_875 kw_877 kp_26 kw_8 kw_878) rfl rfl rfl (by decide +kernel) ⟨(Nat.le_of_ble_eq_true rfl), (Nat.le_of_ble_eq_true rfl)⟩) (h_preV hE hM hS ho40 (r := ("BuckTablesModel", Tc6, 36)) rfl) rfl rfl hl.1 rfl (lv_room (Nat.le_of_ble_eq_true rfl)) d_Mo_giveWay_42 ⟨(Nat.le_of_ble_eq_true rfl), (Nat.le_of_ble_eq_true rfl)⟩) (fun r41 M39 H locs hwp hM hS => ?_)
      refine lv_iconst (v := 1) hx hb d_Mo_giveWay_45 (by decide) ?_
      refine lv_isub hx hb d_Mo_giveWay_46 ?_
      refine lv_topi (fun z42 ez42 => ?_)
      replace hwp := hwp z42 ez42
      refine lv_istore (lv' := [(4, .int z42), (0, .ref x0), (1, .int x1), (2, .int x2), (3, .int x3)]) hx hb d_Mo_giveWay_47 hl (by decide) rfl (fun ls hl => ?_)
      obtain ⟨n43, hwp⟩ := hwp
      exact tMo_giveWay_49 C post (wMo_giveWay_36 post n) ih n43 x0 x1 x2 x3 z42 M39 hwp H locs ls hM hS (lv_sub hl [1, 2, 3, 4, 0] rfl)
def wMo_giveWay_28 (post : Hp → Prop)  (x0 : Nat) (x1 : Int32) (y0 : Int32) (M : Hp) : Prop := (∃ v44 : Int32, fI M x0 6 4 v44 ∧ (∀ z48 : Int32, z48 = (v44 - (1 : Int32)) → (∃ n49 : Nat, wMo_giveWay_36 post n49 x0 x1 y0 z48 M)))
set_option maxRecDepth 100000 in
set_option maxHeartbeats 4000000 in
theorem tMo_giveWay_28 {p : Program} {l : Launch} {e : Env} {s : State} {m : MethodId} {args : Array Value} {below : List Frame} {meth : Method} {c : Code} {D : va_G} {κ : Nat → ClassId} {A : Nat → Prop} (C : Cx_Mo_giveWay p s m args meth c D κ A) (post : Hp → Prop)  (x0 : Nat) (x1 : Int32) (y0 : Int32) (M : Hp) (hwp : wMo_giveWay_28 post x0 x1 y0 M) : Y p l e rm_Mo_giveWay s m args below meth c D kCl (hTys κ) A 6 0 0 (MQ below (va_Qv post (hB D kCl (hTys κ) A) A) args s 0 0 A) M 28 [(0, .ref x0), (1, .int x1)] [.int y0] := by
  obtain ⟨hx, hb, hml, hr, hown, hts, hlocks, hE, hA⟩ := id C
  have hK := hE.1
  intro H locs ls hM hS hl
  unfold wMo_giveWay_28 at hwp
  refine lv_istore_n (lv' := [(2, .int y0), (0, .ref x0), (1, .int x1)]) hx hb d_Mo_giveWay_28 rfl hl (by decide) rfl (fun ls hl => ?_)
  refine lv_aload_n hx hb d_Mo_giveWay_29 rfl (lv_at hl 1 rfl) ?_
  obtain ⟨v44, ⟨fs45, he46, hv47⟩, hwp⟩ := hwp
  refine h_get (C := "BuckTablesModel") (T := Tc6) (N := 36) hx hb hts inc6 hown hK hM he46 rfl 4 (by decide) (hts _ kw_724) (fun _ h9 => h9) hv47 d_Mo_giveWay_30 ?_
  refine lv_iconst (v := 1) hx hb d_Mo_giveWay_33 (by decide) ?_
  refine lv_isub hx hb d_Mo_giveWay_34 ?_
  refine lv_topi (fun z48 ez48 => ?_)
  replace hwp := hwp z48 ez48
  refine lv_istore_n (lv' := [(3, .int z48), (2, .int y0), (0, .ref x0), (1, .int x1)]) hx hb d_Mo_giveWay_35 rfl hl (by decide) rfl (fun ls hl => ?_)
  obtain ⟨n49, hwp⟩ := hwp
  exact tMo_giveWay_36 C post n49 x0 x1 y0 z48 M hwp H locs ls hM hS (lv_sub hl [2, 3, 1, 0] rfl)
def wpMo_giveWay (self : Nat) (p0 : Int32) (M : Hp) (post : Hp → Prop) : Prop := (∃ a50 : Nat, fA M self 6 21 a50 ∧ (∃ v54 : Int64, aJ M a50 p0 v54 ∧ (((0 : Int64) ≤ v54 → (hob M self 6 ∧ (wpMo_countOf self p0 M (fun (r62 : Int32) (M60 : Hp) => (∃ a63 : Nat, fA M60 self 6 21 a63 ∧ (∃ v67 : Int64, aJ M60 a63 p0 v67 ∧ (wMo_giveWay_28 post self p0 (r62 - (v67.toInt32)) M60))))))) ∧ (¬ (0 : Int64) ≤ v54 → (wMo_giveWay_28 post self p0 (0 : Int32) M)))))
set_option maxRecDepth 100000 in
set_option maxHeartbeats 4000000 in
theorem eMo_giveWay {p : Program} {l : Launch} {e : Env} {s : State} {m : MethodId} {args : Array Value} {below : List Frame} {meth : Method} {c : Code} {D : va_G} {κ : Nat → ClassId} {A : Nat → Prop} (C : Cx_Mo_giveWay p s m args meth c D κ A) (post : Hp → Prop) (self : Nat) (p0 : Int32) (M : Hp) (hwp : wpMo_giveWay self p0 M post) : Y p l e rm_Mo_giveWay s m args below meth c D kCl (hTys κ) A 6 0 0 (MQ below (va_Qv post (hB D kCl (hTys κ) A) A) args s 0 0 A) M 0 [(0, .ref self), (1, .int p0)] [] := by
  obtain ⟨hx, hb, hml, hr, hown, hts, hlocks, hE, hA⟩ := id C
  have hK := hE.1
  intro H locs ls hM hS hl
  unfold wpMo_giveWay at hwp
  refine lv_aload_n hx hb d_Mo_giveWay_0 rfl (lv_at hl 0 rfl) ?_
  obtain ⟨a50, ⟨fs51, he52, hv53⟩, hwp⟩ := hwp
  refine h_get (C := "BuckTablesModel") (T := Tc6) (N := 36) hx hb hts inc6 hown hK hM he52 rfl 21 (by decide) (hts _ kw_741) (fun _ h9 => h9) hv53 d_Mo_giveWay_1 ?_
  refine lv_iload_n hx hb d_Mo_giveWay_4 rfl (lv_at hl 1 rfl) ?_
  obtain ⟨v54, ⟨n55, f56, ha57, hi58, ev54⟩, hwp⟩ := hwp
  refine h_lald hx hb hK hM ha57 rfl hi58 d_Mo_giveWay_5 ?_
  rw [← ev54]
  refine lv_lconst (v := 0) hx hb d_Mo_giveWay_6 (by decide) ?_
  refine W.lcmp hx hb d_Mo_giveWay_7 ?_
  refine lv_if_ge (tgt := 15) hx hb d_Mo_giveWay_8 (by decide) (fun c59 => ?_) (fun c59 => ?_)
  · replace c59 := (lc_ge _ _).mp c59
    replace hwp := hwp.1 c59
    refine lv_aload_n hx hb d_Mo_giveWay_15 rfl (lv_at hl 0 rfl) ?_
    refine lv_iload_n hx hb d_Mo_giveWay_16 rfl (lv_at hl 1 rfl) ?_
    obtain ⟨ho61, hwp⟩ := hwp
    refine h_calli hM hS hA (va_runV (As := [.int p0]) (rest := []) ⟨hx, hb, hml, hown, hts⟩ (metMo_countOf l D κ H.size self p0 M _ hwp) (cwV 1 hts (gV kw_938 kw_940 kp_36 kw_8 kw_941) rfl rfl rfl (by decide +kernel) ⟨(Nat.le_of_ble_eq_true rfl), (Nat.le_of_ble_eq_true rfl)⟩) (h_preV hE hM hS ho61 (r := ("BuckTablesModel", Tc6, 36)) rfl) rfl rfl hl.1 rfl (lv_room (Nat.le_of_ble_eq_true rfl)) d_Mo_giveWay_17 ⟨(Nat.le_of_ble_eq_true rfl), (Nat.le_of_ble_eq_true rfl)⟩) (fun r62 M60 H locs hwp hM hS => ?_)
    refine lv_aload_n hx hb d_Mo_giveWay_20 rfl (lv_at hl 0 rfl) ?_
    obtain ⟨a63, ⟨fs64, he65, hv66⟩, hwp⟩ := hwp
    refine h_get (C := "BuckTablesModel") (T := Tc6) (N := 36) hx hb hts inc6 hown hK hM he65 rfl 21 (by decide) (hts _ kw_741) (fun _ h9 => h9) hv66 d_Mo_giveWay_21 ?_
    refine lv_iload_n hx hb d_Mo_giveWay_24 rfl (lv_at hl 1 rfl) ?_
    obtain ⟨v67, ⟨n68, f69, ha70, hi71, ev67⟩, hwp⟩ := hwp
    refine h_lald hx hb hK hM ha70 rfl hi71 d_Mo_giveWay_25 ?_
    rw [← ev67]
    refine lv_l2i hx hb d_Mo_giveWay_26 rfl ?_
    refine lv_isub hx hb d_Mo_giveWay_27 ?_
    exact tMo_giveWay_28 C post self p0 (r62 - (v67.toInt32)) M60 hwp H locs ls hM hS (lv_sub hl [0, 1] rfl)
  · replace c59 := fun h9 => c59 ((lc_ge _ _).mpr h9)
    replace hwp := hwp.2 c59
    refine lv_iconst (v := 0) hx hb d_Mo_giveWay_11 (by decide) ?_
    refine lv_goto (tgt := 28) hx hb d_Mo_giveWay_12 (by decide) ?_
    exact tMo_giveWay_28 C post self p0 (0 : Int32) M hwp H locs ls hM hS (lv_sub hl [0, 1] rfl)
set_option maxRecDepth 100000 in
set_option maxHeartbeats 4000000 in
theorem metMo_giveWay (l : Launch) (D : va_G) (κ : Nat → ClassId) (sz : Nat) (self : Nat) (p0 : Int32) (M : Hp) (post : Hp → Prop) (hwp : wpMo_giveWay self p0 M post) : Met l y_Mo_giveWay ws_Mo_giveWay rm_Mo_giveWay (hPc D kCl (hTys κ) M sz [.ref self, .int p0]) (va_Qv post (hB D kCl (hTys κ) (hAx M sz)) (hAx M sz)) 0 0 (hAx M sz) := by
  refine Met.ofW (cc := prog_8_method_34_code) (maxL := 6) (ret := none) (by decide +kernel) rfl ?_
  intro p e s m args below meth c s₁ B hml hv
  obtain ⟨rfl, hsz, hE, hM0⟩ := hv
  have hts : ∀ w ∈ WG, w.before _ s = true := fun w h => atoms_spec (ws := ws_Mo_giveWay) B.pre w (List.mem_cons_of_mem _ h)
  subst hsz
  have C : Cx_Mo_giveWay p s m _ meth c D κ (hAx M s.heap.size) := ⟨B.exec, B.bytes, hml, B.returns, findClass_of_methodNamed B.named, hts, B.notSynchronized, hE, fun q h => Or.inr h⟩
  have hl := lv_entry ([.ref self, .int p0]) (n := 6) (Nat.le_of_ble_eq_true rfl)
  rw [lg_entry_eq]
  generalize (lg_sl ([.ref self, .int p0]) ++ List.replicate (6 - (lg_sl ([.ref self, .int p0])).length) Slot.unset).toArray = ls at hl ⊢
  exact eMo_giveWay C post self p0 M hwp s.heap [] ls (hM0.self (sz := s.heap.size)) va_S.rf hl
