abbrev rm_Pl_clear : Room := { frames := 0, cells := 0, slots := 0, locals := 0 }
def Cx_Pl_clear (p : Program) (s : State) (m : MethodId) (args : Array Value) (meth : Method) (c : Code) (D : va_G) (κ : Nat → ClassId) (A : Nat → Prop) : Prop := p.tables.exec = Jvm.exec ∧ c.code = prog_3_method_2_code ∧ c.maxLocals = 2 ∧ meth.sig.returnType = none ∧ s.vm.findClass "BuckTables$Plan" = some m.cls ∧ (∀ w ∈ WG, w.before args s = true) ∧ meth.locks = false ∧ hEnv D kCl (hTys κ) A s ∧ (∀ q, s.heap.size ≤ q → A q)
def wPl_clear_26 (post : Hp → Prop)  : Nat → Nat → Int32 → Hp → Prop
  | 0 => fun _ _ _ => False
  | n + 1 => fun x0 x1 M => (((8 : Int32) ≤ x1 → (∃ M2 : Hp, pF M x0 5 3 (.int (0 : Int32)) M2 ∧ (∃ M6 : Hp, pF M2 x0 5 4 (.long (0 : Int64)) M6 ∧ (post M6)))) ∧ (¬ (8 : Int32) ≤ x1 → (∃ a10 : Nat, fA M x0 5 2 a10 ∧ (∃ M18 : Hp, sI M a10 x1 (0 : Int32) M18 ∧ (∀ z19 : Int32, z19 = x1 + 1 → ((wPl_clear_26 post n) x0 z19 M18))))))
set_option maxRecDepth 100000 in
set_option maxHeartbeats 4000000 in
theorem tPl_clear_26 {p : Program} {l : Launch} {e : Env} {s : State} {m : MethodId} {args : Array Value} {below : List Frame} {meth : Method} {c : Code} {D : va_G} {κ : Nat → ClassId} {A : Nat → Prop} (C : Cx_Pl_clear p s m args meth c D κ A) (post : Hp → Prop)  : ∀ (n : Nat) (x0 : Nat) (x1 : Int32) (M : Hp), wPl_clear_26 post n x0 x1 M → Y p l e rm_Pl_clear s m args below meth c D kCl (hTys κ) A 2 0 0 (MQ below (va_Qv post (hB D kCl (hTys κ) A) A) args s 0 0 A) M 26 [(0, .ref x0), (1, .int x1)] [] := by
  obtain ⟨hx, hb, hml, hr, hown, hts, hlocks, hE, hA⟩ := id C
  have hK := hE.1
  intro n
  induction n with
  | zero => intro x0 x1 M hwp; exact hwp.elim
  | succ n ih =>
    intro x0 x1 M hwp H locs ls hM hS hl
    unfold wPl_clear_26 at hwp
    refine lv_iload_n hx hb d_Pl_clear_26 rfl (lv_at hl 1 rfl) ?_
    refine lv_bipush (v := 8) hx hb d_Pl_clear_27 (by decide) ?_
    refine lv_icmp_ge (tgt := 45) hx hb d_Pl_clear_29 (by decide) (fun c1 => ?_) (fun c1 => ?_)
    · replace hwp := hwp.1 c1
      refine lv_aload_n hx hb d_Pl_clear_45 rfl (lv_at hl 0 rfl) ?_
      refine lv_iconst (v := 0) hx hb d_Pl_clear_46 (by decide) ?_
      obtain ⟨M2, ⟨fs3, he4, hl5, eM2⟩, hwp⟩ := hwp
      refine h_put (C := "BuckTables$Plan") (T := Tc5) (N := 5) (v := .int (0 : Int32)) (ty := .int) hx hb hts inc5 tyc5 tyc5_ok nmc5 hown hK hM hS he4 rfl 3 (by decide) (hts _ kw_79) (fun _ h9 => h9) rfl (by decide +kernel) rfl rfl hl5 d_Pl_clear_47 (fun H locs hM hS => ?_)
      rw [← eM2] at hM
      refine lv_aload_n hx hb d_Pl_clear_50 rfl (lv_at hl 0 rfl) ?_
      refine lv_lconst (v := 0) hx hb d_Pl_clear_51 (by decide) ?_
      obtain ⟨M6, ⟨fs7, he8, hl9, eM6⟩, hwp⟩ := hwp
      refine h_put (C := "BuckTables$Plan") (T := Tc5) (N := 5) (v := .long (0 : Int64)) (ty := .long) hx hb hts inc5 tyc5 tyc5_ok nmc5 hown hK hM hS he8 rfl 4 (by decide) (hts _ kw_81) (fun _ h9 => h9) rfl (by decide +kernel) rfl rfl hl9 d_Pl_clear_52 (fun H locs hM hS => ?_)
      rw [← eM6] at hM
      exact W.vret hx hb hr (fun t ht hW => ⟨⟨M6, rfl, hwp, by show hw D kCl (hTys κ) A M6 t.heap; rw [ht]; exact hM⟩, hS.F ht⟩) hS.2.2 d_Pl_clear_55
    · replace hwp := hwp.2 c1
      refine lv_aload_n hx hb d_Pl_clear_32 rfl (lv_at hl 0 rfl) ?_
      obtain ⟨a10, ⟨fs11, he12, hv13⟩, hwp⟩ := hwp
      refine h_get (C := "BuckTables$Plan") (T := Tc5) (N := 5) hx hb hts inc5 hown hK hM he12 rfl 2 (by decide) (hts _ kw_77) (fun _ h9 => h9) hv13 d_Pl_clear_33 ?_
      refine lv_iload_n hx hb d_Pl_clear_36 rfl (lv_at hl 1 rfl) ?_
      refine lv_iconst (v := 0) hx hb d_Pl_clear_37 (by decide) ?_
      obtain ⟨M18, ⟨n14, f15, ha16, hi17, eM18⟩, hwp⟩ := hwp
      refine h_iast hx hb hK hM hS ha16 rfl hi17 d_Pl_clear_38 (fun H locs hM hS => ?_)
      rw [← eM18] at hM
      obtain ⟨z19, ez19⟩ : ∃ y : Int32, y = x1 + 1 := ⟨_, rfl⟩
      replace hwp := hwp z19 ez19
      refine lv_iinc (v := z19) (lv' := [(1, .int z19), (0, .ref x0)]) hx hb d_Pl_clear_39 hl (k := 1) rfl (by rw [ez19]; rfl) (by decide) rfl (fun ls hl => ?_)
      refine lv_goto (tgt := 26) hx hb d_Pl_clear_42 (by decide) ?_
      exact ih x0 z19 M18 hwp H locs ls hM hS (lv_sub hl [1, 0] rfl)
def wPl_clear_2 (post : Hp → Prop)  : Nat → Nat → Int32 → Hp → Prop
  | 0 => fun _ _ _ => False
  | n + 1 => fun x0 x1 M => (∃ a20 : Nat, fA M x0 5 1 a20 ∧ (∃ n24 : Nat, aL 1 M a20 n24 ∧ (((nI n24) ≤ x1 → (∃ n28 : Nat, wPl_clear_26 post n28 x0 (0 : Int32) M)) ∧ (¬ (nI n24) ≤ x1 → (∃ a29 : Nat, fA M x0 5 1 a29 ∧ (∃ M37 : Hp, sZ M a29 x1 (0 : Int32) M37 ∧ (∀ z38 : Int32, z38 = x1 + 1 → ((wPl_clear_2 post n) x0 z38 M37))))))))
set_option maxRecDepth 100000 in
set_option maxHeartbeats 4000000 in
theorem tPl_clear_2 {p : Program} {l : Launch} {e : Env} {s : State} {m : MethodId} {args : Array Value} {below : List Frame} {meth : Method} {c : Code} {D : va_G} {κ : Nat → ClassId} {A : Nat → Prop} (C : Cx_Pl_clear p s m args meth c D κ A) (post : Hp → Prop)  : ∀ (n : Nat) (x0 : Nat) (x1 : Int32) (M : Hp), wPl_clear_2 post n x0 x1 M → Y p l e rm_Pl_clear s m args below meth c D kCl (hTys κ) A 2 0 0 (MQ below (va_Qv post (hB D kCl (hTys κ) A) A) args s 0 0 A) M 2 [(0, .ref x0), (1, .int x1)] [] := by
  obtain ⟨hx, hb, hml, hr, hown, hts, hlocks, hE, hA⟩ := id C
  have hK := hE.1
  intro n
  induction n with
  | zero => intro x0 x1 M hwp; exact hwp.elim
  | succ n ih =>
    intro x0 x1 M hwp H locs ls hM hS hl
    unfold wPl_clear_2 at hwp
    refine lv_iload_n hx hb d_Pl_clear_2 rfl (lv_at hl 1 rfl) ?_
    refine lv_aload_n hx hb d_Pl_clear_3 rfl (lv_at hl 0 rfl) ?_
    obtain ⟨a20, ⟨fs21, he22, hv23⟩, hwp⟩ := hwp
    refine h_get (C := "BuckTables$Plan") (T := Tc5) (N := 5) hx hb hts inc5 hown hK hM he22 rfl 1 (by decide) (hts _ kw_76) (fun _ h9 => h9) hv23 d_Pl_clear_4 ?_
    obtain ⟨n24, ⟨x25, ha26, en24⟩, hwp⟩ := hwp
    refine h_alen hx hb hK hM ha26 d_Pl_clear_7 ?_
    rw [en24]
    refine lv_icmp_ge (tgt := 24) hx hb d_Pl_clear_8 (by decide) (fun c27 => ?_) (fun c27 => ?_)
    · replace hwp := hwp.1 c27
      refine lv_iconst (v := 0) hx hb d_Pl_clear_24 (by decide) ?_
      refine lv_istore_n (lv' := [(1, .int (0 : Int32)), (0, .ref x0)]) hx hb d_Pl_clear_25 rfl hl (by decide) rfl (fun ls hl => ?_)
      obtain ⟨n28, hwp⟩ := hwp
      exact tPl_clear_26 C post n28 x0 (0 : Int32) M hwp H locs ls hM hS (lv_sub hl [1, 0] rfl)
    · replace hwp := hwp.2 c27
      refine lv_aload_n hx hb d_Pl_clear_11 rfl (lv_at hl 0 rfl) ?_
      obtain ⟨a29, ⟨fs30, he31, hv32⟩, hwp⟩ := hwp
      refine h_get (C := "BuckTables$Plan") (T := Tc5) (N := 5) hx hb hts inc5 hown hK hM he31 rfl 1 (by decide) (hts _ kw_76) (fun _ h9 => h9) hv32 d_Pl_clear_12 ?_
      refine lv_iload_n hx hb d_Pl_clear_15 rfl (lv_at hl 1 rfl) ?_
      refine lv_iconst (v := 0) hx hb d_Pl_clear_16 (by decide) ?_
      obtain ⟨M37, ⟨n33, f34, ha35, hi36, eM37⟩, hwp⟩ := hwp
      refine h_zast hx hb hK hM hS ha35 rfl hi36 d_Pl_clear_17 (fun H locs hM hS => ?_)
      rw [← eM37] at hM
      obtain ⟨z38, ez38⟩ : ∃ y : Int32, y = x1 + 1 := ⟨_, rfl⟩
      replace hwp := hwp z38 ez38
      refine lv_iinc (v := z38) (lv' := [(1, .int z38), (0, .ref x0)]) hx hb d_Pl_clear_18 hl (k := 1) rfl (by rw [ez38]; rfl) (by decide) rfl (fun ls hl => ?_)
      refine lv_goto (tgt := 2) hx hb d_Pl_clear_21 (by decide) ?_
      exact ih x0 z38 M37 hwp H locs ls hM hS (lv_sub hl [1, 0] rfl)
def wpPl_clear (self : Nat) (M : Hp) (post : Hp → Prop) : Prop := (∃ n39 : Nat, wPl_clear_2 post n39 self (0 : Int32) M)
set_option maxRecDepth 100000 in
set_option maxHeartbeats 4000000 in
theorem ePl_clear {p : Program} {l : Launch} {e : Env} {s : State} {m : MethodId} {args : Array Value} {below : List Frame} {meth : Method} {c : Code} {D : va_G} {κ : Nat → ClassId} {A : Nat → Prop} (C : Cx_Pl_clear p s m args meth c D κ A) (post : Hp → Prop) (self : Nat) (M : Hp) (hwp : wpPl_clear self M post) : Y p l e rm_Pl_clear s m args below meth c D kCl (hTys κ) A 2 0 0 (MQ below (va_Qv post (hB D kCl (hTys κ) A) A) args s 0 0 A) M 0 [(0, .ref self)] [] := by
  obtain ⟨hx, hb, hml, hr, hown, hts, hlocks, hE, hA⟩ := id C
  have hK := hE.1
  intro H locs ls hM hS hl
  unfold wpPl_clear at hwp
  refine lv_iconst (v := 0) hx hb d_Pl_clear_0 (by decide) ?_
  refine lv_istore_n (lv' := [(1, .int (0 : Int32)), (0, .ref self)]) hx hb d_Pl_clear_1 rfl hl (by decide) rfl (fun ls hl => ?_)
  obtain ⟨n39, hwp⟩ := hwp
  exact tPl_clear_2 C post n39 self (0 : Int32) M hwp H locs ls hM hS (lv_sub hl [1, 0] rfl)
set_option maxRecDepth 100000 in
set_option maxHeartbeats 4000000 in
theorem metPl_clear (l : Launch) (D : va_G) (κ : Nat → ClassId) (sz : Nat) (self : Nat) (M : Hp) (post : Hp → Prop) (hwp : wpPl_clear self M post) : Met l y_Pl_clear ws_Pl_clear rm_Pl_clear (hPc D kCl (hTys κ) M sz [.ref self]) (va_Qv post (hB D kCl (hTys κ) (hAx M sz)) (hAx M sz)) 0 0 (hAx M sz) := by
  refine Met.ofW (cc := prog_3_method_2_code) (maxL := 2) (ret := none) (by decide +kernel) rfl ?_
  intro p e s m args below meth c s₁ B hml hv
  obtain ⟨rfl, hsz, hE, hM0⟩ := hv
  have hts : ∀ w ∈ WG, w.before _ s = true := fun w h => atoms_spec (ws := ws_Pl_clear) B.pre w (List.mem_cons_of_mem _ h)
  subst hsz
  have C : Cx_Pl_clear p s m _ meth c D κ (hAx M s.heap.size) := ⟨B.exec, B.bytes, hml, B.returns, findClass_of_methodNamed B.named, hts, B.notSynchronized, hE, fun q h => Or.inr h⟩
  have hl := lv_entry ([.ref self]) (n := 2) (Nat.le_of_ble_eq_true rfl)
  rw [lg_entry_eq]
  generalize (lg_sl ([.ref self]) ++ List.replicate (2 - (lg_sl ([.ref self])).length) Slot.unset).toArray = ls at hl ⊢
  exact ePl_clear C post self M hwp s.heap [] ls (hM0.self (sz := s.heap.size)) va_S.rf hl
abbrev rm_Wi_clear : Room := { frames := 0, cells := 0, slots := 0, locals := 0 }
def Cx_Wi_clear (p : Program) (s : State) (m : MethodId) (args : Array Value) (meth : Method) (c : Code) (D : va_G) (κ : Nat → ClassId) (A : Nat → Prop) : Prop := p.tables.exec = Jvm.exec ∧ c.code = prog_6_method_2_code ∧ c.maxLocals = 1 ∧ meth.sig.returnType = none ∧ s.vm.findClass "BuckTables$Window" = some m.cls ∧ (∀ w ∈ WG, w.before args s = true) ∧ meth.locks = false ∧ hEnv D kCl (hTys κ) A s ∧ (∀ q, s.heap.size ≤ q → A q)
def wpWi_clear (self : Nat) (M : Hp) (post : Hp → Prop) : Prop := (∃ M1 : Hp, pF M self 3 1 (.int (0 : Int32)) M1 ∧ (∃ M5 : Hp, pF M1 self 3 2 (.int (0 : Int32)) M5 ∧ (post M5)))
set_option maxRecDepth 100000 in
set_option maxHeartbeats 4000000 in
theorem eWi_clear {p : Program} {l : Launch} {e : Env} {s : State} {m : MethodId} {args : Array Value} {below : List Frame} {meth : Method} {c : Code} {D : va_G} {κ : Nat → ClassId} {A : Nat → Prop} (C : Cx_Wi_clear p s m args meth c D κ A) (post : Hp → Prop) (self : Nat) (M : Hp) (hwp : wpWi_clear self M post) : Y p l e rm_Wi_clear s m args below meth c D kCl (hTys κ) A 1 0 0 (MQ below (va_Qv post (hB D kCl (hTys κ) A) A) args s 0 0 A) M 0 [(0, .ref self)] [] := by
  obtain ⟨hx, hb, hml, hr, hown, hts, hlocks, hE, hA⟩ := id C
  have hK := hE.1
  intro H locs ls hM hS hl
  unfold wpWi_clear at hwp
  refine lv_aload_n hx hb d_Wi_clear_0 rfl (lv_at hl 0 rfl) ?_
  refine lv_iconst (v := 0) hx hb d_Wi_clear_1 (by decide) ?_
  obtain ⟨M1, ⟨fs2, he3, hl4, eM1⟩, hwp⟩ := hwp
  refine h_put (C := "BuckTables$Window") (T := Tc3) (N := 3) (v := .int (0 : Int32)) (ty := .int) hx hb hts inc3 tyc3 tyc3_ok nmc3 hown hK hM hS he3 rfl 1 (by decide) (hts _ kw_43) (fun _ h9 => h9) rfl (by decide +kernel) rfl rfl hl4 d_Wi_clear_2 (fun H locs hM hS => ?_)
  rw [← eM1] at hM
  refine lv_aload_n hx hb d_Wi_clear_5 rfl (lv_at hl 0 rfl) ?_
  refine lv_iconst (v := 0) hx hb d_Wi_clear_6 (by decide) ?_
  obtain ⟨M5, ⟨fs6, he7, hl8, eM5⟩, hwp⟩ := hwp
  refine h_put (C := "BuckTables$Window") (T := Tc3) (N := 3) (v := .int (0 : Int32)) (ty := .int) hx hb hts inc3 tyc3 tyc3_ok nmc3 hown hK hM hS he7 rfl 2 (by decide) (hts _ kw_45) (fun _ h9 => h9) rfl (by decide +kernel) rfl rfl hl8 d_Wi_clear_7 (fun H locs hM hS => ?_)
  rw [← eM5] at hM
  exact W.vret hx hb hr (fun t ht hW => ⟨⟨M5, rfl, hwp, by show hw D kCl (hTys κ) A M5 t.heap; rw [ht]; exact hM⟩, hS.F ht⟩) hS.2.2 d_Wi_clear_10
set_option maxRecDepth 100000 in
set_option maxHeartbeats 4000000 in
theorem metWi_clear (l : Launch) (D : va_G) (κ : Nat → ClassId) (sz : Nat) (self : Nat) (M : Hp) (post : Hp → Prop) (hwp : wpWi_clear self M post) : Met l y_Wi_clear ws_Wi_clear rm_Wi_clear (hPc D kCl (hTys κ) M sz [.ref self]) (va_Qv post (hB D kCl (hTys κ) (hAx M sz)) (hAx M sz)) 0 0 (hAx M sz) := by
  refine Met.ofW (cc := prog_6_method_2_code) (maxL := 1) (ret := none) (by decide +kernel) rfl ?_
  intro p e s m args below meth c s₁ B hml hv
  obtain ⟨rfl, hsz, hE, hM0⟩ := hv
  have hts : ∀ w ∈ WG, w.before _ s = true := fun w h => atoms_spec (ws := ws_Wi_clear) B.pre w (List.mem_cons_of_mem _ h)
  subst hsz
  have C : Cx_Wi_clear p s m _ meth c D κ (hAx M s.heap.size) := ⟨B.exec, B.bytes, hml, B.returns, findClass_of_methodNamed B.named, hts, B.notSynchronized, hE, fun q h => Or.inr h⟩
  have hl := lv_entry ([.ref self]) (n := 1) (Nat.le_of_ble_eq_true rfl)
  rw [lg_entry_eq]
  generalize (lg_sl ([.ref self]) ++ List.replicate (1 - (lg_sl ([.ref self])).length) Slot.unset).toArray = ls at hl ⊢
  exact eWi_clear C post self M hwp s.heap [] ls (hM0.self (sz := s.heap.size)) va_S.rf hl
abbrev rm_Wi_enter : Room := { frames := 0, cells := 0, slots := 0, locals := 0 }
def Cx_Wi_enter (p : Program) (s : State) (m : MethodId) (args : Array Value) (meth : Method) (c : Code) (D : va_G) (κ : Nat → ClassId) (A : Nat → Prop) : Prop := p.tables.exec = Jvm.exec ∧ c.code = prog_6_method_3_code ∧ c.maxLocals = 3 ∧ meth.sig.returnType = none ∧ s.vm.findClass "BuckTables$Window" = some m.cls ∧ (∀ w ∈ WG, w.before args s = true) ∧ meth.locks = false ∧ hEnv D kCl (hTys κ) A s ∧ (∀ q, s.heap.size ≤ q → A q)
def wWi_enter_72 (post : Hp → Prop)   (M : Hp) : Prop := (post M)
set_option maxRecDepth 100000 in
set_option maxHeartbeats 4000000 in
theorem tWi_enter_72 {p : Program} {l : Launch} {e : Env} {s : State} {m : MethodId} {args : Array Value} {below : List Frame} {meth : Method} {c : Code} {D : va_G} {κ : Nat → ClassId} {A : Nat → Prop} (C : Cx_Wi_enter p s m args meth c D κ A) (post : Hp → Prop)   (M : Hp) (hwp : wWi_enter_72 post  M) : Y p l e rm_Wi_enter s m args below meth c D kCl (hTys κ) A 3 0 0 (MQ below (va_Qv post (hB D kCl (hTys κ) A) A) args s 0 0 A) M 72 [] [] := by
  obtain ⟨hx, hb, hml, hr, hown, hts, hlocks, hE, hA⟩ := id C
  have hK := hE.1
  intro H locs ls hM hS hl
  unfold wWi_enter_72 at hwp
  exact W.vret hx hb hr (fun t ht hW => ⟨⟨M, rfl, hwp, by show hw D kCl (hTys κ) A M t.heap; rw [ht]; exact hM⟩, hS.F ht⟩) hS.2.2 d_Wi_enter_72
def wWi_enter_40 (post : Hp → Prop)  (x0 : Nat) (x1 : Int64) (M : Hp) : Prop := (∃ v1 : Int32, fI M x0 3 2 v1 ∧ (∃ a5 : Nat, fA M x0 3 0 a5 ∧ (∃ n9 : Nat, aL 2 M a5 n9 ∧ (((nI n9) ≤ v1 → (wWi_enter_72 post M)) ∧ (¬ (nI n9) ≤ v1 → (∃ a13 : Nat, fA M x0 3 0 a13 ∧ (∃ v17 : Int32, fI M x0 3 2 v17 ∧ (∃ M25 : Hp, sJ M a13 v17 x1 M25 ∧ (∃ v26 : Int32, fI M25 x0 3 2 v26 ∧ (∃ M30 : Hp, pF M25 x0 3 2 (.int (v26 + (1 : Int32))) M30 ∧ (wWi_enter_72 post M30)))))))))))
set_option maxRecDepth 100000 in
set_option maxHeartbeats 4000000 in
theorem tWi_enter_40 {p : Program} {l : Launch} {e : Env} {s : State} {m : MethodId} {args : Array Value} {below : List Frame} {meth : Method} {c : Code} {D : va_G} {κ : Nat → ClassId} {A : Nat → Prop} (C : Cx_Wi_enter p s m args meth c D κ A) (post : Hp → Prop)  (x0 : Nat) (x1 : Int64) (M : Hp) (hwp : wWi_enter_40 post x0 x1 M) : Y p l e rm_Wi_enter s m args below meth c D kCl (hTys κ) A 3 0 0 (MQ below (va_Qv post (hB D kCl (hTys κ) A) A) args s 0 0 A) M 40 [(0, .ref x0), (1, .long x1)] [] := by
  obtain ⟨hx, hb, hml, hr, hown, hts, hlocks, hE, hA⟩ := id C
  have hK := hE.1
  intro H locs ls hM hS hl
  unfold wWi_enter_40 at hwp
  refine lv_aload_n hx hb d_Wi_enter_40 rfl (lv_at hl 0 rfl) ?_
  obtain ⟨v1, ⟨fs2, he3, hv4⟩, hwp⟩ := hwp
  refine h_get (C := "BuckTables$Window") (T := Tc3) (N := 3) hx hb hts inc3 hown hK hM he3 rfl 2 (by decide) (hts _ kw_45) (fun _ h9 => h9) hv4 d_Wi_enter_41 ?_
  refine lv_aload_n hx hb d_Wi_enter_44 rfl (lv_at hl 0 rfl) ?_
  obtain ⟨a5, ⟨fs6, he7, hv8⟩, hwp⟩ := hwp
  refine h_get (C := "BuckTables$Window") (T := Tc3) (N := 3) hx hb hts inc3 hown hK hM he7 rfl 0 (by decide) (hts _ kw_41) (fun _ h9 => h9) hv8 d_Wi_enter_45 ?_
  obtain ⟨n9, ⟨x10, ha11, en9⟩, hwp⟩ := hwp
  refine h_alen hx hb hK hM ha11 d_Wi_enter_48 ?_
  rw [en9]
  refine lv_icmp_ge (tgt := 72) hx hb d_Wi_enter_49 (by decide) (fun c12 => ?_) (fun c12 => ?_)
  · replace hwp := hwp.1 c12
    exact tWi_enter_72 C post M hwp H locs ls hM hS (lv_sub hl [] rfl)
  · replace hwp := hwp.2 c12
    refine lv_aload_n hx hb d_Wi_enter_52 rfl (lv_at hl 0 rfl) ?_
    obtain ⟨a13, ⟨fs14, he15, hv16⟩, hwp⟩ := hwp
    refine h_get (C := "BuckTables$Window") (T := Tc3) (N := 3) hx hb hts inc3 hown hK hM he15 rfl 0 (by decide) (hts _ kw_41) (fun _ h9 => h9) hv16 d_Wi_enter_53 ?_
    refine lv_aload_n hx hb d_Wi_enter_56 rfl (lv_at hl 0 rfl) ?_
    obtain ⟨v17, ⟨fs18, he19, hv20⟩, hwp⟩ := hwp
    refine h_get (C := "BuckTables$Window") (T := Tc3) (N := 3) hx hb hts inc3 hown hK hM he19 rfl 2 (by decide) (hts _ kw_45) (fun _ h9 => h9) hv20 d_Wi_enter_57 ?_
    refine lv_lload_n hx hb d_Wi_enter_60 rfl (lv_at hl 1 rfl) ?_
    obtain ⟨M25, ⟨n21, f22, ha23, hi24, eM25⟩, hwp⟩ := hwp
    refine h_last hx hb hK hM hS ha23 rfl hi24 d_Wi_enter_61 (fun H locs hM hS => ?_)
    rw [← eM25] at hM
    refine lv_aload_n hx hb d_Wi_enter_62 rfl (lv_at hl 0 rfl) ?_
    refine lv_dup hx hb d_Wi_enter_63 rfl ?_
    obtain ⟨v26, ⟨fs27, he28, hv29⟩, hwp⟩ := hwp
    refine h_get (C := "BuckTables$Window") (T := Tc3) (N := 3) hx hb hts inc3 hown hK hM he28 rfl 2 (by decide) (hts _ kw_45) (fun _ h9 => h9) hv29 d_Wi_enter_64 ?_
    refine lv_iconst (v := 1) hx hb d_Wi_enter_67 (by decide) ?_
    refine lv_iadd hx hb d_Wi_enter_68 ?_
    obtain ⟨M30, ⟨fs31, he32, hl33, eM30⟩, hwp⟩ := hwp
    refine h_put (C := "BuckTables$Window") (T := Tc3) (N := 3) (v := .int (v26 + (1 : Int32))) (ty := .int) hx hb hts inc3 tyc3 tyc3_ok nmc3 hown hK hM hS he32 rfl 2 (by decide) (hts _ kw_45) (fun _ h9 => h9) rfl (by decide +kernel) rfl rfl hl33 d_Wi_enter_69 (fun H locs hM hS => ?_)
    rw [← eM30] at hM
    exact tWi_enter_72 C post M30 hwp H locs ls hM hS (lv_sub hl [] rfl)
def wWi_enter_0 (post : Hp → Prop)  : Nat → Nat → Int64 → Hp → Prop
  | 0 => fun _ _ _ => False
  | n + 1 => fun x0 x1 M => (∃ v34 : Int32, fI M x0 3 2 v34 ∧ (∃ v38 : Int32, fI M x0 3 1 v38 ∧ ((v34 ≤ v38 → (wWi_enter_40 post x0 x1 M)) ∧ (¬ v34 ≤ v38 → (∃ a43 : Nat, fA M x0 3 0 a43 ∧ (∃ v47 : Int32, fI M x0 3 2 v47 ∧ (∃ v51 : Int64, aJ M a43 (v47 - (1 : Int32)) v51 ∧ ((x1 ≤ v51 → (wWi_enter_40 post x0 x1 M)) ∧ (¬ x1 ≤ v51 → (∃ v57 : Int32, fI M x0 3 2 v57 ∧ (∃ M61 : Hp, pF M x0 3 2 (.int (v57 - (1 : Int32))) M61 ∧ ((wWi_enter_0 post n) x0 x1 M61))))))))))))
set_option maxRecDepth 100000 in
set_option maxHeartbeats 4000000 in
theorem tWi_enter_0 {p : Program} {l : Launch} {e : Env} {s : State} {m : MethodId} {args : Array Value} {below : List Frame} {meth : Method} {c : Code} {D : va_G} {κ : Nat → ClassId} {A : Nat → Prop} (C : Cx_Wi_enter p s m args meth c D κ A) (post : Hp → Prop)  : ∀ (n : Nat) (x0 : Nat) (x1 : Int64) (M : Hp), wWi_enter_0 post n x0 x1 M → Y p l e rm_Wi_enter s m args below meth c D kCl (hTys κ) A 3 0 0 (MQ below (va_Qv post (hB D kCl (hTys κ) A) A) args s 0 0 A) M 0 [(0, .ref x0), (1, .long x1)] [] := by
  obtain ⟨hx, hb, hml, hr, hown, hts, hlocks, hE, hA⟩ := id C
  have hK := hE.1
  intro n
  induction n with
  | zero => intro x0 x1 M hwp; exact hwp.elim
  | succ n ih =>
    intro x0 x1 M hwp H locs ls hM hS hl
    unfold wWi_enter_0 at hwp
    refine lv_aload_n hx hb d_Wi_enter_0 rfl (lv_at hl 0 rfl) ?_
    obtain ⟨v34, ⟨fs35, he36, hv37⟩, hwp⟩ := hwp
    refine h_get (C := "BuckTables$Window") (T := Tc3) (N := 3) hx hb hts inc3 hown hK hM he36 rfl 2 (by decide) (hts _ kw_45) (fun _ h9 => h9) hv37 d_Wi_enter_1 ?_
    refine lv_aload_n hx hb d_Wi_enter_4 rfl (lv_at hl 0 rfl) ?_
    obtain ⟨v38, ⟨fs39, he40, hv41⟩, hwp⟩ := hwp
    refine h_get (C := "BuckTables$Window") (T := Tc3) (N := 3) hx hb hts inc3 hown hK hM he40 rfl 1 (by decide) (hts _ kw_43) (fun _ h9 => h9) hv41 d_Wi_enter_5 ?_
    refine lv_icmp_le (tgt := 40) hx hb d_Wi_enter_8 (by decide) (fun c42 => ?_) (fun c42 => ?_)
    · replace hwp := hwp.1 c42
      exact tWi_enter_40 C post x0 x1 M hwp H locs ls hM hS (lv_sub hl [0, 1] rfl)
    · replace hwp := hwp.2 c42
      refine lv_aload_n hx hb d_Wi_enter_11 rfl (lv_at hl 0 rfl) ?_
      obtain ⟨a43, ⟨fs44, he45, hv46⟩, hwp⟩ := hwp
      refine h_get (C := "BuckTables$Window") (T := Tc3) (N := 3) hx hb hts inc3 hown hK hM he45 rfl 0 (by decide) (hts _ kw_41) (fun _ h9 => h9) hv46 d_Wi_enter_12 ?_
      refine lv_aload_n hx hb d_Wi_enter_15 rfl (lv_at hl 0 rfl) ?_
      obtain ⟨v47, ⟨fs48, he49, hv50⟩, hwp⟩ := hwp
      refine h_get (C := "BuckTables$Window") (T := Tc3) (N := 3) hx hb hts inc3 hown hK hM he49 rfl 2 (by decide) (hts _ kw_45) (fun _ h9 => h9) hv50 d_Wi_enter_16 ?_
      refine lv_iconst (v := 1) hx hb d_Wi_enter_19 (by decide) ?_
      refine lv_isub hx hb d_Wi_enter_20 ?_
      obtain ⟨v51, ⟨n52, f53, ha54, hi55, ev51⟩, hwp⟩ := hwp
      refine h_lald hx hb hK hM ha54 rfl hi55 d_Wi_enter_21 ?_
      rw [← ev51]
      refine lv_lload_n hx hb d_Wi_enter_22 rfl (lv_at hl 1 rfl) ?_
      refine W.lcmp hx hb d_Wi_enter_23 ?_
      refine lv_if_ge (tgt := 40) hx hb d_Wi_enter_24 (by decide) (fun c56 => ?_) (fun c56 => ?_)
      · replace c56 := (lc_ge _ _).mp c56
        replace hwp := hwp.1 c56
        exact tWi_enter_40 C post x0 x1 M hwp H locs ls hM hS (lv_sub hl [0, 1] rfl)
      · replace c56 := fun h9 => c56 ((lc_ge _ _).mpr h9)
        replace hwp := hwp.2 c56
        refine lv_aload_n hx hb d_Wi_enter_27 rfl (lv_at hl 0 rfl) ?_
        refine lv_dup hx hb d_Wi_enter_28 rfl ?_
        obtain ⟨v57, ⟨fs58, he59, hv60⟩, hwp⟩ := hwp
        refine h_get (C := "BuckTables$Window") (T := Tc3) (N := 3) hx hb hts inc3 hown hK hM he59 rfl 2 (by decide) (hts _ kw_45) (fun _ h9 => h9) hv60 d_Wi_enter_29 ?_
        refine lv_iconst (v := 1) hx hb d_Wi_enter_32 (by decide) ?_
        refine lv_isub hx hb d_Wi_enter_33 ?_
        obtain ⟨M61, ⟨fs62, he63, hl64, eM61⟩, hwp⟩ := hwp
        refine h_put (C := "BuckTables$Window") (T := Tc3) (N := 3) (v := .int (v57 - (1 : Int32))) (ty := .int) hx hb hts inc3 tyc3 tyc3_ok nmc3 hown hK hM hS he63 rfl 2 (by decide) (hts _ kw_45) (fun _ h9 => h9) rfl (by decide +kernel) rfl rfl hl64 d_Wi_enter_34 (fun H locs hM hS => ?_)
        rw [← eM61] at hM
        refine lv_goto (tgt := 0) hx hb d_Wi_enter_37 (by decide) ?_
        exact ih x0 x1 M61 hwp H locs ls hM hS (lv_sub hl [0, 1] rfl)
def wpWi_enter (self : Nat) (p0 : Int64) (M : Hp) (post : Hp → Prop) : Prop := (∃ n65 : Nat, wWi_enter_0 post n65 self p0 M)
set_option maxRecDepth 100000 in
set_option maxHeartbeats 4000000 in
theorem eWi_enter {p : Program} {l : Launch} {e : Env} {s : State} {m : MethodId} {args : Array Value} {below : List Frame} {meth : Method} {c : Code} {D : va_G} {κ : Nat → ClassId} {A : Nat → Prop} (C : Cx_Wi_enter p s m args meth c D κ A) (post : Hp → Prop) (self : Nat) (p0 : Int64) (M : Hp) (hwp : wpWi_enter self p0 M post) : Y p l e rm_Wi_enter s m args below meth c D kCl (hTys κ) A 3 0 0 (MQ below (va_Qv post (hB D kCl (hTys κ) A) A) args s 0 0 A) M 0 [(0, .ref self), (1, .long p0)] [] := by
  obtain ⟨hx, hb, hml, hr, hown, hts, hlocks, hE, hA⟩ := id C
  have hK := hE.1
  intro H locs ls hM hS hl
  unfold wpWi_enter at hwp
  obtain ⟨n65, hwp⟩ := hwp
  exact tWi_enter_0 C post n65 self p0 M hwp H locs ls hM hS (lv_sub hl [0, 1] rfl)
set_option maxRecDepth 100000 in
set_option maxHeartbeats 4000000 in
theorem metWi_enter (l : Launch) (D : va_G) (κ : Nat → ClassId) (sz : Nat) (self : Nat) (p0 : Int64) (M : Hp) (post : Hp → Prop) (hwp : wpWi_enter self p0 M post) : Met l y_Wi_enter ws_Wi_enter rm_Wi_enter (hPc D kCl (hTys κ) M sz [.ref self, .long p0]) (va_Qv post (hB D kCl (hTys κ) (hAx M sz)) (hAx M sz)) 0 0 (hAx M sz) := by
  refine Met.ofW (cc := prog_6_method_3_code) (maxL := 3) (ret := none) (by decide +kernel) rfl ?_
  intro p e s m args below meth c s₁ B hml hv
  obtain ⟨rfl, hsz, hE, hM0⟩ := hv
  have hts : ∀ w ∈ WG, w.before _ s = true := fun w h => atoms_spec (ws := ws_Wi_enter) B.pre w (List.mem_cons_of_mem _ h)
  subst hsz
  have C : Cx_Wi_enter p s m _ meth c D κ (hAx M s.heap.size) := ⟨B.exec, B.bytes, hml, B.returns, findClass_of_methodNamed B.named, hts, B.notSynchronized, hE, fun q h => Or.inr h⟩
  have hl := lv_entry ([.ref self, .long p0]) (n := 3) (Nat.le_of_ble_eq_true rfl)
  rw [lg_entry_eq]
  generalize (lg_sl ([.ref self, .long p0]) ++ List.replicate (3 - (lg_sl ([.ref self, .long p0])).length) Slot.unset).toArray = ls at hl ⊢
  exact eWi_enter C post self p0 M hwp s.heap [] ls (hM0.self (sz := s.heap.size)) va_S.rf hl
abbrev rm_Cu_letEndIn : Room := { frames := 1, cells := 0, slots := 0, locals := 23 }
def Cx_Cu_letEndIn (p : Program) (s : State) (m : MethodId) (args : Array Value) (meth : Method) (c : Code) (D : va_G) (κ : Nat → ClassId) (A : Nat → Prop) : Prop := p.tables.exec = Jvm.exec ∧ c.code = prog_2_method_4_code ∧ c.maxLocals = 9 ∧ meth.sig.returnType = none ∧ s.vm.findClass "BuckTables$Cutter" = some m.cls ∧ (∀ w ∈ WG, w.before args s = true) ∧ meth.locks = false ∧ hEnv D kCl (hTys κ) A s ∧ (∀ q, s.heap.size ≤ q → A q)
def wCu_letEndIn_64 (post : Hp → Prop)   (M : Hp) : Prop := (post M)
set_option maxRecDepth 100000 in
set_option maxHeartbeats 4000000 in
theorem tCu_letEndIn_64 {p : Program} {l : Launch} {e : Env} {s : State} {m : MethodId} {args : Array Value} {below : List Frame} {meth : Method} {c : Code} {D : va_G} {κ : Nat → ClassId} {A : Nat → Prop} (C : Cx_Cu_letEndIn p s m args meth c D κ A) (post : Hp → Prop)   (M : Hp) (hwp : wCu_letEndIn_64 post  M) : Y p l e rm_Cu_letEndIn s m args below meth c D kCl (hTys κ) A 9 0 0 (MQ below (va_Qv post (hB D kCl (hTys κ) A) A) args s 0 0 A) M 64 [] [] := by
  obtain ⟨hx, hb, hml, hr, hown, hts, hlocks, hE, hA⟩ := id C
  have hK := hE.1
  intro H locs ls hM hS hl
  unfold wCu_letEndIn_64 at hwp
  exact W.vret hx hb hr (fun t ht hW => ⟨⟨M, rfl, hwp, by show hw D kCl (hTys κ) A M t.heap; rw [ht]; exact hM⟩, hS.F ht⟩) hS.2.2 d_Cu_letEndIn_64
def wpCu_letEndIn (self : Nat) (p0 : Nat) (p1 : Nat) (p2 : Nat) (p3 : Int32) (p4 : Int32) (M : Hp) (post : Hp → Prop) : Prop := (∃ v1 : Int32, fI M p2 2 3 v1 ∧ (∀ z5 : Int32, z5 = (p3 + v1) → (∃ v6 : Int32, fI M p0 1 11 v6 ∧ ((v6 < z5 → (wCu_letEndIn_64 post M)) ∧ (¬ v6 < z5 → (∃ a11 : Nat, fA M self 4 0 a11 ∧ (∃ v15 : Int32, fI M p0 1 11 v15 ∧ (∃ v19 : Int64, aJ M a11 (if v15 < (z5 + p4) then v15 else (z5 + p4)) v19 ∧ (∃ v24 : Int64, fJ M p2 2 7 v24 ∧ (hob M p1 3 ∧ (wpWi_enter p1 (((((v24 * (z5.toInt64)) * (128 : Int64)) + v19) * (128 : Int64)) + (z5.toInt64)) M (fun (M28 : Hp) => (wCu_letEndIn_64 post M28)))))))))))))
set_option maxRecDepth 100000 in
set_option maxHeartbeats 4000000 in
theorem eCu_letEndIn {p : Program} {l : Launch} {e : Env} {s : State} {m : MethodId} {args : Array Value} {below : List Frame} {meth : Method} {c : Code} {D : va_G} {κ : Nat → ClassId} {A : Nat → Prop} (C : Cx_Cu_letEndIn p s m args meth c D κ A) (post : Hp → Prop) (self : Nat) (p0 : Nat) (p1 : Nat) (p2 : Nat) (p3 : Int32) (p4 : Int32) (M : Hp) (hwp : wpCu_letEndIn self p0 p1 p2 p3 p4 M post) : Y p l e rm_Cu_letEndIn s m args below meth c D kCl (hTys κ) A 9 0 0 (MQ below (va_Qv post (hB D kCl (hTys κ) A) A) args s 0 0 A) M 0 [(0, .ref self), (1, .ref p0), (2, .ref p1), (3, .ref p2), (4, .int p3), (5, .int p4)] [] := by
  obtain ⟨hx, hb, hml, hr, hown, hts, hlocks, hE, hA⟩ := id C
  have hK := hE.1
  intro H locs ls hM hS hl
  unfold wpCu_letEndIn at hwp
  refine lv_iload hx hb d_Cu_letEndIn_0 (lv_at hl 4 rfl) ?_
  refine lv_aload_n hx hb d_Cu_letEndIn_2 rfl (lv_at hl 3 rfl) ?_
  obtain ⟨v1, ⟨fs2, he3, hv4⟩, hwp⟩ := hwp
  refine h_get (C := "BuckTables$Product") (T := Tc2) (N := 10) hx hb hts inc2 hown hK hM he3 rfl 3 (by decide) (hts _ kw_167) (fun _ h9 => h9) hv4 d_Cu_letEndIn_3 ?_
  refine lv_iadd hx hb d_Cu_letEndIn_6 ?_
  refine lv_topi (fun z5 ez5 => ?_)
  replace hwp := hwp z5 ez5
  refine lv_istore (lv' := [(6, .int z5), (0, .ref self), (1, .ref p0), (2, .ref p1), (3, .ref p2), (4, .int p3), (5, .int p4)]) hx hb d_Cu_letEndIn_7 hl (by decide) rfl (fun ls hl => ?_)
  refine lv_iload hx hb d_Cu_letEndIn_9 (lv_at hl 0 rfl) ?_
  refine lv_aload_n hx hb d_Cu_letEndIn_11 rfl (lv_at hl 2 rfl) ?_
  obtain ⟨v6, ⟨fs7, he8, hv9⟩, hwp⟩ := hwp
  refine h_get (C := "BuckTables$Stem") (T := Tc1) (N := 12) hx hb hts inc1 hown hK hM he8 rfl 11 (by decide) (hts _ kw_126) (fun _ h9 => h9) hv9 d_Cu_letEndIn_12 ?_
  refine lv_icmp_gt (tgt := 64) hx hb d_Cu_letEndIn_15 (by decide) (fun c10 => ?_) (fun c10 => ?_)
  · replace hwp := hwp.1 c10
    exact tCu_letEndIn_64 C post M hwp H locs ls hM hS (lv_sub hl [] rfl)
  · replace hwp := hwp.2 c10
    refine lv_aload_n hx hb d_Cu_letEndIn_18 rfl (lv_at hl 1 rfl) ?_
    obtain ⟨a11, ⟨fs12, he13, hv14⟩, hwp⟩ := hwp
    refine h_get (C := "BuckTables$Cutter") (T := Tc4) (N := 4) hx hb hts inc4 hown hK hM he13 rfl 0 (by decide) (hts _ kw_56) (fun _ h9 => h9) hv14 d_Cu_letEndIn_19 ?_
    refine lv_iload hx hb d_Cu_letEndIn_22 (lv_at hl 0 rfl) ?_
    refine lv_iload hx hb d_Cu_letEndIn_24 (lv_at hl 6 rfl) ?_
    refine lv_iadd hx hb d_Cu_letEndIn_26 ?_
    refine lv_aload_n hx hb d_Cu_letEndIn_27 rfl (lv_at hl 2 rfl) ?_
    obtain ⟨v15, ⟨fs16, he17, hv18⟩, hwp⟩ := hwp
    refine h_get (C := "BuckTables$Stem") (T := Tc1) (N := 12) hx hb hts inc1 hown hK hM he17 rfl 11 (by decide) (hts _ kw_126) (fun _ h9 => h9) hv18 d_Cu_letEndIn_28 ?_
    refine va_mmin hx hb (show c.maxLocals = ls.size by rw [hml, hl.1]) hown (hts _ kw_293) (hts _ kw_97) (hts _ kw_5) (hts _ kw_98) (Nat.le_of_ble_eq_true rfl) (Nat.le_of_ble_eq_true rfl) (Nat.le_of_ble_eq_true rfl) (Nat.le_of_ble_eq_true rfl) d_Cu_letEndIn_31 ?_
    obtain ⟨v19, ⟨n20, f21, ha22, hi23, ev19⟩, hwp⟩ := hwp
    refine h_lald hx hb hK hM ha22 rfl hi23 d_Cu_letEndIn_34 ?_
    rw [← ev19]
    refine lv_lstore (lv' := [(7, .long v19), (6, .int z5), (0, .ref self), (1, .ref p0), (2, .ref p1), (3, .ref p2), (4, .int p3), (5, .int p4)]) hx hb d_Cu_letEndIn_35 hl (by decide) rfl (fun ls hl => ?_)
    refine lv_aload_n hx hb d_Cu_letEndIn_37 rfl (lv_at hl 4 rfl) ?_
    refine lv_aload_n hx hb d_Cu_letEndIn_38 rfl (lv_at hl 5 rfl) ?_
    obtain ⟨v24, ⟨fs25, he26, hv27⟩, hwp⟩ := hwp
    refine h_get (C := "BuckTables$Product") (T := Tc2) (N := 10) hx hb hts inc2 hown hK hM he26 rfl 7 (by decide) (hts _ kw_175) (fun _ h9 => h9) hv27 d_Cu_letEndIn_39 ?_
    refine lv_iload hx hb d_Cu_letEndIn_42 (lv_at hl 1 rfl) ?_
    refine lv_i2l hx hb d_Cu_letEndIn_44 rfl ?_
    refine lv_lmul hx hb d_Cu_letEndIn_45 ?_
    refine lv_ldc2 (v := (128)) hx hb hown (hts _ kw_288) d_Cu_letEndIn_46 ?_
    refine lv_lmul hx hb d_Cu_letEndIn_49 ?_
    refine lv_lload hx hb d_Cu_letEndIn_50 (lv_at hl 0 rfl) ?_
    refine lv_ladd hx hb d_Cu_letEndIn_52 ?_
    refine lv_ldc2 (v := (128)) hx hb hown (hts _ kw_288) d_Cu_letEndIn_53 ?_
    refine lv_lmul hx hb d_Cu_letEndIn_56 ?_
    refine lv_iload hx hb d_Cu_letEndIn_57 (lv_at hl 1 rfl) ?_
    refine lv_i2l hx hb d_Cu_letEndIn_59 rfl ?_
    refine lv_ladd hx hb d_Cu_letEndIn_60 ?_
    obtain ⟨ho29, hwp⟩ := hwp
    refine h_callv hM hS hA (va_runV (As := [.long (((((v24 * (z5.toInt64)) * (128 : Int64)) + v19) * (128 : Int64)) + (z5.toInt64))]) (rest := []) ⟨hx, hb, hml, hown, hts⟩ (metWi_enter l D κ H.size p1 (((((v24 * (z5.toInt64)) * (128 : Int64)) + v19) * (128 : Int64)) + (z5.toInt64)) M _ hwp) (cwV 1 hts (gV kw_294 kw_295 kw_296 kw_3 kw_297) rfl rfl rfl (by decide +kernel) ⟨(Nat.le_of_ble_eq_true rfl), (Nat.le_of_ble_eq_true rfl)⟩) (h_preV hE hM hS ho29 (r := ("BuckTables$Window", Tc3, 3)) rfl) rfl rfl hl.1 rfl (lv_room (Nat.le_of_ble_eq_true rfl)) d_Cu_letEndIn_61 ⟨(Nat.le_of_ble_eq_true rfl), (Nat.le_of_ble_eq_true rfl)⟩) (fun M28 H locs hwp hM hS => ?_)
    exact tCu_letEndIn_64 C post M28 hwp H locs ls hM hS (lv_sub hl [] rfl)
set_option maxRecDepth 100000 in
set_option maxHeartbeats 4000000 in
theorem metCu_letEndIn (l : Launch) (D : va_G) (κ : Nat → ClassId) (sz : Nat) (self : Nat) (p0 : Nat) (p1 : Nat) (p2 : Nat) (p3 : Int32) (p4 : Int32) (M : Hp) (post : Hp → Prop) (hwp : wpCu_letEndIn self p0 p1 p2 p3 p4 M post) : Met l y_Cu_letEndIn ws_Cu_letEndIn rm_Cu_letEndIn (hPc D kCl (hTys κ) M sz [.ref self, .ref p0, .ref p1, .ref p2, .int p3, .int p4]) (va_Qv post (hB D kCl (hTys κ) (hAx M sz)) (hAx M sz)) 0 0 (hAx M sz) := by
  refine Met.ofW (cc := prog_2_method_4_code) (maxL := 9) (ret := none) (by decide +kernel) rfl ?_
  intro p e s m args below meth c s₁ B hml hv
  obtain ⟨rfl, hsz, hE, hM0⟩ := hv
  have hts : ∀ w ∈ WG, w.before _ s = true := fun w h => atoms_spec (ws := ws_Cu_letEndIn) B.pre w (List.mem_cons_of_mem _ h)
  subst hsz
  have C : Cx_Cu_letEndIn p s m _ meth c D κ (hAx M s.heap.size) := ⟨B.exec, B.bytes, hml, B.returns, findClass_of_methodNamed B.named, hts, B.notSynchronized, hE, fun q h => Or.inr h⟩
  have hl := lv_entry ([.ref self, .ref p0, .ref p1, .ref p2, .int p3, .int p4]) (n := 9) (Nat.le_of_ble_eq_true rfl)
  rw [lg_entry_eq]
  generalize (lg_sl ([.ref self, .ref p0, .ref p1, .ref p2, .int p3, .int p4]) ++ List.replicate (9 - (lg_sl ([.ref self, .ref p0, .ref p1, .ref p2, .int p3, .int p4])).length) Slot.unset).toArray = ls at hl ⊢
  exact eCu_letEndIn C post self p0 p1 p2 p3 p4 M hwp s.heap [] ls (hM0.self (sz := s.heap.size)) va_S.rf hl
abbrev rm_Ma_floorMod : Room := { frames := 0, cells := 0, slots := 0, locals := 0 }
def Cx_Ma_floorMod (p : Program) (s : State) (m : MethodId) (args : Array Value) (meth : Method) (c : Code) (D : va_G) (κ : Nat → ClassId) (A : Nat → Prop) : Prop := p.tables.exec = Jvm.exec ∧ c.code = prog_13_method_52_code ∧ c.maxLocals = 6 ∧ meth.sig.returnType = (some .long) ∧ s.vm.findClass "java/lang/Math" = some m.cls ∧ (∀ w ∈ WG, w.before args s = true) ∧ meth.locks = false ∧ hEnv D kCl (hTys κ) A s ∧ (∀ q, s.heap.size ≤ q → A q)
def wMa_floorMod_25 (post : Int64 → Hp → Prop)  (x4 : Int64) (M : Hp) : Prop := (post x4 M)
set_option maxRecDepth 100000 in
set_option maxHeartbeats 4000000 in
theorem tMa_floorMod_25 {p : Program} {l : Launch} {e : Env} {s : State} {m : MethodId} {args : Array Value} {below : List Frame} {meth : Method} {c : Code} {D : va_G} {κ : Nat → ClassId} {A : Nat → Prop} (C : Cx_Ma_floorMod p s m args meth c D κ A) (post : Int64 → Hp → Prop)  (x4 : Int64) (M : Hp) (hwp : wMa_floorMod_25 post x4 M) : Y p l e rm_Ma_floorMod s m args below meth c D kCl (hTys κ) A 6 0 0 (MQ below (va_Ql post (hB D kCl (hTys κ) A) A) args s 0 0 A) M 25 [(4, .long x4)] [] := by
  obtain ⟨hx, hb, hml, hr, hown, hts, hlocks, hE, hA⟩ := id C
  have hK := hE.1
  intro H locs ls hM hS hl
  unfold wMa_floorMod_25 at hwp
  refine lv_lload hx hb d_Ma_floorMod_25 (lv_at hl 0 rfl) ?_
  exact W.lret (v := x4) hx hb hr (fun t ht hW => ⟨⟨x4, M, rfl, hwp, by show hw D kCl (hTys κ) A M t.heap; rw [ht]; exact hM⟩, hS.F ht⟩) hS.2.2 d_Ma_floorMod_27
def wpMa_floorMod (p0 : Int64) (p1 : Int64) (M : Hp) (post : Int64 → Hp → Prop) : Prop := (¬ p1 = 0 ∧ (∀ z2 : Int64, z2 = (p0 - p0 / p1 * p1) → (((0 : Int64) ≤ (p0 ^^^ p1) → (wMa_floorMod_25 post z2 M)) ∧ (¬ (0 : Int64) ≤ (p0 ^^^ p1) → ((z2 = (0 : Int64) → (wMa_floorMod_25 post z2 M)) ∧ (¬ z2 = (0 : Int64) → (post (z2 + p1) M)))))))
set_option maxRecDepth 100000 in
set_option maxHeartbeats 4000000 in
theorem eMa_floorMod {p : Program} {l : Launch} {e : Env} {s : State} {m : MethodId} {args : Array Value} {below : List Frame} {meth : Method} {c : Code} {D : va_G} {κ : Nat → ClassId} {A : Nat → Prop} (C : Cx_Ma_floorMod p s m args meth c D κ A) (post : Int64 → Hp → Prop) (p0 : Int64) (p1 : Int64) (M : Hp) (hwp : wpMa_floorMod p0 p1 M post) : Y p l e rm_Ma_floorMod s m args below meth c D kCl (hTys κ) A 6 0 0 (MQ below (va_Ql post (hB D kCl (hTys κ) A) A) args s 0 0 A) M 0 [(0, .long p0), (2, .long p1)] [] := by
  obtain ⟨hx, hb, hml, hr, hown, hts, hlocks, hE, hA⟩ := id C
  have hK := hE.1
  intro H locs ls hM hS hl
  unfold wpMa_floorMod at hwp
  refine lv_lload_n hx hb d_Ma_floorMod_0 rfl (lv_at hl 0 rfl) ?_
  refine lv_lload_n hx hb d_Ma_floorMod_1 rfl (lv_at hl 1 rfl) ?_
  obtain ⟨h1, hwp⟩ := hwp
  refine lv_lrem hx hb d_Ma_floorMod_2 h1 ?_
  refine lv_topl (fun z2 ez2 => ?_)
  replace hwp := hwp z2 ez2
  refine lv_lstore (lv' := [(4, .long z2), (0, .long p0), (2, .long p1)]) hx hb d_Ma_floorMod_3 hl (by decide) rfl (fun ls hl => ?_)
  refine lv_lload_n hx hb d_Ma_floorMod_5 rfl (lv_at hl 1 rfl) ?_
  refine lv_lload_n hx hb d_Ma_floorMod_6 rfl (lv_at hl 2 rfl) ?_
  refine lv_lxor hx hb d_Ma_floorMod_7 ?_
  refine lv_lconst (v := 0) hx hb d_Ma_floorMod_8 (by decide) ?_
  refine W.lcmp hx hb d_Ma_floorMod_9 ?_
  refine lv_if_ge (tgt := 25) hx hb d_Ma_floorMod_10 (by decide) (fun c3 => ?_) (fun c3 => ?_)
  · replace c3 := (lc_ge _ _).mp c3
    replace hwp := hwp.1 c3
    exact tMa_floorMod_25 C post z2 M hwp H locs ls hM hS (lv_sub hl [0] rfl)
  · replace c3 := fun h9 => c3 ((lc_ge _ _).mpr h9)
    replace hwp := hwp.2 c3
    refine lv_lload hx hb d_Ma_floorMod_13 (lv_at hl 0 rfl) ?_
    refine lv_lconst (v := 0) hx hb d_Ma_floorMod_15 (by decide) ?_
    refine W.lcmp hx hb d_Ma_floorMod_16 ?_
    refine lv_if_eq (tgt := 25) hx hb d_Ma_floorMod_17 (by decide) (fun c4 => ?_) (fun c4 => ?_)
    · replace c4 := (lc_eq _ _).mp c4
      replace hwp := hwp.1 c4
      exact tMa_floorMod_25 C post z2 M hwp H locs ls hM hS (lv_sub hl [0] rfl)
    · replace c4 := fun h9 => c4 ((lc_eq _ _).mpr h9)
      replace hwp := hwp.2 c4
      refine lv_lload hx hb d_Ma_floorMod_20 (lv_at hl 0 rfl) ?_
      refine lv_lload_n hx hb d_Ma_floorMod_22 rfl (lv_at hl 2 rfl) ?_
      refine lv_ladd hx hb d_Ma_floorMod_23 ?_
      exact W.lret (v := (z2 + p1)) hx hb hr (fun t ht hW => ⟨⟨(z2 + p1), M, rfl, hwp, by show hw D kCl (hTys κ) A M t.heap; rw [ht]; exact hM⟩, hS.F ht⟩) hS.2.2 d_Ma_floorMod_24
set_option maxRecDepth 100000 in
set_option maxHeartbeats 4000000 in
theorem metMa_floorMod (l : Launch) (D : va_G) (κ : Nat → ClassId) (sz : Nat) (p0 : Int64) (p1 : Int64) (M : Hp) (post : Int64 → Hp → Prop) (hwp : wpMa_floorMod p0 p1 M post) : Met l y_Ma_floorMod ws_Ma_floorMod rm_Ma_floorMod (hPc D kCl (hTys κ) M sz [.long p0, .long p1]) (va_Ql post (hB D kCl (hTys κ) (hAx M sz)) (hAx M sz)) 0 0 (hAx M sz) := by
  refine va_MetF (cc := prog_13_method_52_code) (maxL := 6) (ret := (some .long)) (by decide +kernel) rfl ?_
  intro p e s m args below meth c s₁ B hml hv
  obtain ⟨rfl, hsz, hE, hM0⟩ := hv
  have hts : ∀ w ∈ WG, w.before _ s = true := fun w h => atoms_spec (ws := ws_Ma_floorMod) B.pre w (List.mem_cons_of_mem _ h)
  subst hsz
  have C : Cx_Ma_floorMod p s m _ meth c D κ (hAx M s.heap.size) := ⟨B.exec, B.bytes, hml, B.returns, findClass_of_methodNamed B.named, hts, B.notSynchronized, hE, fun q h => Or.inr h⟩
  have hl := lv_entry ([.long p0, .long p1]) (n := 6) (Nat.le_of_ble_eq_true rfl)
  rw [lg_entry_eq]
  generalize (lg_sl ([.long p0, .long p1]) ++ List.replicate (6 - (lg_sl ([.long p0, .long p1])).length) Slot.unset).toArray = ls at hl ⊢
  exact eMa_floorMod C post p0 p1 M hwp s.heap [] ls (hM0.self (sz := s.heap.size)) va_S.rf hl
abbrev rm_Cu_endOf : Room := { frames := 1, cells := 0, slots := 0, locals := 25 }
def Cx_Cu_endOf (p : Program) (s : State) (m : MethodId) (args : Array Value) (meth : Method) (c : Code) (D : va_G) (κ : Nat → ClassId) (A : Nat → Prop) : Prop := p.tables.exec = Jvm.exec ∧ c.code = prog_2_method_2_code ∧ c.maxLocals = 2 ∧ meth.sig.returnType = (some .int) ∧ s.vm.findClass "BuckTables$Cutter" = some m.cls ∧ (∀ w ∈ WG, w.before args s = true) ∧ meth.locks = false ∧ hEnv D kCl (hTys κ) A s ∧ (∀ q, s.heap.size ≤ q → A q)
def wpCu_endOf (p0 : Int64) (M : Hp) (post : Int32 → Hp → Prop) : Prop := (wpMa_floorMod p0 (128 : Int64) M (fun (r2 : Int64) (M1 : Hp) => (post (r2.toInt32) M1)))
set_option maxRecDepth 100000 in
set_option maxHeartbeats 4000000 in
theorem eCu_endOf {p : Program} {l : Launch} {e : Env} {s : State} {m : MethodId} {args : Array Value} {below : List Frame} {meth : Method} {c : Code} {D : va_G} {κ : Nat → ClassId} {A : Nat → Prop} (C : Cx_Cu_endOf p s m args meth c D κ A) (post : Int32 → Hp → Prop) (p0 : Int64) (M : Hp) (hwp : wpCu_endOf p0 M post) : Y p l e rm_Cu_endOf s m args below meth c D kCl (hTys κ) A 2 0 0 (MQ below (va_Qi post (hB D kCl (hTys κ) A) A) args s 0 0 A) M 0 [(0, .long p0)] [] := by
  obtain ⟨hx, hb, hml, hr, hown, hts, hlocks, hE, hA⟩ := id C
  have hK := hE.1
  intro H locs ls hM hS hl
  unfold wpCu_endOf at hwp
  refine lv_lload_n hx hb d_Cu_endOf_0 rfl (lv_at hl 0 rfl) ?_
  refine lv_ldc2 (v := (128)) hx hb hown (hts _ kw_288) d_Cu_endOf_1 ?_
  refine h_calll hM hS hA (va_runS (As := [.long p0, .long (128 : Int64)]) (rest := []) ⟨hx, hb, hml, hown, hts⟩ (metMa_floorMod l D κ H.size p0 (128 : Int64) M _ hwp) (va_cwS 2 hts (gSo kw_305 kw_306 kw_5 kw_307) rfl rfl rfl (by decide +kernel) ⟨(Nat.le_of_ble_eq_true rfl), (Nat.le_of_ble_eq_true rfl)⟩) (h_preS hE hM hS) rfl rfl hl.1 rfl (lv_room (Nat.le_of_ble_eq_true rfl)) d_Cu_endOf_4 ⟨(Nat.le_of_ble_eq_true rfl), (Nat.le_of_ble_eq_true rfl)⟩) (fun r2 M1 H locs hwp hM hS => ?_)
  refine lv_l2i hx hb d_Cu_endOf_7 rfl ?_
  exact W.iret (v := (r2.toInt32)) hx hb hr (fun t ht hW => ⟨⟨(r2.toInt32), M1, rfl, hwp, by show hw D kCl (hTys κ) A M1 t.heap; rw [ht]; exact hM⟩, hS.F ht⟩) hS.2.2 d_Cu_endOf_8
set_option maxRecDepth 100000 in
set_option maxHeartbeats 4000000 in
theorem metCu_endOf (l : Launch) (D : va_G) (κ : Nat → ClassId) (sz : Nat) (p0 : Int64) (M : Hp) (post : Int32 → Hp → Prop) (hwp : wpCu_endOf p0 M post) : Met l y_Cu_endOf ws_Cu_endOf rm_Cu_endOf (hPc D kCl (hTys κ) M sz [.long p0]) (va_Qi post (hB D kCl (hTys κ) (hAx M sz)) (hAx M sz)) 0 0 (hAx M sz) := by
  refine Met.ofW (cc := prog_2_method_2_code) (maxL := 2) (ret := (some .int)) (by decide +kernel) rfl ?_
  intro p e s m args below meth c s₁ B hml hv
  obtain ⟨rfl, hsz, hE, hM0⟩ := hv
  have hts : ∀ w ∈ WG, w.before _ s = true := fun w h => atoms_spec (ws := ws_Cu_endOf) B.pre w (List.mem_cons_of_mem _ h)
  subst hsz
  have C : Cx_Cu_endOf p s m _ meth c D κ (hAx M s.heap.size) := ⟨B.exec, B.bytes, hml, B.returns, findClass_of_methodNamed B.named, hts, B.notSynchronized, hE, fun q h => Or.inr h⟩
  have hl := lv_entry ([.long p0]) (n := 2) (Nat.le_of_ble_eq_true rfl)
  rw [lg_entry_eq]
  generalize (lg_sl ([.long p0]) ++ List.replicate (2 - (lg_sl ([.long p0])).length) Slot.unset).toArray = ls at hl ⊢
  exact eCu_endOf C post p0 M hwp s.heap [] ls (hM0.self (sz := s.heap.size)) va_S.rf hl
abbrev rm_Wi_leaveBeyond : Room := { frames := 2, cells := 0, slots := 0, locals := 46 }
def Cx_Wi_leaveBeyond (p : Program) (s : State) (m : MethodId) (args : Array Value) (meth : Method) (c : Code) (D : va_G) (κ : Nat → ClassId) (A : Nat → Prop) : Prop := p.tables.exec = Jvm.exec ∧ c.code = prog_6_method_4_code ∧ c.maxLocals = 2 ∧ meth.sig.returnType = none ∧ s.vm.findClass "BuckTables$Window" = some m.cls ∧ (∀ w ∈ WG, w.before args s = true) ∧ meth.locks = false ∧ hEnv D kCl (hTys κ) A s ∧ (∀ q, s.heap.size ≤ q → A q)
def wWi_leaveBeyond_40 (post : Hp → Prop)   (M : Hp) : Prop := (post M)
set_option maxRecDepth 100000 in
set_option maxHeartbeats 4000000 in
theorem tWi_leaveBeyond_40 {p : Program} {l : Launch} {e : Env} {s : State} {m : MethodId} {args : Array Value} {below : List Frame} {meth : Method} {c : Code} {D : va_G} {κ : Nat → ClassId} {A : Nat → Prop} (C : Cx_Wi_leaveBeyond p s m args meth c D κ A) (post : Hp → Prop)   (M : Hp) (hwp : wWi_leaveBeyond_40 post  M) : Y p l e rm_Wi_leaveBeyond s m args below meth c D kCl (hTys κ) A 2 0 0 (MQ below (va_Qv post (hB D kCl (hTys κ) A) A) args s 0 0 A) M 40 [] [] := by
  obtain ⟨hx, hb, hml, hr, hown, hts, hlocks, hE, hA⟩ := id C
  have hK := hE.1
  intro H locs ls hM hS hl
  unfold wWi_leaveBeyond_40 at hwp
  exact W.vret hx hb hr (fun t ht hW => ⟨⟨M, rfl, hwp, by show hw D kCl (hTys κ) A M t.heap; rw [ht]; exact hM⟩, hS.F ht⟩) hS.2.2 d_Wi_leaveBeyond_40
def wWi_leaveBeyond_0 (post : Hp → Prop)  : Nat → Nat → Int32 → Hp → Prop
  | 0 => fun _ _ _ => False
  | n + 1 => fun x0 x1 M => (∃ v1 : Int32, fI M x0 3 1 v1 ∧ (∃ v5 : Int32, fI M x0 3 2 v5 ∧ ((v5 ≤ v1 → (wWi_leaveBeyond_40 post M)) ∧ (¬ v5 ≤ v1 → (∃ a10 : Nat, fA M x0 3 0 a10 ∧ (∃ v14 : Int32, fI M x0 3 1 v14 ∧ (∃ v18 : Int64, aJ M a10 v14 v18 ∧ (wpCu_endOf v18 M (fun (r24 : Int32) (M23 : Hp) => ((r24 ≤ x1 → (wWi_leaveBeyond_40 post M23)) ∧ (¬ r24 ≤ x1 → (∃ v26 : Int32, fI M23 x0 3 1 v26 ∧ (∃ M30 : Hp, pF M23 x0 3 1 (.int (v26 + (1 : Int32))) M30 ∧ ((wWi_leaveBeyond_0 post n) x0 x1 M30))))))))))))))
set_option maxRecDepth 100000 in
set_option maxHeartbeats 4000000 in
theorem tWi_leaveBeyond_0 {p : Program} {l : Launch} {e : Env} {s : State} {m : MethodId} {args : Array Value} {below : List Frame} {meth : Method} {c : Code} {D : va_G} {κ : Nat → ClassId} {A : Nat → Prop} (C : Cx_Wi_leaveBeyond p s m args meth c D κ A) (post : Hp → Prop)  : ∀ (n : Nat) (x0 : Nat) (x1 : Int32) (M : Hp), wWi_leaveBeyond_0 post n x0 x1 M → Y p l e rm_Wi_leaveBeyond s m args below meth c D kCl (hTys κ) A 2 0 0 (MQ below (va_Qv post (hB D kCl (hTys κ) A) A) args s 0 0 A) M 0 [(0, .ref x0), (1, .int x1)] [] := by
  obtain ⟨hx, hb, hml, hr, hown, hts, hlocks, hE, hA⟩ := id C
  have hK := hE.1
  intro n
  induction n with
  | zero => intro x0 x1 M hwp; exact hwp.elim
  | succ n ih =>
    intro x0 x1 M hwp H locs ls hM hS hl
    unfold wWi_leaveBeyond_0 at hwp
    refine lv_aload_n hx hb d_Wi_leaveBeyond_0 rfl (lv_at hl 0 rfl) ?_
    obtain ⟨v1, ⟨fs2, he3, hv4⟩, hwp⟩ := hwp
    refine h_get (C := "BuckTables$Window") (T := Tc3) (N := 3) hx hb hts inc3 hown hK hM he3 rfl 1 (by decide) (hts _ kw_43) (fun _ h9 => h9) hv4 d_Wi_leaveBeyond_1 ?_
    refine lv_aload_n hx hb d_Wi_leaveBeyond_4 rfl (lv_at hl 0 rfl) ?_
    obtain ⟨v5, ⟨fs6, he7, hv8⟩, hwp⟩ := hwp
    refine h_get (C := "BuckTables$Window") (T := Tc3) (N := 3) hx hb hts inc3 hown hK hM he7 rfl 2 (by decide) (hts _ kw_45) (fun _ h9 => h9) hv8 d_Wi_leaveBeyond_5 ?_
    refine lv_icmp_ge (tgt := 40) hx hb d_Wi_leaveBeyond_8 (by decide) (fun c9 => ?_) (fun c9 => ?_)
    · replace hwp := hwp.1 c9
      exact tWi_leaveBeyond_40 C post M hwp H locs ls hM hS (lv_sub hl [] rfl)
    · replace hwp := hwp.2 c9
      refine lv_aload_n hx hb d_Wi_leaveBeyond_11 rfl (lv_at hl 0 rfl) ?_
      obtain ⟨a10, ⟨fs11, he12, hv13⟩, hwp⟩ := hwp
      refine h_get (C := "BuckTables$Window") (T := Tc3) (N := 3) hx hb hts inc3 hown hK hM he12 rfl 0 (by decide) (hts _ kw_41) (fun _ h9 => h9) hv13 d_Wi_leaveBeyond_12 ?_
      refine lv_aload_n hx hb d_Wi_leaveBeyond_15 rfl (lv_at hl 0 rfl) ?_
      obtain ⟨v14, ⟨fs15, he16, hv17⟩, hwp⟩ := hwp
      refine h_get (C := "BuckTables$Window") (T := Tc3) (N := 3) hx hb hts inc3 hown hK hM he16 rfl 1 (by decide) (hts _ kw_43) (fun _ h9 => h9) hv17 d_Wi_leaveBeyond_16 ?_
      obtain ⟨v18, ⟨n19, f20, ha21, hi22, ev18⟩, hwp⟩ := hwp
      refine h_lald hx hb hK hM ha21 rfl hi22 d_Wi_leaveBeyond_19 ?_
      rw [← ev18]
      refine h_calli hM hS hA (va_runS (As := [.long v18]) (rest := []) ⟨hx, hb, hml, hown, hts⟩ (metCu_endOf l D κ H.size v18 M _ hwp) (va_cwS 1 hts (gSo kw_302 kw_303 kw_2 kw_304) rfl rfl rfl (by decide +kernel) ⟨(Nat.le_of_ble_eq_true rfl), (Nat.le_of_ble_eq_true rfl)⟩) (h_preS hE hM hS) rfl rfl hl.1 rfl (lv_room (Nat.le_of_ble_eq_true rfl)) d_Wi_leaveBeyond_20 ⟨(Nat.le_of_ble_eq_true rfl), (Nat.le_of_ble_eq_true rfl)⟩) (fun r24 M23 H locs hwp hM hS => ?_)
      refine lv_iload_n hx hb d_Wi_leaveBeyond_23 rfl (lv_at hl 1 rfl) ?_
      refine lv_icmp_le (tgt := 40) hx hb d_Wi_leaveBeyond_24 (by decide) (fun c25 => ?_) (fun c25 => ?_)
      · replace hwp := hwp.1 c25
        exact tWi_leaveBeyond_40 C post M23 hwp H locs ls hM hS (lv_sub hl [] rfl)
      · replace hwp := hwp.2 c25
        refine lv_aload_n hx hb d_Wi_leaveBeyond_27 rfl (lv_at hl 0 rfl) ?_
        refine lv_dup hx hb d_Wi_leaveBeyond_28 rfl ?_
        obtain ⟨v26, ⟨fs27, he28, hv29⟩, hwp⟩ := hwp
        refine h_get (C := "BuckTables$Window") (T := Tc3) (N := 3) hx hb hts inc3 hown hK hM he28 rfl 1 (by decide) (hts _ kw_43) (fun _ h9 => h9) hv29 d_Wi_leaveBeyond_29 ?_
        refine lv_iconst (v := 1) hx hb d_Wi_leaveBeyond_32 (by decide) ?_
        refine lv_iadd hx hb d_Wi_leaveBeyond_33 ?_
        obtain ⟨M30, ⟨fs31, he32, hl33, eM30⟩, hwp⟩ := hwp
        refine h_put (C := "BuckTables$Window") (T := Tc3) (N := 3) (v := .int (v26 + (1 : Int32))) (ty := .int) hx hb hts inc3 tyc3 tyc3_ok nmc3 hown hK hM hS he32 rfl 1 (by decide) (hts _ kw_43) (fun _ h9 => h9) rfl (by decide +kernel) rfl rfl hl33 d_Wi_leaveBeyond_34 (fun H locs hM hS => ?_)
        rw [← eM30] at hM
        refine lv_goto (tgt := 0) hx hb d_Wi_leaveBeyond_37 (by decide) ?_
        exact ih x0 x1 M30 hwp H locs ls hM hS (lv_sub hl [0, 1] rfl)
def wpWi_leaveBeyond (self : Nat) (p0 : Int32) (M : Hp) (post : Hp → Prop) : Prop := (∃ n34 : Nat, wWi_leaveBeyond_0 post n34 self p0 M)
set_option maxRecDepth 100000 in
set_option maxHeartbeats 4000000 in
theorem eWi_leaveBeyond {p : Program} {l : Launch} {e : Env} {s : State} {m : MethodId} {args : Array Value} {below : List Frame} {meth : Method} {c : Code} {D : va_G} {κ : Nat → ClassId} {A : Nat → Prop} (C : Cx_Wi_leaveBeyond p s m args meth c D κ A) (post : Hp → Prop) (self : Nat) (p0 : Int32) (M : Hp) (hwp : wpWi_leaveBeyond self p0 M post) : Y p l e rm_Wi_leaveBeyond s m args below meth c D kCl (hTys κ) A 2 0 0 (MQ below (va_Qv post (hB D kCl (hTys κ) A) A) args s 0 0 A) M 0 [(0, .ref self), (1, .int p0)] [] := by
  obtain ⟨hx, hb, hml, hr, hown, hts, hlocks, hE, hA⟩ := id C
  have hK := hE.1
  intro H locs ls hM hS hl
  unfold wpWi_leaveBeyond at hwp
  obtain ⟨n34, hwp⟩ := hwp
  exact tWi_leaveBeyond_0 C post n34 self p0 M hwp H locs ls hM hS (lv_sub hl [0, 1] rfl)
set_option maxRecDepth 100000 in
set_option maxHeartbeats 4000000 in
theorem metWi_leaveBeyond (l : Launch) (D : va_G) (κ : Nat → ClassId) (sz : Nat) (self : Nat) (p0 : Int32) (M : Hp) (post : Hp → Prop) (hwp : wpWi_leaveBeyond self p0 M post) : Met l y_Wi_leaveBeyond ws_Wi_leaveBeyond rm_Wi_leaveBeyond (hPc D kCl (hTys κ) M sz [.ref self, .int p0]) (va_Qv post (hB D kCl (hTys κ) (hAx M sz)) (hAx M sz)) 0 0 (hAx M sz) := by
  refine Met.ofW (cc := prog_6_method_4_code) (maxL := 2) (ret := none) (by decide +kernel) rfl ?_
  intro p e s m args below meth c s₁ B hml hv
  obtain ⟨rfl, hsz, hE, hM0⟩ := hv
  have hts : ∀ w ∈ WG, w.before _ s = true := fun w h => atoms_spec (ws := ws_Wi_leaveBeyond) B.pre w (List.mem_cons_of_mem _ h)
  subst hsz
  have C : Cx_Wi_leaveBeyond p s m _ meth c D κ (hAx M s.heap.size) := ⟨B.exec, B.bytes, hml, B.returns, findClass_of_methodNamed B.named, hts, B.notSynchronized, hE, fun q h => Or.inr h⟩
  have hl := lv_entry ([.ref self, .int p0]) (n := 2) (Nat.le_of_ble_eq_true rfl)
  rw [lg_entry_eq]
  generalize (lg_sl ([.ref self, .int p0]) ++ List.replicate (2 - (lg_sl ([.ref self, .int p0])).length) Slot.unset).toArray = ls at hl ⊢
  exact eWi_leaveBeyond C post self p0 M hwp s.heap [] ls (hM0.self (sz := s.heap.size)) va_S.rf hl
abbrev rm_Cu_rankOfBest : Room := { frames := 0, cells := 0, slots := 0, locals := 0 }
def Cx_Cu_rankOfBest (p : Program) (s : State) (m : MethodId) (args : Array Value) (meth : Method) (c : Code) (D : va_G) (κ : Nat → ClassId) (A : Nat → Prop) : Prop := p.tables.exec = Jvm.exec ∧ c.code = prog_2_method_5_code ∧ c.maxLocals = 6 ∧ meth.sig.returnType = (some .long) ∧ s.vm.findClass "BuckTables$Cutter" = some m.cls ∧ (∀ w ∈ WG, w.before args s = true) ∧ meth.locks = false ∧ hEnv D kCl (hTys κ) A s ∧ (∀ q, s.heap.size ≤ q → A q)
def wpCu_rankOfBest (p0 : Nat) (p1 : Nat) (p2 : Int32) (p3 : Int32) (M : Hp) (post : Int64 → Hp → Prop) : Prop := (∃ v1 : Int32, fI M p0 3 1 v1 ∧ (∃ v5 : Int32, fI M p0 3 2 v5 ∧ ((v1 < v5 → (∃ a10 : Nat, fA M p1 2 2 a10 ∧ (∃ v14 : Int64, aJ M a10 p3 v14 ∧ (∃ v19 : Int64, fJ M p1 2 9 v19 ∧ (∃ v23 : Int64, fJ M p1 2 7 v23 ∧ (∀ z27 : Int64, z27 = ((v14 - v19) - (v23 * (p2.toInt64))) → (∃ a28 : Nat, fA M p0 3 0 a28 ∧ (∃ v32 : Int32, fI M p0 3 1 v32 ∧ (∃ v36 : Int64, aJ M a28 v32 v36 ∧ (post (v36 + (((z27 * (128 : Int64)) - (1 : Int64)) * (128 : Int64))) M)))))))))) ∧ (¬ v1 < v5 → (post (-1 : Int64) M)))))
set_option maxRecDepth 100000 in
set_option maxHeartbeats 4000000 in
theorem eCu_rankOfBest {p : Program} {l : Launch} {e : Env} {s : State} {m : MethodId} {args : Array Value} {below : List Frame} {meth : Method} {c : Code} {D : va_G} {κ : Nat → ClassId} {A : Nat → Prop} (C : Cx_Cu_rankOfBest p s m args meth c D κ A) (post : Int64 → Hp → Prop) (p0 : Nat) (p1 : Nat) (p2 : Int32) (p3 : Int32) (M : Hp) (hwp : wpCu_rankOfBest p0 p1 p2 p3 M post) : Y p l e rm_Cu_rankOfBest s m args below meth c D kCl (hTys κ) A 6 0 0 (MQ below (va_Ql post (hB D kCl (hTys κ) A) A) args s 0 0 A) M 0 [(0, .ref p0), (1, .ref p1), (2, .int p2), (3, .int p3)] [] := by
  obtain ⟨hx, hb, hml, hr, hown, hts, hlocks, hE, hA⟩ := id C
  have hK := hE.1
  intro H locs ls hM hS hl
  unfold wpCu_rankOfBest at hwp
  refine lv_aload_n hx hb d_Cu_rankOfBest_0 rfl (lv_at hl 0 rfl) ?_
  obtain ⟨v1, ⟨fs2, he3, hv4⟩, hwp⟩ := hwp
  refine h_get (C := "BuckTables$Window") (T := Tc3) (N := 3) hx hb hts inc3 hown hK hM he3 rfl 1 (by decide) (hts _ kw_44) (fun _ h9 => h9) hv4 d_Cu_rankOfBest_1 ?_
  refine lv_aload_n hx hb d_Cu_rankOfBest_4 rfl (lv_at hl 0 rfl) ?_
  obtain ⟨v5, ⟨fs6, he7, hv8⟩, hwp⟩ := hwp
  refine h_get (C := "BuckTables$Window") (T := Tc3) (N := 3) hx hb hts inc3 hown hK hM he7 rfl 2 (by decide) (hts _ kw_46) (fun _ h9 => h9) hv8 d_Cu_rankOfBest_5 ?_
  refine lv_icmp_lt (tgt := 15) hx hb d_Cu_rankOfBest_8 (by decide) (fun c9 => ?_) (fun c9 => ?_)
  · replace hwp := hwp.1 c9
    refine lv_aload_n hx hb d_Cu_rankOfBest_15 rfl (lv_at hl 1 rfl) ?_
    obtain ⟨a10, ⟨fs11, he12, hv13⟩, hwp⟩ := hwp
    refine h_get (C := "BuckTables$Product") (T := Tc2) (N := 10) hx hb hts inc2 hown hK hM he12 rfl 2 (by decide) (hts _ kw_164) (fun _ h9 => h9) hv13 d_Cu_rankOfBest_16 ?_
    refine lv_iload_n hx hb d_Cu_rankOfBest_19 rfl (lv_at hl 3 rfl) ?_
    obtain ⟨v14, ⟨n15, f16, ha17, hi18, ev14⟩, hwp⟩ := hwp
    refine h_lald hx hb hK hM ha17 rfl hi18 d_Cu_rankOfBest_20 ?_
    rw [← ev14]
    refine lv_aload_n hx hb d_Cu_rankOfBest_21 rfl (lv_at hl 1 rfl) ?_
    obtain ⟨v19, ⟨fs20, he21, hv22⟩, hwp⟩ := hwp
    refine h_get (C := "BuckTables$Product") (T := Tc2) (N := 10) hx hb hts inc2 hown hK hM he21 rfl 9 (by decide) (hts _ kw_179) (fun _ h9 => h9) hv22 d_Cu_rankOfBest_22 ?_
    refine lv_lsub hx hb d_Cu_rankOfBest_25 ?_
    refine lv_aload_n hx hb d_Cu_rankOfBest_26 rfl (lv_at hl 1 rfl) ?_
    obtain ⟨v23, ⟨fs24, he25, hv26⟩, hwp⟩ := hwp
    refine h_get (C := "BuckTables$Product") (T := Tc2) (N := 10) hx hb hts inc2 hown hK hM he25 rfl 7 (by decide) (hts _ kw_175) (fun _ h9 => h9) hv26 d_Cu_rankOfBest_27 ?_
    refine lv_iload_n hx hb d_Cu_rankOfBest_30 rfl (lv_at hl 2 rfl) ?_
    refine lv_i2l hx hb d_Cu_rankOfBest_31 rfl ?_
    refine lv_lmul hx hb d_Cu_rankOfBest_32 ?_
    refine lv_lsub hx hb d_Cu_rankOfBest_33 ?_
    refine lv_topl (fun z27 ez27 => ?_)
    replace hwp := hwp z27 ez27
    refine lv_lstore (lv' := [(4, .long z27), (0, .ref p0), (1, .ref p1), (2, .int p2), (3, .int p3)]) hx hb d_Cu_rankOfBest_34 hl (by decide) rfl (fun ls hl => ?_)
    refine lv_aload_n hx hb d_Cu_rankOfBest_36 rfl (lv_at hl 1 rfl) ?_
    obtain ⟨a28, ⟨fs29, he30, hv31⟩, hwp⟩ := hwp
    refine h_get (C := "BuckTables$Window") (T := Tc3) (N := 3) hx hb hts inc3 hown hK hM he30 rfl 0 (by decide) (hts _ kw_42) (fun _ h9 => h9) hv31 d_Cu_rankOfBest_37 ?_
    refine lv_aload_n hx hb d_Cu_rankOfBest_40 rfl (lv_at hl 1 rfl) ?_
    obtain ⟨v32, ⟨fs33, he34, hv35⟩, hwp⟩ := hwp
    refine h_get (C := "BuckTables$Window") (T := Tc3) (N := 3) hx hb hts inc3 hown hK hM he34 rfl 1 (by decide) (hts _ kw_44) (fun _ h9 => h9) hv35 d_Cu_rankOfBest_41 ?_
    obtain ⟨v36, ⟨n37, f38, ha39, hi40, ev36⟩, hwp⟩ := hwp
    refine h_lald hx hb hK hM ha39 rfl hi40 d_Cu_rankOfBest_44 ?_
    rw [← ev36]
    refine lv_lload hx hb d_Cu_rankOfBest_45 (lv_at hl 0 rfl) ?_
    refine lv_ldc2 (v := (128)) hx hb hown (hts _ kw_288) d_Cu_rankOfBest_47 ?_
    refine lv_lmul hx hb d_Cu_rankOfBest_50 ?_
    refine lv_lconst (v := 1) hx hb d_Cu_rankOfBest_51 (by decide) ?_
    refine lv_lsub hx hb d_Cu_rankOfBest_52 ?_
    refine lv_ldc2 (v := (128)) hx hb hown (hts _ kw_288) d_Cu_rankOfBest_53 ?_
    refine lv_lmul hx hb d_Cu_rankOfBest_56 ?_
    refine lv_ladd hx hb d_Cu_rankOfBest_57 ?_
    exact W.lret (v := (v36 + (((z27 * (128 : Int64)) - (1 : Int64)) * (128 : Int64)))) hx hb hr (fun t ht hW => ⟨⟨(v36 + (((z27 * (128 : Int64)) - (1 : Int64)) * (128 : Int64))), M, rfl, hwp, by show hw D kCl (hTys κ) A M t.heap; rw [ht]; exact hM⟩, hS.F ht⟩) hS.2.2 d_Cu_rankOfBest_58
  · replace hwp := hwp.2 c9
    refine lv_ldc2 (v := (-1)) hx hb hown (hts _ kw_311) d_Cu_rankOfBest_11 ?_
    exact W.lret (v := (-1 : Int64)) hx hb hr (fun t ht hW => ⟨⟨(-1 : Int64), M, rfl, hwp, by show hw D kCl (hTys κ) A M t.heap; rw [ht]; exact hM⟩, hS.F ht⟩) hS.2.2 d_Cu_rankOfBest_14
set_option maxRecDepth 100000 in
set_option maxHeartbeats 4000000 in
theorem metCu_rankOfBest (l : Launch) (D : va_G) (κ : Nat → ClassId) (sz : Nat) (p0 : Nat) (p1 : Nat) (p2 : Int32) (p3 : Int32) (M : Hp) (post : Int64 → Hp → Prop) (hwp : wpCu_rankOfBest p0 p1 p2 p3 M post) : Met l y_Cu_rankOfBest ws_Cu_rankOfBest rm_Cu_rankOfBest (hPc D kCl (hTys κ) M sz [.ref p0, .ref p1, .int p2, .int p3]) (va_Ql post (hB D kCl (hTys κ) (hAx M sz)) (hAx M sz)) 0 0 (hAx M sz) := by
  refine Met.ofW (cc := prog_2_method_5_code) (maxL := 6) (ret := (some .long)) (by decide +kernel) rfl ?_
  intro p e s m args below meth c s₁ B hml hv
  obtain ⟨rfl, hsz, hE, hM0⟩ := hv
  have hts : ∀ w ∈ WG, w.before _ s = true := fun w h => atoms_spec (ws := ws_Cu_rankOfBest) B.pre w (List.mem_cons_of_mem _ h)
  subst hsz
  have C : Cx_Cu_rankOfBest p s m _ meth c D κ (hAx M s.heap.size) := ⟨B.exec, B.bytes, hml, B.returns, findClass_of_methodNamed B.named, hts, B.notSynchronized, hE, fun q h => Or.inr h⟩
  have hl := lv_entry ([.ref p0, .ref p1, .int p2, .int p3]) (n := 6) (Nat.le_of_ble_eq_true rfl)
  rw [lg_entry_eq]
  generalize (lg_sl ([.ref p0, .ref p1, .int p2, .int p3]) ++ List.replicate (6 - (lg_sl ([.ref p0, .ref p1, .int p2, .int p3])).length) Slot.unset).toArray = ls at hl ⊢
  exact eCu_rankOfBest C post p0 p1 p2 p3 M hwp s.heap [] ls (hM0.self (sz := s.heap.size)) va_S.rf hl
abbrev rm_Ma_floorDiv : Room := { frames := 0, cells := 0, slots := 0, locals := 0 }
def Cx_Ma_floorDiv (p : Program) (s : State) (m : MethodId) (args : Array Value) (meth : Method) (c : Code) (D : va_G) (κ : Nat → ClassId) (A : Nat → Prop) : Prop := p.tables.exec = Jvm.exec ∧ c.code = prog_13_method_49_code ∧ c.maxLocals = 6 ∧ meth.sig.returnType = (some .long) ∧ s.vm.findClass "java/lang/Math" = some m.cls ∧ (∀ w ∈ WG, w.before args s = true) ∧ meth.locks = false ∧ hEnv D kCl (hTys κ) A s ∧ (∀ q, s.heap.size ≤ q → A q)
def wMa_floorDiv_27 (post : Int64 → Hp → Prop)  (x4 : Int64) (M : Hp) : Prop := (post x4 M)
set_option maxRecDepth 100000 in
set_option maxHeartbeats 4000000 in
theorem tMa_floorDiv_27 {p : Program} {l : Launch} {e : Env} {s : State} {m : MethodId} {args : Array Value} {below : List Frame} {meth : Method} {c : Code} {D : va_G} {κ : Nat → ClassId} {A : Nat → Prop} (C : Cx_Ma_floorDiv p s m args meth c D κ A) (post : Int64 → Hp → Prop)  (x4 : Int64) (M : Hp) (hwp : wMa_floorDiv_27 post x4 M) : Y p l e rm_Ma_floorDiv s m args below meth c D kCl (hTys κ) A 6 0 0 (MQ below (va_Ql post (hB D kCl (hTys κ) A) A) args s 0 0 A) M 27 [(4, .long x4)] [] := by
  obtain ⟨hx, hb, hml, hr, hown, hts, hlocks, hE, hA⟩ := id C
  have hK := hE.1
  intro H locs ls hM hS hl
  unfold wMa_floorDiv_27 at hwp
  refine lv_lload hx hb d_Ma_floorDiv_27 (lv_at hl 0 rfl) ?_
  exact W.lret (v := x4) hx hb hr (fun t ht hW => ⟨⟨x4, M, rfl, hwp, by show hw D kCl (hTys κ) A M t.heap; rw [ht]; exact hM⟩, hS.F ht⟩) hS.2.2 d_Ma_floorDiv_29
def wpMa_floorDiv (p0 : Int64) (p1 : Int64) (M : Hp) (post : Int64 → Hp → Prop) : Prop := (¬ p1 = 0 ∧ (∀ z2 : Int64, z2 = (p0 / p1) → (((0 : Int64) ≤ (p0 ^^^ p1) → (wMa_floorDiv_27 post z2 M)) ∧ (¬ (0 : Int64) ≤ (p0 ^^^ p1) → (((z2 * p1) = p0 → (wMa_floorDiv_27 post z2 M)) ∧ (¬ (z2 * p1) = p0 → (post (z2 - (1 : Int64)) M)))))))
set_option maxRecDepth 100000 in
set_option maxHeartbeats 4000000 in
theorem eMa_floorDiv {p : Program} {l : Launch} {e : Env} {s : State} {m : MethodId} {args : Array Value} {below : List Frame} {meth : Method} {c : Code} {D : va_G} {κ : Nat → ClassId} {A : Nat → Prop} (C : Cx_Ma_floorDiv p s m args meth c D κ A) (post : Int64 → Hp → Prop) (p0 : Int64) (p1 : Int64) (M : Hp) (hwp : wpMa_floorDiv p0 p1 M post) : Y p l e rm_Ma_floorDiv s m args below meth c D kCl (hTys κ) A 6 0 0 (MQ below (va_Ql post (hB D kCl (hTys κ) A) A) args s 0 0 A) M 0 [(0, .long p0), (2, .long p1)] [] := by
  obtain ⟨hx, hb, hml, hr, hown, hts, hlocks, hE, hA⟩ := id C
  have hK := hE.1
  intro H locs ls hM hS hl
  unfold wpMa_floorDiv at hwp
  refine lv_lload_n hx hb d_Ma_floorDiv_0 rfl (lv_at hl 0 rfl) ?_
  refine lv_lload_n hx hb d_Ma_floorDiv_1 rfl (lv_at hl 1 rfl) ?_
  obtain ⟨h1, hwp⟩ := hwp
  refine lv_ldiv hx hb d_Ma_floorDiv_2 h1 ?_
  refine lv_topl (fun z2 ez2 => ?_)
  replace hwp := hwp z2 ez2
  refine lv_lstore (lv' := [(4, .long z2), (0, .long p0), (2, .long p1)]) hx hb d_Ma_floorDiv_3 hl (by decide) rfl (fun ls hl => ?_)
  refine lv_lload_n hx hb d_Ma_floorDiv_5 rfl (lv_at hl 1 rfl) ?_
  refine lv_lload_n hx hb d_Ma_floorDiv_6 rfl (lv_at hl 2 rfl) ?_
  refine lv_lxor hx hb d_Ma_floorDiv_7 ?_
  refine lv_lconst (v := 0) hx hb d_Ma_floorDiv_8 (by decide) ?_
  refine W.lcmp hx hb d_Ma_floorDiv_9 ?_
  refine lv_if_ge (tgt := 27) hx hb d_Ma_floorDiv_10 (by decide) (fun c3 => ?_) (fun c3 => ?_)
  · replace c3 := (lc_ge _ _).mp c3
    replace hwp := hwp.1 c3
    exact tMa_floorDiv_27 C post z2 M hwp H locs ls hM hS (lv_sub hl [0] rfl)
  · replace c3 := fun h9 => c3 ((lc_ge _ _).mpr h9)
    replace hwp := hwp.2 c3
    refine lv_lload hx hb d_Ma_floorDiv_13 (lv_at hl 0 rfl) ?_
    refine lv_lload_n hx hb d_Ma_floorDiv_15 rfl (lv_at hl 2 rfl) ?_
    refine lv_lmul hx hb d_Ma_floorDiv_16 ?_
    refine lv_lload_n hx hb d_Ma_floorDiv_17 rfl (lv_at hl 1 rfl) ?_
    refine W.lcmp hx hb d_Ma_floorDiv_18 ?_
    refine lv_if_eq (tgt := 27) hx hb d_Ma_floorDiv_19 (by decide) (fun c4 => ?_) (fun c4 => ?_)
    · replace c4 := (lc_eq _ _).mp c4
      replace hwp := hwp.1 c4
      exact tMa_floorDiv_27 C post z2 M hwp H locs ls hM hS (lv_sub hl [0] rfl)
    · replace c4 := fun h9 => c4 ((lc_eq _ _).mpr h9)
      replace hwp := hwp.2 c4
      refine lv_lload hx hb d_Ma_floorDiv_22 (lv_at hl 0 rfl) ?_
      refine lv_lconst (v := 1) hx hb d_Ma_floorDiv_24 (by decide) ?_
      refine lv_lsub hx hb d_Ma_floorDiv_25 ?_
      exact W.lret (v := (z2 - (1 : Int64))) hx hb hr (fun t ht hW => ⟨⟨(z2 - (1 : Int64)), M, rfl, hwp, by show hw D kCl (hTys κ) A M t.heap; rw [ht]; exact hM⟩, hS.F ht⟩) hS.2.2 d_Ma_floorDiv_26
set_option maxRecDepth 100000 in
set_option maxHeartbeats 4000000 in
theorem metMa_floorDiv (l : Launch) (D : va_G) (κ : Nat → ClassId) (sz : Nat) (p0 : Int64) (p1 : Int64) (M : Hp) (post : Int64 → Hp → Prop) (hwp : wpMa_floorDiv p0 p1 M post) : Met l y_Ma_floorDiv ws_Ma_floorDiv rm_Ma_floorDiv (hPc D kCl (hTys κ) M sz [.long p0, .long p1]) (va_Ql post (hB D kCl (hTys κ) (hAx M sz)) (hAx M sz)) 0 0 (hAx M sz) := by
  refine va_MetF (cc := prog_13_method_49_code) (maxL := 6) (ret := (some .long)) (by decide +kernel) rfl ?_
  intro p e s m args below meth c s₁ B hml hv
  obtain ⟨rfl, hsz, hE, hM0⟩ := hv
  have hts : ∀ w ∈ WG, w.before _ s = true := fun w h => atoms_spec (ws := ws_Ma_floorDiv) B.pre w (List.mem_cons_of_mem _ h)
  subst hsz
  have C : Cx_Ma_floorDiv p s m _ meth c D κ (hAx M s.heap.size) := ⟨B.exec, B.bytes, hml, B.returns, findClass_of_methodNamed B.named, hts, B.notSynchronized, hE, fun q h => Or.inr h⟩
  have hl := lv_entry ([.long p0, .long p1]) (n := 6) (Nat.le_of_ble_eq_true rfl)
  rw [lg_entry_eq]
  generalize (lg_sl ([.long p0, .long p1]) ++ List.replicate (6 - (lg_sl ([.long p0, .long p1])).length) Slot.unset).toArray = ls at hl ⊢
  exact eMa_floorDiv C post p0 p1 M hwp s.heap [] ls (hM0.self (sz := s.heap.size)) va_S.rf hl
