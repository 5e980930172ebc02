abbrev rm_Pl_burn : Room := { frames := 0, cells := 0, slots := 0, locals := 0 }
def Cx_Pl_burn (p : Program) (s : State) (m : MethodId) (args : Array Value) (meth : Method) (c : Code) (D : va_G) (κ : Nat → ClassId) (A : Nat → Prop) : Prop := p.tables.exec = Jvm.exec ∧ c.code = prog_3_method_4_code ∧ c.maxLocals = 5 ∧ meth.sig.returnType = none ∧ s.vm.findClass "BuckTables$Plan" = some m.cls ∧ (∀ w ∈ WG, w.before args s = true) ∧ meth.locks = false ∧ hEnv D kCl (hTys κ) A s ∧ (∀ q, s.heap.size ≤ q → A q)
def wPl_burn_3 (post : Hp → Prop)  : Nat → Nat → Int32 → Int32 → Int32 → Int32 → Hp → Prop
  | 0 => fun _ _ _ _ _ _ => False
  | n + 1 => fun x0 x1 x2 x3 x4 M => (((x2 + x3) ≤ x4 → (post M)) ∧ (¬ (x2 + x3) ≤ x4 → (∃ a2 : Nat, fA M x0 5 1 a2 ∧ (∃ M10 : Hp, sZ M a2 ((x1 * (80 : Int32)) + x4) (1 : Int32) M10 ∧ (∀ z11 : Int32, z11 = x4 + 1 → ((wPl_burn_3 post n) x0 x1 x2 x3 z11 M10))))))
set_option maxRecDepth 100000 in
set_option maxHeartbeats 4000000 in
theorem tPl_burn_3 {p : Program} {l : Launch} {e : Env} {s : State} {m : MethodId} {args : Array Value} {below : List Frame} {meth : Method} {c : Code} {D : va_G} {κ : Nat → ClassId} {A : Nat → Prop} (C : Cx_Pl_burn p s m args meth c D κ A) (post : Hp → Prop)  : ∀ (n : Nat) (x0 : Nat) (x1 : Int32) (x2 : Int32) (x3 : Int32) (x4 : Int32) (M : Hp), wPl_burn_3 post n x0 x1 x2 x3 x4 M → Y p l e rm_Pl_burn s m args below meth c D kCl (hTys κ) A 5 0 0 (MQ below (va_Qv post (hB D kCl (hTys κ) A) A) args s 0 0 A) M 3 [(0, .ref x0), (1, .int x1), (2, .int x2), (3, .int x3), (4, .int x4)] [] := by
  obtain ⟨hx, hb, hml, hr, hown, hts, hlocks, hE, hA⟩ := id C
  have hK := hE.1
  intro n
  induction n with
  | zero => intro x0 x1 x2 x3 x4 M hwp; exact hwp.elim
  | succ n ih =>
    intro x0 x1 x2 x3 x4 M hwp H locs ls hM hS hl
    unfold wPl_burn_3 at hwp
    refine lv_iload hx hb d_Pl_burn_3 (lv_at hl 4 rfl) ?_
    refine lv_iload_n hx hb d_Pl_burn_5 rfl (lv_at hl 2 rfl) ?_
    refine lv_iload_n hx hb d_Pl_burn_6 rfl (lv_at hl 3 rfl) ?_
    refine lv_iadd hx hb d_Pl_burn_7 ?_
    refine lv_icmp_ge (tgt := 30) hx hb d_Pl_burn_8 (by decide) (fun c1 => ?_) (fun c1 => ?_)
    · replace hwp := hwp.1 c1
      exact W.vret hx hb hr (fun t ht hW => ⟨⟨M, rfl, hwp, by show hw D kCl (hTys κ) A M t.heap; rw [ht]; exact hM⟩, hS.F ht⟩) hS.2.2 d_Pl_burn_30
    · replace hwp := hwp.2 c1
      refine lv_aload_n hx hb d_Pl_burn_11 rfl (lv_at hl 0 rfl) ?_
      obtain ⟨a2, ⟨fs3, he4, hv5⟩, hwp⟩ := hwp
      refine h_get (C := "BuckTables$Plan") (T := Tc5) (N := 5) hx hb hts inc5 hown hK hM he4 rfl 1 (by decide) (hts _ kw_76) (fun _ h9 => h9) hv5 d_Pl_burn_12 ?_
      refine lv_iload_n hx hb d_Pl_burn_15 rfl (lv_at hl 1 rfl) ?_
      refine lv_bipush (v := 80) hx hb d_Pl_burn_16 (by decide) ?_
      refine lv_imul hx hb d_Pl_burn_18 ?_
      refine lv_iload hx hb d_Pl_burn_19 (lv_at hl 4 rfl) ?_
      refine lv_iadd hx hb d_Pl_burn_21 ?_
      refine lv_iconst (v := 1) hx hb d_Pl_burn_22 (by decide) ?_
      obtain ⟨M10, ⟨n6, f7, ha8, hi9, eM10⟩, hwp⟩ := hwp
      refine h_zast hx hb hK hM hS ha8 rfl hi9 d_Pl_burn_23 (fun H locs hM hS => ?_)
      rw [← eM10] at hM
      obtain ⟨z11, ez11⟩ : ∃ y : Int32, y = x4 + 1 := ⟨_, rfl⟩
      replace hwp := hwp z11 ez11
      refine lv_iinc (v := z11) (lv' := [(4, .int z11), (0, .ref x0), (1, .int x1), (2, .int x2), (3, .int x3)]) hx hb d_Pl_burn_24 hl (k := 4) rfl (by rw [ez11]; rfl) (by decide) rfl (fun ls hl => ?_)
      refine lv_goto (tgt := 3) hx hb d_Pl_burn_27 (by decide) ?_
      exact ih x0 x1 x2 x3 z11 M10 hwp H locs ls hM hS (lv_sub hl [1, 2, 3, 4, 0] rfl)
def wpPl_burn (self : Nat) (p0 : Int32) (p1 : Int32) (p2 : Int32) (M : Hp) (post : Hp → Prop) : Prop := (∃ n12 : Nat, wPl_burn_3 post n12 self p0 p1 p2 p1 M)
set_option maxRecDepth 100000 in
set_option maxHeartbeats 4000000 in
theorem ePl_burn {p : Program} {l : Launch} {e : Env} {s : State} {m : MethodId} {args : Array Value} {below : List Frame} {meth : Method} {c : Code} {D : va_G} {κ : Nat → ClassId} {A : Nat → Prop} (C : Cx_Pl_burn p s m args meth c D κ A) (post : Hp → Prop) (self : Nat) (p0 : Int32) (p1 : Int32) (p2 : Int32) (M : Hp) (hwp : wpPl_burn self p0 p1 p2 M post) : Y p l e rm_Pl_burn s m args below meth c D kCl (hTys κ) A 5 0 0 (MQ below (va_Qv post (hB D kCl (hTys κ) A) A) args s 0 0 A) M 0 [(0, .ref self), (1, .int p0), (2, .int p1), (3, .int p2)] [] := by
  obtain ⟨hx, hb, hml, hr, hown, hts, hlocks, hE, hA⟩ := id C
  have hK := hE.1
  intro H locs ls hM hS hl
  unfold wpPl_burn at hwp
  refine lv_iload_n hx hb d_Pl_burn_0 rfl (lv_at hl 2 rfl) ?_
  refine lv_istore (lv' := [(4, .int p1), (0, .ref self), (1, .int p0), (2, .int p1), (3, .int p2)]) hx hb d_Pl_burn_1 hl (by decide) rfl (fun ls hl => ?_)
  obtain ⟨n12, hwp⟩ := hwp
  exact tPl_burn_3 C post n12 self p0 p1 p2 p1 M hwp H locs ls hM hS (lv_sub hl [1, 2, 3, 4, 0] rfl)
set_option maxRecDepth 100000 in
set_option maxHeartbeats 4000000 in
theorem metPl_burn (l : Launch) (D : va_G) (κ : Nat → ClassId) (sz : Nat) (self : Nat) (p0 : Int32) (p1 : Int32) (p2 : Int32) (M : Hp) (post : Hp → Prop) (hwp : wpPl_burn self p0 p1 p2 M post) : Met l y_Pl_burn ws_Pl_burn rm_Pl_burn (hPc D kCl (hTys κ) M sz [.ref self, .int p0, .int p1, .int p2]) (va_Qv post (hB D kCl (hTys κ) (hAx M sz)) (hAx M sz)) 0 0 (hAx M sz) := by
  refine Met.ofW (cc := prog_3_method_4_code) (maxL := 5) (ret := none) (by decide +kernel) rfl ?_
  intro p e s m args below meth c s₁ B hml hv
  obtain ⟨rfl, hsz, hE, hM0⟩ := hv
  have hts : ∀ w ∈ WG, w.before _ s = true := fun w h => atoms_spec (ws := ws_Pl_burn) B.pre w (List.mem_cons_of_mem _ h)
  subst hsz
  have C : Cx_Pl_burn p s m _ meth c D κ (hAx M s.heap.size) := ⟨B.exec, B.bytes, hml, B.returns, findClass_of_methodNamed B.named, hts, B.notSynchronized, hE, fun q h => Or.inr h⟩
  have hl := lv_entry ([.ref self, .int p0, .int p1, .int p2]) (n := 5) (Nat.le_of_ble_eq_true rfl)
  rw [lg_entry_eq]
  generalize (lg_sl ([.ref self, .int p0, .int p1, .int p2]) ++ List.replicate (5 - (lg_sl ([.ref self, .int p0, .int p1, .int p2])).length) Slot.unset).toArray = ls at hl ⊢
  exact ePl_burn C post self p0 p1 p2 M hwp s.heap [] ls (hM0.self (sz := s.heap.size)) va_S.rf hl
abbrev rm_Pr_trueWorth : Room := { frames := 0, cells := 0, slots := 0, locals := 0 }
def Cx_Pr_trueWorth (p : Program) (s : State) (m : MethodId) (args : Array Value) (meth : Method) (c : Code) (D : va_G) (κ : Nat → ClassId) (A : Nat → Prop) : Prop := p.tables.exec = Jvm.exec ∧ c.code = prog_4_method_5_code ∧ c.maxLocals = 3 ∧ meth.sig.returnType = (some .long) ∧ s.vm.findClass "BuckTables$Product" = some m.cls ∧ (∀ w ∈ WG, w.before args s = true) ∧ meth.locks = false ∧ hEnv D kCl (hTys κ) A s ∧ (∀ q, s.heap.size ≤ q → A q)
def wpPr_trueWorth (self : Nat) (p0 : Int32) (p1 : Int32) (M : Hp) (post : Int64 → Hp → Prop) : Prop := (∃ v1 : Int64, fJ M self 2 7 v1 ∧ (∃ a5 : Nat, fA M self 2 2 a5 ∧ (∃ v9 : Int64, aJ M a5 p1 v9 ∧ (post ((v1 * (p0.toInt64)) + v9) M))))
set_option maxRecDepth 100000 in
set_option maxHeartbeats 4000000 in
theorem ePr_trueWorth {p : Program} {l : Launch} {e : Env} {s : State} {m : MethodId} {args : Array Value} {below : List Frame} {meth : Method} {c : Code} {D : va_G} {κ : Nat → ClassId} {A : Nat → Prop} (C : Cx_Pr_trueWorth p s m args meth c D κ A) (post : Int64 → Hp → Prop) (self : Nat) (p0 : Int32) (p1 : Int32) (M : Hp) (hwp : wpPr_trueWorth self p0 p1 M post) : Y p l e rm_Pr_trueWorth s m args below meth c D kCl (hTys κ) A 3 0 0 (MQ below (va_Ql post (hB D kCl (hTys κ) A) A) args s 0 0 A) M 0 [(0, .ref self), (1, .int p0), (2, .int p1)] [] := by
  obtain ⟨hx, hb, hml, hr, hown, hts, hlocks, hE, hA⟩ := id C
  have hK := hE.1
  intro H locs ls hM hS hl
  unfold wpPr_trueWorth at hwp
  refine lv_aload_n hx hb d_Pr_trueWorth_0 rfl (lv_at hl 0 rfl) ?_
  obtain ⟨v1, ⟨fs2, he3, hv4⟩, hwp⟩ := hwp
  refine h_get (C := "BuckTables$Product") (T := Tc2) (N := 10) hx hb hts inc2 hown hK hM he3 rfl 7 (by decide) (hts _ kw_174) (fun _ h9 => h9) hv4 d_Pr_trueWorth_1 ?_
  refine lv_iload_n hx hb d_Pr_trueWorth_4 rfl (lv_at hl 1 rfl) ?_
  refine lv_i2l hx hb d_Pr_trueWorth_5 rfl ?_
  refine lv_lmul hx hb d_Pr_trueWorth_6 ?_
  refine lv_aload_n hx hb d_Pr_trueWorth_7 rfl (lv_at hl 0 rfl) ?_
  obtain ⟨a5, ⟨fs6, he7, hv8⟩, hwp⟩ := hwp
  refine h_get (C := "BuckTables$Product") (T := Tc2) (N := 10) hx hb hts inc2 hown hK hM he7 rfl 2 (by decide) (hts _ kw_163) (fun _ h9 => h9) hv8 d_Pr_trueWorth_8 ?_
  refine lv_iload_n hx hb d_Pr_trueWorth_11 rfl (lv_at hl 2 rfl) ?_
  obtain ⟨v9, ⟨n10, f11, ha12, hi13, ev9⟩, hwp⟩ := hwp
  refine h_lald hx hb hK hM ha12 rfl hi13 d_Pr_trueWorth_12 ?_
  rw [← ev9]
  refine lv_ladd hx hb d_Pr_trueWorth_13 ?_
  exact W.lret (v := ((v1 * (p0.toInt64)) + v9)) hx hb hr (fun t ht hW => ⟨⟨((v1 * (p0.toInt64)) + v9), M, rfl, hwp, by show hw D kCl (hTys κ) A M t.heap; rw [ht]; exact hM⟩, hS.F ht⟩) hS.2.2 d_Pr_trueWorth_14
set_option maxRecDepth 100000 in
set_option maxHeartbeats 4000000 in
theorem metPr_trueWorth (l : Launch) (D : va_G) (κ : Nat → ClassId) (sz : Nat) (self : Nat) (p0 : Int32) (p1 : Int32) (M : Hp) (post : Int64 → Hp → Prop) (hwp : wpPr_trueWorth self p0 p1 M post) : Met l y_Pr_trueWorth ws_Pr_trueWorth rm_Pr_trueWorth (hPc D kCl (hTys κ) M sz [.ref self, .int p0, .int p1]) (va_Ql post (hB D kCl (hTys κ) (hAx M sz)) (hAx M sz)) 0 0 (hAx M sz) := by
  refine Met.ofW (cc := prog_4_method_5_code) (maxL := 3) (ret := (some .long)) (by decide +kernel) rfl ?_
  intro p e s m args below meth c s₁ B hml hv
  obtain ⟨rfl, hsz, hE, hM0⟩ := hv
  have hts : ∀ w ∈ WG, w.before _ s = true := fun w h => atoms_spec (ws := ws_Pr_trueWorth) B.pre w (List.mem_cons_of_mem _ h)
  subst hsz
  have C : Cx_Pr_trueWorth p s m _ meth c D κ (hAx M s.heap.size) := ⟨B.exec, B.bytes, hml, B.returns, findClass_of_methodNamed B.named, hts, B.notSynchronized, hE, fun q h => Or.inr h⟩
  have hl := lv_entry ([.ref self, .int p0, .int p1]) (n := 3) (Nat.le_of_ble_eq_true rfl)
  rw [lg_entry_eq]
  generalize (lg_sl ([.ref self, .int p0, .int p1]) ++ List.replicate (3 - (lg_sl ([.ref self, .int p0, .int p1])).length) Slot.unset).toArray = ls at hl ⊢
  exact ePr_trueWorth C post self p0 p1 M hwp s.heap [] ls (hM0.self (sz := s.heap.size)) va_S.rf hl
abbrev rm_Pl_addLog : Room := { frames := 0, cells := 0, slots := 0, locals := 0 }
def Cx_Pl_addLog (p : Program) (s : State) (m : MethodId) (args : Array Value) (meth : Method) (c : Code) (D : va_G) (κ : Nat → ClassId) (A : Nat → Prop) : Prop := p.tables.exec = Jvm.exec ∧ c.code = prog_3_method_3_code ∧ c.maxLocals = 8 ∧ meth.sig.returnType = none ∧ s.vm.findClass "BuckTables$Plan" = some m.cls ∧ (∀ w ∈ WG, w.before args s = true) ∧ meth.locks = false ∧ hEnv D kCl (hTys κ) A s ∧ (∀ q, s.heap.size ≤ q → A q)
def wpPl_addLog (self : Nat) (p0 : Int32) (p1 : Int32) (p2 : Int32) (p3 : Int32) (p4 : Int64) (M : Hp) (post : Hp → Prop) : Prop := (∃ v1 : Int32, fI M self 5 3 v1 ∧ (∀ z5 : Int32, z5 = (v1 * (5 : Int32)) → (∃ a6 : Nat, fA M self 5 0 a6 ∧ (∃ M14 : Hp, sI M a6 (z5 + (0 : Int32)) p0 M14 ∧ (∃ a15 : Nat, fA M14 self 5 0 a15 ∧ (∃ M23 : Hp, sI M14 a15 (z5 + (1 : Int32)) p1 M23 ∧ (∃ a24 : Nat, fA M23 self 5 0 a24 ∧ (∃ M32 : Hp, sI M23 a24 (z5 + (2 : Int32)) p2 M32 ∧ (∃ a33 : Nat, fA M32 self 5 0 a33 ∧ (∃ M41 : Hp, sI M32 a33 (z5 + (3 : Int32)) p3 M41 ∧ (∃ a42 : Nat, fA M41 self 5 0 a42 ∧ (∃ M50 : Hp, sI M41 a42 (z5 + (4 : Int32)) (p4.toInt32) M50 ∧ (∃ v51 : Int32, fI M50 self 5 3 v51 ∧ (∃ M55 : Hp, pF M50 self 5 3 (.int (v51 + (1 : Int32))) M55 ∧ (∃ a59 : Nat, fA M55 self 5 2 a59 ∧ (∃ v63 : Int32, aI M55 a59 p3 v63 ∧ (∃ M72 : Hp, sI M55 a59 p3 (v63 + (1 : Int32)) M72 ∧ (∃ v73 : Int64, fJ M72 self 5 4 v73 ∧ (∃ M77 : Hp, pF M72 self 5 4 (.long (v73 + p4)) M77 ∧ (post M77))))))))))))))))))))
set_option maxRecDepth 100000 in
set_option maxHeartbeats 4000000 in
theorem ePl_addLog {p : Program} {l : Launch} {e : Env} {s : State} {m : MethodId} {args : Array Value} {below : List Frame} {meth : Method} {c : Code} {D : va_G} {κ : Nat → ClassId} {A : Nat → Prop} (C : Cx_Pl_addLog p s m args meth c D κ A) (post : Hp → Prop) (self : Nat) (p0 : Int32) (p1 : Int32) (p2 : Int32) (p3 : Int32) (p4 : Int64) (M : Hp) (hwp : wpPl_addLog self p0 p1 p2 p3 p4 M post) : Y p l e rm_Pl_addLog s m args below meth c D kCl (hTys κ) A 8 0 0 (MQ below (va_Qv post (hB D kCl (hTys κ) A) A) args s 0 0 A) M 0 [(0, .ref self), (1, .int p0), (2, .int p1), (3, .int p2), (4, .int p3), (5, .long p4)] [] := by
  obtain ⟨hx, hb, hml, hr, hown, hts, hlocks, hE, hA⟩ := id C
  have hK := hE.1
  intro H locs ls hM hS hl
  unfold wpPl_addLog at hwp
  refine lv_aload_n hx hb d_Pl_addLog_0 rfl (lv_at hl 0 rfl) ?_
  obtain ⟨v1, ⟨fs2, he3, hv4⟩, hwp⟩ := hwp
  refine h_get (C := "BuckTables$Plan") (T := Tc5) (N := 5) hx hb hts inc5 hown hK hM he3 rfl 3 (by decide) (hts _ kw_79) (fun _ h9 => h9) hv4 d_Pl_addLog_1 ?_
  refine lv_iconst (v := 5) hx hb d_Pl_addLog_4 (by decide) ?_
  refine lv_imul hx hb d_Pl_addLog_5 ?_
  refine lv_topi (fun z5 ez5 => ?_)
  replace hwp := hwp z5 ez5
  refine lv_istore (lv' := [(7, .int z5), (0, .ref self), (1, .int p0), (2, .int p1), (3, .int p2), (4, .int p3), (5, .long p4)]) hx hb d_Pl_addLog_6 hl (by decide) rfl (fun ls hl => ?_)
  refine lv_aload_n hx hb d_Pl_addLog_8 rfl (lv_at hl 1 rfl) ?_
  obtain ⟨a6, ⟨fs7, he8, hv9⟩, hwp⟩ := hwp
  refine h_get (C := "BuckTables$Plan") (T := Tc5) (N := 5) hx hb hts inc5 hown hK hM he8 rfl 0 (by decide) (hts _ kw_75) (fun _ h9 => h9) hv9 d_Pl_addLog_9 ?_
  refine lv_iload hx hb d_Pl_addLog_12 (lv_at hl 0 rfl) ?_
  refine lv_iconst (v := 0) hx hb d_Pl_addLog_14 (by decide) ?_
  refine lv_iadd hx hb d_Pl_addLog_15 ?_
  refine lv_iload_n hx hb d_Pl_addLog_16 rfl (lv_at hl 2 rfl) ?_
  obtain ⟨M14, ⟨n10, f11, ha12, hi13, eM14⟩, hwp⟩ := hwp
  refine h_iast hx hb hK hM hS ha12 rfl hi13 d_Pl_addLog_17 (fun H locs hM hS => ?_)
  rw [← eM14] at hM
  refine lv_aload_n hx hb d_Pl_addLog_18 rfl (lv_at hl 1 rfl) ?_
  obtain ⟨a15, ⟨fs16, he17, hv18⟩, hwp⟩ := hwp
  refine h_get (C := "BuckTables$Plan") (T := Tc5) (N := 5) hx hb hts inc5 hown hK hM he17 rfl 0 (by decide) (hts _ kw_75) (fun _ h9 => h9) hv18 d_Pl_addLog_19 ?_
  refine lv_iload hx hb d_Pl_addLog_22 (lv_at hl 0 rfl) ?_
  refine lv_iconst (v := 1) hx hb d_Pl_addLog_24 (by decide) ?_
  refine lv_iadd hx hb d_Pl_addLog_25 ?_
  refine lv_iload_n hx hb d_Pl_addLog_26 rfl (lv_at hl 3 rfl) ?_
  obtain ⟨M23, ⟨n19, f20, ha21, hi22, eM23⟩, hwp⟩ := hwp
  refine h_iast hx hb hK hM hS ha21 rfl hi22 d_Pl_addLog_27 (fun H locs hM hS => ?_)
  rw [← eM23] at hM
  refine lv_aload_n hx hb d_Pl_addLog_28 rfl (lv_at hl 1 rfl) ?_
  obtain ⟨a24, ⟨fs25, he26, hv27⟩, hwp⟩ := hwp
  refine h_get (C := "BuckTables$Plan") (T := Tc5) (N := 5) hx hb hts inc5 hown hK hM he26 rfl 0 (by decide) (hts _ kw_75) (fun _ h9 => h9) hv27 d_Pl_addLog_29 ?_
  refine lv_iload hx hb d_Pl_addLog_32 (lv_at hl 0 rfl) ?_
  refine lv_iconst (v := 2) hx hb d_Pl_addLog_34 (by decide) ?_
  refine lv_iadd hx hb d_Pl_addLog_35 ?_
  refine lv_iload_n hx hb d_Pl_addLog_36 rfl (lv_at hl 4 rfl) ?_
  obtain ⟨M32, ⟨n28, f29, ha30, hi31, eM32⟩, hwp⟩ := hwp
  refine h_iast hx hb hK hM hS ha30 rfl hi31 d_Pl_addLog_37 (fun H locs hM hS => ?_)
  rw [← eM32] at hM
  refine lv_aload_n hx hb d_Pl_addLog_38 rfl (lv_at hl 1 rfl) ?_
  obtain ⟨a33, ⟨fs34, he35, hv36⟩, hwp⟩ := hwp
  refine h_get (C := "BuckTables$Plan") (T := Tc5) (N := 5) hx hb hts inc5 hown hK hM he35 rfl 0 (by decide) (hts _ kw_75) (fun _ h9 => h9) hv36 d_Pl_addLog_39 ?_
  refine lv_iload hx hb d_Pl_addLog_42 (lv_at hl 0 rfl) ?_
  refine lv_iconst (v := 3) hx hb d_Pl_addLog_44 (by decide) ?_
  refine lv_iadd hx hb d_Pl_addLog_45 ?_
  refine lv_iload hx hb d_Pl_addLog_46 (lv_at hl 5 rfl) ?_
  obtain ⟨M41, ⟨n37, f38, ha39, hi40, eM41⟩, hwp⟩ := hwp
  refine h_iast hx hb hK hM hS ha39 rfl hi40 d_Pl_addLog_48 (fun H locs hM hS => ?_)
  rw [← eM41] at hM
  refine lv_aload_n hx hb d_Pl_addLog_49 rfl (lv_at hl 1 rfl) ?_
  obtain ⟨a42, ⟨fs43, he44, hv45⟩, hwp⟩ := hwp
  refine h_get (C := "BuckTables$Plan") (T := Tc5) (N := 5) hx hb hts inc5 hown hK hM he44 rfl 0 (by decide) (hts _ kw_75) (fun _ h9 => h9) hv45 d_Pl_addLog_50 ?_
  refine lv_iload hx hb d_Pl_addLog_53 (lv_at hl 0 rfl) ?_
  refine lv_iconst (v := 4) hx hb d_Pl_addLog_55 (by decide) ?_
  refine lv_iadd hx hb d_Pl_addLog_56 ?_
  refine lv_lload hx hb d_Pl_addLog_57 (lv_at hl 6 rfl) ?_
  refine lv_l2i hx hb d_Pl_addLog_59 rfl ?_
  obtain ⟨M50, ⟨n46, f47, ha48, hi49, eM50⟩, hwp⟩ := hwp
  refine h_iast hx hb hK hM hS ha48 rfl hi49 d_Pl_addLog_60 (fun H locs hM hS => ?_)
  rw [← eM50] at hM
  refine lv_aload_n hx hb d_Pl_addLog_61 rfl (lv_at hl 1 rfl) ?_
  refine lv_dup hx hb d_Pl_addLog_62 rfl ?_
  obtain ⟨v51, ⟨fs52, he53, hv54⟩, hwp⟩ := hwp
  refine h_get (C := "BuckTables$Plan") (T := Tc5) (N := 5) hx hb hts inc5 hown hK hM he53 rfl 3 (by decide) (hts _ kw_79) (fun _ h9 => h9) hv54 d_Pl_addLog_63 ?_
  refine lv_iconst (v := 1) hx hb d_Pl_addLog_66 (by decide) ?_
  refine lv_iadd hx hb d_Pl_addLog_67 ?_
  obtain ⟨M55, ⟨fs56, he57, hl58, eM55⟩, hwp⟩ := hwp
  refine h_put (C := "BuckTables$Plan") (T := Tc5) (N := 5) (v := .int (v51 + (1 : Int32))) (ty := .int) hx hb hts inc5 tyc5 tyc5_ok nmc5 hown hK hM hS he57 rfl 3 (by decide) (hts _ kw_79) (fun _ h9 => h9) rfl (by decide +kernel) rfl rfl hl58 d_Pl_addLog_68 (fun H locs hM hS => ?_)
  rw [← eM55] at hM
  refine lv_aload_n hx hb d_Pl_addLog_71 rfl (lv_at hl 1 rfl) ?_
  obtain ⟨a59, ⟨fs60, he61, hv62⟩, hwp⟩ := hwp
  refine h_get (C := "BuckTables$Plan") (T := Tc5) (N := 5) hx hb hts inc5 hown hK hM he61 rfl 2 (by decide) (hts _ kw_77) (fun _ h9 => h9) hv62 d_Pl_addLog_72 ?_
  refine lv_iload hx hb d_Pl_addLog_75 (lv_at hl 5 rfl) ?_
  refine lv_dup2_11 hx hb d_Pl_addLog_77 rfl rfl ?_
  obtain ⟨v63, ⟨n64, f65, ha66, hi67, ev63⟩, hwp⟩ := hwp
  refine h_iald hx hb hK hM ha66 rfl hi67 d_Pl_addLog_78 ?_
  rw [← ev63]
  refine lv_iconst (v := 1) hx hb d_Pl_addLog_79 (by decide) ?_
  refine lv_iadd hx hb d_Pl_addLog_80 ?_
  obtain ⟨M72, ⟨n68, f69, ha70, hi71, eM72⟩, hwp⟩ := hwp
  refine h_iast hx hb hK hM hS ha70 rfl hi71 d_Pl_addLog_81 (fun H locs hM hS => ?_)
  rw [← eM72] at hM
  refine lv_aload_n hx hb d_Pl_addLog_82 rfl (lv_at hl 1 rfl) ?_
  refine lv_dup hx hb d_Pl_addLog_83 rfl ?_
  obtain ⟨v73, ⟨fs74, he75, hv76⟩, hwp⟩ := hwp
  refine h_get (C := "BuckTables$Plan") (T := Tc5) (N := 5) hx hb hts inc5 hown hK hM he75 rfl 4 (by decide) (hts _ kw_81) (fun _ h9 => h9) hv76 d_Pl_addLog_84 ?_
  refine lv_lload hx hb d_Pl_addLog_87 (lv_at hl 6 rfl) ?_
  refine lv_ladd hx hb d_Pl_addLog_89 ?_
  obtain ⟨M77, ⟨fs78, he79, hl80, eM77⟩, hwp⟩ := hwp
  refine h_put (C := "BuckTables$Plan") (T := Tc5) (N := 5) (v := .long (v73 + p4)) (ty := .long) hx hb hts inc5 tyc5 tyc5_ok nmc5 hown hK hM hS he79 rfl 4 (by decide) (hts _ kw_81) (fun _ h9 => h9) rfl (by decide +kernel) rfl rfl hl80 d_Pl_addLog_90 (fun H locs hM hS => ?_)
  rw [← eM77] at hM
  exact W.vret hx hb hr (fun t ht hW => ⟨⟨M77, rfl, hwp, by show hw D kCl (hTys κ) A M77 t.heap; rw [ht]; exact hM⟩, hS.F ht⟩) hS.2.2 d_Pl_addLog_93
set_option maxRecDepth 100000 in
set_option maxHeartbeats 4000000 in
theorem metPl_addLog (l : Launch) (D : va_G) (κ : Nat → ClassId) (sz : Nat) (self : Nat) (p0 : Int32) (p1 : Int32) (p2 : Int32) (p3 : Int32) (p4 : Int64) (M : Hp) (post : Hp → Prop) (hwp : wpPl_addLog self p0 p1 p2 p3 p4 M post) : Met l y_Pl_addLog ws_Pl_addLog rm_Pl_addLog (hPc D kCl (hTys κ) M sz [.ref self, .int p0, .int p1, .int p2, .int p3, .long p4]) (va_Qv post (hB D kCl (hTys κ) (hAx M sz)) (hAx M sz)) 0 0 (hAx M sz) := by
  refine Met.ofW (cc := prog_3_method_3_code) (maxL := 8) (ret := none) (by decide +kernel) rfl ?_
  intro p e s m args below meth c s₁ B hml hv
  obtain ⟨rfl, hsz, hE, hM0⟩ := hv
  have hts : ∀ w ∈ WG, w.before _ s = true := fun w h => atoms_spec (ws := ws_Pl_addLog) B.pre w (List.mem_cons_of_mem _ h)
  subst hsz
  have C : Cx_Pl_addLog p s m _ meth c D κ (hAx M s.heap.size) := ⟨B.exec, B.bytes, hml, B.returns, findClass_of_methodNamed B.named, hts, B.notSynchronized, hE, fun q h => Or.inr h⟩
  have hl := lv_entry ([.ref self, .int p0, .int p1, .int p2, .int p3, .long p4]) (n := 8) (Nat.le_of_ble_eq_true rfl)
  rw [lg_entry_eq]
  generalize (lg_sl ([.ref self, .int p0, .int p1, .int p2, .int p3, .long p4]) ++ List.replicate (8 - (lg_sl ([.ref self, .int p0, .int p1, .int p2, .int p3, .long p4])).length) Slot.unset).toArray = ls at hl ⊢
  exact ePl_addLog C post self p0 p1 p2 p3 p4 M hwp s.heap [] ls (hM0.self (sz := s.heap.size)) va_S.rf hl
abbrev rm_Cu_writeTo : Room := { frames := 1, cells := 0, slots := 0, locals := 27 }
def Cx_Cu_writeTo (p : Program) (s : State) (m : MethodId) (args : Array Value) (meth : Method) (c : Code) (D : va_G) (κ : Nat → ClassId) (A : Nat → Prop) : Prop := p.tables.exec = Jvm.exec ∧ c.code = prog_2_method_6_code ∧ c.maxLocals = 9 ∧ meth.sig.returnType = none ∧ s.vm.findClass "BuckTables$Cutter" = some m.cls ∧ (∀ w ∈ WG, w.before args s = true) ∧ meth.locks = false ∧ hEnv D kCl (hTys κ) A s ∧ (∀ q, s.heap.size ≤ q → A q)
def wCu_writeTo_107 (post : Hp → Prop) (k6 : Nat → Nat → Nat → Int32 → Nat → Int32 → Int32 → Int32 → Hp → Prop) (x0 : Nat) (x1 : Nat) (x2 : Nat) (x3 : Int32) (x4 : Nat) (x5 : Int32) (x6 : Int32) (x7 : Int32) (M : Hp) : Prop := (∀ z1 : Int32, z1 = x7 + 1 → (k6 x0 x1 x2 x3 x4 x5 x6 z1 M))
set_option maxRecDepth 100000 in
set_option maxHeartbeats 4000000 in
theorem tCu_writeTo_107 {p : Program} {l : Launch} {e : Env} {s : State} {m : MethodId} {args : Array Value} {below : List Frame} {meth : Method} {c : Code} {D : va_G} {κ : Nat → ClassId} {A : Nat → Prop} (C : Cx_Cu_writeTo p s m args meth c D κ A) (post : Hp → Prop) (k6 : Nat → Nat → Nat → Int32 → Nat → Int32 → Int32 → Int32 → Hp → Prop) (hk6 : ∀ (x0 : Nat) (x1 : Nat) (x2 : Nat) (x3 : Int32) (x4 : Nat) (x5 : Int32) (x6 : Int32) (x7 : Int32) (M : Hp), k6 x0 x1 x2 x3 x4 x5 x6 x7 M → Y p l e rm_Cu_writeTo s m args below meth c D kCl (hTys κ) A 9 0 0 (MQ below (va_Qv post (hB D kCl (hTys κ) A) A) args s 0 0 A) M 6 [(0, .ref x0), (1, .ref x1), (2, .ref x2), (3, .int x3), (4, .ref x4), (5, .int x5), (6, .int x6), (7, .int x7)] []) (x0 : Nat) (x1 : Nat) (x2 : Nat) (x3 : Int32) (x4 : Nat) (x5 : Int32) (x6 : Int32) (x7 : Int32) (M : Hp) (hwp : wCu_writeTo_107 post k6 x0 x1 x2 x3 x4 x5 x6 x7 M) : Y p l e rm_Cu_writeTo s m args below meth c D kCl (hTys κ) A 9 0 0 (MQ below (va_Qv post (hB D kCl (hTys κ) A) A) args s 0 0 A) M 107 [(0, .ref x0), (1, .ref x1), (2, .ref x2), (3, .int x3), (4, .ref x4), (5, .int x5), (6, .int x6), (7, .int x7)] [] := by
  obtain ⟨hx, hb, hml, hr, hown, hts, hlocks, hE, hA⟩ := id C
  have hK := hE.1
  intro H locs ls hM hS hl
  unfold wCu_writeTo_107 at hwp
  obtain ⟨z1, ez1⟩ : ∃ y : Int32, y = x7 + 1 := ⟨_, rfl⟩
  replace hwp := hwp z1 ez1
  refine lv_iinc (v := z1) (lv' := [(7, .int z1), (0, .ref x0), (1, .ref x1), (2, .ref x2), (3, .int x3), (4, .ref x4), (5, .int x5), (6, .int x6)]) hx hb d_Cu_writeTo_107 hl (k := 7) rfl (by rw [ez1]; rfl) (by decide) rfl (fun ls hl => ?_)
  refine lv_goto (tgt := 6) hx hb d_Cu_writeTo_110 (by decide) ?_
  exact hk6 x0 x1 x2 x3 x4 x5 x6 z1 M hwp H locs ls hM hS (lv_sub hl [1, 2, 3, 4, 5, 6, 7, 0] rfl)
def wCu_writeTo_44 (post : Hp → Prop) (k6 : Nat → Nat → Nat → Int32 → Nat → Int32 → Int32 → Int32 → Hp → Prop) (x0 : Nat) (x1 : Nat) (x2 : Nat) (x3 : Int32) (x4 : Nat) (x5 : Int32) (x6 : Int32) (x7 : Int32) (M : Hp) : Prop := ((x7 < x6 → (wCu_writeTo_107 post k6 x0 x1 x2 x3 x4 x5 x6 x7 M)) ∧ (¬ x7 < x6 → (∃ a3 : Nat, fA M x0 4 1 a3 ∧ (∃ v7 : Int32, aI M a3 x7 v7 ∧ (∀ z12 : Int32, z12 = (v7 - x7) → (∃ a13 : Nat, fA M x0 4 2 a13 ∧ (∃ v17 : Int32, aI M a13 x7 v17 ∧ (∃ a22 : Nat, fA M x0 4 2 a22 ∧ (∃ v26 : Int32, aI M a22 x7 v26 ∧ (∃ a31 : Nat, aA 4 M x4 v26 a31 ∧ (hob M a31 2 ∧ (wpPr_trueWorth a31 z12 x3 M (fun (r39 : Int64) (M37 : Hp) => (hob M37 x1 5 ∧ (wpPl_addLog x1 x3 x7 z12 v17 r39 M37 (fun (M40 : Hp) => (∃ a42 : Nat, fA M40 x0 4 1 a42 ∧ (∃ v46 : Int32, aI M40 a42 x7 v46 ∧ (∀ z51 : Int32, z51 = (v46 + x5) → (wCu_writeTo_107 post k6 x0 x1 x2 x3 x4 x5 z51 x7 M40))))))))))))))))))))
set_option maxRecDepth 100000 in
set_option maxHeartbeats 4000000 in
theorem tCu_writeTo_44 {p : Program} {l : Launch} {e : Env} {s : State} {m : MethodId} {args : Array Value} {below : List Frame} {meth : Method} {c : Code} {D : va_G} {κ : Nat → ClassId} {A : Nat → Prop} (C : Cx_Cu_writeTo p s m args meth c D κ A) (post : Hp → Prop) (k6 : Nat → Nat → Nat → Int32 → Nat → Int32 → Int32 → Int32 → Hp → Prop) (hk6 : ∀ (x0 : Nat) (x1 : Nat) (x2 : Nat) (x3 : Int32) (x4 : Nat) (x5 : Int32) (x6 : Int32) (x7 : Int32) (M : Hp), k6 x0 x1 x2 x3 x4 x5 x6 x7 M → Y p l e rm_Cu_writeTo s m args below meth c D kCl (hTys κ) A 9 0 0 (MQ below (va_Qv post (hB D kCl (hTys κ) A) A) args s 0 0 A) M 6 [(0, .ref x0), (1, .ref x1), (2, .ref x2), (3, .int x3), (4, .ref x4), (5, .int x5), (6, .int x6), (7, .int x7)] []) (x0 : Nat) (x1 : Nat) (x2 : Nat) (x3 : Int32) (x4 : Nat) (x5 : Int32) (x6 : Int32) (x7 : Int32) (M : Hp) (hwp : wCu_writeTo_44 post k6 x0 x1 x2 x3 x4 x5 x6 x7 M) : Y p l e rm_Cu_writeTo s m args below meth c D kCl (hTys κ) A 9 0 0 (MQ below (va_Qv post (hB D kCl (hTys κ) A) A) args s 0 0 A) M 44 [(0, .ref x0), (1, .ref x1), (2, .ref x2), (3, .int x3), (4, .ref x4), (5, .int x5), (6, .int x6), (7, .int x7)] [] := by
  obtain ⟨hx, hb, hml, hr, hown, hts, hlocks, hE, hA⟩ := id C
  have hK := hE.1
  intro H locs ls hM hS hl
  unfold wCu_writeTo_44 at hwp
  refine lv_iload hx hb d_Cu_writeTo_44 (lv_at hl 7 rfl) ?_
  refine lv_iload hx hb d_Cu_writeTo_46 (lv_at hl 6 rfl) ?_
  refine lv_icmp_lt (tgt := 107) hx hb d_Cu_writeTo_48 (by decide) (fun c2 => ?_) (fun c2 => ?_)
  · replace hwp := hwp.1 c2
    exact tCu_writeTo_107 C post k6 hk6 x0 x1 x2 x3 x4 x5 x6 x7 M hwp H locs ls hM hS (lv_sub hl [0, 1, 2, 3, 4, 5, 6, 7] rfl)
  · replace hwp := hwp.2 c2
    refine lv_aload_n hx hb d_Cu_writeTo_51 rfl (lv_at hl 0 rfl) ?_
    obtain ⟨a3, ⟨fs4, he5, hv6⟩, hwp⟩ := hwp
    refine h_get (C := "BuckTables$Cutter") (T := Tc4) (N := 4) hx hb hts inc4 hown hK hM he5 rfl 1 (by decide) (hts _ kw_57) (fun _ h9 => h9) hv6 d_Cu_writeTo_52 ?_
    refine lv_iload hx hb d_Cu_writeTo_55 (lv_at hl 7 rfl) ?_
    obtain ⟨v7, ⟨n8, f9, ha10, hi11, ev7⟩, hwp⟩ := hwp
    refine h_iald hx hb hK hM ha10 rfl hi11 d_Cu_writeTo_57 ?_
    rw [← ev7]
    refine lv_iload hx hb d_Cu_writeTo_58 (lv_at hl 7 rfl) ?_
    refine lv_isub hx hb d_Cu_writeTo_60 ?_
    refine lv_topi (fun z12 ez12 => ?_)
    replace hwp := hwp z12 ez12
    refine lv_istore (lv' := [(8, .int z12), (0, .ref x0), (1, .ref x1), (2, .ref x2), (3, .int x3), (4, .ref x4), (5, .int x5), (6, .int x6), (7, .int x7)]) hx hb d_Cu_writeTo_61 hl (by decide) rfl (fun ls hl => ?_)
    refine lv_aload_n hx hb d_Cu_writeTo_63 rfl (lv_at hl 2 rfl) ?_
    refine lv_iload_n hx hb d_Cu_writeTo_64 rfl (lv_at hl 4 rfl) ?_
    refine lv_iload hx hb d_Cu_writeTo_65 (lv_at hl 8 rfl) ?_
    refine lv_iload hx hb d_Cu_writeTo_67 (lv_at hl 0 rfl) ?_
    refine lv_aload_n hx hb d_Cu_writeTo_69 rfl (lv_at hl 1 rfl) ?_
    obtain ⟨a13, ⟨fs14, he15, hv16⟩, hwp⟩ := hwp
    refine h_get (C := "BuckTables$Cutter") (T := Tc4) (N := 4) hx hb hts inc4 hown hK hM he15 rfl 2 (by decide) (hts _ kw_58) (fun _ h9 => h9) hv16 d_Cu_writeTo_70 ?_
    refine lv_iload hx hb d_Cu_writeTo_73 (lv_at hl 8 rfl) ?_
    obtain ⟨v17, ⟨n18, f19, ha20, hi21, ev17⟩, hwp⟩ := hwp
    refine h_iald hx hb hK hM ha20 rfl hi21 d_Cu_writeTo_75 ?_
    rw [← ev17]
    refine lv_aload hx hb d_Cu_writeTo_76 (lv_at hl 5 rfl) ?_
    refine lv_aload_n hx hb d_Cu_writeTo_78 rfl (lv_at hl 1 rfl) ?_
    obtain ⟨a22, ⟨fs23, he24, hv25⟩, hwp⟩ := hwp
    refine h_get (C := "BuckTables$Cutter") (T := Tc4) (N := 4) hx hb hts inc4 hown hK hM he24 rfl 2 (by decide) (hts _ kw_58) (fun _ h9 => h9) hv25 d_Cu_writeTo_79 ?_
    refine lv_iload hx hb d_Cu_writeTo_82 (lv_at hl 8 rfl) ?_
    obtain ⟨v26, ⟨n27, f28, ha29, hi30, ev26⟩, hwp⟩ := hwp
    refine h_iald hx hb hK hM ha29 rfl hi30 d_Cu_writeTo_84 ?_
    rw [← ev26]
    obtain ⟨a31, ⟨n32, f33, ha34, hi35, hy36⟩, hwp⟩ := hwp
    refine h_aald hx hb hK hM ha34 rfl hi35 hy36 d_Cu_writeTo_85 ?_
    refine lv_iload hx hb d_Cu_writeTo_86 (lv_at hl 0 rfl) ?_
    refine lv_iload_n hx hb d_Cu_writeTo_88 rfl (lv_at hl 4 rfl) ?_
    obtain ⟨ho38, hwp⟩ := hwp
    refine h_calll hM hS hA (va_runV (As := [.int z12, .int x3]) (rest := [.int v17, .int z12, .int x7, .int x3, .ref x1]) ⟨hx, hb, hml, hown, hts⟩ (metPr_trueWorth l D κ H.size a31 z12 x3 M _ hwp) (cwV 2 hts (gV kw_324 kw_325 kw_326 kw_7 kw_327) rfl rfl rfl (by decide +kernel) ⟨(Nat.le_of_ble_eq_true rfl), (Nat.le_of_ble_eq_true rfl)⟩) (h_preV hE hM hS ho38 (r := ("BuckTables$Product", Tc2, 10)) rfl) rfl rfl hl.1 rfl (lv_room (Nat.le_of_ble_eq_true rfl)) d_Cu_writeTo_89 ⟨(Nat.le_of_ble_eq_true rfl), (Nat.le_of_ble_eq_true rfl)⟩) (fun r39 M37 H locs hwp hM hS => ?_)
    obtain ⟨ho41, hwp⟩ := hwp
    refine h_callv hM hS hA (va_runV (As := [.int x3, .int x7, .int z12, .int v17, .long r39]) (rest := []) ⟨hx, hb, hml, hown, hts⟩ (metPl_addLog l D κ H.size x1 x3 x7 z12 v17 r39 M37 _ hwp) (cwV 5 hts (gV kw_328 kw_329 kw_330 kw_4 kw_331) rfl rfl rfl (by decide +kernel) ⟨(Nat.le_of_ble_eq_true rfl), (Nat.le_of_ble_eq_true rfl)⟩) (h_preV hE hM hS ho41 (r := ("BuckTables$Plan", Tc5, 5)) rfl) rfl rfl hl.1 rfl (lv_room (Nat.le_of_ble_eq_true rfl)) d_Cu_writeTo_92 ⟨(Nat.le_of_ble_eq_true rfl), (Nat.le_of_ble_eq_true rfl)⟩) (fun M40 H locs hwp hM hS => ?_)
    refine lv_aload_n hx hb d_Cu_writeTo_95 rfl (lv_at hl 1 rfl) ?_
    obtain ⟨a42, ⟨fs43, he44, hv45⟩, hwp⟩ := hwp
    refine h_get (C := "BuckTables$Cutter") (T := Tc4) (N := 4) hx hb hts inc4 hown hK hM he44 rfl 1 (by decide) (hts _ kw_57) (fun _ h9 => h9) hv45 d_Cu_writeTo_96 ?_
    refine lv_iload hx hb d_Cu_writeTo_99 (lv_at hl 8 rfl) ?_
    obtain ⟨v46, ⟨n47, f48, ha49, hi50, ev46⟩, hwp⟩ := hwp
    refine h_iald hx hb hK hM ha49 rfl hi50 d_Cu_writeTo_101 ?_
    rw [← ev46]
    refine lv_iload hx hb d_Cu_writeTo_102 (lv_at hl 6 rfl) ?_
    refine lv_iadd hx hb d_Cu_writeTo_104 ?_
    refine lv_topi (fun z51 ez51 => ?_)
    replace hwp := hwp z51 ez51
    refine lv_istore (lv' := [(6, .int z51), (8, .int z12), (0, .ref x0), (1, .ref x1), (2, .ref x2), (3, .int x3), (4, .ref x4), (5, .int x5), (7, .int x7)]) hx hb d_Cu_writeTo_105 hl (by decide) rfl (fun ls hl => ?_)
    exact tCu_writeTo_107 C post k6 hk6 x0 x1 x2 x3 x4 x5 z51 x7 M40 hwp H locs ls hM hS (lv_sub hl [2, 3, 4, 5, 6, 7, 0, 8] rfl)
def wCu_writeTo_6 (post : Hp → Prop)  : Nat → Nat → Nat → Nat → Int32 → Nat → Int32 → Int32 → Int32 → Hp → Prop
  | 0 => fun _ _ _ _ _ _ _ _ _ => False
  | n + 1 => fun x0 x1 x2 x3 x4 x5 x6 x7 M => (∃ v52 : Int32, fI M x2 1 11 v52 ∧ ((v52 ≤ x7 → (post M)) ∧ (¬ v52 ≤ x7 → ((x7 < x6 → (wCu_writeTo_44 post (wCu_writeTo_6 post n) x0 x1 x2 x3 x4 x5 x6 x7 M)) ∧ (¬ x7 < x6 → (∃ a58 : Nat, fA M x0 4 2 a58 ∧ (∃ v62 : Int32, aI M a58 x7 v62 ∧ ((v62 = (-1 : Int32) → (hob M x1 5 ∧ (wpPl_burn x1 x3 x7 (1 : Int32) M (fun (M68 : Hp) => (wCu_writeTo_107 post (wCu_writeTo_6 post n) x0 x1 x2 x3 x4 x5 x6 x7 M68))))) ∧ (¬ v62 = (-1 : Int32) → (wCu_writeTo_44 post (wCu_writeTo_6 post n) x0 x1 x2 x3 x4 x5 x6 x7 M))))))))))
set_option maxRecDepth 100000 in
set_option maxHeartbeats 4000000 in
theorem tCu_writeTo_6 {p : Program} {l : Launch} {e : Env} {s : State} {m : MethodId} {args : Array Value} {below : List Frame} {meth : Method} {c : Code} {D : va_G} {κ : Nat → ClassId} {A : Nat → Prop} (C : Cx_Cu_writeTo p s m args meth c D κ A) (post : Hp → Prop)  : ∀ (n : Nat) (x0 : Nat) (x1 : Nat) (x2 : Nat) (x3 : Int32) (x4 : Nat) (x5 : Int32) (x6 : Int32) (x7 : Int32) (M : Hp), wCu_writeTo_6 post n x0 x1 x2 x3 x4 x5 x6 x7 M → Y p l e rm_Cu_writeTo s m args below meth c D kCl (hTys κ) A 9 0 0 (MQ below (va_Qv post (hB D kCl (hTys κ) A) A) args s 0 0 A) M 6 [(0, .ref x0), (1, .ref x1), (2, .ref x2), (3, .int x3), (4, .ref x4), (5, .int x5), (6, .int x6), (7, .int x7)] [] := by
  obtain ⟨hx, hb, hml, hr, hown, hts, hlocks, hE, hA⟩ := id C
  have hK := hE.1
  intro n
  induction n with
  | zero => intro x0 x1 x2 x3 x4 x5 x6 x7 M hwp; exact hwp.elim
  | succ n ih =>
    intro x0 x1 x2 x3 x4 x5 x6 x7 M hwp H locs ls hM hS hl
    unfold wCu_writeTo_6 at hwp
    refine lv_iload hx hb d_Cu_writeTo_6 (lv_at hl 7 rfl) ?_
    refine lv_aload_n hx hb d_Cu_writeTo_8 rfl (lv_at hl 2 rfl) ?_
    obtain ⟨v52, ⟨fs53, he54, hv55⟩, hwp⟩ := hwp
    refine h_get (C := "BuckTables$Stem") (T := Tc1) (N := 12) hx hb hts inc1 hown hK hM he54 rfl 11 (by decide) (hts _ kw_126) (fun _ h9 => h9) hv55 d_Cu_writeTo_9 ?_
    refine lv_icmp_ge (tgt := 113) hx hb d_Cu_writeTo_12 (by decide) (fun c56 => ?_) (fun c56 => ?_)
    · replace hwp := hwp.1 c56
      exact W.vret hx hb hr (fun t ht hW => ⟨⟨M, rfl, hwp, by show hw D kCl (hTys κ) A M t.heap; rw [ht]; exact hM⟩, hS.F ht⟩) hS.2.2 d_Cu_writeTo_113
    · replace hwp := hwp.2 c56
      refine lv_iload hx hb d_Cu_writeTo_15 (lv_at hl 7 rfl) ?_
      refine lv_iload hx hb d_Cu_writeTo_17 (lv_at hl 6 rfl) ?_
      refine lv_icmp_lt (tgt := 44) hx hb d_Cu_writeTo_19 (by decide) (fun c57 => ?_) (fun c57 => ?_)
      · replace hwp := hwp.1 c57
        exact tCu_writeTo_44 C post (wCu_writeTo_6 post n) ih x0 x1 x2 x3 x4 x5 x6 x7 M hwp H locs ls hM hS (lv_sub hl [0, 1, 2, 3, 4, 5, 6, 7] rfl)
      · replace hwp := hwp.2 c57
        refine lv_aload_n hx hb d_Cu_writeTo_22 rfl (lv_at hl 0 rfl) ?_
        obtain ⟨a58, ⟨fs59, he60, hv61⟩, hwp⟩ := hwp
        refine h_get (C := "BuckTables$Cutter") (T := Tc4) (N := 4) hx hb hts inc4 hown hK hM he60 rfl 2 (by decide) (hts _ kw_58) (fun _ h9 => h9) hv61 d_Cu_writeTo_23 ?_
        refine lv_iload hx hb d_Cu_writeTo_26 (lv_at hl 7 rfl) ?_
        obtain ⟨v62, ⟨n63, f64, ha65, hi66, ev62⟩, hwp⟩ := hwp
        refine h_iald hx hb hK hM ha65 rfl hi66 d_Cu_writeTo_28 ?_
        rw [← ev62]
        refine lv_iconst (v := -1) hx hb d_Cu_writeTo_29 (by decide) ?_
        refine lv_icmp_ne (tgt := 44) hx hb d_Cu_writeTo_30 (by decide) (fun c67 => ?_) (fun c67 => ?_)
        · replace hwp := hwp.2 c67
          exact tCu_writeTo_44 C post (wCu_writeTo_6 post n) ih x0 x1 x2 x3 x4 x5 x6 x7 M hwp H locs ls hM hS (lv_sub hl [0, 1, 2, 3, 4, 5, 6, 7] rfl)
        · replace hwp := hwp.1 c67
          refine lv_aload_n hx hb d_Cu_writeTo_33 rfl (lv_at hl 1 rfl) ?_
          refine lv_iload_n hx hb d_Cu_writeTo_34 rfl (lv_at hl 3 rfl) ?_
          refine lv_iload hx hb d_Cu_writeTo_35 (lv_at hl 7 rfl) ?_
          refine lv_iconst (v := 1) hx hb d_Cu_writeTo_37 (by decide) ?_
          obtain ⟨ho69, hwp⟩ := hwp
          refine h_callv hM hS hA (va_runV (As := [.int x3, .int x7, .int (1 : Int32)]) (rest := []) ⟨hx, hb, hml, hown, hts⟩ (metPl_burn l D κ H.size x1 x3 x7 (1 : Int32) M _ hwp) (cwV 3 hts (gV kw_320 kw_321 kw_322 kw_4 kw_323) rfl rfl rfl (by decide +kernel) ⟨(Nat.le_of_ble_eq_true rfl), (Nat.le_of_ble_eq_true rfl)⟩) (h_preV hE hM hS ho69 (r := ("BuckTables$Plan", Tc5, 5)) rfl) rfl rfl hl.1 rfl (lv_room (Nat.le_of_ble_eq_true rfl)) d_Cu_writeTo_38 ⟨(Nat.le_of_ble_eq_true rfl), (Nat.le_of_ble_eq_true rfl)⟩) (fun M68 H locs hwp hM hS => ?_)
          refine lv_goto (tgt := 107) hx hb d_Cu_writeTo_41 (by decide) ?_
          exact tCu_writeTo_107 C post (wCu_writeTo_6 post n) ih x0 x1 x2 x3 x4 x5 x6 x7 M68 hwp H locs ls hM hS (lv_sub hl [0, 1, 2, 3, 4, 5, 6, 7] rfl)
def wpCu_writeTo (self : Nat) (p0 : Nat) (p1 : Nat) (p2 : Int32) (p3 : Nat) (p4 : Int32) (M : Hp) (post : Hp → Prop) : Prop := (∃ n70 : Nat, wCu_writeTo_6 post n70 self p0 p1 p2 p3 p4 (0 : Int32) (0 : Int32) M)
set_option maxRecDepth 100000 in
set_option maxHeartbeats 4000000 in
theorem eCu_writeTo {p : Program} {l : Launch} {e : Env} {s : State} {m : MethodId} {args : Array Value} {below : List Frame} {meth : Method} {c : Code} {D : va_G} {κ : Nat → ClassId} {A : Nat → Prop} (C : Cx_Cu_writeTo p s m args meth c D κ A) (post : Hp → Prop) (self : Nat) (p0 : Nat) (p1 : Nat) (p2 : Int32) (p3 : Nat) (p4 : Int32) (M : Hp) (hwp : wpCu_writeTo self p0 p1 p2 p3 p4 M post) : Y p l e rm_Cu_writeTo s m args below meth c D kCl (hTys κ) A 9 0 0 (MQ below (va_Qv post (hB D kCl (hTys κ) A) A) args s 0 0 A) M 0 [(0, .ref self), (1, .ref p0), (2, .ref p1), (3, .int p2), (4, .ref p3), (5, .int p4)] [] := by
  obtain ⟨hx, hb, hml, hr, hown, hts, hlocks, hE, hA⟩ := id C
  have hK := hE.1
  intro H locs ls hM hS hl
  unfold wpCu_writeTo at hwp
  refine lv_iconst (v := 0) hx hb d_Cu_writeTo_0 (by decide) ?_
  refine lv_istore (lv' := [(6, .int (0 : Int32)), (0, .ref self), (1, .ref p0), (2, .ref p1), (3, .int p2), (4, .ref p3), (5, .int p4)]) hx hb d_Cu_writeTo_1 hl (by decide) rfl (fun ls hl => ?_)
  refine lv_iconst (v := 0) hx hb d_Cu_writeTo_3 (by decide) ?_
  refine lv_istore (lv' := [(7, .int (0 : Int32)), (6, .int (0 : Int32)), (0, .ref self), (1, .ref p0), (2, .ref p1), (3, .int p2), (4, .ref p3), (5, .int p4)]) hx hb d_Cu_writeTo_4 hl (by decide) rfl (fun ls hl => ?_)
  obtain ⟨n70, hwp⟩ := hwp
  exact tCu_writeTo_6 C post n70 self p0 p1 p2 p3 p4 (0 : Int32) (0 : Int32) M hwp H locs ls hM hS (lv_sub hl [2, 3, 4, 5, 6, 7, 1, 0] rfl)
set_option maxRecDepth 100000 in
set_option maxHeartbeats 4000000 in
theorem metCu_writeTo (l : Launch) (D : va_G) (κ : Nat → ClassId) (sz : Nat) (self : Nat) (p0 : Nat) (p1 : Nat) (p2 : Int32) (p3 : Nat) (p4 : Int32) (M : Hp) (post : Hp → Prop) (hwp : wpCu_writeTo self p0 p1 p2 p3 p4 M post) : Met l y_Cu_writeTo ws_Cu_writeTo rm_Cu_writeTo (hPc D kCl (hTys κ) M sz [.ref self, .ref p0, .ref p1, .int p2, .ref p3, .int p4]) (va_Qv post (hB D kCl (hTys κ) (hAx M sz)) (hAx M sz)) 0 0 (hAx M sz) := by
  refine Met.ofW (cc := prog_2_method_6_code) (maxL := 9) (ret := none) (by decide +kernel) rfl ?_
  intro p e s m args below meth c s₁ B hml hv
  obtain ⟨rfl, hsz, hE, hM0⟩ := hv
  have hts : ∀ w ∈ WG, w.before _ s = true := fun w h => atoms_spec (ws := ws_Cu_writeTo) B.pre w (List.mem_cons_of_mem _ h)
  subst hsz
  have C : Cx_Cu_writeTo p s m _ meth c D κ (hAx M s.heap.size) := ⟨B.exec, B.bytes, hml, B.returns, findClass_of_methodNamed B.named, hts, B.notSynchronized, hE, fun q h => Or.inr h⟩
  have hl := lv_entry ([.ref self, .ref p0, .ref p1, .int p2, .ref p3, .int p4]) (n := 9) (Nat.le_of_ble_eq_true rfl)
  rw [lg_entry_eq]
  generalize (lg_sl ([.ref self, .ref p0, .ref p1, .int p2, .ref p3, .int p4]) ++ List.replicate (9 - (lg_sl ([.ref self, .ref p0, .ref p1, .int p2, .ref p3, .int p4])).length) Slot.unset).toArray = ls at hl ⊢
  exact eCu_writeTo C post self p0 p1 p2 p3 p4 M hwp s.heap [] ls (hM0.self (sz := s.heap.size)) va_S.rf hl
abbrev rm_BT_cutAll : Room := { frames := 4, cells := 0, slots := 0, locals := 98 }
def Cx_BT_cutAll (p : Program) (s : State) (m : MethodId) (args : Array Value) (meth : Method) (c : Code) (D : va_G) (κ : Nat → ClassId) (A : Nat → Prop) : Prop := p.tables.exec = Jvm.exec ∧ c.code = prog_1_method_32_code ∧ c.maxLocals = 3 ∧ meth.sig.returnType = none ∧ s.vm.findClass "BuckTables" = some m.cls ∧ (∀ w ∈ WG, w.before args s = true) ∧ meth.locks = false ∧ hEnv D kCl (hTys κ) A s ∧ (∀ q, s.heap.size ≤ q → A q)
def wBT_cutAll_6 (post : Hp → Prop)  : Nat → Nat → Nat → Int32 → Hp → Prop
  | 0 => fun _ _ _ _ => False
  | n + 1 => fun x0 x1 x2 M => (∃ v1 : Int32, fI M x0 0 3 v1 ∧ ((v1 ≤ x2 → (post M)) ∧ (¬ v1 ≤ x2 → (∃ a6 : Nat, fA M x0 0 2 a6 ∧ (∃ a10 : Nat, fA M x0 0 0 a10 ∧ (∃ a14 : Nat, aA 3 M a10 x2 a14 ∧ (∃ a20 : Nat, fA M x0 0 1 a20 ∧ (∃ v24 : Int32, fI M x0 0 4 v24 ∧ (∃ v28 : Int32, fI M x0 0 6 v28 ∧ (hob M a6 4 ∧ (wpCu_workOut a6 a14 x2 a20 v24 v28 M (fun (M32 : Hp) => (∃ a34 : Nat, fA M32 x0 0 2 a34 ∧ (∃ a38 : Nat, fA M32 x0 0 0 a38 ∧ (∃ a42 : Nat, aA 3 M32 a38 x2 a42 ∧ (∃ a48 : Nat, fA M32 x0 0 1 a48 ∧ (∃ v52 : Int32, fI M32 x0 0 6 v52 ∧ (hob M32 a34 4 ∧ (wpCu_writeTo a34 x1 a42 x2 a48 v52 M32 (fun (M56 : Hp) => (∀ z58 : Int32, z58 = x2 + 1 → ((wBT_cutAll_6 post n) x0 x1 z58 M56))))))))))))))))))))))
set_option maxRecDepth 100000 in
set_option maxHeartbeats 4000000 in
theorem tBT_cutAll_6 {p : Program} {l : Launch} {e : Env} {s : State} {m : MethodId} {args : Array Value} {below : List Frame} {meth : Method} {c : Code} {D : va_G} {κ : Nat → ClassId} {A : Nat → Prop} (C : Cx_BT_cutAll p s m args meth c D κ A) (post : Hp → Prop)  : ∀ (n : Nat) (x0 : Nat) (x1 : Nat) (x2 : Int32) (M : Hp), wBT_cutAll_6 post n x0 x1 x2 M → Y p l e rm_BT_cutAll s m args below meth c D kCl (hTys κ) A 3 0 0 (MQ below (va_Qv post (hB D kCl (hTys κ) A) A) args s 0 0 A) M 6 [(0, .ref x0), (1, .ref x1), (2, .int x2)] [] := by
  obtain ⟨hx, hb, hml, hr, hown, hts, hlocks, hE, hA⟩ := id C
  have hK := hE.1
  intro n
  induction n with
  | zero => intro x0 x1 x2 M hwp; exact hwp.elim
  | succ n ih =>
    intro x0 x1 x2 M hwp H locs ls hM hS hl
    unfold wBT_cutAll_6 at hwp
    refine lv_iload_n hx hb d_BT_cutAll_6 rfl (lv_at hl 2 rfl) ?_
    refine lv_aload_n hx hb d_BT_cutAll_7 rfl (lv_at hl 0 rfl) ?_
    obtain ⟨v1, ⟨fs2, he3, hv4⟩, hwp⟩ := hwp
    refine h_get (C := "BuckTables") (T := Tc0) (N := 12) hx hb hts inc0 hown hK hM he3 rfl 3 (by decide) (hts _ kw_205) (fun _ h9 => h9) hv4 d_BT_cutAll_8 ?_
    refine lv_icmp_ge (tgt := 69) hx hb d_BT_cutAll_11 (by decide) (fun c5 => ?_) (fun c5 => ?_)
    · replace hwp := hwp.1 c5
      exact W.vret hx hb hr (fun t ht hW => ⟨⟨M, rfl, hwp, by show hw D kCl (hTys κ) A M t.heap; rw [ht]; exact hM⟩, hS.F ht⟩) hS.2.2 d_BT_cutAll_69
    · replace hwp := hwp.2 c5
      refine lv_aload_n hx hb d_BT_cutAll_14 rfl (lv_at hl 0 rfl) ?_
      obtain ⟨a6, ⟨fs7, he8, hv9⟩, hwp⟩ := hwp
      refine h_get (C := "BuckTables") (T := Tc0) (N := 12) hx hb hts inc0 hown hK hM he8 rfl 2 (by decide) (hts _ kw_204) (fun _ h9 => h9) hv9 d_BT_cutAll_15 ?_
      refine lv_aload_n hx hb d_BT_cutAll_18 rfl (lv_at hl 0 rfl) ?_
      obtain ⟨a10, ⟨fs11, he12, hv13⟩, hwp⟩ := hwp
      refine h_get (C := "BuckTables") (T := Tc0) (N := 12) hx hb hts inc0 hown hK hM he12 rfl 0 (by decide) (hts _ kw_202) (fun _ h9 => h9) hv13 d_BT_cutAll_19 ?_
      refine lv_iload_n hx hb d_BT_cutAll_22 rfl (lv_at hl 2 rfl) ?_
      obtain ⟨a14, ⟨n15, f16, ha17, hi18, hy19⟩, hwp⟩ := hwp
      refine h_aald hx hb hK hM ha17 rfl hi18 hy19 d_BT_cutAll_23 ?_
      refine lv_iload_n hx hb d_BT_cutAll_24 rfl (lv_at hl 2 rfl) ?_
      refine lv_aload_n hx hb d_BT_cutAll_25 rfl (lv_at hl 0 rfl) ?_
      obtain ⟨a20, ⟨fs21, he22, hv23⟩, hwp⟩ := hwp
      refine h_get (C := "BuckTables") (T := Tc0) (N := 12) hx hb hts inc0 hown hK hM he22 rfl 1 (by decide) (hts _ kw_203) (fun _ h9 => h9) hv23 d_BT_cutAll_26 ?_
      refine lv_aload_n hx hb d_BT_cutAll_29 rfl (lv_at hl 0 rfl) ?_
      obtain ⟨v24, ⟨fs25, he26, hv27⟩, hwp⟩ := hwp
      refine h_get (C := "BuckTables") (T := Tc0) (N := 12) hx hb hts inc0 hown hK hM he26 rfl 4 (by decide) (hts _ kw_206) (fun _ h9 => h9) hv27 d_BT_cutAll_30 ?_
      refine lv_aload_n hx hb d_BT_cutAll_33 rfl (lv_at hl 0 rfl) ?_
      obtain ⟨v28, ⟨fs29, he30, hv31⟩, hwp⟩ := hwp
      refine h_get (C := "BuckTables") (T := Tc0) (N := 12) hx hb hts inc0 hown hK hM he30 rfl 6 (by decide) (hts _ kw_208) (fun _ h9 => h9) hv31 d_BT_cutAll_34 ?_
      obtain ⟨ho33, hwp⟩ := hwp
      refine h_callv hM hS hA (va_runV (As := [.ref a14, .int x2, .ref a20, .int v24, .int v28]) (rest := []) ⟨hx, hb, hml, hown, hts⟩ (metCu_workOut l D κ H.size a6 a14 x2 a20 v24 v28 M _ hwp) (cwV 5 hts (gV kw_280 kw_281 kw_282 kw_2 kw_283) rfl rfl rfl (by decide +kernel) ⟨(Nat.le_of_ble_eq_true rfl), (Nat.le_of_ble_eq_true rfl)⟩) (h_preV hE hM hS ho33 (r := ("BuckTables$Cutter", Tc4, 4)) rfl) rfl rfl hl.1 rfl (lv_room (Nat.le_of_ble_eq_true rfl)) d_BT_cutAll_37 ⟨(Nat.le_of_ble_eq_true rfl), (Nat.le_of_ble_eq_true rfl)⟩) (fun M32 H locs hwp hM hS => ?_)
      refine lv_aload_n hx hb d_BT_cutAll_40 rfl (lv_at hl 0 rfl) ?_
      obtain ⟨a34, ⟨fs35, he36, hv37⟩, hwp⟩ := hwp
      refine h_get (C := "BuckTables") (T := Tc0) (N := 12) hx hb hts inc0 hown hK hM he36 rfl 2 (by decide) (hts _ kw_204) (fun _ h9 => h9) hv37 d_BT_cutAll_41 ?_
      refine lv_aload_n hx hb d_BT_cutAll_44 rfl (lv_at hl 1 rfl) ?_
      refine lv_aload_n hx hb d_BT_cutAll_45 rfl (lv_at hl 0 rfl) ?_
      obtain ⟨a38, ⟨fs39, he40, hv41⟩, hwp⟩ := hwp
      refine h_get (C := "BuckTables") (T := Tc0) (N := 12) hx hb hts inc0 hown hK hM he40 rfl 0 (by decide) (hts _ kw_202) (fun _ h9 => h9) hv41 d_BT_cutAll_46 ?_
      refine lv_iload_n hx hb d_BT_cutAll_49 rfl (lv_at hl 2 rfl) ?_
      obtain ⟨a42, ⟨n43, f44, ha45, hi46, hy47⟩, hwp⟩ := hwp
      refine h_aald hx hb hK hM ha45 rfl hi46 hy47 d_BT_cutAll_50 ?_
      refine lv_iload_n hx hb d_BT_cutAll_51 rfl (lv_at hl 2 rfl) ?_
      refine lv_aload_n hx hb d_BT_cutAll_52 rfl (lv_at hl 0 rfl) ?_
      obtain ⟨a48, ⟨fs49, he50, hv51⟩, hwp⟩ := hwp
      refine h_get (C := "BuckTables") (T := Tc0) (N := 12) hx hb hts inc0 hown hK hM he50 rfl 1 (by decide) (hts _ kw_203) (fun _ h9 => h9) hv51 d_BT_cutAll_53 ?_
      refine lv_aload_n hx hb d_BT_cutAll_56 rfl (lv_at hl 0 rfl) ?_
      obtain ⟨v52, ⟨fs53, he54, hv55⟩, hwp⟩ := hwp
      refine h_get (C := "BuckTables") (T := Tc0) (N := 12) hx hb hts inc0 hown hK hM he54 rfl 6 (by decide) (hts _ kw_208) (fun _ h9 => h9) hv55 d_BT_cutAll_57 ?_
      obtain ⟨ho57, hwp⟩ := hwp
      refine h_callv hM hS hA (va_runV (As := [.ref x1, .ref a42, .int x2, .ref a48, .int v52]) (rest := []) ⟨hx, hb, hml, hown, hts⟩ (metCu_writeTo l D κ H.size a34 x1 a42 x2 a48 v52 M32 _ hwp) (cwV 5 hts (gV kw_316 kw_317 kw_318 kw_2 kw_319) rfl rfl rfl (by decide +kernel) ⟨(Nat.le_of_ble_eq_true rfl), (Nat.le_of_ble_eq_true rfl)⟩) (h_preV hE hM hS ho57 (r := ("BuckTables$Cutter", Tc4, 4)) rfl) rfl rfl hl.1 rfl (lv_room (Nat.le_of_ble_eq_true rfl)) d_BT_cutAll_60 ⟨(Nat.le_of_ble_eq_true rfl), (Nat.le_of_ble_eq_true rfl)⟩) (fun M56 H locs hwp hM hS => ?_)
      obtain ⟨z58, ez58⟩ : ∃ y : Int32, y = x2 + 1 := ⟨_, rfl⟩
      replace hwp := hwp z58 ez58
      refine lv_iinc (v := z58) (lv' := [(2, .int z58), (0, .ref x0), (1, .ref x1)]) hx hb d_BT_cutAll_63 hl (k := 2) rfl (by rw [ez58]; rfl) (by decide) rfl (fun ls hl => ?_)
      refine lv_goto (tgt := 6) hx hb d_BT_cutAll_66 (by decide) ?_
      exact ih x0 x1 z58 M56 hwp H locs ls hM hS (lv_sub hl [1, 2, 0] rfl)
def wpBT_cutAll (self : Nat) (p0 : Nat) (M : Hp) (post : Hp → Prop) : Prop := (hob M p0 5 ∧ (wpPl_clear p0 M (fun (M59 : Hp) => (∃ n61 : Nat, wBT_cutAll_6 post n61 self p0 (0 : Int32) M59))))
set_option maxRecDepth 100000 in
set_option maxHeartbeats 4000000 in
theorem eBT_cutAll {p : Program} {l : Launch} {e : Env} {s : State} {m : MethodId} {args : Array Value} {below : List Frame} {meth : Method} {c : Code} {D : va_G} {κ : Nat → ClassId} {A : Nat → Prop} (C : Cx_BT_cutAll p s m args meth c D κ A) (post : Hp → Prop) (self : Nat) (p0 : Nat) (M : Hp) (hwp : wpBT_cutAll self p0 M post) : Y p l e rm_BT_cutAll s m args below meth c D kCl (hTys κ) A 3 0 0 (MQ below (va_Qv post (hB D kCl (hTys κ) A) A) args s 0 0 A) M 0 [(0, .ref self), (1, .ref p0)] [] := by
  obtain ⟨hx, hb, hml, hr, hown, hts, hlocks, hE, hA⟩ := id C
  have hK := hE.1
  intro H locs ls hM hS hl
  unfold wpBT_cutAll at hwp
  refine lv_aload_n hx hb d_BT_cutAll_0 rfl (lv_at hl 1 rfl) ?_
  obtain ⟨ho60, hwp⟩ := hwp
  refine h_callv hM hS hA (va_runV (As := []) (rest := []) ⟨hx, hb, hml, hown, hts⟩ (metPl_clear l D κ H.size p0 M _ hwp) (cwV 0 hts (gV kw_276 kw_277 kw_278 kw_4 kw_279) rfl rfl rfl (by decide +kernel) ⟨(Nat.le_of_ble_eq_true rfl), (Nat.le_of_ble_eq_true rfl)⟩) (h_preV hE hM hS ho60 (r := ("BuckTables$Plan", Tc5, 5)) rfl) rfl rfl hl.1 rfl (lv_room (Nat.le_of_ble_eq_true rfl)) d_BT_cutAll_1 ⟨(Nat.le_of_ble_eq_true rfl), (Nat.le_of_ble_eq_true rfl)⟩) (fun M59 H locs hwp hM hS => ?_)
  refine lv_iconst (v := 0) hx hb d_BT_cutAll_4 (by decide) ?_
  refine lv_istore_n (lv' := [(2, .int (0 : Int32)), (0, .ref self), (1, .ref p0)]) hx hb d_BT_cutAll_5 rfl hl (by decide) rfl (fun ls hl => ?_)
  obtain ⟨n61, hwp⟩ := hwp
  exact tBT_cutAll_6 C post n61 self p0 (0 : Int32) M59 hwp H locs ls hM hS (lv_sub hl [1, 2, 0] rfl)
set_option maxRecDepth 100000 in
set_option maxHeartbeats 4000000 in
theorem metBT_cutAll (l : Launch) (D : va_G) (κ : Nat → ClassId) (sz : Nat) (self : Nat) (p0 : Nat) (M : Hp) (post : Hp → Prop) (hwp : wpBT_cutAll self p0 M post) : Met l y_BT_cutAll ws_BT_cutAll rm_BT_cutAll (hPc D kCl (hTys κ) M sz [.ref self, .ref p0]) (va_Qv post (hB D kCl (hTys κ) (hAx M sz)) (hAx M sz)) 0 0 (hAx M sz) := by
  refine Met.ofW (cc := prog_1_method_32_code) (maxL := 3) (ret := none) (by decide +kernel) rfl ?_
  intro p e s m args below meth c s₁ B hml hv
  obtain ⟨rfl, hsz, hE, hM0⟩ := hv
  have hts : ∀ w ∈ WG, w.before _ s = true := fun w h => atoms_spec (ws := ws_BT_cutAll) B.pre w (List.mem_cons_of_mem _ h)
  subst hsz
  have C : Cx_BT_cutAll p s m _ meth c D κ (hAx M s.heap.size) := ⟨B.exec, B.bytes, hml, B.returns, findClass_of_methodNamed B.named, hts, B.notSynchronized, hE, fun q h => Or.inr h⟩
  have hl := lv_entry ([.ref self, .ref p0]) (n := 3) (Nat.le_of_ble_eq_true rfl)
  rw [lg_entry_eq]
  generalize (lg_sl ([.ref self, .ref p0]) ++ List.replicate (3 - (lg_sl ([.ref self, .ref p0])).length) Slot.unset).toArray = ls at hl ⊢
  exact eBT_cutAll C post self p0 M hwp s.heap [] ls (hM0.self (sz := s.heap.size)) va_S.rf hl
abbrev rm_BT_makePlain : Room := { frames := 5, cells := 0, slots := 0, locals := 120 }
def Cx_BT_makePlain (p : Program) (s : State) (m : MethodId) (args : Array Value) (meth : Method) (c : Code) (D : va_G) (κ : Nat → ClassId) (A : Nat → Prop) : Prop := p.tables.exec = Jvm.exec ∧ c.code = prog_1_method_28_code ∧ c.maxLocals = 1 ∧ meth.sig.returnType = none ∧ s.vm.findClass "BuckTables" = some m.cls ∧ (∀ w ∈ WG, w.before args s = true) ∧ meth.locks = false ∧ hEnv D kCl (hTys κ) A s ∧ (∀ q, s.heap.size ≤ q → A q)
def wpBT_makePlain (self : Nat) (M : Hp) (post : Hp → Prop) : Prop := (hob M self 0 ∧ (wpBT_startPlans self M (fun (M1 : Hp) => (∃ a3 : Nat, fA M1 self 0 7 a3 ∧ (hob M1 self 0 ∧ (wpBT_cutAll self a3 M1 (fun (M7 : Hp) => (∃ a9 : Nat, fA M7 self 0 7 a9 ∧ (∃ v13 : Int64, fJ M7 a9 5 4 v13 ∧ (∃ M17 : Hp, pF M7 self 0 11 (.long v13) M17 ∧ (∃ M21 : Hp, pF M17 self 0 10 (.int (0 : Int32)) M21 ∧ (∃ M25 : Hp, pF M21 self 0 9 (.int (1 : Int32)) M25 ∧ (post M25)))))))))))))
set_option maxRecDepth 100000 in
set_option maxHeartbeats 4000000 in
theorem eBT_makePlain {p : Program} {l : Launch} {e : Env} {s : State} {m : MethodId} {args : Array Value} {below : List Frame} {meth : Method} {c : Code} {D : va_G} {κ : Nat → ClassId} {A : Nat → Prop} (C : Cx_BT_makePlain p s m args meth c D κ A) (post : Hp → Prop) (self : Nat) (M : Hp) (hwp : wpBT_makePlain self M post) : Y p l e rm_BT_makePlain s m args below meth c D kCl (hTys κ) A 1 0 0 (MQ below (va_Qv post (hB D kCl (hTys κ) A) A) args s 0 0 A) M 0 [(0, .ref self)] [] := by
  obtain ⟨hx, hb, hml, hr, hown, hts, hlocks, hE, hA⟩ := id C
  have hK := hE.1
  intro H locs ls hM hS hl
  unfold wpBT_makePlain at hwp
  refine lv_aload_n hx hb d_BT_makePlain_0 rfl (lv_at hl 0 rfl) ?_
  obtain ⟨ho2, hwp⟩ := hwp
  refine h_callv hM hS hA (va_runV (As := []) (rest := []) ⟨hx, hb, hml, hown, hts⟩ (metBT_startPlans l D κ H.size self M _ hwp) (cwV 0 hts (gV kw_247 kw_249 kp_1 kw_1 kw_250) rfl rfl rfl (by decide +kernel) ⟨(Nat.le_of_ble_eq_true rfl), (Nat.le_of_ble_eq_true rfl)⟩) (h_preV hE hM hS ho2 (r := ("BuckTables", Tc0, 12)) rfl) rfl rfl hl.1 rfl (lv_room (Nat.le_of_ble_eq_true rfl)) d_BT_makePlain_1 ⟨(Nat.le_of_ble_eq_true rfl), (Nat.le_of_ble_eq_true rfl)⟩) (fun M1 H locs hwp hM hS => ?_)
  refine lv_aload_n hx hb d_BT_makePlain_4 rfl (lv_at hl 0 rfl) ?_
  refine lv_aload_n hx hb d_BT_makePlain_5 rfl (lv_at hl 0 rfl) ?_
  obtain ⟨a3, ⟨fs4, he5, hv6⟩, hwp⟩ := hwp
  refine h_get (C := "BuckTables") (T := Tc0) (N := 12) hx hb hts inc0 hown hK hM he5 rfl 7 (by decide) (hts _ kw_209) (fun _ h9 => h9) hv6 d_BT_makePlain_6 ?_
  obtain ⟨ho8, hwp⟩ := hwp
  refine h_callv hM hS hA (va_runV (As := [.ref a3]) (rest := []) ⟨hx, hb, hml, hown, hts⟩ (metBT_cutAll l D κ H.size self a3 M1 _ hwp) (cwV 1 hts (gV kw_272 kw_274 kp_6 kw_1 kw_275) rfl rfl rfl (by decide +kernel) ⟨(Nat.le_of_ble_eq_true rfl), (Nat.le_of_ble_eq_true rfl)⟩) (h_preV hE hM hS ho8 (r := ("BuckTables", Tc0, 12)) rfl) rfl rfl hl.1 rfl (lv_room (Nat.le_of_ble_eq_true rfl)) d_BT_makePlain_9 ⟨(Nat.le_of_ble_eq_true rfl), (Nat.le_of_ble_eq_true rfl)⟩) (fun M7 H locs hwp hM hS => ?_)
  refine lv_aload_n hx hb d_BT_makePlain_12 rfl (lv_at hl 0 rfl) ?_
  refine lv_aload_n hx hb d_BT_makePlain_13 rfl (lv_at hl 0 rfl) ?_
  obtain ⟨a9, ⟨fs10, he11, hv12⟩, hwp⟩ := hwp
  refine h_get (C := "BuckTables") (T := Tc0) (N := 12) hx hb hts inc0 hown hK hM he11 rfl 7 (by decide) (hts _ kw_209) (fun _ h9 => h9) hv12 d_BT_makePlain_14 ?_
  obtain ⟨v13, ⟨fs14, he15, hv16⟩, hwp⟩ := hwp
  refine h_get (C := "BuckTables$Plan") (T := Tc5) (N := 5) hx hb hts inc5 hown hK hM he15 rfl 4 (by decide) (hts _ kw_82) (fun _ h9 => h9) hv16 d_BT_makePlain_17 ?_
  obtain ⟨M17, ⟨fs18, he19, hl20, eM17⟩, hwp⟩ := hwp
  refine h_put (C := "BuckTables") (T := Tc0) (N := 12) (v := .long v13) (ty := .long) hx hb hts inc0 tyc0 tyc0_ok nmc0 hown hK hM hS he19 rfl 11 (by decide) (hts _ kw_213) (fun _ h9 => h9) rfl (by decide +kernel) rfl rfl hl20 d_BT_makePlain_20 (fun H locs hM hS => ?_)
  rw [← eM17] at hM
  refine lv_aload_n hx hb d_BT_makePlain_23 rfl (lv_at hl 0 rfl) ?_
  refine lv_iconst (v := 0) hx hb d_BT_makePlain_24 (by decide) ?_
  obtain ⟨M21, ⟨fs22, he23, hl24, eM21⟩, hwp⟩ := hwp
  refine h_put (C := "BuckTables") (T := Tc0) (N := 12) (v := .int (0 : Int32)) (ty := .int) hx hb hts inc0 tyc0 tyc0_ok nmc0 hown hK hM hS he23 rfl 10 (by decide) (hts _ kw_212) (fun _ h9 => h9) rfl (by decide +kernel) rfl rfl hl24 d_BT_makePlain_25 (fun H locs hM hS => ?_)
  rw [← eM21] at hM
  refine lv_aload_n hx hb d_BT_makePlain_28 rfl (lv_at hl 0 rfl) ?_
  refine lv_iconst (v := 1) hx hb d_BT_makePlain_29 (by decide) ?_
  obtain ⟨M25, ⟨fs26, he27, hl28, eM25⟩, hwp⟩ := hwp
  refine h_put (C := "BuckTables") (T := Tc0) (N := 12) (v := .int (1 : Int32)) (ty := .boolean) hx hb hts inc0 tyc0 tyc0_ok nmc0 hown hK hM hS he27 rfl 9 (by decide) (hts _ kw_211) (fun _ h9 => h9) rfl (by decide +kernel) (by decide) (by decide) hl28 d_BT_makePlain_30 (fun H locs hM hS => ?_)
  rw [← eM25] at hM
  exact W.vret hx hb hr (fun t ht hW => ⟨⟨M25, rfl, hwp, by show hw D kCl (hTys κ) A M25 t.heap; rw [ht]; exact hM⟩, hS.F ht⟩) hS.2.2 d_BT_makePlain_33
set_option maxRecDepth 100000 in
set_option maxHeartbeats 4000000 in
theorem metBT_makePlain (l : Launch) (D : va_G) (κ : Nat → ClassId) (sz : Nat) (self : Nat) (M : Hp) (post : Hp → Prop) (hwp : wpBT_makePlain self M post) : Met l y_BT_makePlain ws_BT_makePlain rm_BT_makePlain (hPc D kCl (hTys κ) M sz [.ref self]) (va_Qv post (hB D kCl (hTys κ) (hAx M sz)) (hAx M sz)) 0 0 (hAx M sz) := by
  refine Met.ofW (cc := prog_1_method_28_code) (maxL := 1) (ret := none) (by decide +kernel) rfl ?_
  intro p e s m args below meth c s₁ B hml hv
  obtain ⟨rfl, hsz, hE, hM0⟩ := hv
  have hts : ∀ w ∈ WG, w.before _ s = true := fun w h => atoms_spec (ws := ws_BT_makePlain) B.pre w (List.mem_cons_of_mem _ h)
  subst hsz
  have C : Cx_BT_makePlain p s m _ meth c D κ (hAx M s.heap.size) := ⟨B.exec, B.bytes, hml, B.returns, findClass_of_methodNamed B.named, hts, B.notSynchronized, hE, fun q h => Or.inr h⟩
  have hl := lv_entry ([.ref self]) (n := 1) (Nat.le_of_ble_eq_true rfl)
  rw [lg_entry_eq]
  generalize (lg_sl ([.ref self]) ++ List.replicate (1 - (lg_sl ([.ref self])).length) Slot.unset).toArray = ls at hl ⊢
  exact eBT_makePlain C post self M hwp s.heap [] ls (hM0.self (sz := s.heap.size)) va_S.rf hl
abbrev rm_BT_run : Room := { frames := 6, cells := 0, slots := 0, locals := 140 }
def Cx_BT_run (p : Program) (s : State) (m : MethodId) (args : Array Value) (meth : Method) (c : Code) (D : va_G) (κ : Nat → ClassId) (A : Nat → Prop) : Prop := p.tables.exec = Jvm.exec ∧ c.code = prog_1_method_12_code ∧ c.maxLocals = 1 ∧ meth.sig.returnType = (some .int) ∧ s.vm.findClass "BuckTables" = some m.cls ∧ (∀ w ∈ WG, w.before args s = true) ∧ meth.locks = false ∧ hEnv D kCl (hTys κ) A s ∧ (∀ q, s.heap.size ≤ q → A q)
def wpBT_run (self : Nat) (M : Hp) (post : Int32 → Hp → Prop) : Prop := (hob M self 0 ∧ (wpBT_makePlain self M (fun (M1 : Hp) => (∃ a3 : Nat, fA M1 self 0 7 a3 ∧ (∃ v7 : Int32, fI M1 a3 5 3 v7 ∧ (post v7 M1))))))
set_option maxRecDepth 100000 in
set_option maxHeartbeats 4000000 in
theorem eBT_run {p : Program} {l : Launch} {e : Env} {s : State} {m : MethodId} {args : Array Value} {below : List Frame} {meth : Method} {c : Code} {D : va_G} {κ : Nat → ClassId} {A : Nat → Prop} (C : Cx_BT_run p s m args meth c D κ A) (post : Int32 → Hp → Prop) (self : Nat) (M : Hp) (hwp : wpBT_run self M post) : Y p l e rm_BT_run s m args below meth c D kCl (hTys κ) A 1 0 0 (MQ below (va_Qi post (hB D kCl (hTys κ) A) A) args s 0 0 A) M 0 [(0, .ref self)] [] := by
  obtain ⟨hx, hb, hml, hr, hown, hts, hlocks, hE, hA⟩ := id C
  have hK := hE.1
  intro H locs ls hM hS hl
  unfold wpBT_run at hwp
  refine lv_aload_n hx hb d_BT_run_0 rfl (lv_at hl 0 rfl) ?_
  obtain ⟨ho2, hwp⟩ := hwp
  refine h_callv hM hS hA (va_runV (As := []) (rest := []) ⟨hx, hb, hml, hown, hts⟩ (metBT_makePlain l D κ H.size self M _ hwp) (cwV 0 hts (gV kw_243 kw_245 kp_0 kw_1 kw_246) rfl rfl rfl (by decide +kernel) ⟨(Nat.le_of_ble_eq_true rfl), (Nat.le_of_ble_eq_true rfl)⟩) (h_preV hE hM hS ho2 (r := ("BuckTables", Tc0, 12)) rfl) rfl rfl hl.1 rfl (lv_room (Nat.le_of_ble_eq_true rfl)) d_BT_run_1 ⟨(Nat.le_of_ble_eq_true rfl), (Nat.le_of_ble_eq_true rfl)⟩) (fun M1 H locs hwp hM hS => ?_)
  refine lv_aload_n hx hb d_BT_run_4 rfl (lv_at hl 0 rfl) ?_
  obtain ⟨a3, ⟨fs4, he5, hv6⟩, hwp⟩ := hwp
  refine h_get (C := "BuckTables") (T := Tc0) (N := 12) hx hb hts inc0 hown hK hM he5 rfl 7 (by decide) (hts _ kw_209) (fun _ h9 => h9) hv6 d_BT_run_5 ?_
  obtain ⟨v7, ⟨fs8, he9, hv10⟩, hwp⟩ := hwp
  refine h_get (C := "BuckTables$Plan") (T := Tc5) (N := 5) hx hb hts inc5 hown hK hM he9 rfl 3 (by decide) (hts _ kw_80) (fun _ h9 => h9) hv10 d_BT_run_8 ?_
  exact W.iret (v := v7) hx hb hr (fun t ht hW => ⟨⟨v7, M1, rfl, hwp, by show hw D kCl (hTys κ) A M1 t.heap; rw [ht]; exact hM⟩, hS.F ht⟩) hS.2.2 d_BT_run_11
set_option maxRecDepth 100000 in
set_option maxHeartbeats 4000000 in
theorem metBT_run (l : Launch) (D : va_G) (κ : Nat → ClassId) (sz : Nat) (self : Nat) (M : Hp) (post : Int32 → Hp → Prop) (hwp : wpBT_run self M post) : Met l y_BT_run ws_BT_run rm_BT_run (hPc D kCl (hTys κ) M sz [.ref self]) (va_Qi post (hB D kCl (hTys κ) (hAx M sz)) (hAx M sz)) 0 0 (hAx M sz) := by
  refine Met.ofW (cc := prog_1_method_12_code) (maxL := 1) (ret := (some .int)) (by decide +kernel) rfl ?_
  intro p e s m args below meth c s₁ B hml hv
  obtain ⟨rfl, hsz, hE, hM0⟩ := hv
  have hts : ∀ w ∈ WG, w.before _ s = true := fun w h => atoms_spec (ws := ws_BT_run) B.pre w (List.mem_cons_of_mem _ h)
  subst hsz
  have C : Cx_BT_run p s m _ meth c D κ (hAx M s.heap.size) := ⟨B.exec, B.bytes, hml, B.returns, findClass_of_methodNamed B.named, hts, B.notSynchronized, hE, fun q h => Or.inr h⟩
  have hl := lv_entry ([.ref self]) (n := 1) (Nat.le_of_ble_eq_true rfl)
  rw [lg_entry_eq]
  generalize (lg_sl ([.ref self]) ++ List.replicate (1 - (lg_sl ([.ref self])).length) Slot.unset).toArray = ls at hl ⊢
  exact eBT_run C post self M hwp s.heap [] ls (hM0.self (sz := s.heap.size)) va_S.rf hl
abbrev rm_Pr_hasLimit : Room := { frames := 0, cells := 0, slots := 0, locals := 0 }
def Cx_Pr_hasLimit (p : Program) (s : State) (m : MethodId) (args : Array Value) (meth : Method) (c : Code) (D : va_G) (κ : Nat → ClassId) (A : Nat → Prop) : Prop := p.tables.exec = Jvm.exec ∧ c.code = prog_4_method_3_code ∧ c.maxLocals = 1 ∧ meth.sig.returnType = (some .boolean) ∧ s.vm.findClass "BuckTables$Product" = some m.cls ∧ (∀ w ∈ WG, w.before args s = true) ∧ meth.locks = false ∧ hEnv D kCl (hTys κ) A s ∧ (∀ q, s.heap.size ≤ q → A q)
def wPr_hasLimit_16 (post : Int32 → Hp → Prop)   (y0 : Int32) (M : Hp) : Prop := ((y0 = 0 ∨ y0 = 1) ∧ post y0 M)
set_option maxRecDepth 100000 in
set_option maxHeartbeats 4000000 in
theorem tPr_hasLimit_16 {p : Program} {l : Launch} {e : Env} {s : State} {m : MethodId} {args : Array Value} {below : List Frame} {meth : Method} {c : Code} {D : va_G} {κ : Nat → ClassId} {A : Nat → Prop} (C : Cx_Pr_hasLimit p s m args meth c D κ A) (post : Int32 → Hp → Prop)   (y0 : Int32) (M : Hp) (hwp : wPr_hasLimit_16 post y0 M) : Y p l e rm_Pr_hasLimit s m args below meth c D kCl (hTys κ) A 1 0 0 (MQ below (va_Qi post (hB D kCl (hTys κ) A) A) args s 0 0 A) M 16 [] [.int y0] := by
  obtain ⟨hx, hb, hml, hr, hown, hts, hlocks, hE, hA⟩ := id C
  have hK := hE.1
  intro H locs ls hM hS hl
  unfold wPr_hasLimit_16 at hwp
  obtain ⟨hz1, hwp⟩ := hwp
  exact W.zret (v := y0) hx hb hr (by rcases hz1 with h | h <;> rw [h] <;> rfl) (fun t ht hW => ⟨⟨y0, M, rfl, hwp, by show hw D kCl (hTys κ) A M t.heap; rw [ht]; exact hM⟩, hS.F ht⟩) hS.2.2 d_Pr_hasLimit_16
def wpPr_hasLimit (self : Nat) (M : Hp) (post : Int32 → Hp → Prop) : Prop := (∃ v2 : Int64, fJ M self 2 8 v2 ∧ ((v2 = (-1 : Int64) → (wPr_hasLimit_16 post (0 : Int32) M)) ∧ (¬ v2 = (-1 : Int64) → (wPr_hasLimit_16 post (1 : Int32) M))))
set_option maxRecDepth 100000 in
set_option maxHeartbeats 4000000 in
theorem ePr_hasLimit {p : Program} {l : Launch} {e : Env} {s : State} {m : MethodId} {args : Array Value} {below : List Frame} {meth : Method} {c : Code} {D : va_G} {κ : Nat → ClassId} {A : Nat → Prop} (C : Cx_Pr_hasLimit p s m args meth c D κ A) (post : Int32 → Hp → Prop) (self : Nat) (M : Hp) (hwp : wpPr_hasLimit self M post) : Y p l e rm_Pr_hasLimit s m args below meth c D kCl (hTys κ) A 1 0 0 (MQ below (va_Qi post (hB D kCl (hTys κ) A) A) args s 0 0 A) M 0 [(0, .ref self)] [] := by
  obtain ⟨hx, hb, hml, hr, hown, hts, hlocks, hE, hA⟩ := id C
  have hK := hE.1
  intro H locs ls hM hS hl
  unfold wpPr_hasLimit at hwp
  refine lv_aload_n hx hb d_Pr_hasLimit_0 rfl (lv_at hl 0 rfl) ?_
  obtain ⟨v2, ⟨fs3, he4, hv5⟩, hwp⟩ := hwp
  refine h_get (C := "BuckTables$Product") (T := Tc2) (N := 10) hx hb hts inc2 hown hK hM he4 rfl 8 (by decide) (hts _ kw_176) (fun _ h9 => h9) hv5 d_Pr_hasLimit_1 ?_
  refine lv_ldc2 (v := (-1)) hx hb hown (hts _ kw_157) d_Pr_hasLimit_4 ?_
  refine W.lcmp hx hb d_Pr_hasLimit_7 ?_
  refine lv_if_eq (tgt := 15) hx hb d_Pr_hasLimit_8 (by decide) (fun c6 => ?_) (fun c6 => ?_)
  · replace c6 := (lc_eq _ _).mp c6
    replace hwp := hwp.1 c6
    refine lv_iconst (v := 0) hx hb d_Pr_hasLimit_15 (by decide) ?_
    exact tPr_hasLimit_16 C post (0 : Int32) M hwp H locs ls hM hS (lv_sub hl [] rfl)
  · replace c6 := fun h9 => c6 ((lc_eq _ _).mpr h9)
    replace hwp := hwp.2 c6
    refine lv_iconst (v := 1) hx hb d_Pr_hasLimit_11 (by decide) ?_
    refine lv_goto (tgt := 16) hx hb d_Pr_hasLimit_12 (by decide) ?_
    exact tPr_hasLimit_16 C post (1 : Int32) M hwp H locs ls hM hS (lv_sub hl [] rfl)
set_option maxRecDepth 100000 in
set_option maxHeartbeats 4000000 in
theorem metPr_hasLimit (l : Launch) (D : va_G) (κ : Nat → ClassId) (sz : Nat) (self : Nat) (M : Hp) (post : Int32 → Hp → Prop) (hwp : wpPr_hasLimit self M post) : Met l y_Pr_hasLimit ws_Pr_hasLimit rm_Pr_hasLimit (hPc D kCl (hTys κ) M sz [.ref self]) (va_Qi post (hB D kCl (hTys κ) (hAx M sz)) (hAx M sz)) 0 0 (hAx M sz) := by
  refine Met.ofW (cc := prog_4_method_3_code) (maxL := 1) (ret := (some .boolean)) (by decide +kernel) rfl ?_
  intro p e s m args below meth c s₁ B hml hv
  obtain ⟨rfl, hsz, hE, hM0⟩ := hv
  have hts : ∀ w ∈ WG, w.before _ s = true := fun w h => atoms_spec (ws := ws_Pr_hasLimit) B.pre w (List.mem_cons_of_mem _ h)
  subst hsz
  have C : Cx_Pr_hasLimit p s m _ meth c D κ (hAx M s.heap.size) := ⟨B.exec, B.bytes, hml, B.returns, findClass_of_methodNamed B.named, hts, B.notSynchronized, hE, fun q h => Or.inr h⟩
  have hl := lv_entry ([.ref self]) (n := 1) (Nat.le_of_ble_eq_true rfl)
  rw [lg_entry_eq]
  generalize (lg_sl ([.ref self]) ++ List.replicate (1 - (lg_sl ([.ref self])).length) Slot.unset).toArray = ls at hl ⊢
  exact ePr_hasLimit C post self M hwp s.heap [] ls (hM0.self (sz := s.heap.size)) va_S.rf hl
