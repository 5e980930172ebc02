abbrev rm_Wi_init : Room := { frames := 1, cells := 1, slots := 80, locals := 20 }
def Cx_Wi_init (p : Program) (s : State) (m : MethodId) (args : Array Value) (meth : Method) (c : Code) (D : va_G) (κ : Nat → ClassId) (A : Nat → Prop) : Prop := p.tables.exec = Jvm.exec ∧ c.code = prog_6_method_1_code ∧ c.maxLocals = 1 ∧ meth.sig.returnType = none ∧ s.vm.findClass "BuckTables$Window" = some m.cls ∧ (∀ w ∈ WG, w.before args s = true) ∧ meth.locks = false ∧ hEnv D kCl (hTys κ) A s ∧ (∀ q, s.heap.size ≤ q → A q) ∧ meth.name = "<init>"
def wpWi_init (self : Nat) (M : Hp) (post : Hp → Prop) : Prop := (∀ a1 : Nat, M a1 = none → ∀ M3 : Hp, M3 = va_up M a1 (some (.inl (2, 80, .inr (.inl (fun _ => 0))))) → (∃ M4 : Hp, pF M3 self 3 0 (.ref a1) M4 ∧ (∃ M8 : Hp, pF M4 self 3 1 (.int (0 : Int32)) M8 ∧ (∃ M12 : Hp, pF M8 self 3 2 (.int (0 : Int32)) M12 ∧ (post M12)))))
set_option maxRecDepth 100000 in
set_option maxHeartbeats 4000000 in
theorem eWi_init {p : Program} {l : Launch} {e : Env} {s : State} {m : MethodId} {args : Array Value} {below : List Frame} {meth : Method} {c : Code} {D : va_G} {κ : Nat → ClassId} {A : Nat → Prop} (C : Cx_Wi_init p s m args meth c D κ A) (post : Hp → Prop) (self : Nat) (M : Hp) (hwp : wpWi_init self M post) : Y p l e rm_Wi_init s m args below meth c D kCl (hTys κ) A 1 0 0 (MQ below (va_Qv post (hB D kCl (hTys κ) A) A) args s 1 80 A) M 0 [(0, .ref self)] [] := by
  obtain ⟨hx, hb, hml, hr, hown, hts, hlocks, hE, hA, hin⟩ := id C
  have hK := hE.1
  intro H locs ls hM hS hl
  unfold wpWi_init at hwp
  refine lv_aload_n hx hb d_Wi_init_0 rfl (lv_at hl 0 rfl) ?_
  refine W.objInit hx hb hown (hts _ kw_40) (hts _ kw_22) (hts _ kw_23) rfl (by rw [hml]; exact hl.1) rfl d_Wi_init_1 (Nat.le_of_ble_eq_true rfl) (Nat.le_of_ble_eq_true rfl) ?_
  refine (show W _ _ _ _ _ _ _ _ _ _ _ _ _ _ _ (F0 _ 4 _ []) from ?_)
  refine lv_aload_n hx hb d_Wi_init_4 rfl (lv_at hl 0 rfl) ?_
  refine lv_bipush (v := 80) hx hb d_Wi_init_5 (by decide) ?_
  refine h_newa (atype := .long) (t := 2) (N' := 80) (a0 := (80, .inr (.inl (fun _ => 0)))) hx hb (hts _ kw_54) hK hM hS hA rfl (fun _ => rfl) (by decide) (by decide) (by decide) (Nat.le_of_ble_eq_true rfl) (Nat.le_of_ble_eq_true rfl) d_Wi_init_7 (fun a1 H hq2 hM hS => ?_)
  obtain ⟨M3, eM3⟩ : ∃ z : Hp, z = va_up M a1 (some (.inl (2, 80, .inr (.inl (fun _ => 0))))) := ⟨_, rfl⟩
  rw [← eM3] at hM
  replace hwp := hwp a1 hq2 M3 eM3
  obtain ⟨M4, ⟨fs5, he6, hl7, eM4⟩, hwp⟩ := hwp
  refine h_putF (C := "BuckTables$Window") (T := Tc3) (N := 3) (v := .ref a1) (ty := .array .long) hx hb hts inc3 tyc3 tyc3_ok nmc3 hown hK hM hS he6 rfl 0 (by decide) (hts _ kw_41) (fun _ h9 => h9) rfl hin rfl (by decide +kernel) rfl rfl hl7 d_Wi_init_9 (fun H locs hM hS => ?_)
  rw [← eM4] at hM
  refine lv_aload_n hx hb d_Wi_init_12 rfl (lv_at hl 0 rfl) ?_
  refine lv_iconst (v := 0) hx hb d_Wi_init_13 (by decide) ?_
  obtain ⟨M8, ⟨fs9, he10, hl11, eM8⟩, hwp⟩ := hwp
  refine h_put (C := "BuckTables$Window") (T := Tc3) (N := 3) (v := .int (0 : Int32)) (ty := .int) hx hb hts inc3 tyc3 tyc3_ok nmc3 hown hK hM hS he10 rfl 1 (by decide) (hts _ kw_43) (fun _ h9 => h9) rfl (by decide +kernel) rfl rfl hl11 d_Wi_init_14 (fun H locs hM hS => ?_)
  rw [← eM8] at hM
  refine lv_aload_n hx hb d_Wi_init_17 rfl (lv_at hl 0 rfl) ?_
  refine lv_iconst (v := 0) hx hb d_Wi_init_18 (by decide) ?_
  obtain ⟨M12, ⟨fs13, he14, hl15, eM12⟩, hwp⟩ := hwp
  refine h_put (C := "BuckTables$Window") (T := Tc3) (N := 3) (v := .int (0 : Int32)) (ty := .int) hx hb hts inc3 tyc3 tyc3_ok nmc3 hown hK hM hS he14 rfl 2 (by decide) (hts _ kw_45) (fun _ h9 => h9) rfl (by decide +kernel) rfl rfl hl15 d_Wi_init_19 (fun H locs hM hS => ?_)
  rw [← eM12] at hM
  exact W.vret hx hb hr (fun t ht hW => ⟨⟨M12, rfl, hwp, by show hw D kCl (hTys κ) A M12 t.heap; rw [ht]; exact hM⟩, hS.F ht⟩) hS.2.2 d_Wi_init_22
set_option maxRecDepth 100000 in
set_option maxHeartbeats 4000000 in
theorem metWi_init (l : Launch) (D : va_G) (κ : Nat → ClassId) (sz : Nat) (self : Nat) (M : Hp) (post : Hp → Prop) (hwp : wpWi_init self M post) : Met l y_Wi_init ws_Wi_init rm_Wi_init (hPc D kCl (hTys κ) M sz [.ref self]) (va_Qv post (hB D kCl (hTys κ) (hAx M sz)) (hAx M sz)) 1 80 (hAx M sz) := by
  refine Met.ofW (cc := prog_6_method_1_code) (maxL := 1) (ret := none) (by decide +kernel) rfl ?_
  intro p e s m args below meth c s₁ B hml hv
  obtain ⟨rfl, hsz, hE, hM0⟩ := hv
  have hts : ∀ w ∈ WG, w.before _ s = true := fun w h => atoms_spec (ws := ws_Wi_init) B.pre w (List.mem_cons_of_mem _ h)
  subst hsz
  have C : Cx_Wi_init p s m _ meth c D κ (hAx M s.heap.size) := ⟨B.exec, B.bytes, hml, B.returns, findClass_of_methodNamed B.named, hts, B.notSynchronized, hE, fun q h => Or.inr h, (name_of_methodNamed B.named B.method).1⟩
  have hl := lv_entry ([.ref self]) (n := 1) (Nat.le_of_ble_eq_true rfl)
  rw [lg_entry_eq]
  generalize (lg_sl ([.ref self]) ++ List.replicate (1 - (lg_sl ([.ref self])).length) Slot.unset).toArray = ls at hl ⊢
  exact eWi_init C post self M hwp s.heap [] ls (hM0.self (sz := s.heap.size)) va_S.rf hl
abbrev rm_Cu_init : Room := { frames := 2, cells := 20, slots := 913, locals := 40 }
def Cx_Cu_init (p : Program) (s : State) (m : MethodId) (args : Array Value) (meth : Method) (c : Code) (D : va_G) (κ : Nat → ClassId) (A : Nat → Prop) : Prop := p.tables.exec = Jvm.exec ∧ c.code = prog_2_method_1_code ∧ c.maxLocals = 2 ∧ meth.sig.returnType = none ∧ s.vm.findClass "BuckTables$Cutter" = some m.cls ∧ (∀ w ∈ WG, w.before args s = true) ∧ meth.locks = false ∧ hEnv D kCl (hTys κ) A s ∧ (∀ q, s.heap.size ≤ q → A q) ∧ meth.name = "<init>"
def wCu_init_39 (post : Hp → Prop)  : Nat → Nat → Int32 → Nat → Nat → Hp → Prop
  | 0 => fun _ _ _ _ _ => False
  | n + 1 => fun x0 x1 kc ks M => (((8 : Int32) ≤ x1 → (kc ≤ 20 ∧ ks ≤ 913 ∧ post M)) ∧ (¬ (8 : Int32) ≤ x1 → (∃ a4 : Nat, fA M x0 4 3 a4 ∧ (kc + 1 ≤ 20 ∧ ks + 3 ≤ 913 ∧ (∀ a10 : Nat, M a10 = none → ∀ M12 : Hp, M12 = va_up M a10 (some (.inr (3, [.null, .int 0, .int 0]))) → ((kc + 1) + 1 ≤ 20 ∧ (ks + 3) + 80 ≤ 913 ∧ (wpWi_init a10 M12 (fun (M13 : Hp) => (∃ M21 : Hp, sA 5 3 M13 a4 x1 a10 M21 ∧ (∀ z22 : Int32, z22 = x1 + 1 → ((wCu_init_39 post n) x0 z22 ((kc + 1) + 1) ((ks + 3) + 80) M21)))))))))))
set_option maxRecDepth 100000 in
set_option maxHeartbeats 4000000 in
theorem tCu_init_39 {p : Program} {l : Launch} {e : Env} {s : State} {m : MethodId} {args : Array Value} {below : List Frame} {meth : Method} {c : Code} {D : va_G} {κ : Nat → ClassId} {A : Nat → Prop} (C : Cx_Cu_init p s m args meth c D κ A) (post : Hp → Prop)  : ∀ (n : Nat) (x0 : Nat) (x1 : Int32) (kc : Nat) (ks : Nat) (M : Hp), wCu_init_39 post n x0 x1 kc ks M → Y p l e rm_Cu_init s m args below meth c D kCl (hTys κ) A 2 kc ks (MQ below (va_Qv post (hB D kCl (hTys κ) A) A) args s 20 913 A) M 39 [(0, .ref x0), (1, .int x1)] [] := by
  obtain ⟨hx, hb, hml, hr, hown, hts, hlocks, hE, hA, hin⟩ := id C
  have hK := hE.1
  intro n
  induction n with
  | zero => intro x0 x1 kc ks M hwp; exact hwp.elim
  | succ n ih =>
    intro x0 x1 kc ks M hwp H locs ls hM hS hl
    unfold wCu_init_39 at hwp
    refine lv_iload_n hx hb d_Cu_init_39 rfl (lv_at hl 1 rfl) ?_
    refine lv_bipush (v := 8) hx hb d_Cu_init_40 (by decide) ?_
    refine lv_icmp_ge (tgt := 64) hx hb d_Cu_init_42 (by decide) (fun c1 => ?_) (fun c1 => ?_)
    · replace hwp := hwp.1 c1
      obtain ⟨hc2, hs3, hwp⟩ := hwp
      refine W.widen (k := 20) (n := 913) hc2 hs3 ?_
      exact W.vret hx hb hr (fun t ht hW => ⟨⟨M, rfl, hwp, by show hw D kCl (hTys κ) A M t.heap; rw [ht]; exact hM⟩, hS.F ht⟩) hS.2.2 d_Cu_init_64
    · replace hwp := hwp.2 c1
      refine lv_aload_n hx hb d_Cu_init_45 rfl (lv_at hl 0 rfl) ?_
      obtain ⟨a4, ⟨fs5, he6, hv7⟩, hwp⟩ := hwp
      refine h_get (C := "BuckTables$Cutter") (T := Tc4) (N := 4) hx hb hts inc4 hown hK hM he6 rfl 3 (by decide) (hts _ kw_59) (fun _ h9 => h9) hv7 d_Cu_init_46 ?_
      refine lv_iload_n hx hb d_Cu_init_49 rfl (lv_at hl 1 rfl) ?_
      obtain ⟨hc8, hs9, hwp⟩ := hwp
      refine h_new (C := "BuckTables$Window") (T := Tc3) (N := 3) (ci := 3) (fs := [.null, .int 0, .int 0]) hx hb hts inc3 tyc3 tyc3_ok hown (hts _ kw_34) (hts _ kw_36) (hts _ kw_3) hK hM hS hA rfl dfc3 hc8 hs9 d_Cu_init_50 (fun a10 H hq11 hM hS => ?_)
      obtain ⟨M12, eM12⟩ : ∃ z : Hp, z = va_up M a10 (some (.inr (3, [.null, .int 0, .int 0]))) := ⟨_, rfl⟩
      rw [← eM12] at hM
      replace hwp := hwp a10 hq11 M12 eM12
      refine lv_dup hx hb d_Cu_init_53 rfl ?_
      obtain ⟨hc14, hs15, hwp⟩ := hwp
      refine h_callv hM hS hA (va_runIN (As := []) (rest := [.ref a10, .int x1, .ref a4]) ⟨hx, hb, hml, hown, hts⟩ (metWi_init l D κ H.size a10 M12 _ hwp) ⟨va_cnB 0 hts (gC kw_39) rfl rfl rfl (z_nest hE.2 (host := "BuckTables") (List.mem_append_right _ (List.mem_of_getElem? (i := 37) (by decide +kernel)))) (hts _ kw_3) (by decide +kernel) ⟨(Nat.le_of_ble_eq_true rfl), (Nat.le_of_ble_eq_true rfl)⟩, rfl, hts _ kw_38⟩ (h_preS hE hM hS) rfl rfl hl.1 rfl (lv_room (Nat.le_of_ble_eq_true rfl)) d_Cu_init_54 ⟨hc14, hs15⟩) (fun M13 H locs hwp hM hS => ?_)
      obtain ⟨M21, ⟨n16, f17, ha18, hi19, ho20, eM21⟩, hwp⟩ := hwp
      refine h_aast (r := ("BuckTables$Window", Tc3, 3)) hx hb hK hM hS ha18 rfl ho20 rfl hi19 d_Cu_init_57 (fun H locs hM hS => ?_)
      rw [← eM21] at hM
      obtain ⟨z22, ez22⟩ : ∃ y : Int32, y = x1 + 1 := ⟨_, rfl⟩
      replace hwp := hwp z22 ez22
      refine lv_iinc (v := z22) (lv' := [(1, .int z22), (0, .ref x0)]) hx hb d_Cu_init_58 hl (k := 1) rfl (by rw [ez22]; rfl) (by decide) rfl (fun ls hl => ?_)
      refine lv_goto (tgt := 39) hx hb d_Cu_init_61 (by decide) ?_
      exact ih x0 z22 ((kc + 1) + 1) ((ks + 3) + 80) M21 hwp H locs ls hM hS (lv_sub hl [1, 0] rfl)
def wpCu_init (self : Nat) (M : Hp) (post : Hp → Prop) : Prop := (0 + 1 ≤ 20 ∧ 0 + 81 ≤ 913 ∧ (∀ a25 : Nat, M a25 = none → ∀ M27 : Hp, M27 = va_up M a25 (some (.inl (2, 81, .inr (.inl (fun _ => 0))))) → (∃ M28 : Hp, pF M27 self 4 0 (.ref a25) M28 ∧ ((0 + 1) + 1 ≤ 20 ∧ (0 + 81) + 80 ≤ 913 ∧ (∀ a34 : Nat, M28 a34 = none → ∀ M36 : Hp, M36 = va_up M28 a34 (some (.inl (0, 80, .inl (fun _ => 0)))) → (∃ M37 : Hp, pF M36 self 4 1 (.ref a34) M37 ∧ (((0 + 1) + 1) + 1 ≤ 20 ∧ ((0 + 81) + 80) + 80 ≤ 913 ∧ (∀ a43 : Nat, M37 a43 = none → ∀ M45 : Hp, M45 = va_up M37 a43 (some (.inl (0, 80, .inl (fun _ => 0)))) → (∃ M46 : Hp, pF M45 self 4 2 (.ref a43) M46 ∧ ((((0 + 1) + 1) + 1) + 1 ≤ 20 ∧ (((0 + 81) + 80) + 80) + 8 ≤ 913 ∧ (∀ a52 : Nat, M46 a52 = none → ∀ M54 : Hp, M54 = va_up M46 a52 (some (.inl (5, 8, .inr (.inr (.inr (.inr (fun _ => none))))))) → (∃ M55 : Hp, pF M54 self 4 3 (.ref a52) M55 ∧ (∃ n59 : Nat, wCu_init_39 post n59 self (0 : Int32) ((((0 + 1) + 1) + 1) + 1) ((((0 + 81) + 80) + 80) + 8) M55)))))))))))))
set_option maxRecDepth 100000 in
set_option maxHeartbeats 4000000 in
theorem eCu_init {p : Program} {l : Launch} {e : Env} {s : State} {m : MethodId} {args : Array Value} {below : List Frame} {meth : Method} {c : Code} {D : va_G} {κ : Nat → ClassId} {A : Nat → Prop} (C : Cx_Cu_init p s m args meth c D κ A) (post : Hp → Prop) (self : Nat) (M : Hp) (hwp : wpCu_init self M post) : Y p l e rm_Cu_init s m args below meth c D kCl (hTys κ) A 2 0 0 (MQ below (va_Qv post (hB D kCl (hTys κ) A) A) args s 20 913 A) M 0 [(0, .ref self)] [] := by
  obtain ⟨hx, hb, hml, hr, hown, hts, hlocks, hE, hA, hin⟩ := id C
  have hK := hE.1
  intro H locs ls hM hS hl
  unfold wpCu_init at hwp
  refine lv_aload_n hx hb d_Cu_init_0 rfl (lv_at hl 0 rfl) ?_
  refine W.objInit hx hb hown (hts _ kw_33) (hts _ kw_22) (hts _ kw_23) rfl (by rw [hml]; exact hl.1) rfl d_Cu_init_1 (Nat.le_of_ble_eq_true rfl) (Nat.le_of_ble_eq_true rfl) ?_
  refine (show W _ _ _ _ _ _ _ _ _ _ _ _ _ _ _ (F0 _ 4 _ []) from ?_)
  refine lv_aload_n hx hb d_Cu_init_4 rfl (lv_at hl 0 rfl) ?_
  refine lv_bipush (v := 81) hx hb d_Cu_init_5 (by decide) ?_
  obtain ⟨hc23, hs24, hwp⟩ := hwp
  refine h_newa (atype := .long) (t := 2) (N' := 81) (a0 := (81, .inr (.inl (fun _ => 0)))) hx hb (hts _ kw_54) hK hM hS hA rfl (fun _ => rfl) (by decide) (by decide) (by decide) hc23 hs24 d_Cu_init_7 (fun a25 H hq26 hM hS => ?_)
  obtain ⟨M27, eM27⟩ : ∃ z : Hp, z = va_up M a25 (some (.inl (2, 81, .inr (.inl (fun _ => 0))))) := ⟨_, rfl⟩
  rw [← eM27] at hM
  replace hwp := hwp a25 hq26 M27 eM27
  obtain ⟨M28, ⟨fs29, he30, hl31, eM28⟩, hwp⟩ := hwp
  refine h_putF (C := "BuckTables$Cutter") (T := Tc4) (N := 4) (v := .ref a25) (ty := .array .long) hx hb hts inc4 tyc4 tyc4_ok nmc4 hown hK hM hS he30 rfl 0 (by decide) (hts _ kw_56) (fun _ h9 => h9) rfl hin rfl (by decide +kernel) rfl rfl hl31 d_Cu_init_9 (fun H locs hM hS => ?_)
  rw [← eM28] at hM
  refine lv_aload_n hx hb d_Cu_init_12 rfl (lv_at hl 0 rfl) ?_
  refine lv_bipush (v := 80) hx hb d_Cu_init_13 (by decide) ?_
  obtain ⟨hc32, hs33, hwp⟩ := hwp
  refine h_newa (atype := .int) (t := 0) (N' := 80) (a0 := (80, .inl (fun _ => 0))) hx hb (hts _ kw_55) hK hM hS hA rfl (fun _ => rfl) (by decide) (by decide) (by decide) hc32 hs33 d_Cu_init_15 (fun a34 H hq35 hM hS => ?_)
  obtain ⟨M36, eM36⟩ : ∃ z : Hp, z = va_up M28 a34 (some (.inl (0, 80, .inl (fun _ => 0)))) := ⟨_, rfl⟩
  rw [← eM36] at hM
  replace hwp := hwp a34 hq35 M36 eM36
  obtain ⟨M37, ⟨fs38, he39, hl40, eM37⟩, hwp⟩ := hwp
  refine h_putF (C := "BuckTables$Cutter") (T := Tc4) (N := 4) (v := .ref a34) (ty := .array .int) hx hb hts inc4 tyc4 tyc4_ok nmc4 hown hK hM hS he39 rfl 1 (by decide) (hts _ kw_57) (fun _ h9 => h9) rfl hin rfl (by decide +kernel) rfl rfl hl40 d_Cu_init_17 (fun H locs hM hS => ?_)
  rw [← eM37] at hM
  refine lv_aload_n hx hb d_Cu_init_20 rfl (lv_at hl 0 rfl) ?_
  refine lv_bipush (v := 80) hx hb d_Cu_init_21 (by decide) ?_
  obtain ⟨hc41, hs42, hwp⟩ := hwp
  refine h_newa (atype := .int) (t := 0) (N' := 80) (a0 := (80, .inl (fun _ => 0))) hx hb (hts _ kw_55) hK hM hS hA rfl (fun _ => rfl) (by decide) (by decide) (by decide) hc41 hs42 d_Cu_init_23 (fun a43 H hq44 hM hS => ?_)
  obtain ⟨M45, eM45⟩ : ∃ z : Hp, z = va_up M37 a43 (some (.inl (0, 80, .inl (fun _ => 0)))) := ⟨_, rfl⟩
  rw [← eM45] at hM
  replace hwp := hwp a43 hq44 M45 eM45
  obtain ⟨M46, ⟨fs47, he48, hl49, eM46⟩, hwp⟩ := hwp
  refine h_putF (C := "BuckTables$Cutter") (T := Tc4) (N := 4) (v := .ref a43) (ty := .array .int) hx hb hts inc4 tyc4 tyc4_ok nmc4 hown hK hM hS he48 rfl 2 (by decide) (hts _ kw_58) (fun _ h9 => h9) rfl hin rfl (by decide +kernel) rfl rfl hl49 d_Cu_init_25 (fun H locs hM hS => ?_)
  rw [← eM46] at hM
  refine lv_aload_n hx hb d_Cu_init_28 rfl (lv_at hl 0 rfl) ?_
  refine lv_bipush (v := 8) hx hb d_Cu_init_29 (by decide) ?_
  obtain ⟨hc50, hs51, hwp⟩ := hwp
  refine h_newq (C := "BuckTables$Window") (t := 5) (N' := 8) hx hb hown (hts _ kw_34) (z_ao hE.2 (List.mem_append_right _ (List.mem_of_getElem? (i := 35) (by decide +kernel)))) hK hM hS hA rfl (by decide) (by decide) (by decide) hc50 hs51 d_Cu_init_31 (fun a52 H hq53 hM hS => ?_)
  obtain ⟨M54, eM54⟩ : ∃ z : Hp, z = va_up M46 a52 (some (.inl (5, 8, .inr (.inr (.inr (.inr (fun _ => none))))))) := ⟨_, rfl⟩
  rw [← eM54] at hM
  replace hwp := hwp a52 hq53 M54 eM54
  obtain ⟨M55, ⟨fs56, he57, hl58, eM55⟩, hwp⟩ := hwp
  refine h_putF (C := "BuckTables$Cutter") (T := Tc4) (N := 4) (v := .ref a52) (ty := .array (.object "BuckTables$Window")) hx hb hts inc4 tyc4 tyc4_ok nmc4 hown hK hM hS he57 rfl 3 (by decide) (hts _ kw_59) (fun _ h9 => h9) rfl hin rfl (by decide +kernel) rfl rfl hl58 d_Cu_init_34 (fun H locs hM hS => ?_)
  rw [← eM55] at hM
  refine lv_iconst (v := 0) hx hb d_Cu_init_37 (by decide) ?_
  refine lv_istore_n (lv' := [(1, .int (0 : Int32)), (0, .ref self)]) hx hb d_Cu_init_38 rfl hl (by decide) rfl (fun ls hl => ?_)
  obtain ⟨n59, hwp⟩ := hwp
  exact tCu_init_39 C post n59 self (0 : Int32) ((((0 + 1) + 1) + 1) + 1) ((((0 + 81) + 80) + 80) + 8) M55 hwp H locs ls hM hS (lv_sub hl [1, 0] rfl)
set_option maxRecDepth 100000 in
set_option maxHeartbeats 4000000 in
theorem metCu_init (l : Launch) (D : va_G) (κ : Nat → ClassId) (sz : Nat) (self : Nat) (M : Hp) (post : Hp → Prop) (hwp : wpCu_init self M post) : Met l y_Cu_init ws_Cu_init rm_Cu_init (hPc D kCl (hTys κ) M sz [.ref self]) (va_Qv post (hB D kCl (hTys κ) (hAx M sz)) (hAx M sz)) 20 913 (hAx M sz) := by
  refine Met.ofW (cc := prog_2_method_1_code) (maxL := 2) (ret := none) (by decide +kernel) rfl ?_
  intro p e s m args below meth c s₁ B hml hv
  obtain ⟨rfl, hsz, hE, hM0⟩ := hv
  have hts : ∀ w ∈ WG, w.before _ s = true := fun w h => atoms_spec (ws := ws_Cu_init) B.pre w (List.mem_cons_of_mem _ h)
  subst hsz
  have C : Cx_Cu_init p s m _ meth c D κ (hAx M s.heap.size) := ⟨B.exec, B.bytes, hml, B.returns, findClass_of_methodNamed B.named, hts, B.notSynchronized, hE, fun q h => Or.inr h, (name_of_methodNamed B.named B.method).1⟩
  have hl := lv_entry ([.ref self]) (n := 2) (Nat.le_of_ble_eq_true rfl)
  rw [lg_entry_eq]
  generalize (lg_sl ([.ref self]) ++ List.replicate (2 - (lg_sl ([.ref self])).length) Slot.unset).toArray = ls at hl ⊢
  exact eCu_init C post self M hwp s.heap [] ls (hM0.self (sz := s.heap.size)) va_S.rf hl
abbrev rm_Pl_init : Room := { frames := 1, cells := 3, slots := 2888, locals := 20 }
def Cx_Pl_init (p : Program) (s : State) (m : MethodId) (args : Array Value) (meth : Method) (c : Code) (D : va_G) (κ : Nat → ClassId) (A : Nat → Prop) : Prop := p.tables.exec = Jvm.exec ∧ c.code = prog_3_method_1_code ∧ c.maxLocals = 1 ∧ meth.sig.returnType = none ∧ s.vm.findClass "BuckTables$Plan" = some m.cls ∧ (∀ w ∈ WG, w.before args s = true) ∧ meth.locks = false ∧ hEnv D kCl (hTys κ) A s ∧ (∀ q, s.heap.size ≤ q → A q) ∧ meth.name = "<init>"
def wpPl_init (self : Nat) (M : Hp) (post : Hp → Prop) : Prop := (∀ a1 : Nat, M a1 = none → ∀ M3 : Hp, M3 = va_up M a1 (some (.inl (0, 2400, .inl (fun _ => 0)))) → (∃ M4 : Hp, pF M3 self 5 0 (.ref a1) M4 ∧ (∀ a8 : Nat, M4 a8 = none → ∀ M10 : Hp, M10 = va_up M4 a8 (some (.inl (1, 480, .inl (fun _ => 0)))) → (∃ M11 : Hp, pF M10 self 5 1 (.ref a8) M11 ∧ (∀ a15 : Nat, M11 a15 = none → ∀ M17 : Hp, M17 = va_up M11 a15 (some (.inl (0, 8, .inl (fun _ => 0)))) → (∃ M18 : Hp, pF M17 self 5 2 (.ref a15) M18 ∧ (∃ M22 : Hp, pF M18 self 5 3 (.int (0 : Int32)) M22 ∧ (∃ M26 : Hp, pF M22 self 5 4 (.long (0 : Int64)) M26 ∧ (post M26)))))))))
set_option maxRecDepth 100000 in
set_option maxHeartbeats 4000000 in
theorem ePl_init {p : Program} {l : Launch} {e : Env} {s : State} {m : MethodId} {args : Array Value} {below : List Frame} {meth : Method} {c : Code} {D : va_G} {κ : Nat → ClassId} {A : Nat → Prop} (C : Cx_Pl_init p s m args meth c D κ A) (post : Hp → Prop) (self : Nat) (M : Hp) (hwp : wpPl_init self M post) : Y p l e rm_Pl_init s m args below meth c D kCl (hTys κ) A 1 0 0 (MQ below (va_Qv post (hB D kCl (hTys κ) A) A) args s 3 2888 A) M 0 [(0, .ref self)] [] := by
  obtain ⟨hx, hb, hml, hr, hown, hts, hlocks, hE, hA, hin⟩ := id C
  have hK := hE.1
  intro H locs ls hM hS hl
  unfold wpPl_init at hwp
  refine lv_aload_n hx hb d_Pl_init_0 rfl (lv_at hl 0 rfl) ?_
  refine W.objInit hx hb hown (hts _ kw_74) (hts _ kw_22) (hts _ kw_23) rfl (by rw [hml]; exact hl.1) rfl d_Pl_init_1 (Nat.le_of_ble_eq_true rfl) (Nat.le_of_ble_eq_true rfl) ?_
  refine (show W _ _ _ _ _ _ _ _ _ _ _ _ _ _ _ (F0 _ 4 _ []) from ?_)
  refine lv_aload_n hx hb d_Pl_init_4 rfl (lv_at hl 0 rfl) ?_
  refine lv_sipush (v := 2400) hx hb d_Pl_init_5 (by decide) ?_
  refine h_newa (atype := .int) (t := 0) (N' := 2400) (a0 := (2400, .inl (fun _ => 0))) hx hb (hts _ kw_55) hK hM hS hA rfl (fun _ => rfl) (by decide) (by decide) (by decide) (Nat.le_of_ble_eq_true rfl) (Nat.le_of_ble_eq_true rfl) d_Pl_init_8 (fun a1 H hq2 hM hS => ?_)
  obtain ⟨M3, eM3⟩ : ∃ z : Hp, z = va_up M a1 (some (.inl (0, 2400, .inl (fun _ => 0)))) := ⟨_, rfl⟩
  rw [← eM3] at hM
  replace hwp := hwp a1 hq2 M3 eM3
  obtain ⟨M4, ⟨fs5, he6, hl7, eM4⟩, hwp⟩ := hwp
  refine h_putF (C := "BuckTables$Plan") (T := Tc5) (N := 5) (v := .ref a1) (ty := .array .int) hx hb hts inc5 tyc5 tyc5_ok nmc5 hown hK hM hS he6 rfl 0 (by decide) (hts _ kw_75) (fun _ h9 => h9) rfl hin rfl (by decide +kernel) rfl rfl hl7 d_Pl_init_10 (fun H locs hM hS => ?_)
  rw [← eM4] at hM
  refine lv_aload_n hx hb d_Pl_init_13 rfl (lv_at hl 0 rfl) ?_
  refine lv_sipush (v := 480) hx hb d_Pl_init_14 (by decide) ?_
  refine h_newa (atype := .boolean) (t := 1) (N' := 480) (a0 := (480, .inl (fun _ => 0))) hx hb (hts _ kw_94) hK hM hS hA rfl (fun _ => rfl) (by decide) (by decide) (by decide) (Nat.le_of_ble_eq_true rfl) (Nat.le_of_ble_eq_true rfl) d_Pl_init_17 (fun a8 H hq9 hM hS => ?_)
  obtain ⟨M10, eM10⟩ : ∃ z : Hp, z = va_up M4 a8 (some (.inl (1, 480, .inl (fun _ => 0)))) := ⟨_, rfl⟩
  rw [← eM10] at hM
  replace hwp := hwp a8 hq9 M10 eM10
  obtain ⟨M11, ⟨fs12, he13, hl14, eM11⟩, hwp⟩ := hwp
  refine h_putF (C := "BuckTables$Plan") (T := Tc5) (N := 5) (v := .ref a8) (ty := .array .boolean) hx hb hts inc5 tyc5 tyc5_ok nmc5 hown hK hM hS he13 rfl 1 (by decide) (hts _ kw_76) (fun _ h9 => h9) rfl hin rfl (by decide +kernel) rfl rfl hl14 d_Pl_init_19 (fun H locs hM hS => ?_)
  rw [← eM11] at hM
  refine lv_aload_n hx hb d_Pl_init_22 rfl (lv_at hl 0 rfl) ?_
  refine lv_bipush (v := 8) hx hb d_Pl_init_23 (by decide) ?_
  refine h_newa (atype := .int) (t := 0) (N' := 8) (a0 := (8, .inl (fun _ => 0))) hx hb (hts _ kw_55) hK hM hS hA rfl (fun _ => rfl) (by decide) (by decide) (by decide) (Nat.le_of_ble_eq_true rfl) (Nat.le_of_ble_eq_true rfl) d_Pl_init_25 (fun a15 H hq16 hM hS => ?_)
  obtain ⟨M17, eM17⟩ : ∃ z : Hp, z = va_up M11 a15 (some (.inl (0, 8, .inl (fun _ => 0)))) := ⟨_, rfl⟩
  rw [← eM17] at hM
  replace hwp := hwp a15 hq16 M17 eM17
  obtain ⟨M18, ⟨fs19, he20, hl21, eM18⟩, hwp⟩ := hwp
  refine h_putF (C := "BuckTables$Plan") (T := Tc5) (N := 5) (v := .ref a15) (ty := .array .int) hx hb hts inc5 tyc5 tyc5_ok nmc5 hown hK hM hS he20 rfl 2 (by decide) (hts _ kw_77) (fun _ h9 => h9) rfl hin rfl (by decide +kernel) rfl rfl hl21 d_Pl_init_27 (fun H locs hM hS => ?_)
  rw [← eM18] at hM
  refine lv_aload_n hx hb d_Pl_init_30 rfl (lv_at hl 0 rfl) ?_
  refine lv_iconst (v := 0) hx hb d_Pl_init_31 (by decide) ?_
  obtain ⟨M22, ⟨fs23, he24, hl25, eM22⟩, hwp⟩ := hwp
  refine h_put (C := "BuckTables$Plan") (T := Tc5) (N := 5) (v := .int (0 : Int32)) (ty := .int) hx hb hts inc5 tyc5 tyc5_ok nmc5 hown hK hM hS he24 rfl 3 (by decide) (hts _ kw_79) (fun _ h9 => h9) rfl (by decide +kernel) rfl rfl hl25 d_Pl_init_32 (fun H locs hM hS => ?_)
  rw [← eM22] at hM
  refine lv_aload_n hx hb d_Pl_init_35 rfl (lv_at hl 0 rfl) ?_
  refine lv_lconst (v := 0) hx hb d_Pl_init_36 (by decide) ?_
  obtain ⟨M26, ⟨fs27, he28, hl29, eM26⟩, hwp⟩ := hwp
  refine h_put (C := "BuckTables$Plan") (T := Tc5) (N := 5) (v := .long (0 : Int64)) (ty := .long) hx hb hts inc5 tyc5 tyc5_ok nmc5 hown hK hM hS he28 rfl 4 (by decide) (hts _ kw_81) (fun _ h9 => h9) rfl (by decide +kernel) rfl rfl hl29 d_Pl_init_37 (fun H locs hM hS => ?_)
  rw [← eM26] at hM
  exact W.vret hx hb hr (fun t ht hW => ⟨⟨M26, rfl, hwp, by show hw D kCl (hTys κ) A M26 t.heap; rw [ht]; exact hM⟩, hS.F ht⟩) hS.2.2 d_Pl_init_40
set_option maxRecDepth 100000 in
set_option maxHeartbeats 4000000 in
theorem metPl_init (l : Launch) (D : va_G) (κ : Nat → ClassId) (sz : Nat) (self : Nat) (M : Hp) (post : Hp → Prop) (hwp : wpPl_init self M post) : Met l y_Pl_init ws_Pl_init rm_Pl_init (hPc D kCl (hTys κ) M sz [.ref self]) (va_Qv post (hB D kCl (hTys κ) (hAx M sz)) (hAx M sz)) 3 2888 (hAx M sz) := by
  refine Met.ofW (cc := prog_3_method_1_code) (maxL := 1) (ret := none) (by decide +kernel) rfl ?_
  intro p e s m args below meth c s₁ B hml hv
  obtain ⟨rfl, hsz, hE, hM0⟩ := hv
  have hts : ∀ w ∈ WG, w.before _ s = true := fun w h => atoms_spec (ws := ws_Pl_init) B.pre w (List.mem_cons_of_mem _ h)
  subst hsz
  have C : Cx_Pl_init p s m _ meth c D κ (hAx M s.heap.size) := ⟨B.exec, B.bytes, hml, B.returns, findClass_of_methodNamed B.named, hts, B.notSynchronized, hE, fun q h => Or.inr h, (name_of_methodNamed B.named B.method).1⟩
  have hl := lv_entry ([.ref self]) (n := 1) (Nat.le_of_ble_eq_true rfl)
  rw [lg_entry_eq]
  generalize (lg_sl ([.ref self]) ++ List.replicate (1 - (lg_sl ([.ref self])).length) Slot.unset).toArray = ls at hl ⊢
  exact ePl_init C post self M hwp s.heap [] ls (hM0.self (sz := s.heap.size)) va_S.rf hl
abbrev rm_St_init : Room := { frames := 1, cells := 16, slots := 969, locals := 23 }
def Cx_St_init (p : Program) (s : State) (m : MethodId) (args : Array Value) (meth : Method) (c : Code) (D : va_G) (κ : Nat → ClassId) (A : Nat → Prop) : Prop := p.tables.exec = Jvm.exec ∧ c.code = prog_5_method_1_code ∧ c.maxLocals = 2 ∧ meth.sig.returnType = none ∧ s.vm.findClass "BuckTables$Stem" = some m.cls ∧ (∀ w ∈ WG, w.before args s = true) ∧ meth.locks = false ∧ hEnv D kCl (hTys κ) A s ∧ (∀ q, s.heap.size ≤ q → A q) ∧ meth.name = "<init>"
def wpSt_init (self : Nat) (p0 : Int32) (M : Hp) (post : Hp → Prop) : Prop := (∀ a1 : Nat, M a1 = none → ∀ M3 : Hp, M3 = va_up M a1 (some (.inl (0, 60, .inl (fun _ => 0)))) → (∃ M4 : Hp, pF M3 self 1 1 (.ref a1) M4 ∧ (∀ a8 : Nat, M4 a8 = none → ∀ M10 : Hp, M10 = va_up M4 a8 (some (.inl (0, 60, .inl (fun _ => 0)))) → (∃ M11 : Hp, pF M10 self 1 2 (.ref a8) M11 ∧ (∀ a15 : Nat, M11 a15 = none → ∀ M17 : Hp, M17 = va_up M11 a15 (some (.inl (0, 60, .inl (fun _ => 0)))) → (∃ M18 : Hp, pF M17 self 1 3 (.ref a15) M18 ∧ (∀ a22 : Nat, M18 a22 = none → ∀ M24 : Hp, M24 = va_up M18 a22 (some (.inl (0, 20, .inl (fun _ => 0)))) → (∃ M25 : Hp, pF M24 self 1 4 (.ref a22) M25 ∧ (∀ a29 : Nat, M25 a29 = none → ∀ M31 : Hp, M31 = va_up M25 a29 (some (.inl (0, 20, .inl (fun _ => 0)))) → (∃ M32 : Hp, pF M31 self 1 5 (.ref a29) M32 ∧ (∀ a36 : Nat, M32 a36 = none → ∀ M38 : Hp, M38 = va_up M32 a36 (some (.inl (0, 20, .inl (fun _ => 0)))) → (∃ M39 : Hp, pF M38 self 1 6 (.ref a36) M39 ∧ (∀ a43 : Nat, M39 a43 = none → ∀ M45 : Hp, M45 = va_up M39 a43 (some (.inl (1, 81, .inl (fun _ => 0)))) → (∃ M46 : Hp, pF M45 self 1 7 (.ref a43) M46 ∧ (∀ a50 : Nat, (∀ i : Nat, M46 (a50 + i) = none) → ∀ M52 : Hp, M52 = mnaM M46 a50 8 80 → (∃ M53 : Hp, pF M52 self 1 8 (.ref a50) M53 ∧ (∃ M57 : Hp, pF M53 self 1 9 (.int (0 : Int32)) M57 ∧ (∃ M61 : Hp, pF M57 self 1 10 (.int (0 : Int32)) M61 ∧ (∃ M65 : Hp, pF M61 self 1 11 (.int (0 : Int32)) M65 ∧ (∃ M69 : Hp, pF M65 self 1 0 (.int (if (1 : Int32) < p0 then p0 else (1 : Int32))) M69 ∧ (post M69)))))))))))))))))))))
set_option maxRecDepth 100000 in
set_option maxHeartbeats 4000000 in
theorem eSt_init {p : Program} {l : Launch} {e : Env} {s : State} {m : MethodId} {args : Array Value} {below : List Frame} {meth : Method} {c : Code} {D : va_G} {κ : Nat → ClassId} {A : Nat → Prop} (C : Cx_St_init p s m args meth c D κ A) (post : Hp → Prop) (self : Nat) (p0 : Int32) (M : Hp) (hwp : wpSt_init self p0 M post) : Y p l e rm_St_init s m args below meth c D kCl (hTys κ) A 2 0 0 (MQ below (va_Qv post (hB D kCl (hTys κ) A) A) args s 16 969 A) M 0 [(0, .ref self), (1, .int p0)] [] := by
  obtain ⟨hx, hb, hml, hr, hown, hts, hlocks, hE, hA, hin⟩ := id C
  have hK := hE.1
  intro H locs ls hM hS hl
  unfold wpSt_init at hwp
  refine lv_aload_n hx hb d_St_init_0 rfl (lv_at hl 0 rfl) ?_
  refine W.objInit hx hb hown (hts _ kw_106) (hts _ kw_22) (hts _ kw_23) rfl (by rw [hml]; exact hl.1) rfl d_St_init_1 (Nat.le_of_ble_eq_true rfl) (Nat.le_of_ble_eq_true rfl) ?_
  refine (show W _ _ _ _ _ _ _ _ _ _ _ _ _ _ _ (F0 _ 4 _ []) from ?_)
  refine lv_aload_n hx hb d_St_init_4 rfl (lv_at hl 0 rfl) ?_
  refine lv_bipush (v := 60) hx hb d_St_init_5 (by decide) ?_
  refine h_newa (atype := .int) (t := 0) (N' := 60) (a0 := (60, .inl (fun _ => 0))) hx hb (hts _ kw_55) hK hM hS hA rfl (fun _ => rfl) (by decide) (by decide) (by decide) (Nat.le_of_ble_eq_true rfl) (Nat.le_of_ble_eq_true rfl) d_St_init_7 (fun a1 H hq2 hM hS => ?_)
  obtain ⟨M3, eM3⟩ : ∃ z : Hp, z = va_up M a1 (some (.inl (0, 60, .inl (fun _ => 0)))) := ⟨_, rfl⟩
  rw [← eM3] at hM
  replace hwp := hwp a1 hq2 M3 eM3
  obtain ⟨M4, ⟨fs5, he6, hl7, eM4⟩, hwp⟩ := hwp
  refine h_putF (C := "BuckTables$Stem") (T := Tc1) (N := 12) (v := .ref a1) (ty := .array .int) hx hb hts inc1 tyc1 tyc1_ok nmc1 hown hK hM hS he6 rfl 1 (by decide) (hts _ kw_111) (fun _ h9 => h9) rfl hin rfl (by decide +kernel) rfl rfl hl7 d_St_init_9 (fun H locs hM hS => ?_)
  rw [← eM4] at hM
  refine lv_aload_n hx hb d_St_init_12 rfl (lv_at hl 0 rfl) ?_
  refine lv_bipush (v := 60) hx hb d_St_init_13 (by decide) ?_
  refine h_newa (atype := .int) (t := 0) (N' := 60) (a0 := (60, .inl (fun _ => 0))) hx hb (hts _ kw_55) hK hM hS hA rfl (fun _ => rfl) (by decide) (by decide) (by decide) (Nat.le_of_ble_eq_true rfl) (Nat.le_of_ble_eq_true rfl) d_St_init_15 (fun a8 H hq9 hM hS => ?_)
  obtain ⟨M10, eM10⟩ : ∃ z : Hp, z = va_up M4 a8 (some (.inl (0, 60, .inl (fun _ => 0)))) := ⟨_, rfl⟩
  rw [← eM10] at hM
  replace hwp := hwp a8 hq9 M10 eM10
  obtain ⟨M11, ⟨fs12, he13, hl14, eM11⟩, hwp⟩ := hwp
  refine h_putF (C := "BuckTables$Stem") (T := Tc1) (N := 12) (v := .ref a8) (ty := .array .int) hx hb hts inc1 tyc1 tyc1_ok nmc1 hown hK hM hS he13 rfl 2 (by decide) (hts _ kw_112) (fun _ h9 => h9) rfl hin rfl (by decide +kernel) rfl rfl hl14 d_St_init_17 (fun H locs hM hS => ?_)
  rw [← eM11] at hM
  refine lv_aload_n hx hb d_St_init_20 rfl (lv_at hl 0 rfl) ?_
  refine lv_bipush (v := 60) hx hb d_St_init_21 (by decide) ?_
  refine h_newa (atype := .int) (t := 0) (N' := 60) (a0 := (60, .inl (fun _ => 0))) hx hb (hts _ kw_55) hK hM hS hA rfl (fun _ => rfl) (by decide) (by decide) (by decide) (Nat.le_of_ble_eq_true rfl) (Nat.le_of_ble_eq_true rfl) d_St_init_23 (fun a15 H hq16 hM hS => ?_)
  obtain ⟨M17, eM17⟩ : ∃ z : Hp, z = va_up M11 a15 (some (.inl (0, 60, .inl (fun _ => 0)))) := ⟨_, rfl⟩
  rw [← eM17] at hM
  replace hwp := hwp a15 hq16 M17 eM17
  obtain ⟨M18, ⟨fs19, he20, hl21, eM18⟩, hwp⟩ := hwp
  refine h_putF (C := "BuckTables$Stem") (T := Tc1) (N := 12) (v := .ref a15) (ty := .array .int) hx hb hts inc1 tyc1 tyc1_ok nmc1 hown hK hM hS he20 rfl 3 (by decide) (hts _ kw_113) (fun _ h9 => h9) rfl hin rfl (by decide +kernel) rfl rfl hl21 d_St_init_25 (fun H locs hM hS => ?_)
  rw [← eM18] at hM
  refine lv_aload_n hx hb d_St_init_28 rfl (lv_at hl 0 rfl) ?_
  refine lv_bipush (v := 20) hx hb d_St_init_29 (by decide) ?_
  refine h_newa (atype := .int) (t := 0) (N' := 20) (a0 := (20, .inl (fun _ => 0))) hx hb (hts _ kw_55) hK hM hS hA rfl (fun _ => rfl) (by decide) (by decide) (by decide) (Nat.le_of_ble_eq_true rfl) (Nat.le_of_ble_eq_true rfl) d_St_init_31 (fun a22 H hq23 hM hS => ?_)
  obtain ⟨M24, eM24⟩ : ∃ z : Hp, z = va_up M18 a22 (some (.inl (0, 20, .inl (fun _ => 0)))) := ⟨_, rfl⟩
  rw [← eM24] at hM
  replace hwp := hwp a22 hq23 M24 eM24
  obtain ⟨M25, ⟨fs26, he27, hl28, eM25⟩, hwp⟩ := hwp
  refine h_putF (C := "BuckTables$Stem") (T := Tc1) (N := 12) (v := .ref a22) (ty := .array .int) hx hb hts inc1 tyc1 tyc1_ok nmc1 hown hK hM hS he27 rfl 4 (by decide) (hts _ kw_114) (fun _ h9 => h9) rfl hin rfl (by decide +kernel) rfl rfl hl28 d_St_init_33 (fun H locs hM hS => ?_)
  rw [← eM25] at hM
  refine lv_aload_n hx hb d_St_init_36 rfl (lv_at hl 0 rfl) ?_
  refine lv_bipush (v := 20) hx hb d_St_init_37 (by decide) ?_
  refine h_newa (atype := .int) (t := 0) (N' := 20) (a0 := (20, .inl (fun _ => 0))) hx hb (hts _ kw_55) hK hM hS hA rfl (fun _ => rfl) (by decide) (by decide) (by decide) (Nat.le_of_ble_eq_true rfl) (Nat.le_of_ble_eq_true rfl) d_St_init_39 (fun a29 H hq30 hM hS => ?_)
  obtain ⟨M31, eM31⟩ : ∃ z : Hp, z = va_up M25 a29 (some (.inl (0, 20, .inl (fun _ => 0)))) := ⟨_, rfl⟩
  rw [← eM31] at hM
  replace hwp := hwp a29 hq30 M31 eM31
  obtain ⟨M32, ⟨fs33, he34, hl35, eM32⟩, hwp⟩ := hwp
  refine h_putF (C := "BuckTables$Stem") (T := Tc1) (N := 12) (v := .ref a29) (ty := .array .int) hx hb hts inc1 tyc1 tyc1_ok nmc1 hown hK hM hS he34 rfl 5 (by decide) (hts _ kw_115) (fun _ h9 => h9) rfl hin rfl (by decide +kernel) rfl rfl hl35 d_St_init_41 (fun H locs hM hS => ?_)
  rw [← eM32] at hM
  refine lv_aload_n hx hb d_St_init_44 rfl (lv_at hl 0 rfl) ?_
  refine lv_bipush (v := 20) hx hb d_St_init_45 (by decide) ?_
  refine h_newa (atype := .int) (t := 0) (N' := 20) (a0 := (20, .inl (fun _ => 0))) hx hb (hts _ kw_55) hK hM hS hA rfl (fun _ => rfl) (by decide) (by decide) (by decide) (Nat.le_of_ble_eq_true rfl) (Nat.le_of_ble_eq_true rfl) d_St_init_47 (fun a36 H hq37 hM hS => ?_)
  obtain ⟨M38, eM38⟩ : ∃ z : Hp, z = va_up M32 a36 (some (.inl (0, 20, .inl (fun _ => 0)))) := ⟨_, rfl⟩
  rw [← eM38] at hM
  replace hwp := hwp a36 hq37 M38 eM38
  obtain ⟨M39, ⟨fs40, he41, hl42, eM39⟩, hwp⟩ := hwp
  refine h_putF (C := "BuckTables$Stem") (T := Tc1) (N := 12) (v := .ref a36) (ty := .array .int) hx hb hts inc1 tyc1 tyc1_ok nmc1 hown hK hM hS he41 rfl 6 (by decide) (hts _ kw_116) (fun _ h9 => h9) rfl hin rfl (by decide +kernel) rfl rfl hl42 d_St_init_49 (fun H locs hM hS => ?_)
  rw [← eM39] at hM
  refine lv_aload_n hx hb d_St_init_52 rfl (lv_at hl 0 rfl) ?_
  refine lv_bipush (v := 81) hx hb d_St_init_53 (by decide) ?_
  refine h_newa (atype := .boolean) (t := 1) (N' := 81) (a0 := (81, .inl (fun _ => 0))) hx hb (hts _ kw_94) hK hM hS hA rfl (fun _ => rfl) (by decide) (by decide) (by decide) (Nat.le_of_ble_eq_true rfl) (Nat.le_of_ble_eq_true rfl) d_St_init_55 (fun a43 H hq44 hM hS => ?_)
  obtain ⟨M45, eM45⟩ : ∃ z : Hp, z = va_up M39 a43 (some (.inl (1, 81, .inl (fun _ => 0)))) := ⟨_, rfl⟩
  rw [← eM45] at hM
  replace hwp := hwp a43 hq44 M45 eM45
  obtain ⟨M46, ⟨fs47, he48, hl49, eM46⟩, hwp⟩ := hwp
  refine h_putF (C := "BuckTables$Stem") (T := Tc1) (N := 12) (v := .ref a43) (ty := .array .boolean) hx hb hts inc1 tyc1 tyc1_ok nmc1 hown hK hM hS he48 rfl 7 (by decide) (hts _ kw_117) (fun _ h9 => h9) rfl hin rfl (by decide +kernel) rfl rfl hl49 d_St_init_57 (fun H locs hM hS => ?_)
  rw [← eM46] at hM
  refine lv_aload_n hx hb d_St_init_60 rfl (lv_at hl 0 rfl) ?_
  refine lv_bipush (v := 8) hx hb d_St_init_61 (by decide) ?_
  refine lv_bipush (v := 80) hx hb d_St_init_63 (by decide) ?_
  refine h_mna (N' := 8) (K' := 80) hx hb hown (hts _ kw_107) (z_aoI hE.2 (List.mem_append_right _ (List.mem_of_getElem? (i := 108) (by decide +kernel))) _) (hts _ kw_55) hK hM hS hA rfl rfl (by decide) (by decide) (by decide) (by decide) (by decide) (by decide) (Nat.le_of_ble_eq_true rfl) (Nat.le_of_ble_eq_true rfl) d_St_init_65 (fun a50 H hq51 hM hS => ?_)
  obtain ⟨M52, eM52⟩ : ∃ z : Hp, z = mnaM M46 a50 8 80 := ⟨_, rfl⟩
  rw [← eM52] at hM
  replace hwp := hwp a50 hq51 M52 eM52
  obtain ⟨M53, ⟨fs54, he55, hl56, eM53⟩, hwp⟩ := hwp
  refine h_putF (C := "BuckTables$Stem") (T := Tc1) (N := 12) (v := .ref a50) (ty := .array (.array .int)) hx hb hts inc1 tyc1 tyc1_ok nmc1 hown hK hM hS he55 rfl 8 (by decide) (hts _ kw_119) (fun _ h9 => h9) rfl hin rfl (by decide +kernel) rfl rfl hl56 d_St_init_69 (fun H locs hM hS => ?_)
  rw [← eM53] at hM
  refine lv_aload_n hx hb d_St_init_72 rfl (lv_at hl 0 rfl) ?_
  refine lv_iconst (v := 0) hx hb d_St_init_73 (by decide) ?_
  obtain ⟨M57, ⟨fs58, he59, hl60, eM57⟩, hwp⟩ := hwp
  refine h_put (C := "BuckTables$Stem") (T := Tc1) (N := 12) (v := .int (0 : Int32)) (ty := .int) hx hb hts inc1 tyc1 tyc1_ok nmc1 hown hK hM hS he59 rfl 9 (by decide) (hts _ kw_121) (fun _ h9 => h9) rfl (by decide +kernel) rfl rfl hl60 d_St_init_74 (fun H locs hM hS => ?_)
  rw [← eM57] at hM
  refine lv_aload_n hx hb d_St_init_77 rfl (lv_at hl 0 rfl) ?_
  refine lv_iconst (v := 0) hx hb d_St_init_78 (by decide) ?_
  obtain ⟨M61, ⟨fs62, he63, hl64, eM61⟩, hwp⟩ := hwp
  refine h_put (C := "BuckTables$Stem") (T := Tc1) (N := 12) (v := .int (0 : Int32)) (ty := .int) hx hb hts inc1 tyc1 tyc1_ok nmc1 hown hK hM hS he63 rfl 10 (by decide) (hts _ kw_123) (fun _ h9 => h9) rfl (by decide +kernel) rfl rfl hl64 d_St_init_79 (fun H locs hM hS => ?_)
  rw [← eM61] at hM
  refine lv_aload_n hx hb d_St_init_82 rfl (lv_at hl 0 rfl) ?_
  refine lv_iconst (v := 0) hx hb d_St_init_83 (by decide) ?_
  obtain ⟨M65, ⟨fs66, he67, hl68, eM65⟩, hwp⟩ := hwp
  refine h_put (C := "BuckTables$Stem") (T := Tc1) (N := 12) (v := .int (0 : Int32)) (ty := .int) hx hb hts inc1 tyc1 tyc1_ok nmc1 hown hK hM hS he67 rfl 11 (by decide) (hts _ kw_125) (fun _ h9 => h9) rfl (by decide +kernel) rfl rfl hl68 d_St_init_84 (fun H locs hM hS => ?_)
  rw [← eM65] at hM
  refine lv_aload_n hx hb d_St_init_87 rfl (lv_at hl 0 rfl) ?_
  refine lv_iconst (v := 1) hx hb d_St_init_88 (by decide) ?_
  refine lv_iload_n hx hb d_St_init_89 rfl (lv_at hl 1 rfl) ?_
  refine va_mmax hx hb (show c.maxLocals = ls.size by rw [hml, hl.1]) hown (hts _ kw_109) (hts _ kw_100) (hts _ kw_5) (hts _ kw_101) (Nat.le_of_ble_eq_true rfl) (Nat.le_of_ble_eq_true rfl) (Nat.le_of_ble_eq_true rfl) (Nat.le_of_ble_eq_true rfl) d_St_init_90 ?_
  obtain ⟨M69, ⟨fs70, he71, hl72, eM69⟩, hwp⟩ := hwp
  refine h_putF (C := "BuckTables$Stem") (T := Tc1) (N := 12) (v := .int (if (1 : Int32) < p0 then p0 else (1 : Int32))) (ty := .int) hx hb hts inc1 tyc1 tyc1_ok nmc1 hown hK hM hS he71 rfl 0 (by decide) (hts _ kw_110) (fun _ h9 => h9) rfl hin rfl (by decide +kernel) rfl rfl hl72 d_St_init_93 (fun H locs hM hS => ?_)
  rw [← eM69] at hM
  exact W.vret hx hb hr (fun t ht hW => ⟨⟨M69, rfl, hwp, by show hw D kCl (hTys κ) A M69 t.heap; rw [ht]; exact hM⟩, hS.F ht⟩) hS.2.2 d_St_init_96
set_option maxRecDepth 100000 in
set_option maxHeartbeats 4000000 in
theorem metSt_init (l : Launch) (D : va_G) (κ : Nat → ClassId) (sz : Nat) (self : Nat) (p0 : Int32) (M : Hp) (post : Hp → Prop) (hwp : wpSt_init self p0 M post) : Met l y_St_init ws_St_init rm_St_init (hPc D kCl (hTys κ) M sz [.ref self, .int p0]) (va_Qv post (hB D kCl (hTys κ) (hAx M sz)) (hAx M sz)) 16 969 (hAx M sz) := by
  refine Met.ofW (cc := prog_5_method_1_code) (maxL := 2) (ret := none) (by decide +kernel) rfl ?_
  intro p e s m args below meth c s₁ B hml hv
  obtain ⟨rfl, hsz, hE, hM0⟩ := hv
  have hts : ∀ w ∈ WG, w.before _ s = true := fun w h => atoms_spec (ws := ws_St_init) B.pre w (List.mem_cons_of_mem _ h)
  subst hsz
  have C : Cx_St_init p s m _ meth c D κ (hAx M s.heap.size) := ⟨B.exec, B.bytes, hml, B.returns, findClass_of_methodNamed B.named, hts, B.notSynchronized, hE, fun q h => Or.inr h, (name_of_methodNamed B.named B.method).1⟩
  have hl := lv_entry ([.ref self, .int p0]) (n := 2) (Nat.le_of_ble_eq_true rfl)
  rw [lg_entry_eq]
  generalize (lg_sl ([.ref self, .int p0]) ++ List.replicate (2 - (lg_sl ([.ref self, .int p0])).length) Slot.unset).toArray = ls at hl ⊢
  exact eSt_init C post self p0 M hwp s.heap [] ls (hM0.self (sz := s.heap.size)) va_S.rf hl
abbrev rm_Pr_init : Room := { frames := 1, cells := 2, slots := 15, locals := 23 }
def Cx_Pr_init (p : Program) (s : State) (m : MethodId) (args : Array Value) (meth : Method) (c : Code) (D : va_G) (κ : Nat → ClassId) (A : Nat → Prop) : Prop := p.tables.exec = Jvm.exec ∧ c.code = prog_4_method_1_code ∧ c.maxLocals = 2 ∧ meth.sig.returnType = none ∧ s.vm.findClass "BuckTables$Product" = some m.cls ∧ (∀ w ∈ WG, w.before args s = true) ∧ meth.locks = false ∧ hEnv D kCl (hTys κ) A s ∧ (∀ q, s.heap.size ≤ q → A q) ∧ meth.name = "<init>"
def wpPr_init (self : Nat) (p0 : Int32) (M : Hp) (post : Hp → Prop) : Prop := (∀ a1 : Nat, M a1 = none → ∀ M3 : Hp, M3 = va_up M a1 (some (.inl (1, 8, .inl (fun _ => 0)))) → (∃ M4 : Hp, pF M3 self 2 1 (.ref a1) M4 ∧ (∀ a8 : Nat, M4 a8 = none → ∀ M10 : Hp, M10 = va_up M4 a8 (some (.inl (2, 7, .inr (.inl (fun _ => 0))))) → (∃ M11 : Hp, pF M10 self 2 2 (.ref a8) M11 ∧ (∃ M15 : Hp, pF M11 self 2 3 (.int (0 : Int32)) M15 ∧ (∃ M19 : Hp, pF M15 self 2 4 (.int (0 : Int32)) M19 ∧ (∃ M23 : Hp, pF M19 self 2 5 (.int (0 : Int32)) M23 ∧ (∃ M27 : Hp, pF M23 self 2 6 (.int (0 : Int32)) M27 ∧ (∃ M31 : Hp, pF M27 self 2 7 (.long (0 : Int64)) M31 ∧ (∃ M35 : Hp, pF M31 self 2 8 (.long (-1 : Int64)) M35 ∧ (∃ M39 : Hp, pF M35 self 2 9 (.long (0 : Int64)) M39 ∧ (∃ M43 : Hp, pF M39 self 2 0 (.int (if (1 : Int32) < p0 then p0 else (1 : Int32))) M43 ∧ (post M43)))))))))))))
set_option maxRecDepth 100000 in
set_option maxHeartbeats 4000000 in
theorem ePr_init {p : Program} {l : Launch} {e : Env} {s : State} {m : MethodId} {args : Array Value} {below : List Frame} {meth : Method} {c : Code} {D : va_G} {κ : Nat → ClassId} {A : Nat → Prop} (C : Cx_Pr_init p s m args meth c D κ A) (post : Hp → Prop) (self : Nat) (p0 : Int32) (M : Hp) (hwp : wpPr_init self p0 M post) : Y p l e rm_Pr_init s m args below meth c D kCl (hTys κ) A 2 0 0 (MQ below (va_Qv post (hB D kCl (hTys κ) A) A) args s 2 15 A) M 0 [(0, .ref self), (1, .int p0)] [] := by
  obtain ⟨hx, hb, hml, hr, hown, hts, hlocks, hE, hA, hin⟩ := id C
  have hK := hE.1
  intro H locs ls hM hS hl
  unfold wpPr_init at hwp
  refine lv_aload_n hx hb d_Pr_init_0 rfl (lv_at hl 0 rfl) ?_
  refine W.objInit hx hb hown (hts _ kw_156) (hts _ kw_22) (hts _ kw_23) rfl (by rw [hml]; exact hl.1) rfl d_Pr_init_1 (Nat.le_of_ble_eq_true rfl) (Nat.le_of_ble_eq_true rfl) ?_
  refine (show W _ _ _ _ _ _ _ _ _ _ _ _ _ _ _ (F0 _ 4 _ []) from ?_)
  refine lv_aload_n hx hb d_Pr_init_4 rfl (lv_at hl 0 rfl) ?_
  refine lv_bipush (v := 8) hx hb d_Pr_init_5 (by decide) ?_
  refine h_newa (atype := .boolean) (t := 1) (N' := 8) (a0 := (8, .inl (fun _ => 0))) hx hb (hts _ kw_94) hK hM hS hA rfl (fun _ => rfl) (by decide) (by decide) (by decide) (Nat.le_of_ble_eq_true rfl) (Nat.le_of_ble_eq_true rfl) d_Pr_init_7 (fun a1 H hq2 hM hS => ?_)
  obtain ⟨M3, eM3⟩ : ∃ z : Hp, z = va_up M a1 (some (.inl (1, 8, .inl (fun _ => 0)))) := ⟨_, rfl⟩
  rw [← eM3] at hM
  replace hwp := hwp a1 hq2 M3 eM3
  obtain ⟨M4, ⟨fs5, he6, hl7, eM4⟩, hwp⟩ := hwp
  refine h_putF (C := "BuckTables$Product") (T := Tc2) (N := 10) (v := .ref a1) (ty := .array .boolean) hx hb hts inc2 tyc2 tyc2_ok nmc2 hown hK hM hS he6 rfl 1 (by decide) (hts _ kw_160) (fun _ h9 => h9) rfl hin rfl (by decide +kernel) rfl rfl hl7 d_Pr_init_9 (fun H locs hM hS => ?_)
  rw [← eM4] at hM
  refine lv_aload_n hx hb d_Pr_init_12 rfl (lv_at hl 0 rfl) ?_
  refine lv_bipush (v := 7) hx hb d_Pr_init_13 (by decide) ?_
  refine h_newa (atype := .long) (t := 2) (N' := 7) (a0 := (7, .inr (.inl (fun _ => 0)))) hx hb (hts _ kw_54) hK hM hS hA rfl (fun _ => rfl) (by decide) (by decide) (by decide) (Nat.le_of_ble_eq_true rfl) (Nat.le_of_ble_eq_true rfl) d_Pr_init_15 (fun a8 H hq9 hM hS => ?_)
  obtain ⟨M10, eM10⟩ : ∃ z : Hp, z = va_up M4 a8 (some (.inl (2, 7, .inr (.inl (fun _ => 0))))) := ⟨_, rfl⟩
  rw [← eM10] at hM
  replace hwp := hwp a8 hq9 M10 eM10
  obtain ⟨M11, ⟨fs12, he13, hl14, eM11⟩, hwp⟩ := hwp
  refine h_putF (C := "BuckTables$Product") (T := Tc2) (N := 10) (v := .ref a8) (ty := .array .long) hx hb hts inc2 tyc2 tyc2_ok nmc2 hown hK hM hS he13 rfl 2 (by decide) (hts _ kw_163) (fun _ h9 => h9) rfl hin rfl (by decide +kernel) rfl rfl hl14 d_Pr_init_17 (fun H locs hM hS => ?_)
  rw [← eM11] at hM
  refine lv_aload_n hx hb d_Pr_init_20 rfl (lv_at hl 0 rfl) ?_
  refine lv_iconst (v := 0) hx hb d_Pr_init_21 (by decide) ?_
  obtain ⟨M15, ⟨fs16, he17, hl18, eM15⟩, hwp⟩ := hwp
  refine h_put (C := "BuckTables$Product") (T := Tc2) (N := 10) (v := .int (0 : Int32)) (ty := .int) hx hb hts inc2 tyc2 tyc2_ok nmc2 hown hK hM hS he17 rfl 3 (by decide) (hts _ kw_166) (fun _ h9 => h9) rfl (by decide +kernel) rfl rfl hl18 d_Pr_init_22 (fun H locs hM hS => ?_)
  rw [← eM15] at hM
  refine lv_aload_n hx hb d_Pr_init_25 rfl (lv_at hl 0 rfl) ?_
  refine lv_iconst (v := 0) hx hb d_Pr_init_26 (by decide) ?_
  obtain ⟨M19, ⟨fs20, he21, hl22, eM19⟩, hwp⟩ := hwp
  refine h_put (C := "BuckTables$Product") (T := Tc2) (N := 10) (v := .int (0 : Int32)) (ty := .int) hx hb hts inc2 tyc2 tyc2_ok nmc2 hown hK hM hS he21 rfl 4 (by decide) (hts _ kw_168) (fun _ h9 => h9) rfl (by decide +kernel) rfl rfl hl22 d_Pr_init_27 (fun H locs hM hS => ?_)
  rw [← eM19] at hM
  refine lv_aload_n hx hb d_Pr_init_30 rfl (lv_at hl 0 rfl) ?_
  refine lv_iconst (v := 0) hx hb d_Pr_init_31 (by decide) ?_
  obtain ⟨M23, ⟨fs24, he25, hl26, eM23⟩, hwp⟩ := hwp
  refine h_put (C := "BuckTables$Product") (T := Tc2) (N := 10) (v := .int (0 : Int32)) (ty := .int) hx hb hts inc2 tyc2 tyc2_ok nmc2 hown hK hM hS he25 rfl 5 (by decide) (hts _ kw_170) (fun _ h9 => h9) rfl (by decide +kernel) rfl rfl hl26 d_Pr_init_32 (fun H locs hM hS => ?_)
  rw [← eM23] at hM
  refine lv_aload_n hx hb d_Pr_init_35 rfl (lv_at hl 0 rfl) ?_
  refine lv_iconst (v := 0) hx hb d_Pr_init_36 (by decide) ?_
  obtain ⟨M27, ⟨fs28, he29, hl30, eM27⟩, hwp⟩ := hwp
  refine h_put (C := "BuckTables$Product") (T := Tc2) (N := 10) (v := .int (0 : Int32)) (ty := .int) hx hb hts inc2 tyc2 tyc2_ok nmc2 hown hK hM hS he29 rfl 6 (by decide) (hts _ kw_172) (fun _ h9 => h9) rfl (by decide +kernel) rfl rfl hl30 d_Pr_init_37 (fun H locs hM hS => ?_)
  rw [← eM27] at hM
  refine lv_aload_n hx hb d_Pr_init_40 rfl (lv_at hl 0 rfl) ?_
  refine lv_lconst (v := 0) hx hb d_Pr_init_41 (by decide) ?_
  obtain ⟨M31, ⟨fs32, he33, hl34, eM31⟩, hwp⟩ := hwp
  refine h_put (C := "BuckTables$Product") (T := Tc2) (N := 10) (v := .long (0 : Int64)) (ty := .long) hx hb hts inc2 tyc2 tyc2_ok nmc2 hown hK hM hS he33 rfl 7 (by decide) (hts _ kw_174) (fun _ h9 => h9) rfl (by decide +kernel) rfl rfl hl34 d_Pr_init_42 (fun H locs hM hS => ?_)
  rw [← eM31] at hM
  refine lv_aload_n hx hb d_Pr_init_45 rfl (lv_at hl 0 rfl) ?_
  refine lv_ldc2 (v := (-1)) hx hb hown (hts _ kw_157) d_Pr_init_46 ?_
  obtain ⟨M35, ⟨fs36, he37, hl38, eM35⟩, hwp⟩ := hwp
  refine h_put (C := "BuckTables$Product") (T := Tc2) (N := 10) (v := .long (-1 : Int64)) (ty := .long) hx hb hts inc2 tyc2 tyc2_ok nmc2 hown hK hM hS he37 rfl 8 (by decide) (hts _ kw_176) (fun _ h9 => h9) rfl (by decide +kernel) rfl rfl hl38 d_Pr_init_49 (fun H locs hM hS => ?_)
  rw [← eM35] at hM
  refine lv_aload_n hx hb d_Pr_init_52 rfl (lv_at hl 0 rfl) ?_
  refine lv_lconst (v := 0) hx hb d_Pr_init_53 (by decide) ?_
  obtain ⟨M39, ⟨fs40, he41, hl42, eM39⟩, hwp⟩ := hwp
  refine h_put (C := "BuckTables$Product") (T := Tc2) (N := 10) (v := .long (0 : Int64)) (ty := .long) hx hb hts inc2 tyc2 tyc2_ok nmc2 hown hK hM hS he41 rfl 9 (by decide) (hts _ kw_178) (fun _ h9 => h9) rfl (by decide +kernel) rfl rfl hl42 d_Pr_init_54 (fun H locs hM hS => ?_)
  rw [← eM39] at hM
  refine lv_aload_n hx hb d_Pr_init_57 rfl (lv_at hl 0 rfl) ?_
  refine lv_iconst (v := 1) hx hb d_Pr_init_58 (by decide) ?_
  refine lv_iload_n hx hb d_Pr_init_59 rfl (lv_at hl 1 rfl) ?_
  refine va_mmax hx hb (show c.maxLocals = ls.size by rw [hml, hl.1]) hown (hts _ kw_158) (hts _ kw_100) (hts _ kw_5) (hts _ kw_101) (Nat.le_of_ble_eq_true rfl) (Nat.le_of_ble_eq_true rfl) (Nat.le_of_ble_eq_true rfl) (Nat.le_of_ble_eq_true rfl) d_Pr_init_60 ?_
  obtain ⟨M43, ⟨fs44, he45, hl46, eM43⟩, hwp⟩ := hwp
  refine h_putF (C := "BuckTables$Product") (T := Tc2) (N := 10) (v := .int (if (1 : Int32) < p0 then p0 else (1 : Int32))) (ty := .int) hx hb hts inc2 tyc2 tyc2_ok nmc2 hown hK hM hS he45 rfl 0 (by decide) (hts _ kw_159) (fun _ h9 => h9) rfl hin rfl (by decide +kernel) rfl rfl hl46 d_Pr_init_63 (fun H locs hM hS => ?_)
  rw [← eM43] at hM
  exact W.vret hx hb hr (fun t ht hW => ⟨⟨M43, rfl, hwp, by show hw D kCl (hTys κ) A M43 t.heap; rw [ht]; exact hM⟩, hS.F ht⟩) hS.2.2 d_Pr_init_66
set_option maxRecDepth 100000 in
set_option maxHeartbeats 4000000 in
theorem metPr_init (l : Launch) (D : va_G) (κ : Nat → ClassId) (sz : Nat) (self : Nat) (p0 : Int32) (M : Hp) (post : Hp → Prop) (hwp : wpPr_init self p0 M post) : Met l y_Pr_init ws_Pr_init rm_Pr_init (hPc D kCl (hTys κ) M sz [.ref self, .int p0]) (va_Qv post (hB D kCl (hTys κ) (hAx M sz)) (hAx M sz)) 2 15 (hAx M sz) := by
  refine Met.ofW (cc := prog_4_method_1_code) (maxL := 2) (ret := none) (by decide +kernel) rfl ?_
  intro p e s m args below meth c s₁ B hml hv
  obtain ⟨rfl, hsz, hE, hM0⟩ := hv
  have hts : ∀ w ∈ WG, w.before _ s = true := fun w h => atoms_spec (ws := ws_Pr_init) B.pre w (List.mem_cons_of_mem _ h)
  subst hsz
  have C : Cx_Pr_init p s m _ meth c D κ (hAx M s.heap.size) := ⟨B.exec, B.bytes, hml, B.returns, findClass_of_methodNamed B.named, hts, B.notSynchronized, hE, fun q h => Or.inr h, (name_of_methodNamed B.named B.method).1⟩
  have hl := lv_entry ([.ref self, .int p0]) (n := 2) (Nat.le_of_ble_eq_true rfl)
  rw [lg_entry_eq]
  generalize (lg_sl ([.ref self, .int p0]) ++ List.replicate (2 - (lg_sl ([.ref self, .int p0])).length) Slot.unset).toArray = ls at hl ⊢
  exact ePr_init C post self p0 M hwp s.heap [] ls (hM0.self (sz := s.heap.size)) va_S.rf hl
abbrev rm_BT_init : Room := { frames := 3, cells := 200, slots := 20000, locals := 61 }
def Cx_BT_init (p : Program) (s : State) (m : MethodId) (args : Array Value) (meth : Method) (c : Code) (D : va_G) (κ : Nat → ClassId) (A : Nat → Prop) : Prop := p.tables.exec = Jvm.exec ∧ c.code = prog_1_method_1_code ∧ c.maxLocals = 4 ∧ meth.sig.returnType = none ∧ s.vm.findClass "BuckTables" = some m.cls ∧ (∀ w ∈ WG, w.before args s = true) ∧ meth.locks = false ∧ hEnv D kCl (hTys κ) A s ∧ (∀ q, s.heap.size ≤ q → A q) ∧ meth.name = "<init>"
def wBT_init_131 (post : Hp → Prop)  : Nat → Nat → Int32 → Int32 → Nat → Nat → Hp → Prop
  | 0 => fun _ _ _ _ _ _ => False
  | n + 1 => fun x0 x2 x3 kc ks M => (((8 : Int32) ≤ x3 → (kc ≤ 200 ∧ ks ≤ 20000 ∧ post M)) ∧ (¬ (8 : Int32) ≤ x3 → (∃ a4 : Nat, fA M x0 0 1 a4 ∧ (kc + 1 ≤ 200 ∧ ks + 10 ≤ 20000 ∧ (∀ a10 : Nat, M a10 = none → ∀ M12 : Hp, M12 = va_up M a10 (some (.inr (2, [.int 0, .null, .null, .int 0, .int 0, .int 0, .int 0, .long 0, .long 0, .long 0]))) → ((kc + 1) + 2 ≤ 200 ∧ (ks + 10) + 15 ≤ 20000 ∧ (wpPr_init a10 x2 M12 (fun (M13 : Hp) => (∃ M21 : Hp, sA 4 2 M13 a4 x3 a10 M21 ∧ (∀ z22 : Int32, z22 = x3 + 1 → ((wBT_init_131 post n) x0 x2 z22 ((kc + 1) + 2) ((ks + 10) + 15) M21)))))))))))
set_option maxRecDepth 100000 in
set_option maxHeartbeats 4000000 in
theorem tBT_init_131 {p : Program} {l : Launch} {e : Env} {s : State} {m : MethodId} {args : Array Value} {below : List Frame} {meth : Method} {c : Code} {D : va_G} {κ : Nat → ClassId} {A : Nat → Prop} (C : Cx_BT_init p s m args meth c D κ A) (post : Hp → Prop)  : ∀ (n : Nat) (x0 : Nat) (x2 : Int32) (x3 : Int32) (kc : Nat) (ks : Nat) (M : Hp), wBT_init_131 post n x0 x2 x3 kc ks M → Y p l e rm_BT_init s m args below meth c D kCl (hTys κ) A 4 kc ks (MQ below (va_Qv post (hB D kCl (hTys κ) A) A) args s 200 20000 A) M 131 [(0, .ref x0), (2, .int x2), (3, .int x3)] [] := by
  obtain ⟨hx, hb, hml, hr, hown, hts, hlocks, hE, hA, hin⟩ := id C
  have hK := hE.1
  intro n
  induction n with
  | zero => intro x0 x2 x3 kc ks M hwp; exact hwp.elim
  | succ n ih =>
    intro x0 x2 x3 kc ks M hwp H locs ls hM hS hl
    unfold wBT_init_131 at hwp
    refine lv_iload_n hx hb d_BT_init_131 rfl (lv_at hl 2 rfl) ?_
    refine lv_bipush (v := 8) hx hb d_BT_init_132 (by decide) ?_
    refine lv_icmp_ge (tgt := 157) hx hb d_BT_init_134 (by decide) (fun c1 => ?_) (fun c1 => ?_)
    · replace hwp := hwp.1 c1
      obtain ⟨hc2, hs3, hwp⟩ := hwp
      refine W.widen (k := 200) (n := 20000) hc2 hs3 ?_
      exact W.vret hx hb hr (fun t ht hW => ⟨⟨M, rfl, hwp, by show hw D kCl (hTys κ) A M t.heap; rw [ht]; exact hM⟩, hS.F ht⟩) hS.2.2 d_BT_init_157
    · replace hwp := hwp.2 c1
      refine lv_aload_n hx hb d_BT_init_137 rfl (lv_at hl 0 rfl) ?_
      obtain ⟨a4, ⟨fs5, he6, hv7⟩, hwp⟩ := hwp
      refine h_get (C := "BuckTables") (T := Tc0) (N := 12) hx hb hts inc0 hown hK hM he6 rfl 1 (by decide) (hts _ kw_203) (fun _ h9 => h9) hv7 d_BT_init_138 ?_
      refine lv_iload_n hx hb d_BT_init_141 rfl (lv_at hl 2 rfl) ?_
      obtain ⟨hc8, hs9, hwp⟩ := hwp
      refine h_new (C := "BuckTables$Product") (T := Tc2) (N := 10) (ci := 2) (fs := [.int 0, .null, .null, .int 0, .int 0, .int 0, .int 0, .long 0, .long 0, .long 0]) hx hb hts inc2 tyc2 tyc2_ok hown (hts _ kw_26) (hts _ kw_152) (hts _ kw_7) hK hM hS hA rfl dfc2 hc8 hs9 d_BT_init_142 (fun a10 H hq11 hM hS => ?_)
      obtain ⟨M12, eM12⟩ : ∃ z : Hp, z = va_up M a10 (some (.inr (2, [.int 0, .null, .null, .int 0, .int 0, .int 0, .int 0, .long 0, .long 0, .long 0]))) := ⟨_, rfl⟩
      rw [← eM12] at hM
      replace hwp := hwp a10 hq11 M12 eM12
      refine lv_dup hx hb d_BT_init_145 rfl ?_
      refine lv_iload_n hx hb d_BT_init_146 rfl (lv_at hl 1 rfl) ?_
      obtain ⟨hc14, hs15, hwp⟩ := hwp
      refine h_callv hM hS hA (va_runI (As := [.int x2]) (rest := [.ref a10, .int x3, .ref a4]) ⟨hx, hb, hml, hown, hts⟩ (metPr_init l D κ H.size a10 x2 M12 _ hwp) (cwI 1 hts (gC kw_155) rfl rfl rfl (hts _ kw_7) (hts _ kw_153) (hts _ kw_154) rfl (by decide +kernel) ⟨(Nat.le_of_ble_eq_true rfl), (Nat.le_of_ble_eq_true rfl)⟩) (h_preS hE hM hS) rfl rfl hl.1 rfl (lv_room (Nat.le_of_ble_eq_true rfl)) d_BT_init_147 ⟨hc14, hs15⟩) (fun M13 H locs hwp hM hS => ?_)
      obtain ⟨M21, ⟨n16, f17, ha18, hi19, ho20, eM21⟩, hwp⟩ := hwp
      refine h_aast (r := ("BuckTables$Product", Tc2, 10)) hx hb hK hM hS ha18 rfl ho20 rfl hi19 d_BT_init_150 (fun H locs hM hS => ?_)
      rw [← eM21] at hM
      obtain ⟨z22, ez22⟩ : ∃ y : Int32, y = x3 + 1 := ⟨_, rfl⟩
      replace hwp := hwp z22 ez22
      refine lv_iinc (v := z22) (lv' := [(3, .int z22), (0, .ref x0), (2, .int x2)]) hx hb d_BT_init_151 hl (k := 2) rfl (by rw [ez22]; rfl) (by decide) rfl (fun ls hl => ?_)
      refine lv_goto (tgt := 131) hx hb d_BT_init_154 (by decide) ?_
      exact ih x0 x2 z22 ((kc + 1) + 2) ((ks + 10) + 15) M21 hwp H locs ls hM hS (lv_sub hl [1, 2, 0] rfl)
def wBT_init_103 (post : Hp → Prop)  : Nat → Nat → Int32 → Int32 → Nat → Nat → Hp → Prop
  | 0 => fun _ _ _ _ _ _ => False
  | n + 1 => fun x0 x2 x3 kc ks M => (((6 : Int32) ≤ x3 → (∃ n24 : Nat, wBT_init_131 post n24 x0 x2 (0 : Int32) kc ks M)) ∧ (¬ (6 : Int32) ≤ x3 → (∃ a25 : Nat, fA M x0 0 0 a25 ∧ (kc + 1 ≤ 200 ∧ ks + 12 ≤ 20000 ∧ (∀ a31 : Nat, M a31 = none → ∀ M33 : Hp, M33 = va_up M a31 (some (.inr (1, [.int 0, .null, .null, .null, .null, .null, .null, .null, .null, .int 0, .int 0, .int 0]))) → ((kc + 1) + 16 ≤ 200 ∧ (ks + 12) + 969 ≤ 20000 ∧ (wpSt_init a31 x2 M33 (fun (M34 : Hp) => (∃ M42 : Hp, sA 3 1 M34 a25 x3 a31 M42 ∧ (∀ z43 : Int32, z43 = x3 + 1 → ((wBT_init_103 post n) x0 x2 z43 ((kc + 1) + 16) ((ks + 12) + 969) M42)))))))))))
set_option maxRecDepth 100000 in
set_option maxHeartbeats 4000000 in
theorem tBT_init_103 {p : Program} {l : Launch} {e : Env} {s : State} {m : MethodId} {args : Array Value} {below : List Frame} {meth : Method} {c : Code} {D : va_G} {κ : Nat → ClassId} {A : Nat → Prop} (C : Cx_BT_init p s m args meth c D κ A) (post : Hp → Prop)  : ∀ (n : Nat) (x0 : Nat) (x2 : Int32) (x3 : Int32) (kc : Nat) (ks : Nat) (M : Hp), wBT_init_103 post n x0 x2 x3 kc ks M → Y p l e rm_BT_init s m args below meth c D kCl (hTys κ) A 4 kc ks (MQ below (va_Qv post (hB D kCl (hTys κ) A) A) args s 200 20000 A) M 103 [(0, .ref x0), (2, .int x2), (3, .int x3)] [] := by
  obtain ⟨hx, hb, hml, hr, hown, hts, hlocks, hE, hA, hin⟩ := id C
  have hK := hE.1
  intro n
  induction n with
  | zero => intro x0 x2 x3 kc ks M hwp; exact hwp.elim
  | succ n ih =>
    intro x0 x2 x3 kc ks M hwp H locs ls hM hS hl
    unfold wBT_init_103 at hwp
    refine lv_iload_n hx hb d_BT_init_103 rfl (lv_at hl 2 rfl) ?_
    refine lv_bipush (v := 6) hx hb d_BT_init_104 (by decide) ?_
    refine lv_icmp_ge (tgt := 129) hx hb d_BT_init_106 (by decide) (fun c23 => ?_) (fun c23 => ?_)
    · replace hwp := hwp.1 c23
      refine lv_iconst (v := 0) hx hb d_BT_init_129 (by decide) ?_
      refine lv_istore_n (lv' := [(3, .int (0 : Int32)), (0, .ref x0), (2, .int x2)]) hx hb d_BT_init_130 rfl hl (by decide) rfl (fun ls hl => ?_)
      obtain ⟨n24, hwp⟩ := hwp
      exact tBT_init_131 C post n24 x0 x2 (0 : Int32) kc ks M hwp H locs ls hM hS (lv_sub hl [1, 2, 0] rfl)
    · replace hwp := hwp.2 c23
      refine lv_aload_n hx hb d_BT_init_109 rfl (lv_at hl 0 rfl) ?_
      obtain ⟨a25, ⟨fs26, he27, hv28⟩, hwp⟩ := hwp
      refine h_get (C := "BuckTables") (T := Tc0) (N := 12) hx hb hts inc0 hown hK hM he27 rfl 0 (by decide) (hts _ kw_202) (fun _ h9 => h9) hv28 d_BT_init_110 ?_
      refine lv_iload_n hx hb d_BT_init_113 rfl (lv_at hl 2 rfl) ?_
      obtain ⟨hc29, hs30, hwp⟩ := hwp
      refine h_new (C := "BuckTables$Stem") (T := Tc1) (N := 12) (ci := 1) (fs := [.int 0, .null, .null, .null, .null, .null, .null, .null, .null, .int 0, .int 0, .int 0]) hx hb hts inc1 tyc1 tyc1_ok hown (hts _ kw_24) (hts _ kw_102) (hts _ kw_6) hK hM hS hA rfl dfc1 hc29 hs30 d_BT_init_114 (fun a31 H hq32 hM hS => ?_)
      obtain ⟨M33, eM33⟩ : ∃ z : Hp, z = va_up M a31 (some (.inr (1, [.int 0, .null, .null, .null, .null, .null, .null, .null, .null, .int 0, .int 0, .int 0]))) := ⟨_, rfl⟩
      rw [← eM33] at hM
      replace hwp := hwp a31 hq32 M33 eM33
      refine lv_dup hx hb d_BT_init_117 rfl ?_
      refine lv_iload_n hx hb d_BT_init_118 rfl (lv_at hl 1 rfl) ?_
      obtain ⟨hc35, hs36, hwp⟩ := hwp
      refine h_callv hM hS hA (va_runI (As := [.int x2]) (rest := [.ref a31, .int x3, .ref a25]) ⟨hx, hb, hml, hown, hts⟩ (metSt_init l D κ H.size a31 x2 M33 _ hwp) (cwI 1 hts (gC kw_105) rfl rfl rfl (hts _ kw_6) (hts _ kw_103) (hts _ kw_104) rfl (by decide +kernel) ⟨(Nat.le_of_ble_eq_true rfl), (Nat.le_of_ble_eq_true rfl)⟩) (h_preS hE hM hS) rfl rfl hl.1 rfl (lv_room (Nat.le_of_ble_eq_true rfl)) d_BT_init_119 ⟨hc35, hs36⟩) (fun M34 H locs hwp hM hS => ?_)
      obtain ⟨M42, ⟨n37, f38, ha39, hi40, ho41, eM42⟩, hwp⟩ := hwp
      refine h_aast (r := ("BuckTables$Stem", Tc1, 12)) hx hb hK hM hS ha39 rfl ho41 rfl hi40 d_BT_init_122 (fun H locs hM hS => ?_)
      rw [← eM42] at hM
      obtain ⟨z43, ez43⟩ : ∃ y : Int32, y = x3 + 1 := ⟨_, rfl⟩
      replace hwp := hwp z43 ez43
      refine lv_iinc (v := z43) (lv' := [(3, .int z43), (0, .ref x0), (2, .int x2)]) hx hb d_BT_init_123 hl (k := 2) rfl (by rw [ez43]; rfl) (by decide) rfl (fun ls hl => ?_)
      refine lv_goto (tgt := 103) hx hb d_BT_init_126 (by decide) ?_
      exact ih x0 x2 z43 ((kc + 1) + 16) ((ks + 12) + 969) M42 hwp H locs ls hM hS (lv_sub hl [1, 2, 0] rfl)
def wpBT_init (self : Nat) (p0 : Int32) (M : Hp) (post : Hp → Prop) : Prop := (0 + 1 ≤ 200 ∧ 0 + 6 ≤ 20000 ∧ (∀ a46 : Nat, M a46 = none → ∀ M48 : Hp, M48 = va_up M a46 (some (.inl (3, 6, .inr (.inr (.inr (.inr (fun _ => none))))))) → (∃ M49 : Hp, pF M48 self 0 0 (.ref a46) M49 ∧ ((0 + 1) + 1 ≤ 200 ∧ (0 + 6) + 8 ≤ 20000 ∧ (∀ a55 : Nat, M49 a55 = none → ∀ M57 : Hp, M57 = va_up M49 a55 (some (.inl (4, 8, .inr (.inr (.inr (.inr (fun _ => none))))))) → (∃ M58 : Hp, pF M57 self 0 1 (.ref a55) M58 ∧ (((0 + 1) + 1) + 1 ≤ 200 ∧ ((0 + 6) + 8) + 4 ≤ 20000 ∧ (∀ a64 : Nat, M58 a64 = none → ∀ M66 : Hp, M66 = va_up M58 a64 (some (.inr (4, [.null, .null, .null, .null]))) → ((((0 + 1) + 1) + 1) + 20 ≤ 200 ∧ (((0 + 6) + 8) + 4) + 913 ≤ 20000 ∧ (wpCu_init a64 M66 (fun (M67 : Hp) => (∃ M70 : Hp, pF M67 self 0 2 (.ref a64) M70 ∧ (∃ M74 : Hp, pF M70 self 0 3 (.int (1 : Int32)) M74 ∧ (∃ M78 : Hp, pF M74 self 0 4 (.int (0 : Int32)) M78 ∧ (∃ M82 : Hp, pF M78 self 0 5 (.int (0 : Int32)) M82 ∧ (∃ M86 : Hp, pF M82 self 0 6 (.int (0 : Int32)) M86 ∧ (((((0 + 1) + 1) + 1) + 20) + 1 ≤ 200 ∧ ((((0 + 6) + 8) + 4) + 913) + 5 ≤ 20000 ∧ (∀ a92 : Nat, M86 a92 = none → ∀ M94 : Hp, M94 = va_up M86 a92 (some (.inr (5, [.null, .null, .null, .int 0, .long 0]))) → ((((((0 + 1) + 1) + 1) + 20) + 1) + 3 ≤ 200 ∧ (((((0 + 6) + 8) + 4) + 913) + 5) + 2888 ≤ 20000 ∧ (wpPl_init a92 M94 (fun (M95 : Hp) => (∃ M98 : Hp, pF M95 self 0 7 (.ref a92) M98 ∧ (((((((0 + 1) + 1) + 1) + 20) + 1) + 3) + 1 ≤ 200 ∧ ((((((0 + 6) + 8) + 4) + 913) + 5) + 2888) + 5 ≤ 20000 ∧ (∀ a104 : Nat, M98 a104 = none → ∀ M106 : Hp, M106 = va_up M98 a104 (some (.inr (5, [.null, .null, .null, .int 0, .long 0]))) → ((((((((0 + 1) + 1) + 1) + 20) + 1) + 3) + 1) + 3 ≤ 200 ∧ (((((((0 + 6) + 8) + 4) + 913) + 5) + 2888) + 5) + 2888 ≤ 20000 ∧ (wpPl_init a104 M106 (fun (M107 : Hp) => (∃ M110 : Hp, pF M107 self 0 8 (.ref a104) M110 ∧ (∃ M114 : Hp, pF M110 self 0 9 (.int (0 : Int32)) M114 ∧ (∃ M118 : Hp, pF M114 self 0 10 (.int (0 : Int32)) M118 ∧ (∃ M122 : Hp, pF M118 self 0 11 (.long (0 : Int64)) M122 ∧ (∀ z126 : Int32, z126 = (if (1 : Int32) < (if (65536 : Int32) < p0 then (65536 : Int32) else p0) then (if (65536 : Int32) < p0 then (65536 : Int32) else p0) else (1 : Int32)) → (∃ n127 : Nat, wBT_init_103 post n127 self z126 (0 : Int32) ((((((((0 + 1) + 1) + 1) + 20) + 1) + 3) + 1) + 3) ((((((((0 + 6) + 8) + 4) + 913) + 5) + 2888) + 5) + 2888) M122)))))))))))))))))))))))))))))))))
set_option maxRecDepth 100000 in
set_option maxHeartbeats 4000000 in
theorem eBT_init {p : Program} {l : Launch} {e : Env} {s : State} {m : MethodId} {args : Array Value} {below : List Frame} {meth : Method} {c : Code} {D : va_G} {κ : Nat → ClassId} {A : Nat → Prop} (C : Cx_BT_init p s m args meth c D κ A) (post : Hp → Prop) (self : Nat) (p0 : Int32) (M : Hp) (hwp : wpBT_init self p0 M post) : Y p l e rm_BT_init s m args below meth c D kCl (hTys κ) A 4 0 0 (MQ below (va_Qv post (hB D kCl (hTys κ) A) A) args s 200 20000 A) M 0 [(0, .ref self), (1, .int p0)] [] := by
  obtain ⟨hx, hb, hml, hr, hown, hts, hlocks, hE, hA, hin⟩ := id C
  have hK := hE.1
  intro H locs ls hM hS hl
  unfold wpBT_init at hwp
  refine lv_aload_n hx hb d_BT_init_0 rfl (lv_at hl 0 rfl) ?_
  refine W.objInit hx hb hown (hts _ kw_21) (hts _ kw_22) (hts _ kw_23) rfl (by rw [hml]; exact hl.1) rfl d_BT_init_1 (Nat.le_of_ble_eq_true rfl) (Nat.le_of_ble_eq_true rfl) ?_
  refine (show W _ _ _ _ _ _ _ _ _ _ _ _ _ _ _ (F0 _ 4 _ []) from ?_)
  refine lv_aload_n hx hb d_BT_init_4 rfl (lv_at hl 0 rfl) ?_
  refine lv_bipush (v := 6) hx hb d_BT_init_5 (by decide) ?_
  obtain ⟨hc44, hs45, hwp⟩ := hwp
  refine h_newq (C := "BuckTables$Stem") (t := 3) (N' := 6) hx hb hown (hts _ kw_24) (z_ao hE.2 (List.mem_append_right _ (List.mem_of_getElem? (i := 25) (by decide +kernel)))) hK hM hS hA rfl (by decide) (by decide) (by decide) hc44 hs45 d_BT_init_7 (fun a46 H hq47 hM hS => ?_)
  obtain ⟨M48, eM48⟩ : ∃ z : Hp, z = va_up M a46 (some (.inl (3, 6, .inr (.inr (.inr (.inr (fun _ => none))))))) := ⟨_, rfl⟩
  rw [← eM48] at hM
  replace hwp := hwp a46 hq47 M48 eM48
  obtain ⟨M49, ⟨fs50, he51, hl52, eM49⟩, hwp⟩ := hwp
  refine h_putF (C := "BuckTables") (T := Tc0) (N := 12) (v := .ref a46) (ty := .array (.object "BuckTables$Stem")) hx hb hts inc0 tyc0 tyc0_ok nmc0 hown hK hM hS he51 rfl 0 (by decide) (hts _ kw_202) (fun _ h9 => h9) rfl hin rfl (by decide +kernel) rfl rfl hl52 d_BT_init_10 (fun H locs hM hS => ?_)
  rw [← eM49] at hM
  refine lv_aload_n hx hb d_BT_init_13 rfl (lv_at hl 0 rfl) ?_
  refine lv_bipush (v := 8) hx hb d_BT_init_14 (by decide) ?_
  obtain ⟨hc53, hs54, hwp⟩ := hwp
  refine h_newq (C := "BuckTables$Product") (t := 4) (N' := 8) hx hb hown (hts _ kw_26) (z_ao hE.2 (List.mem_append_right _ (List.mem_of_getElem? (i := 27) (by decide +kernel)))) hK hM hS hA rfl (by decide) (by decide) (by decide) hc53 hs54 d_BT_init_16 (fun a55 H hq56 hM hS => ?_)
  obtain ⟨M57, eM57⟩ : ∃ z : Hp, z = va_up M49 a55 (some (.inl (4, 8, .inr (.inr (.inr (.inr (fun _ => none))))))) := ⟨_, rfl⟩
  rw [← eM57] at hM
  replace hwp := hwp a55 hq56 M57 eM57
  obtain ⟨M58, ⟨fs59, he60, hl61, eM58⟩, hwp⟩ := hwp
  refine h_putF (C := "BuckTables") (T := Tc0) (N := 12) (v := .ref a55) (ty := .array (.object "BuckTables$Product")) hx hb hts inc0 tyc0 tyc0_ok nmc0 hown hK hM hS he60 rfl 1 (by decide) (hts _ kw_203) (fun _ h9 => h9) rfl hin rfl (by decide +kernel) rfl rfl hl61 d_BT_init_19 (fun H locs hM hS => ?_)
  rw [← eM58] at hM
  refine lv_aload_n hx hb d_BT_init_22 rfl (lv_at hl 0 rfl) ?_
  obtain ⟨hc62, hs63, hwp⟩ := hwp
  refine h_new (C := "BuckTables$Cutter") (T := Tc4) (N := 4) (ci := 4) (fs := [.null, .null, .null, .null]) hx hb hts inc4 tyc4 tyc4_ok hown (hts _ kw_28) (hts _ kw_29) (hts _ kw_2) hK hM hS hA rfl dfc4 hc62 hs63 d_BT_init_23 (fun a64 H hq65 hM hS => ?_)
  obtain ⟨M66, eM66⟩ : ∃ z : Hp, z = va_up M58 a64 (some (.inr (4, [.null, .null, .null, .null]))) := ⟨_, rfl⟩
  rw [← eM66] at hM
  replace hwp := hwp a64 hq65 M66 eM66
  refine lv_dup hx hb d_BT_init_26 rfl ?_
  obtain ⟨hc68, hs69, hwp⟩ := hwp
  refine h_callv hM hS hA (va_runI (As := []) (rest := [.ref a64, .ref self]) ⟨hx, hb, hml, hown, hts⟩ (metCu_init l D κ H.size a64 M66 _ hwp) (cwI 0 hts (gC kw_32) rfl rfl rfl (hts _ kw_2) (hts _ kw_30) (hts _ kw_31) rfl (by decide +kernel) ⟨(Nat.le_of_ble_eq_true rfl), (Nat.le_of_ble_eq_true rfl)⟩) (h_preS hE hM hS) rfl rfl hl.1 rfl (lv_room (Nat.le_of_ble_eq_true rfl)) d_BT_init_27 ⟨hc68, hs69⟩) (fun M67 H locs hwp hM hS => ?_)
  obtain ⟨M70, ⟨fs71, he72, hl73, eM70⟩, hwp⟩ := hwp
  refine h_putF (C := "BuckTables") (T := Tc0) (N := 12) (v := .ref a64) (ty := .object "BuckTables$Cutter") hx hb hts inc0 tyc0 tyc0_ok nmc0 hown hK hM hS he72 rfl 2 (by decide) (hts _ kw_204) (fun _ h9 => h9) rfl hin rfl (by decide +kernel) rfl rfl hl73 d_BT_init_30 (fun H locs hM hS => ?_)
  rw [← eM70] at hM
  refine lv_aload_n hx hb d_BT_init_33 rfl (lv_at hl 0 rfl) ?_
  refine lv_iconst (v := 1) hx hb d_BT_init_34 (by decide) ?_
  obtain ⟨M74, ⟨fs75, he76, hl77, eM74⟩, hwp⟩ := hwp
  refine h_put (C := "BuckTables") (T := Tc0) (N := 12) (v := .int (1 : Int32)) (ty := .int) hx hb hts inc0 tyc0 tyc0_ok nmc0 hown hK hM hS he76 rfl 3 (by decide) (hts _ kw_205) (fun _ h9 => h9) rfl (by decide +kernel) rfl rfl hl77 d_BT_init_35 (fun H locs hM hS => ?_)
  rw [← eM74] at hM
  refine lv_aload_n hx hb d_BT_init_38 rfl (lv_at hl 0 rfl) ?_
  refine lv_iconst (v := 0) hx hb d_BT_init_39 (by decide) ?_
  obtain ⟨M78, ⟨fs79, he80, hl81, eM78⟩, hwp⟩ := hwp
  refine h_put (C := "BuckTables") (T := Tc0) (N := 12) (v := .int (0 : Int32)) (ty := .int) hx hb hts inc0 tyc0 tyc0_ok nmc0 hown hK hM hS he80 rfl 4 (by decide) (hts _ kw_206) (fun _ h9 => h9) rfl (by decide +kernel) rfl rfl hl81 d_BT_init_40 (fun H locs hM hS => ?_)
  rw [← eM78] at hM
  refine lv_aload_n hx hb d_BT_init_43 rfl (lv_at hl 0 rfl) ?_
  refine lv_iconst (v := 0) hx hb d_BT_init_44 (by decide) ?_
  obtain ⟨M82, ⟨fs83, he84, hl85, eM82⟩, hwp⟩ := hwp
  refine h_put (C := "BuckTables") (T := Tc0) (N := 12) (v := .int (0 : Int32)) (ty := .int) hx hb hts inc0 tyc0 tyc0_ok nmc0 hown hK hM hS he84 rfl 5 (by decide) (hts _ kw_207) (fun _ h9 => h9) rfl (by decide +kernel) rfl rfl hl85 d_BT_init_45 (fun H locs hM hS => ?_)
  rw [← eM82] at hM
  refine lv_aload_n hx hb d_BT_init_48 rfl (lv_at hl 0 rfl) ?_
  refine lv_iconst (v := 0) hx hb d_BT_init_49 (by decide) ?_
  obtain ⟨M86, ⟨fs87, he88, hl89, eM86⟩, hwp⟩ := hwp
  refine h_put (C := "BuckTables") (T := Tc0) (N := 12) (v := .int (0 : Int32)) (ty := .int) hx hb hts inc0 tyc0 tyc0_ok nmc0 hown hK hM hS he88 rfl 6 (by decide) (hts _ kw_208) (fun _ h9 => h9) rfl (by decide +kernel) rfl rfl hl89 d_BT_init_50 (fun H locs hM hS => ?_)
  rw [← eM86] at hM
  refine lv_aload_n hx hb d_BT_init_53 rfl (lv_at hl 0 rfl) ?_
  obtain ⟨hc90, hs91, hwp⟩ := hwp
  refine h_new (C := "BuckTables$Plan") (T := Tc5) (N := 5) (ci := 5) (fs := [.null, .null, .null, .int 0, .long 0]) hx hb hts inc5 tyc5 tyc5_ok hown (hts _ kw_69) (hts _ kw_70) (hts _ kw_4) hK hM hS hA rfl dfc5 hc90 hs91 d_BT_init_54 (fun a92 H hq93 hM hS => ?_)
  obtain ⟨M94, eM94⟩ : ∃ z : Hp, z = va_up M86 a92 (some (.inr (5, [.null, .null, .null, .int 0, .long 0]))) := ⟨_, rfl⟩
  rw [← eM94] at hM
  replace hwp := hwp a92 hq93 M94 eM94
  refine lv_dup hx hb d_BT_init_57 rfl ?_
  obtain ⟨hc96, hs97, hwp⟩ := hwp
  refine h_callv hM hS hA (va_runIN (As := []) (rest := [.ref a92, .ref self]) ⟨hx, hb, hml, hown, hts⟩ (metPl_init l D κ H.size a92 M94 _ hwp) ⟨va_cnB 0 hts (gC kw_73) rfl rfl rfl (z_nest hE.2 (host := "BuckTables") (List.mem_append_right _ (List.mem_of_getElem? (i := 71) (by decide +kernel)))) (hts _ kw_4) (by decide +kernel) ⟨(Nat.le_of_ble_eq_true rfl), (Nat.le_of_ble_eq_true rfl)⟩, rfl, hts _ kw_72⟩ (h_preS hE hM hS) rfl rfl hl.1 rfl (lv_room (Nat.le_of_ble_eq_true rfl)) d_BT_init_58 ⟨hc96, hs97⟩) (fun M95 H locs hwp hM hS => ?_)
  obtain ⟨M98, ⟨fs99, he100, hl101, eM98⟩, hwp⟩ := hwp
  refine h_put (C := "BuckTables") (T := Tc0) (N := 12) (v := .ref a92) (ty := .object "BuckTables$Plan") hx hb hts inc0 tyc0 tyc0_ok nmc0 hown hK hM hS he100 rfl 7 (by decide) (hts _ kw_209) (fun _ h9 => h9) rfl (by decide +kernel) rfl rfl hl101 d_BT_init_61 (fun H locs hM hS => ?_)
  rw [← eM98] at hM
  refine lv_aload_n hx hb d_BT_init_64 rfl (lv_at hl 0 rfl) ?_
  obtain ⟨hc102, hs103, hwp⟩ := hwp
  refine h_new (C := "BuckTables$Plan") (T := Tc5) (N := 5) (ci := 5) (fs := [.null, .null, .null, .int 0, .long 0]) hx hb hts inc5 tyc5 tyc5_ok hown (hts _ kw_69) (hts _ kw_70) (hts _ kw_4) hK hM hS hA rfl dfc5 hc102 hs103 d_BT_init_65 (fun a104 H hq105 hM hS => ?_)
  obtain ⟨M106, eM106⟩ : ∃ z : Hp, z = va_up M98 a104 (some (.inr (5, [.null, .null, .null, .int 0, .long 0]))) := ⟨_, rfl⟩
  rw [← eM106] at hM
  replace hwp := hwp a104 hq105 M106 eM106
  refine lv_dup hx hb d_BT_init_68 rfl ?_
  obtain ⟨hc108, hs109, hwp⟩ := hwp
  refine h_callv hM hS hA (va_runIN (As := []) (rest := [.ref a104, .ref self]) ⟨hx, hb, hml, hown, hts⟩ (metPl_init l D κ H.size a104 M106 _ hwp) ⟨va_cnB 0 hts (gC kw_73) rfl rfl rfl (z_nest hE.2 (host := "BuckTables") (List.mem_append_right _ (List.mem_of_getElem? (i := 71) (by decide +kernel)))) (hts _ kw_4) (by decide +kernel) ⟨(Nat.le_of_ble_eq_true rfl), (Nat.le_of_ble_eq_true rfl)⟩, rfl, hts _ kw_72⟩ (h_preS hE hM hS) rfl rfl hl.1 rfl (lv_room (Nat.le_of_ble_eq_true rfl)) d_BT_init_69 ⟨hc108, hs109⟩) (fun M107 H locs hwp hM hS => ?_)
  obtain ⟨M110, ⟨fs111, he112, hl113, eM110⟩, hwp⟩ := hwp
  refine h_put (C := "BuckTables") (T := Tc0) (N := 12) (v := .ref a104) (ty := .object "BuckTables$Plan") hx hb hts inc0 tyc0 tyc0_ok nmc0 hown hK hM hS he112 rfl 8 (by decide) (hts _ kw_210) (fun _ h9 => h9) rfl (by decide +kernel) rfl rfl hl113 d_BT_init_72 (fun H locs hM hS => ?_)
  rw [← eM110] at hM
  refine lv_aload_n hx hb d_BT_init_75 rfl (lv_at hl 0 rfl) ?_
  refine lv_iconst (v := 0) hx hb d_BT_init_76 (by decide) ?_
  obtain ⟨M114, ⟨fs115, he116, hl117, eM114⟩, hwp⟩ := hwp
  refine h_put (C := "BuckTables") (T := Tc0) (N := 12) (v := .int (0 : Int32)) (ty := .boolean) hx hb hts inc0 tyc0 tyc0_ok nmc0 hown hK hM hS he116 rfl 9 (by decide) (hts _ kw_211) (fun _ h9 => h9) rfl (by decide +kernel) (by decide) (by decide) hl117 d_BT_init_77 (fun H locs hM hS => ?_)
  rw [← eM114] at hM
  refine lv_aload_n hx hb d_BT_init_80 rfl (lv_at hl 0 rfl) ?_
  refine lv_iconst (v := 0) hx hb d_BT_init_81 (by decide) ?_
  obtain ⟨M118, ⟨fs119, he120, hl121, eM118⟩, hwp⟩ := hwp
  refine h_put (C := "BuckTables") (T := Tc0) (N := 12) (v := .int (0 : Int32)) (ty := .int) hx hb hts inc0 tyc0 tyc0_ok nmc0 hown hK hM hS he120 rfl 10 (by decide) (hts _ kw_212) (fun _ h9 => h9) rfl (by decide +kernel) rfl rfl hl121 d_BT_init_82 (fun H locs hM hS => ?_)
  rw [← eM118] at hM
  refine lv_aload_n hx hb d_BT_init_85 rfl (lv_at hl 0 rfl) ?_
  refine lv_lconst (v := 0) hx hb d_BT_init_86 (by decide) ?_
  obtain ⟨M122, ⟨fs123, he124, hl125, eM122⟩, hwp⟩ := hwp
  refine h_put (C := "BuckTables") (T := Tc0) (N := 12) (v := .long (0 : Int64)) (ty := .long) hx hb hts inc0 tyc0 tyc0_ok nmc0 hown hK hM hS he124 rfl 11 (by decide) (hts _ kw_213) (fun _ h9 => h9) rfl (by decide +kernel) rfl rfl hl125 d_BT_init_87 (fun H locs hM hS => ?_)
  rw [← eM122] at hM
  refine lv_iconst (v := 1) hx hb d_BT_init_90 (by decide) ?_
  refine lv_iload_n hx hb d_BT_init_91 rfl (lv_at hl 1 rfl) ?_
  refine lv_ldc (v := 65536) hx hb hown (hts _ kw_95) d_BT_init_92 ?_
  refine va_mmin hx hb (show c.maxLocals = ls.size by rw [hml, hl.1]) hown (hts _ kw_96) (hts _ kw_97) (hts _ kw_5) (hts _ kw_98) (Nat.le_of_ble_eq_true rfl) (Nat.le_of_ble_eq_true rfl) (Nat.le_of_ble_eq_true rfl) (Nat.le_of_ble_eq_true rfl) d_BT_init_94 ?_
  refine va_mmax hx hb (show c.maxLocals = ls.size by rw [hml, hl.1]) hown (hts _ kw_99) (hts _ kw_100) (hts _ kw_5) (hts _ kw_101) (Nat.le_of_ble_eq_true rfl) (Nat.le_of_ble_eq_true rfl) (Nat.le_of_ble_eq_true rfl) (Nat.le_of_ble_eq_true rfl) d_BT_init_97 ?_
  refine lv_topi (fun z126 ez126 => ?_)
  replace hwp := hwp z126 ez126
  refine lv_istore_n (lv' := [(2, .int z126), (0, .ref self), (1, .int p0)]) hx hb d_BT_init_100 rfl hl (by decide) rfl (fun ls hl => ?_)
  refine lv_iconst (v := 0) hx hb d_BT_init_101 (by decide) ?_
  refine lv_istore_n (lv' := [(3, .int (0 : Int32)), (2, .int z126), (0, .ref self), (1, .int p0)]) hx hb d_BT_init_102 rfl hl (by decide) rfl (fun ls hl => ?_)
  obtain ⟨n127, hwp⟩ := hwp
  exact tBT_init_103 C post n127 self z126 (0 : Int32) ((((((((0 + 1) + 1) + 1) + 20) + 1) + 3) + 1) + 3) ((((((((0 + 6) + 8) + 4) + 913) + 5) + 2888) + 5) + 2888) M122 hwp H locs ls hM hS (lv_sub hl [2, 1, 0] rfl)
set_option maxRecDepth 100000 in
set_option maxHeartbeats 4000000 in
theorem metBT_init (l : Launch) (D : va_G) (κ : Nat → ClassId) (sz : Nat) (self : Nat) (p0 : Int32) (M : Hp) (post : Hp → Prop) (hwp : wpBT_init self p0 M post) : Met l y_BT_init ws_BT_init rm_BT_init (hPc D kCl (hTys κ) M sz [.ref self, .int p0]) (va_Qv post (hB D kCl (hTys κ) (hAx M sz)) (hAx M sz)) 200 20000 (hAx M sz) := by
  refine Met.ofW (cc := prog_1_method_1_code) (maxL := 4) (ret := none) (by decide +kernel) rfl ?_
  intro p e s m args below meth c s₁ B hml hv
  obtain ⟨rfl, hsz, hE, hM0⟩ := hv
  have hts : ∀ w ∈ WG, w.before _ s = true := fun w h => atoms_spec (ws := ws_BT_init) B.pre w (List.mem_cons_of_mem _ h)
  subst hsz
  have C : Cx_BT_init p s m _ meth c D κ (hAx M s.heap.size) := ⟨B.exec, B.bytes, hml, B.returns, findClass_of_methodNamed B.named, hts, B.notSynchronized, hE, fun q h => Or.inr h, (name_of_methodNamed B.named B.method).1⟩
  have hl := lv_entry ([.ref self, .int p0]) (n := 4) (Nat.le_of_ble_eq_true rfl)
  rw [lg_entry_eq]
  generalize (lg_sl ([.ref self, .int p0]) ++ List.replicate (4 - (lg_sl ([.ref self, .int p0])).length) Slot.unset).toArray = ls at hl ⊢
  exact eBT_init C post self p0 M hwp s.heap [] ls (hM0.self (sz := s.heap.size)) va_S.rf hl
