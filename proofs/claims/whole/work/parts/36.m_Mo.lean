abbrev rm_Mo_trueWorth : Room := { frames := 1, cells := 0, slots := 0, locals := 23 }
def Cx_Mo_trueWorth (p : Program) (s : State) (m : MethodId) (args : Array Value) (meth : Method) (c : Code) (D : va_G) (κ : Nat → ClassId) (A : Nat → Prop) : Prop := p.tables.exec = Jvm.exec ∧ c.code = prog_8_method_27_code ∧ c.maxLocals = 6 ∧ meth.sig.returnType = (some .long) ∧ s.vm.findClass "BuckTablesModel" = some m.cls ∧ (∀ w ∈ WG, w.before args s = true) ∧ meth.locks = false ∧ hEnv D kCl (hTys κ) A s ∧ (∀ q, s.heap.size ≤ q → A q)
def wMo_trueWorth_70 (post : Int64 → Hp → Prop) (k4 : Nat → Int64 → Int32 → Hp → Prop) (k15 : Nat → Int64 → Int32 → Int32 → Hp → Prop) (x0 : Nat) (x3 : Int32) (x4 : Int32) (y0 : Int64) (M : Hp) : Prop := (∀ z1 : Int32, z1 = x4 + 1 → (k15 x0 y0 x3 z1 M))
set_option maxRecDepth 100000 in
set_option maxHeartbeats 4000000 in
theorem tMo_trueWorth_70 {p : Program} {l : Launch} {e : Env} {s : State} {m : MethodId} {args : Array Value} {below : List Frame} {meth : Method} {c : Code} {D : va_G} {κ : Nat → ClassId} {A : Nat → Prop} (C : Cx_Mo_trueWorth p s m args meth c D κ A) (post : Int64 → Hp → Prop) (k4 : Nat → Int64 → Int32 → Hp → Prop) (hk4 : ∀ (x0 : Nat) (x1 : Int64) (x3 : Int32) (M : Hp), k4 x0 x1 x3 M → Y p l e rm_Mo_trueWorth s m args below meth c D kCl (hTys κ) A 6 0 0 (MQ below (va_Ql post (hB D kCl (hTys κ) A) A) args s 0 0 A) M 4 [(0, .ref x0), (1, .long x1), (3, .int x3)] []) (k15 : Nat → Int64 → Int32 → Int32 → Hp → Prop) (hk15 : ∀ (x0 : Nat) (x1 : Int64) (x3 : Int32) (x4 : Int32) (M : Hp), k15 x0 x1 x3 x4 M → Y p l e rm_Mo_trueWorth s m args below meth c D kCl (hTys κ) A 6 0 0 (MQ below (va_Ql post (hB D kCl (hTys κ) A) A) args s 0 0 A) M 15 [(0, .ref x0), (1, .long x1), (3, .int x3), (4, .int x4)] []) (x0 : Nat) (x3 : Int32) (x4 : Int32) (y0 : Int64) (M : Hp) (hwp : wMo_trueWorth_70 post k4 k15 x0 x3 x4 y0 M) : Y p l e rm_Mo_trueWorth s m args below meth c D kCl (hTys κ) A 6 0 0 (MQ below (va_Ql post (hB D kCl (hTys κ) A) A) args s 0 0 A) M 70 [(0, .ref x0), (3, .int x3), (4, .int x4)] [.long y0] := by
  obtain ⟨hx, hb, hml, hr, hown, hts, hlocks, hE, hA⟩ := id C
  have hK := hE.1
  intro H locs ls hM hS hl
  unfold wMo_trueWorth_70 at hwp
  refine lv_lstore_n (lv' := [(1, .long y0), (0, .ref x0), (3, .int x3), (4, .int x4)]) hx hb d_Mo_trueWorth_70 rfl hl (by decide) rfl (fun ls hl => ?_)
  obtain ⟨z1, ez1⟩ : ∃ y : Int32, y = x4 + 1 := ⟨_, rfl⟩
  replace hwp := hwp z1 ez1
  refine lv_iinc (v := z1) (lv' := [(4, .int z1), (1, .long y0), (0, .ref x0), (3, .int x3)]) hx hb d_Mo_trueWorth_71 hl (k := 3) rfl (by rw [ez1]; rfl) (by decide) rfl (fun ls hl => ?_)
  refine lv_goto (tgt := 15) hx hb d_Mo_trueWorth_74 (by decide) ?_
  exact hk15 x0 y0 x3 z1 M hwp H locs ls hM hS (lv_sub hl [2, 1, 3, 0] rfl)
def wMo_trueWorth_15 (post : Int64 → Hp → Prop) (k4 : Nat → Int64 → Int32 → Hp → Prop) : Nat → Nat → Int64 → Int32 → Int32 → Hp → Prop
  | 0 => fun _ _ _ _ _ => False
  | n + 1 => fun x0 x1 x3 x4 M => (hob M x0 6 ∧ (wpMo_stepsOf x0 x3 M (fun (r4 : Int32) (M2 : Hp) => ((r4 ≤ x4 → (∀ z6 : Int32, z6 = x3 + 1 → (k4 x0 x1 z6 M2))) ∧ (¬ r4 ≤ x4 → (∀ z7 : Int32, z7 = (((81 : Int32) * x3) + x4) → (∃ a8 : Nat, fA M2 x0 6 25 a8 ∧ (∃ v12 : Int32, aI M2 a8 z7 v12 ∧ ((v12 = (1 : Int32) → (∃ a18 : Nat, fA M2 x0 6 26 a18 ∧ (∃ v22 : Int32, aI M2 a18 z7 v22 ∧ (∃ a27 : Nat, fA M2 x0 6 27 a27 ∧ (∃ v31 : Int32, aI M2 a27 z7 v31 ∧ (hob M2 x0 6 ∧ (wpMo_worthOf x0 x3 v22 v31 M2 (fun (r38 : Int64) (M36 : Hp) => (wMo_trueWorth_70 post k4 (wMo_trueWorth_15 post k4 n) x0 x3 x4 (x1 + r38) M36))))))))) ∧ (¬ v12 = (1 : Int32) → (wMo_trueWorth_70 post k4 (wMo_trueWorth_15 post k4 n) x0 x3 x4 x1 M2)))))))))))
set_option maxRecDepth 100000 in
set_option maxHeartbeats 4000000 in
theorem tMo_trueWorth_15 {p : Program} {l : Launch} {e : Env} {s : State} {m : MethodId} {args : Array Value} {below : List Frame} {meth : Method} {c : Code} {D : va_G} {κ : Nat → ClassId} {A : Nat → Prop} (C : Cx_Mo_trueWorth p s m args meth c D κ A) (post : Int64 → Hp → Prop) (k4 : Nat → Int64 → Int32 → Hp → Prop) (hk4 : ∀ (x0 : Nat) (x1 : Int64) (x3 : Int32) (M : Hp), k4 x0 x1 x3 M → Y p l e rm_Mo_trueWorth s m args below meth c D kCl (hTys κ) A 6 0 0 (MQ below (va_Ql post (hB D kCl (hTys κ) A) A) args s 0 0 A) M 4 [(0, .ref x0), (1, .long x1), (3, .int x3)] []) : ∀ (n : Nat) (x0 : Nat) (x1 : Int64) (x3 : Int32) (x4 : Int32) (M : Hp), wMo_trueWorth_15 post k4 n x0 x1 x3 x4 M → Y p l e rm_Mo_trueWorth s m args below meth c D kCl (hTys κ) A 6 0 0 (MQ below (va_Ql post (hB D kCl (hTys κ) A) A) args s 0 0 A) M 15 [(0, .ref x0), (1, .long x1), (3, .int x3), (4, .int x4)] [] := by
  obtain ⟨hx, hb, hml, hr, hown, hts, hlocks, hE, hA⟩ := id C
  have hK := hE.1
  intro n
  induction n with
  | zero => intro x0 x1 x3 x4 M hwp; exact hwp.elim
  | succ n ih =>
    intro x0 x1 x3 x4 M hwp H locs ls hM hS hl
    unfold wMo_trueWorth_15 at hwp
    refine lv_iload hx hb d_Mo_trueWorth_15 (lv_at hl 3 rfl) ?_
    refine lv_aload_n hx hb d_Mo_trueWorth_17 rfl (lv_at hl 0 rfl) ?_
    refine lv_iload_n hx hb d_Mo_trueWorth_18 rfl (lv_at hl 2 rfl) ?_
    obtain ⟨ho3, hwp⟩ := hwp
    refine h_calli hM hS hA (va_runV (As := [.int x3]) (rest := [.int x4]) ⟨hx, hb, hml, hown, hts⟩ (metMo_stepsOf l D κ H.size x0 x3 M _ hwp) (cwV 1 hts (gV kw_875 kw_877 kp_26 kw_8 kw_878) rfl rfl rfl (by decide +kernel) ⟨(Nat.le_of_ble_eq_true rfl), (Nat.le_of_ble_eq_true rfl)⟩) (h_preV hE hM hS ho3 (r := ("BuckTablesModel", Tc6, 36)) rfl) rfl rfl hl.1 rfl (lv_room (Nat.le_of_ble_eq_true rfl)) d_Mo_trueWorth_19 ⟨(Nat.le_of_ble_eq_true rfl), (Nat.le_of_ble_eq_true rfl)⟩) (fun r4 M2 H locs hwp hM hS => ?_)
    refine lv_icmp_ge (tgt := 77) hx hb d_Mo_trueWorth_22 (by decide) (fun c5 => ?_) (fun c5 => ?_)
    · replace hwp := hwp.1 c5
      obtain ⟨z6, ez6⟩ : ∃ y : Int32, y = x3 + 1 := ⟨_, rfl⟩
      replace hwp := hwp z6 ez6
      refine lv_iinc (v := z6) (lv' := [(3, .int z6), (0, .ref x0), (1, .long x1), (4, .int x4)]) hx hb d_Mo_trueWorth_77 hl (k := 2) rfl (by rw [ez6]; rfl) (by decide) rfl (fun ls hl => ?_)
      refine lv_goto (tgt := 4) hx hb d_Mo_trueWorth_80 (by decide) ?_
      exact hk4 x0 x1 z6 M2 hwp H locs ls hM hS (lv_sub hl [1, 2, 0] rfl)
    · replace hwp := hwp.2 c5
      refine lv_bipush (v := 81) hx hb d_Mo_trueWorth_25 (by decide) ?_
      refine lv_iload_n hx hb d_Mo_trueWorth_27 rfl (lv_at hl 2 rfl) ?_
      refine lv_imul hx hb d_Mo_trueWorth_28 ?_
      refine lv_iload hx hb d_Mo_trueWorth_29 (lv_at hl 3 rfl) ?_
      refine lv_iadd hx hb d_Mo_trueWorth_31 ?_
      refine lv_topi (fun z7 ez7 => ?_)
      replace hwp := hwp z7 ez7
      refine lv_istore (lv' := [(5, .int z7), (0, .ref x0), (1, .long x1), (3, .int x3), (4, .int x4)]) hx hb d_Mo_trueWorth_32 hl (by decide) rfl (fun ls hl => ?_)
      refine lv_aload_n hx hb d_Mo_trueWorth_34 rfl (lv_at hl 1 rfl) ?_
      obtain ⟨a8, ⟨fs9, he10, hv11⟩, hwp⟩ := hwp
      refine h_get (C := "BuckTablesModel") (T := Tc6) (N := 36) hx hb hts inc6 hown hK hM he10 rfl 25 (by decide) (hts _ kw_745) (fun _ h9 => h9) hv11 d_Mo_trueWorth_35 ?_
      refine lv_iload hx hb d_Mo_trueWorth_38 (lv_at hl 0 rfl) ?_
      obtain ⟨v12, ⟨n13, f14, ha15, hi16, ev12⟩, hwp⟩ := hwp
      refine h_iald hx hb hK hM ha15 rfl hi16 d_Mo_trueWorth_40 ?_
      rw [← ev12]
      refine lv_iconst (v := 1) hx hb d_Mo_trueWorth_41 (by decide) ?_
      refine lv_icmp_ne (tgt := 69) hx hb d_Mo_trueWorth_42 (by decide) (fun c17 => ?_) (fun c17 => ?_)
      · replace hwp := hwp.2 c17
        refine lv_lload_n hx hb d_Mo_trueWorth_69 rfl (lv_at hl 2 rfl) ?_
        exact tMo_trueWorth_70 C post k4 hk4 (wMo_trueWorth_15 post k4 n) ih x0 x3 x4 x1 M2 hwp H locs ls hM hS (lv_sub hl [1, 3, 4] rfl)
      · replace hwp := hwp.1 c17
        refine lv_lload_n hx hb d_Mo_trueWorth_45 rfl (lv_at hl 2 rfl) ?_
        refine lv_aload_n hx hb d_Mo_trueWorth_46 rfl (lv_at hl 1 rfl) ?_
        refine lv_iload_n hx hb d_Mo_trueWorth_47 rfl (lv_at hl 3 rfl) ?_
        refine lv_aload_n hx hb d_Mo_trueWorth_48 rfl (lv_at hl 1 rfl) ?_
        obtain ⟨a18, ⟨fs19, he20, hv21⟩, hwp⟩ := hwp
        refine h_get (C := "BuckTablesModel") (T := Tc6) (N := 36) hx hb hts inc6 hown hK hM he20 rfl 26 (by decide) (hts _ kw_746) (fun _ h9 => h9) hv21 d_Mo_trueWorth_49 ?_
        refine lv_iload hx hb d_Mo_trueWorth_52 (lv_at hl 0 rfl) ?_
        obtain ⟨v22, ⟨n23, f24, ha25, hi26, ev22⟩, hwp⟩ := hwp
        refine h_iald hx hb hK hM ha25 rfl hi26 d_Mo_trueWorth_54 ?_
        rw [← ev22]
        refine lv_aload_n hx hb d_Mo_trueWorth_55 rfl (lv_at hl 1 rfl) ?_
        obtain ⟨a27, ⟨fs28, he29, hv30⟩, hwp⟩ := hwp
        refine h_get (C := "BuckTablesModel") (T := Tc6) (N := 36) hx hb hts inc6 hown hK hM he29 rfl 27 (by decide) (hts _ kw_747) (fun _ h9 => h9) hv30 d_Mo_trueWorth_56 ?_
        refine lv_iload hx hb d_Mo_trueWorth_59 (lv_at hl 0 rfl) ?_
        obtain ⟨v31, ⟨n32, f33, ha34, hi35, ev31⟩, hwp⟩ := hwp
        refine h_iald hx hb hK hM ha34 rfl hi35 d_Mo_trueWorth_61 ?_
        rw [← ev31]
        obtain ⟨ho37, hwp⟩ := hwp
        refine h_calll hM hS hA (va_runV (As := [.int x3, .int v22, .int v31]) (rest := [.long x1]) ⟨hx, hb, hml, hown, hts⟩ (metMo_worthOf l D κ H.size x0 x3 v22 v31 M2 _ hwp) (cwV 3 hts (gV kw_918 kw_920 kp_31 kw_8 kw_921) rfl rfl rfl (by decide +kernel) ⟨(Nat.le_of_ble_eq_true rfl), (Nat.le_of_ble_eq_true rfl)⟩) (h_preV hE hM hS ho37 (r := ("BuckTablesModel", Tc6, 36)) rfl) rfl rfl hl.1 rfl (lv_room (Nat.le_of_ble_eq_true rfl)) d_Mo_trueWorth_62 ⟨(Nat.le_of_ble_eq_true rfl), (Nat.le_of_ble_eq_true rfl)⟩) (fun r38 M36 H locs hwp hM hS => ?_)
        refine lv_ladd hx hb d_Mo_trueWorth_65 ?_
        refine lv_goto (tgt := 70) hx hb d_Mo_trueWorth_66 (by decide) ?_
        exact tMo_trueWorth_70 C post k4 hk4 (wMo_trueWorth_15 post k4 n) ih x0 x3 x4 (x1 + r38) M36 hwp H locs ls hM hS (lv_sub hl [1, 3, 4] rfl)
def wMo_trueWorth_4 (post : Int64 → Hp → Prop)  : Nat → Nat → Int64 → Int32 → Hp → Prop
  | 0 => fun _ _ _ _ => False
  | n + 1 => fun x0 x1 x3 M => (∃ v39 : Int32, fI M x0 6 4 v39 ∧ ((v39 ≤ x3 → (post x1 M)) ∧ (¬ v39 ≤ x3 → (∃ n44 : Nat, wMo_trueWorth_15 post (wMo_trueWorth_4 post n) n44 x0 x1 x3 (0 : Int32) M))))
set_option maxRecDepth 100000 in
set_option maxHeartbeats 4000000 in
theorem tMo_trueWorth_4 {p : Program} {l : Launch} {e : Env} {s : State} {m : MethodId} {args : Array Value} {below : List Frame} {meth : Method} {c : Code} {D : va_G} {κ : Nat → ClassId} {A : Nat → Prop} (C : Cx_Mo_trueWorth p s m args meth c D κ A) (post : Int64 → Hp → Prop)  : ∀ (n : Nat) (x0 : Nat) (x1 : Int64) (x3 : Int32) (M : Hp), wMo_trueWorth_4 post n x0 x1 x3 M → Y p l e rm_Mo_trueWorth s m args below meth c D kCl (hTys κ) A 6 0 0 (MQ below (va_Ql post (hB D kCl (hTys κ) A) A) args s 0 0 A) M 4 [(0, .ref x0), (1, .long x1), (3, .int x3)] [] := by
  obtain ⟨hx, hb, hml, hr, hown, hts, hlocks, hE, hA⟩ := id C
  have hK := hE.1
  intro n
  induction n with
  | zero => intro x0 x1 x3 M hwp; exact hwp.elim
  | succ n ih =>
    intro x0 x1 x3 M hwp H locs ls hM hS hl
    unfold wMo_trueWorth_4 at hwp
    refine lv_iload_n hx hb d_Mo_trueWorth_4 rfl (lv_at hl 2 rfl) ?_
    refine lv_aload_n hx hb d_Mo_trueWorth_5 rfl (lv_at hl 0 rfl) ?_
    obtain ⟨v39, ⟨fs40, he41, hv42⟩, hwp⟩ := hwp
    refine h_get (C := "BuckTablesModel") (T := Tc6) (N := 36) hx hb hts inc6 hown hK hM he41 rfl 4 (by decide) (hts _ kw_724) (fun _ h9 => h9) hv42 d_Mo_trueWorth_6 ?_
    refine lv_icmp_ge (tgt := 83) hx hb d_Mo_trueWorth_9 (by decide) (fun c43 => ?_) (fun c43 => ?_)
    · replace hwp := hwp.1 c43
      refine lv_lload_n hx hb d_Mo_trueWorth_83 rfl (lv_at hl 1 rfl) ?_
      exact W.lret (v := x1) hx hb hr (fun t ht hW => ⟨⟨x1, M, rfl, hwp, by show hw D kCl (hTys κ) A M t.heap; rw [ht]; exact hM⟩, hS.F ht⟩) hS.2.2 d_Mo_trueWorth_84
    · replace hwp := hwp.2 c43
      refine lv_iconst (v := 0) hx hb d_Mo_trueWorth_12 (by decide) ?_
      refine lv_istore (lv' := [(4, .int (0 : Int32)), (0, .ref x0), (1, .long x1), (3, .int x3)]) hx hb d_Mo_trueWorth_13 hl (by decide) rfl (fun ls hl => ?_)
      obtain ⟨n44, hwp⟩ := hwp
      exact tMo_trueWorth_15 C post (wMo_trueWorth_4 post n) ih n44 x0 x1 x3 (0 : Int32) M hwp H locs ls hM hS (lv_sub hl [1, 2, 3, 0] rfl)
def wpMo_trueWorth (self : Nat) (M : Hp) (post : Int64 → Hp → Prop) : Prop := (∃ n45 : Nat, wMo_trueWorth_4 post n45 self (0 : Int64) (0 : Int32) M)
set_option maxRecDepth 100000 in
set_option maxHeartbeats 4000000 in
theorem eMo_trueWorth {p : Program} {l : Launch} {e : Env} {s : State} {m : MethodId} {args : Array Value} {below : List Frame} {meth : Method} {c : Code} {D : va_G} {κ : Nat → ClassId} {A : Nat → Prop} (C : Cx_Mo_trueWorth p s m args meth c D κ A) (post : Int64 → Hp → Prop) (self : Nat) (M : Hp) (hwp : wpMo_trueWorth self M post) : Y p l e rm_Mo_trueWorth s m args below meth c D kCl (hTys κ) A 6 0 0 (MQ below (va_Ql post (hB D kCl (hTys κ) A) A) args s 0 0 A) M 0 [(0, .ref self)] [] := by
  obtain ⟨hx, hb, hml, hr, hown, hts, hlocks, hE, hA⟩ := id C
  have hK := hE.1
  intro H locs ls hM hS hl
  unfold wpMo_trueWorth at hwp
  refine lv_lconst (v := 0) hx hb d_Mo_trueWorth_0 (by decide) ?_
  refine lv_lstore_n (lv' := [(1, .long (0 : Int64)), (0, .ref self)]) hx hb d_Mo_trueWorth_1 rfl hl (by decide) rfl (fun ls hl => ?_)
  refine lv_iconst (v := 0) hx hb d_Mo_trueWorth_2 (by decide) ?_
  refine lv_istore_n (lv' := [(3, .int (0 : Int32)), (1, .long (0 : Int64)), (0, .ref self)]) hx hb d_Mo_trueWorth_3 rfl hl (by decide) rfl (fun ls hl => ?_)
  obtain ⟨n45, hwp⟩ := hwp
  exact tMo_trueWorth_4 C post n45 self (0 : Int64) (0 : Int32) M hwp H locs ls hM hS (lv_sub hl [2, 1, 0] rfl)
set_option maxRecDepth 100000 in
set_option maxHeartbeats 4000000 in
theorem metMo_trueWorth (l : Launch) (D : va_G) (κ : Nat → ClassId) (sz : Nat) (self : Nat) (M : Hp) (post : Int64 → Hp → Prop) (hwp : wpMo_trueWorth self M post) : Met l y_Mo_trueWorth ws_Mo_trueWorth rm_Mo_trueWorth (hPc D kCl (hTys κ) M sz [.ref self]) (va_Ql post (hB D kCl (hTys κ) (hAx M sz)) (hAx M sz)) 0 0 (hAx M sz) := by
  refine Met.ofW (cc := prog_8_method_27_code) (maxL := 6) (ret := (some .long)) (by decide +kernel) rfl ?_
  intro p e s m args below meth c s₁ B hml hv
  obtain ⟨rfl, hsz, hE, hM0⟩ := hv
  have hts : ∀ w ∈ WG, w.before _ s = true := fun w h => atoms_spec (ws := ws_Mo_trueWorth) B.pre w (List.mem_cons_of_mem _ h)
  subst hsz
  have C : Cx_Mo_trueWorth p s m _ meth c D κ (hAx M s.heap.size) := ⟨B.exec, B.bytes, hml, B.returns, findClass_of_methodNamed B.named, hts, B.notSynchronized, hE, fun q h => Or.inr h⟩
  have hl := lv_entry ([.ref self]) (n := 6) (Nat.le_of_ble_eq_true rfl)
  rw [lg_entry_eq]
  generalize (lg_sl ([.ref self]) ++ List.replicate (6 - (lg_sl ([.ref self])).length) Slot.unset).toArray = ls at hl ⊢
  exact eMo_trueWorth C post self M hwp s.heap [] ls (hM0.self (sz := s.heap.size)) va_S.rf hl
abbrev rm_Mo_logCount : Room := { frames := 2, cells := 0, slots := 0, locals := 45 }
def Cx_Mo_logCount (p : Program) (s : State) (m : MethodId) (args : Array Value) (meth : Method) (c : Code) (D : va_G) (κ : Nat → ClassId) (A : Nat → Prop) : Prop := p.tables.exec = Jvm.exec ∧ c.code = prog_8_method_28_code ∧ c.maxLocals = 3 ∧ meth.sig.returnType = (some .int) ∧ s.vm.findClass "BuckTablesModel" = some m.cls ∧ (∀ w ∈ WG, w.before args s = true) ∧ meth.locks = false ∧ hEnv D kCl (hTys κ) A s ∧ (∀ q, s.heap.size ≤ q → A q)
def wMo_logCount_4 (post : Int32 → Hp → Prop)  : Nat → Nat → Int32 → Int32 → Hp → Prop
  | 0 => fun _ _ _ _ => False
  | n + 1 => fun x0 x1 x2 M => (∃ v1 : Int32, fI M x0 6 14 v1 ∧ ((v1 ≤ x2 → (post x1 M)) ∧ (¬ v1 ≤ x2 → (hob M x0 6 ∧ (wpMo_countOf x0 x2 M (fun (r8 : Int32) (M6 : Hp) => (∀ z9 : Int32, z9 = (x1 + r8) → (∀ z10 : Int32, z10 = x2 + 1 → ((wMo_logCount_4 post n) x0 z9 z10 M6)))))))))
set_option maxRecDepth 100000 in
set_option maxHeartbeats 4000000 in
theorem tMo_logCount_4 {p : Program} {l : Launch} {e : Env} {s : State} {m : MethodId} {args : Array Value} {below : List Frame} {meth : Method} {c : Code} {D : va_G} {κ : Nat → ClassId} {A : Nat → Prop} (C : Cx_Mo_logCount p s m args meth c D κ A) (post : Int32 → Hp → Prop)  : ∀ (n : Nat) (x0 : Nat) (x1 : Int32) (x2 : Int32) (M : Hp), wMo_logCount_4 post n x0 x1 x2 M → Y p l e rm_Mo_logCount s m args below meth c D kCl (hTys κ) A 3 0 0 (MQ below (va_Qi post (hB D kCl (hTys κ) A) A) args s 0 0 A) M 4 [(0, .ref x0), (1, .int x1), (2, .int x2)] [] := by
  obtain ⟨hx, hb, hml, hr, hown, hts, hlocks, hE, hA⟩ := id C
  have hK := hE.1
  intro n
  induction n with
  | zero => intro x0 x1 x2 M hwp; exact hwp.elim
  | succ n ih =>
    intro x0 x1 x2 M hwp H locs ls hM hS hl
    unfold wMo_logCount_4 at hwp
    refine lv_iload_n hx hb d_Mo_logCount_4 rfl (lv_at hl 2 rfl) ?_
    refine lv_aload_n hx hb d_Mo_logCount_5 rfl (lv_at hl 0 rfl) ?_
    obtain ⟨v1, ⟨fs2, he3, hv4⟩, hwp⟩ := hwp
    refine h_get (C := "BuckTablesModel") (T := Tc6) (N := 36) hx hb hts inc6 hown hK hM he3 rfl 14 (by decide) (hts _ kw_734) (fun _ h9 => h9) hv4 d_Mo_logCount_6 ?_
    refine lv_icmp_ge (tgt := 26) hx hb d_Mo_logCount_9 (by decide) (fun c5 => ?_) (fun c5 => ?_)
    · replace hwp := hwp.1 c5
      refine lv_iload_n hx hb d_Mo_logCount_26 rfl (lv_at hl 1 rfl) ?_
      exact W.iret (v := x1) hx hb hr (fun t ht hW => ⟨⟨x1, M, rfl, hwp, by show hw D kCl (hTys κ) A M t.heap; rw [ht]; exact hM⟩, hS.F ht⟩) hS.2.2 d_Mo_logCount_27
    · replace hwp := hwp.2 c5
      refine lv_iload_n hx hb d_Mo_logCount_12 rfl (lv_at hl 1 rfl) ?_
      refine lv_aload_n hx hb d_Mo_logCount_13 rfl (lv_at hl 0 rfl) ?_
      refine lv_iload_n hx hb d_Mo_logCount_14 rfl (lv_at hl 2 rfl) ?_
      obtain ⟨ho7, hwp⟩ := hwp
      refine h_calli hM hS hA (va_runV (As := [.int x2]) (rest := [.int x1]) ⟨hx, hb, hml, hown, hts⟩ (metMo_countOf l D κ H.size x0 x2 M _ hwp) (cwV 1 hts (gV kw_938 kw_940 kp_36 kw_8 kw_941) rfl rfl rfl (by decide +kernel) ⟨(Nat.le_of_ble_eq_true rfl), (Nat.le_of_ble_eq_true rfl)⟩) (h_preV hE hM hS ho7 (r := ("BuckTablesModel", Tc6, 36)) rfl) rfl rfl hl.1 rfl (lv_room (Nat.le_of_ble_eq_true rfl)) d_Mo_logCount_15 ⟨(Nat.le_of_ble_eq_true rfl), (Nat.le_of_ble_eq_true rfl)⟩) (fun r8 M6 H locs hwp hM hS => ?_)
      refine lv_iadd hx hb d_Mo_logCount_18 ?_
      refine lv_topi (fun z9 ez9 => ?_)
      replace hwp := hwp z9 ez9
      refine lv_istore_n (lv' := [(1, .int z9), (0, .ref x0), (2, .int x2)]) hx hb d_Mo_logCount_19 rfl hl (by decide) rfl (fun ls hl => ?_)
      obtain ⟨z10, ez10⟩ : ∃ y : Int32, y = x2 + 1 := ⟨_, rfl⟩
      replace hwp := hwp z10 ez10
      refine lv_iinc (v := z10) (lv' := [(2, .int z10), (1, .int z9), (0, .ref x0)]) hx hb d_Mo_logCount_20 hl (k := 2) rfl (by rw [ez10]; rfl) (by decide) rfl (fun ls hl => ?_)
      refine lv_goto (tgt := 4) hx hb d_Mo_logCount_23 (by decide) ?_
      exact ih x0 z9 z10 M6 hwp H locs ls hM hS (lv_sub hl [2, 1, 0] rfl)
def wpMo_logCount (self : Nat) (M : Hp) (post : Int32 → Hp → Prop) : Prop := (∃ n11 : Nat, wMo_logCount_4 post n11 self (0 : Int32) (0 : Int32) M)
set_option maxRecDepth 100000 in
set_option maxHeartbeats 4000000 in
theorem eMo_logCount {p : Program} {l : Launch} {e : Env} {s : State} {m : MethodId} {args : Array Value} {below : List Frame} {meth : Method} {c : Code} {D : va_G} {κ : Nat → ClassId} {A : Nat → Prop} (C : Cx_Mo_logCount p s m args meth c D κ A) (post : Int32 → Hp → Prop) (self : Nat) (M : Hp) (hwp : wpMo_logCount self M post) : Y p l e rm_Mo_logCount s m args below meth c D kCl (hTys κ) A 3 0 0 (MQ below (va_Qi post (hB D kCl (hTys κ) A) A) args s 0 0 A) M 0 [(0, .ref self)] [] := by
  obtain ⟨hx, hb, hml, hr, hown, hts, hlocks, hE, hA⟩ := id C
  have hK := hE.1
  intro H locs ls hM hS hl
  unfold wpMo_logCount at hwp
  refine lv_iconst (v := 0) hx hb d_Mo_logCount_0 (by decide) ?_
  refine lv_istore_n (lv' := [(1, .int (0 : Int32)), (0, .ref self)]) hx hb d_Mo_logCount_1 rfl hl (by decide) rfl (fun ls hl => ?_)
  refine lv_iconst (v := 0) hx hb d_Mo_logCount_2 (by decide) ?_
  refine lv_istore_n (lv' := [(2, .int (0 : Int32)), (1, .int (0 : Int32)), (0, .ref self)]) hx hb d_Mo_logCount_3 rfl hl (by decide) rfl (fun ls hl => ?_)
  obtain ⟨n11, hwp⟩ := hwp
  exact tMo_logCount_4 C post n11 self (0 : Int32) (0 : Int32) M hwp H locs ls hM hS (lv_sub hl [2, 1, 0] rfl)
set_option maxRecDepth 100000 in
set_option maxHeartbeats 4000000 in
theorem metMo_logCount (l : Launch) (D : va_G) (κ : Nat → ClassId) (sz : Nat) (self : Nat) (M : Hp) (post : Int32 → Hp → Prop) (hwp : wpMo_logCount self M post) : Met l y_Mo_logCount ws_Mo_logCount rm_Mo_logCount (hPc D kCl (hTys κ) M sz [.ref self]) (va_Qi post (hB D kCl (hTys κ) (hAx M sz)) (hAx M sz)) 0 0 (hAx M sz) := by
  refine Met.ofW (cc := prog_8_method_28_code) (maxL := 3) (ret := (some .int)) (by decide +kernel) rfl ?_
  intro p e s m args below meth c s₁ B hml hv
  obtain ⟨rfl, hsz, hE, hM0⟩ := hv
  have hts : ∀ w ∈ WG, w.before _ s = true := fun w h => atoms_spec (ws := ws_Mo_logCount) B.pre w (List.mem_cons_of_mem _ h)
  subst hsz
  have C : Cx_Mo_logCount p s m _ meth c D κ (hAx M s.heap.size) := ⟨B.exec, B.bytes, hml, B.returns, findClass_of_methodNamed B.named, hts, B.notSynchronized, hE, fun q h => Or.inr h⟩
  have hl := lv_entry ([.ref self]) (n := 3) (Nat.le_of_ble_eq_true rfl)
  rw [lg_entry_eq]
  generalize (lg_sl ([.ref self]) ++ List.replicate (3 - (lg_sl ([.ref self])).length) Slot.unset).toArray = ls at hl ⊢
  exact eMo_logCount C post self M hwp s.heap [] ls (hM0.self (sz := s.heap.size)) va_S.rf hl
abbrev rm_Mo_run : Room := { frames := 4, cells := 0, slots := 0, locals := 105 }
def Cx_Mo_run (p : Program) (s : State) (m : MethodId) (args : Array Value) (meth : Method) (c : Code) (D : va_G) (κ : Nat → ClassId) (A : Nat → Prop) : Prop := p.tables.exec = Jvm.exec ∧ c.code = prog_8_method_29_code ∧ c.maxLocals = 2 ∧ meth.sig.returnType = (some .int) ∧ s.vm.findClass "BuckTablesModel" = some m.cls ∧ (∀ w ∈ WG, w.before args s = true) ∧ meth.locks = false ∧ hEnv D kCl (hTys κ) A s ∧ (∀ q, s.heap.size ≤ q → A q)
def wMo_run_7 (post : Int32 → Hp → Prop)  : Nat → Nat → Int32 → Hp → Prop
  | 0 => fun _ _ _ => False
  | n + 1 => fun x0 x1 M => (((8 : Int32) ≤ x1 → (hob M x0 6 ∧ (wpMo_plan x0 M (fun (r4 : Int64) (M2 : Hp) => (∃ M5 : Hp, pF M2 x0 6 35 (.long r4) M5 ∧ (∃ M9 : Hp, pF M5 x0 6 34 (.int (0 : Int32)) M9 ∧ (∃ M13 : Hp, pF M9 x0 6 33 (.int (1 : Int32)) M13 ∧ (hob M13 x0 6 ∧ (wpMo_logCount x0 M13 (fun (r19 : Int32) (M17 : Hp) => (post r19 M17))))))))))) ∧ (¬ (8 : Int32) ≤ x1 → (∃ a20 : Nat, fA M x0 6 23 a20 ∧ (∃ M28 : Hp, sJ M a20 x1 (0 : Int64) M28 ∧ (∃ a29 : Nat, fA M28 x0 6 24 a29 ∧ (∃ M37 : Hp, sJ M28 a29 x1 (0 : Int64) M37 ∧ (∀ z38 : Int32, z38 = x1 + 1 → ((wMo_run_7 post n) x0 z38 M37))))))))
set_option maxRecDepth 100000 in
set_option maxHeartbeats 4000000 in
theorem tMo_run_7 {p : Program} {l : Launch} {e : Env} {s : State} {m : MethodId} {args : Array Value} {below : List Frame} {meth : Method} {c : Code} {D : va_G} {κ : Nat → ClassId} {A : Nat → Prop} (C : Cx_Mo_run p s m args meth c D κ A) (post : Int32 → Hp → Prop)  : ∀ (n : Nat) (x0 : Nat) (x1 : Int32) (M : Hp), wMo_run_7 post n x0 x1 M → Y p l e rm_Mo_run s m args below meth c D kCl (hTys κ) A 2 0 0 (MQ below (va_Qi post (hB D kCl (hTys κ) A) A) args s 0 0 A) M 7 [(0, .ref x0), (1, .int x1)] [] := by
  obtain ⟨hx, hb, hml, hr, hown, hts, hlocks, hE, hA⟩ := id C
  have hK := hE.1
  intro n
  induction n with
  | zero => intro x0 x1 M hwp; exact hwp.elim
  | succ n ih =>
    intro x0 x1 M hwp H locs ls hM hS hl
    unfold wMo_run_7 at hwp
    refine lv_iload_n hx hb d_Mo_run_7 rfl (lv_at hl 1 rfl) ?_
    refine lv_bipush (v := 8) hx hb d_Mo_run_8 (by decide) ?_
    refine lv_icmp_ge (tgt := 33) hx hb d_Mo_run_10 (by decide) (fun c1 => ?_) (fun c1 => ?_)
    · replace hwp := hwp.1 c1
      refine lv_aload_n hx hb d_Mo_run_33 rfl (lv_at hl 0 rfl) ?_
      refine lv_aload_n hx hb d_Mo_run_34 rfl (lv_at hl 0 rfl) ?_
      obtain ⟨ho3, hwp⟩ := hwp
      refine h_calll hM hS hA (va_runV (As := []) (rest := [.ref x0]) ⟨hx, hb, hml, hown, hts⟩ (metMo_plan l D κ H.size x0 M _ hwp) (cwV 0 hts (gV kw_902 kw_904 kp_27 kw_8 kw_905) rfl rfl rfl (by decide +kernel) ⟨(Nat.le_of_ble_eq_true rfl), (Nat.le_of_ble_eq_true rfl)⟩) (h_preV hE hM hS ho3 (r := ("BuckTablesModel", Tc6, 36)) rfl) rfl rfl hl.1 rfl (lv_room (Nat.le_of_ble_eq_true rfl)) d_Mo_run_35 ⟨(Nat.le_of_ble_eq_true rfl), (Nat.le_of_ble_eq_true rfl)⟩) (fun r4 M2 H locs hwp hM hS => ?_)
      obtain ⟨M5, ⟨fs6, he7, hl8, eM5⟩, hwp⟩ := hwp
      refine h_put (C := "BuckTablesModel") (T := Tc6) (N := 36) (v := .long r4) (ty := .long) hx hb hts inc6 tyc6 tyc6_ok nmc6 hown hK hM hS he7 rfl 35 (by decide) (hts _ kw_755) (fun _ h9 => h9) rfl (by decide +kernel) rfl rfl hl8 d_Mo_run_38 (fun H locs hM hS => ?_)
      rw [← eM5] at hM
      refine lv_aload_n hx hb d_Mo_run_41 rfl (lv_at hl 0 rfl) ?_
      refine lv_iconst (v := 0) hx hb d_Mo_run_42 (by decide) ?_
      obtain ⟨M9, ⟨fs10, he11, hl12, eM9⟩, hwp⟩ := hwp
      refine h_put (C := "BuckTablesModel") (T := Tc6) (N := 36) (v := .int (0 : Int32)) (ty := .int) hx hb hts inc6 tyc6 tyc6_ok nmc6 hown hK hM hS he11 rfl 34 (by decide) (hts _ kw_754) (fun _ h9 => h9) rfl (by decide +kernel) rfl rfl hl12 d_Mo_run_43 (fun H locs hM hS => ?_)
      rw [← eM9] at hM
      refine lv_aload_n hx hb d_Mo_run_46 rfl (lv_at hl 0 rfl) ?_
      refine lv_iconst (v := 1) hx hb d_Mo_run_47 (by decide) ?_
      obtain ⟨M13, ⟨fs14, he15, hl16, eM13⟩, hwp⟩ := hwp
      refine h_put (C := "BuckTablesModel") (T := Tc6) (N := 36) (v := .int (1 : Int32)) (ty := .boolean) hx hb hts inc6 tyc6 tyc6_ok nmc6 hown hK hM hS he15 rfl 33 (by decide) (hts _ kw_753) (fun _ h9 => h9) rfl (by decide +kernel) (by decide) (by decide) hl16 d_Mo_run_48 (fun H locs hM hS => ?_)
      rw [← eM13] at hM
      refine lv_aload_n hx hb d_Mo_run_51 rfl (lv_at hl 0 rfl) ?_
      obtain ⟨ho18, hwp⟩ := hwp
      refine h_calli hM hS hA (va_runV (As := []) (rest := []) ⟨hx, hb, hml, hown, hts⟩ (metMo_logCount l D κ H.size x0 M13 _ hwp) (cwV 0 hts (gV kw_934 kw_936 kp_35 kw_8 kw_937) rfl rfl rfl (by decide +kernel) ⟨(Nat.le_of_ble_eq_true rfl), (Nat.le_of_ble_eq_true rfl)⟩) (h_preV hE hM hS ho18 (r := ("BuckTablesModel", Tc6, 36)) rfl) rfl rfl hl.1 rfl (lv_room (Nat.le_of_ble_eq_true rfl)) d_Mo_run_52 ⟨(Nat.le_of_ble_eq_true rfl), (Nat.le_of_ble_eq_true rfl)⟩) (fun r19 M17 H locs hwp hM hS => ?_)
      exact W.iret (v := r19) hx hb hr (fun t ht hW => ⟨⟨r19, M17, rfl, hwp, by show hw D kCl (hTys κ) A M17 t.heap; rw [ht]; exact hM⟩, hS.F ht⟩) hS.2.2 d_Mo_run_55
    · replace hwp := hwp.2 c1
      refine lv_aload_n hx hb d_Mo_run_13 rfl (lv_at hl 0 rfl) ?_
      obtain ⟨a20, ⟨fs21, he22, hv23⟩, hwp⟩ := hwp
      refine h_get (C := "BuckTablesModel") (T := Tc6) (N := 36) hx hb hts inc6 hown hK hM he22 rfl 23 (by decide) (hts _ kw_743) (fun _ h9 => h9) hv23 d_Mo_run_14 ?_
      refine lv_iload_n hx hb d_Mo_run_17 rfl (lv_at hl 1 rfl) ?_
      refine lv_lconst (v := 0) hx hb d_Mo_run_18 (by decide) ?_
      obtain ⟨M28, ⟨n24, f25, ha26, hi27, eM28⟩, hwp⟩ := hwp
      refine h_last hx hb hK hM hS ha26 rfl hi27 d_Mo_run_19 (fun H locs hM hS => ?_)
      rw [← eM28] at hM
      refine lv_aload_n hx hb d_Mo_run_20 rfl (lv_at hl 0 rfl) ?_
      obtain ⟨a29, ⟨fs30, he31, hv32⟩, hwp⟩ := hwp
      refine h_get (C := "BuckTablesModel") (T := Tc6) (N := 36) hx hb hts inc6 hown hK hM he31 rfl 24 (by decide) (hts _ kw_744) (fun _ h9 => h9) hv32 d_Mo_run_21 ?_
      refine lv_iload_n hx hb d_Mo_run_24 rfl (lv_at hl 1 rfl) ?_
      refine lv_lconst (v := 0) hx hb d_Mo_run_25 (by decide) ?_
      obtain ⟨M37, ⟨n33, f34, ha35, hi36, eM37⟩, hwp⟩ := hwp
      refine h_last hx hb hK hM hS ha35 rfl hi36 d_Mo_run_26 (fun H locs hM hS => ?_)
      rw [← eM37] at hM
      obtain ⟨z38, ez38⟩ : ∃ y : Int32, y = x1 + 1 := ⟨_, rfl⟩
      replace hwp := hwp z38 ez38
      refine lv_iinc (v := z38) (lv' := [(1, .int z38), (0, .ref x0)]) hx hb d_Mo_run_27 hl (k := 1) rfl (by rw [ez38]; rfl) (by decide) rfl (fun ls hl => ?_)
      refine lv_goto (tgt := 7) hx hb d_Mo_run_30 (by decide) ?_
      exact ih x0 z38 M37 hwp H locs ls hM hS (lv_sub hl [1, 0] rfl)
def wpMo_run (self : Nat) (M : Hp) (post : Int32 → Hp → Prop) : Prop := (∃ M39 : Hp, pF M self 6 0 (.int (0 : Int32)) M39 ∧ (∃ n43 : Nat, wMo_run_7 post n43 self (0 : Int32) M39))
set_option maxRecDepth 100000 in
set_option maxHeartbeats 4000000 in
theorem eMo_run {p : Program} {l : Launch} {e : Env} {s : State} {m : MethodId} {args : Array Value} {below : List Frame} {meth : Method} {c : Code} {D : va_G} {κ : Nat → ClassId} {A : Nat → Prop} (C : Cx_Mo_run p s m args meth c D κ A) (post : Int32 → Hp → Prop) (self : Nat) (M : Hp) (hwp : wpMo_run self M post) : Y p l e rm_Mo_run s m args below meth c D kCl (hTys κ) A 2 0 0 (MQ below (va_Qi post (hB D kCl (hTys κ) A) A) args s 0 0 A) M 0 [(0, .ref self)] [] := by
  obtain ⟨hx, hb, hml, hr, hown, hts, hlocks, hE, hA⟩ := id C
  have hK := hE.1
  intro H locs ls hM hS hl
  unfold wpMo_run at hwp
  refine lv_aload_n hx hb d_Mo_run_0 rfl (lv_at hl 0 rfl) ?_
  refine lv_iconst (v := 0) hx hb d_Mo_run_1 (by decide) ?_
  obtain ⟨M39, ⟨fs40, he41, hl42, eM39⟩, hwp⟩ := hwp
  refine h_put (C := "BuckTablesModel") (T := Tc6) (N := 36) (v := .int (0 : Int32)) (ty := .int) hx hb hts inc6 tyc6 tyc6_ok nmc6 hown hK hM hS he41 rfl 0 (by decide) (hts _ kw_720) (fun _ h9 => h9) rfl (by decide +kernel) rfl rfl hl42 d_Mo_run_2 (fun H locs hM hS => ?_)
  rw [← eM39] at hM
  refine lv_iconst (v := 0) hx hb d_Mo_run_5 (by decide) ?_
  refine lv_istore_n (lv' := [(1, .int (0 : Int32)), (0, .ref self)]) hx hb d_Mo_run_6 rfl hl (by decide) rfl (fun ls hl => ?_)
  obtain ⟨n43, hwp⟩ := hwp
  exact tMo_run_7 C post n43 self (0 : Int32) M39 hwp H locs ls hM hS (lv_sub hl [1, 0] rfl)
set_option maxRecDepth 100000 in
set_option maxHeartbeats 4000000 in
theorem metMo_run (l : Launch) (D : va_G) (κ : Nat → ClassId) (sz : Nat) (self : Nat) (M : Hp) (post : Int32 → Hp → Prop) (hwp : wpMo_run self M post) : Met l y_Mo_run ws_Mo_run rm_Mo_run (hPc D kCl (hTys κ) M sz [.ref self]) (va_Qi post (hB D kCl (hTys κ) (hAx M sz)) (hAx M sz)) 0 0 (hAx M sz) := by
  refine Met.ofW (cc := prog_8_method_29_code) (maxL := 2) (ret := (some .int)) (by decide +kernel) rfl ?_
  intro p e s m args below meth c s₁ B hml hv
  obtain ⟨rfl, hsz, hE, hM0⟩ := hv
  have hts : ∀ w ∈ WG, w.before _ s = true := fun w h => atoms_spec (ws := ws_Mo_run) B.pre w (List.mem_cons_of_mem _ h)
  subst hsz
  have C : Cx_Mo_run p s m _ meth c D κ (hAx M s.heap.size) := ⟨B.exec, B.bytes, hml, B.returns, findClass_of_methodNamed B.named, hts, B.notSynchronized, hE, fun q h => Or.inr h⟩
  have hl := lv_entry ([.ref self]) (n := 2) (Nat.le_of_ble_eq_true rfl)
  rw [lg_entry_eq]
  generalize (lg_sl ([.ref self]) ++ List.replicate (2 - (lg_sl ([.ref self])).length) Slot.unset).toArray = ls at hl ⊢
  exact eMo_run C post self M hwp s.heap [] ls (hM0.self (sz := s.heap.size)) va_S.rf hl
abbrev rm_Mo_copy : Room := { frames := 0, cells := 0, slots := 0, locals := 0 }
def Cx_Mo_copy (p : Program) (s : State) (m : MethodId) (args : Array Value) (meth : Method) (c : Code) (D : va_G) (κ : Nat → ClassId) (A : Nat → Prop) : Prop := p.tables.exec = Jvm.exec ∧ c.code = prog_8_method_30_code ∧ c.maxLocals = 4 ∧ meth.sig.returnType = none ∧ s.vm.findClass "BuckTablesModel" = some m.cls ∧ (∀ w ∈ WG, w.before args s = true) ∧ meth.locks = false ∧ hEnv D kCl (hTys κ) A s ∧ (∀ q, s.heap.size ≤ q → A q)
def wMo_copy_2 (post : Hp → Prop)  : Nat → Nat → Nat → Int32 → Hp → Prop
  | 0 => fun _ _ _ _ => False
  | n + 1 => fun x1 x2 x3 M => (((486 : Int32) ≤ x3 → (post M)) ∧ (¬ (486 : Int32) ≤ x3 → (∃ v2 : Int32, aI M x1 x3 v2 ∧ (∃ M11 : Hp, sI M x2 x3 v2 M11 ∧ (∀ z12 : Int32, z12 = x3 + 1 → ((wMo_copy_2 post n) x1 x2 z12 M11))))))
set_option maxRecDepth 100000 in
set_option maxHeartbeats 4000000 in
theorem tMo_copy_2 {p : Program} {l : Launch} {e : Env} {s : State} {m : MethodId} {args : Array Value} {below : List Frame} {meth : Method} {c : Code} {D : va_G} {κ : Nat → ClassId} {A : Nat → Prop} (C : Cx_Mo_copy p s m args meth c D κ A) (post : Hp → Prop)  : ∀ (n : Nat) (x1 : Nat) (x2 : Nat) (x3 : Int32) (M : Hp), wMo_copy_2 post n x1 x2 x3 M → Y p l e rm_Mo_copy s m args below meth c D kCl (hTys κ) A 4 0 0 (MQ below (va_Qv post (hB D kCl (hTys κ) A) A) args s 0 0 A) M 2 [(1, .ref x1), (2, .ref x2), (3, .int x3)] [] := by
  obtain ⟨hx, hb, hml, hr, hown, hts, hlocks, hE, hA⟩ := id C
  have hK := hE.1
  intro n
  induction n with
  | zero => intro x1 x2 x3 M hwp; exact hwp.elim
  | succ n ih =>
    intro x1 x2 x3 M hwp H locs ls hM hS hl
    unfold wMo_copy_2 at hwp
    refine lv_iload_n hx hb d_Mo_copy_2 rfl (lv_at hl 2 rfl) ?_
    refine lv_sipush (v := 486) hx hb d_Mo_copy_3 (by decide) ?_
    refine lv_icmp_ge (tgt := 21) hx hb d_Mo_copy_6 (by decide) (fun c1 => ?_) (fun c1 => ?_)
    · replace hwp := hwp.1 c1
      exact W.vret hx hb hr (fun t ht hW => ⟨⟨M, rfl, hwp, by show hw D kCl (hTys κ) A M t.heap; rw [ht]; exact hM⟩, hS.F ht⟩) hS.2.2 d_Mo_copy_21
    · replace hwp := hwp.2 c1
      refine lv_aload_n hx hb d_Mo_copy_9 rfl (lv_at hl 1 rfl) ?_
      refine lv_iload_n hx hb d_Mo_copy_10 rfl (lv_at hl 2 rfl) ?_
      refine lv_aload_n hx hb d_Mo_copy_11 rfl (lv_at hl 0 rfl) ?_
      refine lv_iload_n hx hb d_Mo_copy_12 rfl (lv_at hl 2 rfl) ?_
      obtain ⟨v2, ⟨n3, f4, ha5, hi6, ev2⟩, hwp⟩ := hwp
      refine h_iald hx hb hK hM ha5 rfl hi6 d_Mo_copy_13 ?_
      rw [← ev2]
      obtain ⟨M11, ⟨n7, f8, ha9, hi10, eM11⟩, hwp⟩ := hwp
      refine h_iast hx hb hK hM hS ha9 rfl hi10 d_Mo_copy_14 (fun H locs hM hS => ?_)
      rw [← eM11] at hM
      obtain ⟨z12, ez12⟩ : ∃ y : Int32, y = x3 + 1 := ⟨_, rfl⟩
      replace hwp := hwp z12 ez12
      refine lv_iinc (v := z12) (lv' := [(3, .int z12), (1, .ref x1), (2, .ref x2)]) hx hb d_Mo_copy_15 hl (k := 2) rfl (by rw [ez12]; rfl) (by decide) rfl (fun ls hl => ?_)
      refine lv_goto (tgt := 2) hx hb d_Mo_copy_18 (by decide) ?_
      exact ih x1 x2 z12 M11 hwp H locs ls hM hS (lv_sub hl [1, 2, 0] rfl)
def wpMo_copy (self : Nat) (p0 : Nat) (p1 : Nat) (M : Hp) (post : Hp → Prop) : Prop := (∃ n13 : Nat, wMo_copy_2 post n13 p0 p1 (0 : Int32) M)
set_option maxRecDepth 100000 in
set_option maxHeartbeats 4000000 in
theorem eMo_copy {p : Program} {l : Launch} {e : Env} {s : State} {m : MethodId} {args : Array Value} {below : List Frame} {meth : Method} {c : Code} {D : va_G} {κ : Nat → ClassId} {A : Nat → Prop} (C : Cx_Mo_copy p s m args meth c D κ A) (post : Hp → Prop) (self : Nat) (p0 : Nat) (p1 : Nat) (M : Hp) (hwp : wpMo_copy self p0 p1 M post) : Y p l e rm_Mo_copy s m args below meth c D kCl (hTys κ) A 4 0 0 (MQ below (va_Qv post (hB D kCl (hTys κ) A) A) args s 0 0 A) M 0 [(0, .ref self), (1, .ref p0), (2, .ref p1)] [] := by
  obtain ⟨hx, hb, hml, hr, hown, hts, hlocks, hE, hA⟩ := id C
  have hK := hE.1
  intro H locs ls hM hS hl
  unfold wpMo_copy at hwp
  refine lv_iconst (v := 0) hx hb d_Mo_copy_0 (by decide) ?_
  refine lv_istore_n (lv' := [(3, .int (0 : Int32)), (0, .ref self), (1, .ref p0), (2, .ref p1)]) hx hb d_Mo_copy_1 rfl hl (by decide) rfl (fun ls hl => ?_)
  obtain ⟨n13, hwp⟩ := hwp
  exact tMo_copy_2 C post n13 p0 p1 (0 : Int32) M hwp H locs ls hM hS (lv_sub hl [2, 3, 0] rfl)
set_option maxRecDepth 100000 in
set_option maxHeartbeats 4000000 in
theorem metMo_copy (l : Launch) (D : va_G) (κ : Nat → ClassId) (sz : Nat) (self : Nat) (p0 : Nat) (p1 : Nat) (M : Hp) (post : Hp → Prop) (hwp : wpMo_copy self p0 p1 M post) : Met l y_Mo_copy ws_Mo_copy rm_Mo_copy (hPc D kCl (hTys κ) M sz [.ref self, .ref p0, .ref p1]) (va_Qv post (hB D kCl (hTys κ) (hAx M sz)) (hAx M sz)) 0 0 (hAx M sz) := by
  refine Met.ofW (cc := prog_8_method_30_code) (maxL := 4) (ret := none) (by decide +kernel) rfl ?_
  intro p e s m args below meth c s₁ B hml hv
  obtain ⟨rfl, hsz, hE, hM0⟩ := hv
  have hts : ∀ w ∈ WG, w.before _ s = true := fun w h => atoms_spec (ws := ws_Mo_copy) B.pre w (List.mem_cons_of_mem _ h)
  subst hsz
  have C : Cx_Mo_copy p s m _ meth c D κ (hAx M s.heap.size) := ⟨B.exec, B.bytes, hml, B.returns, findClass_of_methodNamed B.named, hts, B.notSynchronized, hE, fun q h => Or.inr h⟩
  have hl := lv_entry ([.ref self, .ref p0, .ref p1]) (n := 4) (Nat.le_of_ble_eq_true rfl)
  rw [lg_entry_eq]
  generalize (lg_sl ([.ref self, .ref p0, .ref p1]) ++ List.replicate (4 - (lg_sl ([.ref self, .ref p0, .ref p1])).length) Slot.unset).toArray = ls at hl ⊢
  exact eMo_copy C post self p0 p1 M hwp s.heap [] ls (hM0.self (sz := s.heap.size)) va_S.rf hl
abbrev rm_Mo_allHold : Room := { frames := 2, cells := 0, slots := 0, locals := 45 }
def Cx_Mo_allHold (p : Program) (s : State) (m : MethodId) (args : Array Value) (meth : Method) (c : Code) (D : va_G) (κ : Nat → ClassId) (A : Nat → Prop) : Prop := p.tables.exec = Jvm.exec ∧ c.code = prog_8_method_31_code ∧ c.maxLocals = 3 ∧ meth.sig.returnType = (some .boolean) ∧ s.vm.findClass "BuckTablesModel" = some m.cls ∧ (∀ w ∈ WG, w.before args s = true) ∧ meth.locks = false ∧ hEnv D kCl (hTys κ) A s ∧ (∀ q, s.heap.size ≤ q → A q)
def wMo_allHold_48 (post : Int32 → Hp → Prop) (k4 : Nat → Int32 → Int32 → Hp → Prop) (x0 : Nat) (x2 : Int32) (y0 : Int32) (M : Hp) : Prop := (∀ z1 : Int32, z1 = x2 + 1 → (k4 x0 y0 z1 M))
set_option maxRecDepth 100000 in
set_option maxHeartbeats 4000000 in
theorem tMo_allHold_48 {p : Program} {l : Launch} {e : Env} {s : State} {m : MethodId} {args : Array Value} {below : List Frame} {meth : Method} {c : Code} {D : va_G} {κ : Nat → ClassId} {A : Nat → Prop} (C : Cx_Mo_allHold p s m args meth c D κ A) (post : Int32 → Hp → Prop) (k4 : Nat → Int32 → Int32 → Hp → Prop) (hk4 : ∀ (x0 : Nat) (x1 : Int32) (x2 : Int32) (M : Hp), k4 x0 x1 x2 M → Y p l e rm_Mo_allHold s m args below meth c D kCl (hTys κ) A 3 0 0 (MQ below (va_Qi post (hB D kCl (hTys κ) A) A) args s 0 0 A) M 4 [(0, .ref x0), (1, .int x1), (2, .int x2)] []) (x0 : Nat) (x2 : Int32) (y0 : Int32) (M : Hp) (hwp : wMo_allHold_48 post k4 x0 x2 y0 M) : Y p l e rm_Mo_allHold s m args below meth c D kCl (hTys κ) A 3 0 0 (MQ below (va_Qi post (hB D kCl (hTys κ) A) A) args s 0 0 A) M 48 [(0, .ref x0), (2, .int x2)] [.int y0] := by
  obtain ⟨hx, hb, hml, hr, hown, hts, hlocks, hE, hA⟩ := id C
  have hK := hE.1
  intro H locs ls hM hS hl
  unfold wMo_allHold_48 at hwp
  refine lv_istore_n (lv' := [(1, .int y0), (0, .ref x0), (2, .int x2)]) hx hb d_Mo_allHold_48 rfl hl (by decide) rfl (fun ls hl => ?_)
  obtain ⟨z1, ez1⟩ : ∃ y : Int32, y = x2 + 1 := ⟨_, rfl⟩
  replace hwp := hwp z1 ez1
  refine lv_iinc (v := z1) (lv' := [(2, .int z1), (1, .int y0), (0, .ref x0)]) hx hb d_Mo_allHold_49 hl (k := 2) rfl (by rw [ez1]; rfl) (by decide) rfl (fun ls hl => ?_)
  refine lv_goto (tgt := 4) hx hb d_Mo_allHold_52 (by decide) ?_
  exact hk4 x0 y0 z1 M hwp H locs ls hM hS (lv_sub hl [2, 1, 0] rfl)
def wMo_allHold_47 (post : Int32 → Hp → Prop) (k4 : Nat → Int32 → Int32 → Hp → Prop) (x0 : Nat) (x2 : Int32) (M : Hp) : Prop := (wMo_allHold_48 post k4 x0 x2 (0 : Int32) M)
set_option maxRecDepth 100000 in
set_option maxHeartbeats 4000000 in
theorem tMo_allHold_47 {p : Program} {l : Launch} {e : Env} {s : State} {m : MethodId} {args : Array Value} {below : List Frame} {meth : Method} {c : Code} {D : va_G} {κ : Nat → ClassId} {A : Nat → Prop} (C : Cx_Mo_allHold p s m args meth c D κ A) (post : Int32 → Hp → Prop) (k4 : Nat → Int32 → Int32 → Hp → Prop) (hk4 : ∀ (x0 : Nat) (x1 : Int32) (x2 : Int32) (M : Hp), k4 x0 x1 x2 M → Y p l e rm_Mo_allHold s m args below meth c D kCl (hTys κ) A 3 0 0 (MQ below (va_Qi post (hB D kCl (hTys κ) A) A) args s 0 0 A) M 4 [(0, .ref x0), (1, .int x1), (2, .int x2)] []) (x0 : Nat) (x2 : Int32) (M : Hp) (hwp : wMo_allHold_47 post k4 x0 x2 M) : Y p l e rm_Mo_allHold s m args below meth c D kCl (hTys κ) A 3 0 0 (MQ below (va_Qi post (hB D kCl (hTys κ) A) A) args s 0 0 A) M 47 [(0, .ref x0), (2, .int x2)] [] := by
  obtain ⟨hx, hb, hml, hr, hown, hts, hlocks, hE, hA⟩ := id C
  have hK := hE.1
  intro H locs ls hM hS hl
  unfold wMo_allHold_47 at hwp
  refine lv_iconst (v := 0) hx hb d_Mo_allHold_47 (by decide) ?_
  exact tMo_allHold_48 C post k4 hk4 x0 x2 (0 : Int32) M hwp H locs ls hM hS (lv_sub hl [0, 1] rfl)
def wMo_allHold_43 (post : Int32 → Hp → Prop) (k4 : Nat → Int32 → Int32 → Hp → Prop) (x0 : Nat) (x2 : Int32) (M : Hp) : Prop := (wMo_allHold_48 post k4 x0 x2 (1 : Int32) M)
set_option maxRecDepth 100000 in
set_option maxHeartbeats 4000000 in
theorem tMo_allHold_43 {p : Program} {l : Launch} {e : Env} {s : State} {m : MethodId} {args : Array Value} {below : List Frame} {meth : Method} {c : Code} {D : va_G} {κ : Nat → ClassId} {A : Nat → Prop} (C : Cx_Mo_allHold p s m args meth c D κ A) (post : Int32 → Hp → Prop) (k4 : Nat → Int32 → Int32 → Hp → Prop) (hk4 : ∀ (x0 : Nat) (x1 : Int32) (x2 : Int32) (M : Hp), k4 x0 x1 x2 M → Y p l e rm_Mo_allHold s m args below meth c D kCl (hTys κ) A 3 0 0 (MQ below (va_Qi post (hB D kCl (hTys κ) A) A) args s 0 0 A) M 4 [(0, .ref x0), (1, .int x1), (2, .int x2)] []) (x0 : Nat) (x2 : Int32) (M : Hp) (hwp : wMo_allHold_43 post k4 x0 x2 M) : Y p l e rm_Mo_allHold s m args below meth c D kCl (hTys κ) A 3 0 0 (MQ below (va_Qi post (hB D kCl (hTys κ) A) A) args s 0 0 A) M 43 [(0, .ref x0), (2, .int x2)] [] := by
  obtain ⟨hx, hb, hml, hr, hown, hts, hlocks, hE, hA⟩ := id C
  have hK := hE.1
  intro H locs ls hM hS hl
  unfold wMo_allHold_43 at hwp
  refine lv_iconst (v := 1) hx hb d_Mo_allHold_43 (by decide) ?_
  refine lv_goto (tgt := 48) hx hb d_Mo_allHold_44 (by decide) ?_
  exact tMo_allHold_48 C post k4 hk4 x0 x2 (1 : Int32) M hwp H locs ls hM hS (lv_sub hl [0, 1] rfl)
def wMo_allHold_4 (post : Int32 → Hp → Prop)  : Nat → Nat → Int32 → Int32 → Hp → Prop
  | 0 => fun _ _ _ _ => False
  | n + 1 => fun x0 x1 x2 M => (∃ v2 : Int32, fI M x0 6 14 v2 ∧ ((v2 ≤ x2 → ((x1 = 0 ∨ x1 = 1) ∧ post x1 M)) ∧ (¬ v2 ≤ x2 → ((x1 = 0 → (wMo_allHold_47 post (wMo_allHold_4 post n) x0 x2 M)) ∧ (¬ x1 = 0 → (∃ a9 : Nat, fA M x0 6 21 a9 ∧ (∃ v13 : Int64, aJ M a9 x2 v13 ∧ ((v13 < (0 : Int64) → (wMo_allHold_43 post (wMo_allHold_4 post n) x0 x2 M)) ∧ (¬ v13 < (0 : Int64) → (hob M x0 6 ∧ (wpMo_countOf x0 x2 M (fun (r21 : Int32) (M19 : Hp) => (∃ a22 : Nat, fA M19 x0 6 21 a22 ∧ (∃ v26 : Int64, aJ M19 a22 x2 v26 ∧ ((v26 < (r21.toInt64) → (wMo_allHold_47 post (wMo_allHold_4 post n) x0 x2 M19)) ∧ (¬ v26 < (r21.toInt64) → (wMo_allHold_43 post (wMo_allHold_4 post n) x0 x2 M19)))))))))))))))))
set_option maxRecDepth 100000 in
set_option maxHeartbeats 4000000 in
theorem tMo_allHold_4 {p : Program} {l : Launch} {e : Env} {s : State} {m : MethodId} {args : Array Value} {below : List Frame} {meth : Method} {c : Code} {D : va_G} {κ : Nat → ClassId} {A : Nat → Prop} (C : Cx_Mo_allHold p s m args meth c D κ A) (post : Int32 → Hp → Prop)  : ∀ (n : Nat) (x0 : Nat) (x1 : Int32) (x2 : Int32) (M : Hp), wMo_allHold_4 post n x0 x1 x2 M → Y p l e rm_Mo_allHold s m args below meth c D kCl (hTys κ) A 3 0 0 (MQ below (va_Qi post (hB D kCl (hTys κ) A) A) args s 0 0 A) M 4 [(0, .ref x0), (1, .int x1), (2, .int x2)] [] := by
  obtain ⟨hx, hb, hml, hr, hown, hts, hlocks, hE, hA⟩ := id C
  have hK := hE.1
  intro n
  induction n with
  | zero => intro x0 x1 x2 M hwp; exact hwp.elim
  | succ n ih =>
    intro x0 x1 x2 M hwp H locs ls hM hS hl
    unfold wMo_allHold_4 at hwp
    refine lv_iload_n hx hb d_Mo_allHold_4 rfl (lv_at hl 2 rfl) ?_
    refine lv_aload_n hx hb d_Mo_allHold_5 rfl (lv_at hl 0 rfl) ?_
    obtain ⟨v2, ⟨fs3, he4, hv5⟩, hwp⟩ := hwp
    refine h_get (C := "BuckTablesModel") (T := Tc6) (N := 36) hx hb hts inc6 hown hK hM he4 rfl 14 (by decide) (hts _ kw_734) (fun _ h9 => h9) hv5 d_Mo_allHold_6 ?_
    refine lv_icmp_ge (tgt := 55) hx hb d_Mo_allHold_9 (by decide) (fun c6 => ?_) (fun c6 => ?_)
    · replace hwp := hwp.1 c6
      refine lv_iload_n hx hb d_Mo_allHold_55 rfl (lv_at hl 1 rfl) ?_
      obtain ⟨hz7, hwp⟩ := hwp
      exact W.zret (v := x1) hx hb hr (by rcases hz7 with h | h <;> rw [h] <;> rfl) (fun t ht hW => ⟨⟨x1, M, rfl, hwp, by show hw D kCl (hTys κ) A M t.heap; rw [ht]; exact hM⟩, hS.F ht⟩) hS.2.2 d_Mo_allHold_56
    · replace hwp := hwp.2 c6
      refine lv_iload_n hx hb d_Mo_allHold_12 rfl (lv_at hl 1 rfl) ?_
      refine lv_if_eq (tgt := 47) hx hb d_Mo_allHold_13 (by decide) (fun c8 => ?_) (fun c8 => ?_)
      · replace hwp := hwp.1 c8
        exact tMo_allHold_47 C post (wMo_allHold_4 post n) ih x0 x2 M hwp H locs ls hM hS (lv_sub hl [0, 2] rfl)
      · replace hwp := hwp.2 c8
        refine lv_aload_n hx hb d_Mo_allHold_16 rfl (lv_at hl 0 rfl) ?_
        obtain ⟨a9, ⟨fs10, he11, hv12⟩, hwp⟩ := hwp
        refine h_get (C := "BuckTablesModel") (T := Tc6) (N := 36) hx hb hts inc6 hown hK hM he11 rfl 21 (by decide) (hts _ kw_741) (fun _ h9 => h9) hv12 d_Mo_allHold_17 ?_
        refine lv_iload_n hx hb d_Mo_allHold_20 rfl (lv_at hl 2 rfl) ?_
        obtain ⟨v13, ⟨n14, f15, ha16, hi17, ev13⟩, hwp⟩ := hwp
        refine h_lald hx hb hK hM ha16 rfl hi17 d_Mo_allHold_21 ?_
        rw [← ev13]
        refine lv_lconst (v := 0) hx hb d_Mo_allHold_22 (by decide) ?_
        refine W.lcmp hx hb d_Mo_allHold_23 ?_
        refine lv_if_lt (tgt := 43) hx hb d_Mo_allHold_24 (by decide) (fun c18 => ?_) (fun c18 => ?_)
        · replace c18 := (lc_lt _ _).mp c18
          replace hwp := hwp.1 c18
          exact tMo_allHold_43 C post (wMo_allHold_4 post n) ih x0 x2 M hwp H locs ls hM hS (lv_sub hl [0, 2] rfl)
        · replace c18 := fun h9 => c18 ((lc_lt _ _).mpr h9)
          replace hwp := hwp.2 c18
          refine lv_aload_n hx hb d_Mo_allHold_27 rfl (lv_at hl 0 rfl) ?_
          refine lv_iload_n hx hb d_Mo_allHold_28 rfl (lv_at hl 2 rfl) ?_
          obtain ⟨ho20, hwp⟩ := hwp
          refine h_calli hM hS hA (va_runV (As := [.int x2]) (rest := []) ⟨hx, hb, hml, hown, hts⟩ (metMo_countOf l D κ H.size x0 x2 M _ hwp) (cwV 1 hts (gV kw_938 kw_940 kp_36 kw_8 kw_941) rfl rfl rfl (by decide +kernel) ⟨(Nat.le_of_ble_eq_true rfl), (Nat.le_of_ble_eq_true rfl)⟩) (h_preV hE hM hS ho20 (r := ("BuckTablesModel", Tc6, 36)) rfl) rfl rfl hl.1 rfl (lv_room (Nat.le_of_ble_eq_true rfl)) d_Mo_allHold_29 ⟨(Nat.le_of_ble_eq_true rfl), (Nat.le_of_ble_eq_true rfl)⟩) (fun r21 M19 H locs hwp hM hS => ?_)
          refine lv_i2l hx hb d_Mo_allHold_32 rfl ?_
          refine lv_aload_n hx hb d_Mo_allHold_33 rfl (lv_at hl 0 rfl) ?_
          obtain ⟨a22, ⟨fs23, he24, hv25⟩, hwp⟩ := hwp
          refine h_get (C := "BuckTablesModel") (T := Tc6) (N := 36) hx hb hts inc6 hown hK hM he24 rfl 21 (by decide) (hts _ kw_741) (fun _ h9 => h9) hv25 d_Mo_allHold_34 ?_
          refine lv_iload_n hx hb d_Mo_allHold_37 rfl (lv_at hl 2 rfl) ?_
          obtain ⟨v26, ⟨n27, f28, ha29, hi30, ev26⟩, hwp⟩ := hwp
          refine h_lald hx hb hK hM ha29 rfl hi30 d_Mo_allHold_38 ?_
          rw [← ev26]
          refine W.lcmp hx hb d_Mo_allHold_39 ?_
          refine lv_if_gt (tgt := 47) hx hb d_Mo_allHold_40 (by decide) (fun c31 => ?_) (fun c31 => ?_)
          · replace c31 := (lc_gt _ _).mp c31
            replace hwp := hwp.1 c31
            exact tMo_allHold_47 C post (wMo_allHold_4 post n) ih x0 x2 M19 hwp H locs ls hM hS (lv_sub hl [0, 2] rfl)
          · replace c31 := fun h9 => c31 ((lc_gt _ _).mpr h9)
            replace hwp := hwp.2 c31
            exact tMo_allHold_43 C post (wMo_allHold_4 post n) ih x0 x2 M19 hwp H locs ls hM hS (lv_sub hl [0, 2] rfl)
def wpMo_allHold (self : Nat) (M : Hp) (post : Int32 → Hp → Prop) : Prop := (∃ n32 : Nat, wMo_allHold_4 post n32 self (1 : Int32) (0 : Int32) M)
set_option maxRecDepth 100000 in
set_option maxHeartbeats 4000000 in
theorem eMo_allHold {p : Program} {l : Launch} {e : Env} {s : State} {m : MethodId} {args : Array Value} {below : List Frame} {meth : Method} {c : Code} {D : va_G} {κ : Nat → ClassId} {A : Nat → Prop} (C : Cx_Mo_allHold p s m args meth c D κ A) (post : Int32 → Hp → Prop) (self : Nat) (M : Hp) (hwp : wpMo_allHold self M post) : Y p l e rm_Mo_allHold s m args below meth c D kCl (hTys κ) A 3 0 0 (MQ below (va_Qi post (hB D kCl (hTys κ) A) A) args s 0 0 A) M 0 [(0, .ref self)] [] := by
  obtain ⟨hx, hb, hml, hr, hown, hts, hlocks, hE, hA⟩ := id C
  have hK := hE.1
  intro H locs ls hM hS hl
  unfold wpMo_allHold at hwp
  refine lv_iconst (v := 1) hx hb d_Mo_allHold_0 (by decide) ?_
  refine lv_istore_n (lv' := [(1, .int (1 : Int32)), (0, .ref self)]) hx hb d_Mo_allHold_1 rfl hl (by decide) rfl (fun ls hl => ?_)
  refine lv_iconst (v := 0) hx hb d_Mo_allHold_2 (by decide) ?_
  refine lv_istore_n (lv' := [(2, .int (0 : Int32)), (1, .int (1 : Int32)), (0, .ref self)]) hx hb d_Mo_allHold_3 rfl hl (by decide) rfl (fun ls hl => ?_)
  obtain ⟨n32, hwp⟩ := hwp
  exact tMo_allHold_4 C post n32 self (1 : Int32) (0 : Int32) M hwp H locs ls hM hS (lv_sub hl [2, 1, 0] rfl)
set_option maxRecDepth 100000 in
set_option maxHeartbeats 4000000 in
theorem metMo_allHold (l : Launch) (D : va_G) (κ : Nat → ClassId) (sz : Nat) (self : Nat) (M : Hp) (post : Int32 → Hp → Prop) (hwp : wpMo_allHold self M post) : Met l y_Mo_allHold ws_Mo_allHold rm_Mo_allHold (hPc D kCl (hTys κ) M sz [.ref self]) (va_Qi post (hB D kCl (hTys κ) (hAx M sz)) (hAx M sz)) 0 0 (hAx M sz) := by
  refine Met.ofW (cc := prog_8_method_31_code) (maxL := 3) (ret := (some .boolean)) (by decide +kernel) rfl ?_
  intro p e s m args below meth c s₁ B hml hv
  obtain ⟨rfl, hsz, hE, hM0⟩ := hv
  have hts : ∀ w ∈ WG, w.before _ s = true := fun w h => atoms_spec (ws := ws_Mo_allHold) B.pre w (List.mem_cons_of_mem _ h)
  subst hsz
  have C : Cx_Mo_allHold p s m _ meth c D κ (hAx M s.heap.size) := ⟨B.exec, B.bytes, hml, B.returns, findClass_of_methodNamed B.named, hts, B.notSynchronized, hE, fun q h => Or.inr h⟩
  have hl := lv_entry ([.ref self]) (n := 3) (Nat.le_of_ble_eq_true rfl)
  rw [lg_entry_eq]
  generalize (lg_sl ([.ref self]) ++ List.replicate (3 - (lg_sl ([.ref self])).length) Slot.unset).toArray = ls at hl ⊢
  exact eMo_allHold C post self M hwp s.heap [] ls (hM0.self (sz := s.heap.size)) va_S.rf hl
abbrev rm_Mo_isSettled : Room := { frames := 3, cells := 0, slots := 0, locals := 67 }
def Cx_Mo_isSettled (p : Program) (s : State) (m : MethodId) (args : Array Value) (meth : Method) (c : Code) (D : va_G) (κ : Nat → ClassId) (A : Nat → Prop) : Prop := p.tables.exec = Jvm.exec ∧ c.code = prog_8_method_32_code ∧ c.maxLocals = 3 ∧ meth.sig.returnType = (some .boolean) ∧ s.vm.findClass "BuckTablesModel" = some m.cls ∧ (∀ w ∈ WG, w.before args s = true) ∧ meth.locks = false ∧ hEnv D kCl (hTys κ) A s ∧ (∀ q, s.heap.size ≤ q → A q)
def wMo_isSettled_51 (post : Int32 → Hp → Prop) (k7 : Nat → Int32 → Int32 → Hp → Prop) (x0 : Nat) (x2 : Int32) (y0 : Int32) (M : Hp) : Prop := (∀ z1 : Int32, z1 = x2 + 1 → (k7 x0 y0 z1 M))
set_option maxRecDepth 100000 in
set_option maxHeartbeats 4000000 in
theorem tMo_isSettled_51 {p : Program} {l : Launch} {e : Env} {s : State} {m : MethodId} {args : Array Value} {below : List Frame} {meth : Method} {c : Code} {D : va_G} {κ : Nat → ClassId} {A : Nat → Prop} (C : Cx_Mo_isSettled p s m args meth c D κ A) (post : Int32 → Hp → Prop) (k7 : Nat → Int32 → Int32 → Hp → Prop) (hk7 : ∀ (x0 : Nat) (x1 : Int32) (x2 : Int32) (M : Hp), k7 x0 x1 x2 M → Y p l e rm_Mo_isSettled s m args below meth c D kCl (hTys κ) A 3 0 0 (MQ below (va_Qi post (hB D kCl (hTys κ) A) A) args s 0 0 A) M 7 [(0, .ref x0), (1, .int x1), (2, .int x2)] []) (x0 : Nat) (x2 : Int32) (y0 : Int32) (M : Hp) (hwp : wMo_isSettled_51 post k7 x0 x2 y0 M) : Y p l e rm_Mo_isSettled s m args below meth c D kCl (hTys κ) A 3 0 0 (MQ below (va_Qi post (hB D kCl (hTys κ) A) A) args s 0 0 A) M 51 [(0, .ref x0), (2, .int x2)] [.int y0] := by
  obtain ⟨hx, hb, hml, hr, hown, hts, hlocks, hE, hA⟩ := id C
  have hK := hE.1
  intro H locs ls hM hS hl
  unfold wMo_isSettled_51 at hwp
  refine lv_istore_n (lv' := [(1, .int y0), (0, .ref x0), (2, .int x2)]) hx hb d_Mo_isSettled_51 rfl hl (by decide) rfl (fun ls hl => ?_)
  obtain ⟨z1, ez1⟩ : ∃ y : Int32, y = x2 + 1 := ⟨_, rfl⟩
  replace hwp := hwp z1 ez1
  refine lv_iinc (v := z1) (lv' := [(2, .int z1), (1, .int y0), (0, .ref x0)]) hx hb d_Mo_isSettled_52 hl (k := 2) rfl (by rw [ez1]; rfl) (by decide) rfl (fun ls hl => ?_)
  refine lv_goto (tgt := 7) hx hb d_Mo_isSettled_55 (by decide) ?_
  exact hk7 x0 y0 z1 M hwp H locs ls hM hS (lv_sub hl [2, 1, 0] rfl)
def wMo_isSettled_50 (post : Int32 → Hp → Prop) (k7 : Nat → Int32 → Int32 → Hp → Prop) (x0 : Nat) (x2 : Int32) (M : Hp) : Prop := (wMo_isSettled_51 post k7 x0 x2 (0 : Int32) M)
set_option maxRecDepth 100000 in
set_option maxHeartbeats 4000000 in
theorem tMo_isSettled_50 {p : Program} {l : Launch} {e : Env} {s : State} {m : MethodId} {args : Array Value} {below : List Frame} {meth : Method} {c : Code} {D : va_G} {κ : Nat → ClassId} {A : Nat → Prop} (C : Cx_Mo_isSettled p s m args meth c D κ A) (post : Int32 → Hp → Prop) (k7 : Nat → Int32 → Int32 → Hp → Prop) (hk7 : ∀ (x0 : Nat) (x1 : Int32) (x2 : Int32) (M : Hp), k7 x0 x1 x2 M → Y p l e rm_Mo_isSettled s m args below meth c D kCl (hTys κ) A 3 0 0 (MQ below (va_Qi post (hB D kCl (hTys κ) A) A) args s 0 0 A) M 7 [(0, .ref x0), (1, .int x1), (2, .int x2)] []) (x0 : Nat) (x2 : Int32) (M : Hp) (hwp : wMo_isSettled_50 post k7 x0 x2 M) : Y p l e rm_Mo_isSettled s m args below meth c D kCl (hTys κ) A 3 0 0 (MQ below (va_Qi post (hB D kCl (hTys κ) A) A) args s 0 0 A) M 50 [(0, .ref x0), (2, .int x2)] [] := by
  obtain ⟨hx, hb, hml, hr, hown, hts, hlocks, hE, hA⟩ := id C
  have hK := hE.1
  intro H locs ls hM hS hl
  unfold wMo_isSettled_50 at hwp
  refine lv_iconst (v := 0) hx hb d_Mo_isSettled_50 (by decide) ?_
  exact tMo_isSettled_51 C post k7 hk7 x0 x2 (0 : Int32) M hwp H locs ls hM hS (lv_sub hl [0, 1] rfl)
def wMo_isSettled_46 (post : Int32 → Hp → Prop) (k7 : Nat → Int32 → Int32 → Hp → Prop) (x0 : Nat) (x2 : Int32) (M : Hp) : Prop := (wMo_isSettled_51 post k7 x0 x2 (1 : Int32) M)
set_option maxRecDepth 100000 in
set_option maxHeartbeats 4000000 in
theorem tMo_isSettled_46 {p : Program} {l : Launch} {e : Env} {s : State} {m : MethodId} {args : Array Value} {below : List Frame} {meth : Method} {c : Code} {D : va_G} {κ : Nat → ClassId} {A : Nat → Prop} (C : Cx_Mo_isSettled p s m args meth c D κ A) (post : Int32 → Hp → Prop) (k7 : Nat → Int32 → Int32 → Hp → Prop) (hk7 : ∀ (x0 : Nat) (x1 : Int32) (x2 : Int32) (M : Hp), k7 x0 x1 x2 M → Y p l e rm_Mo_isSettled s m args below meth c D kCl (hTys κ) A 3 0 0 (MQ below (va_Qi post (hB D kCl (hTys κ) A) A) args s 0 0 A) M 7 [(0, .ref x0), (1, .int x1), (2, .int x2)] []) (x0 : Nat) (x2 : Int32) (M : Hp) (hwp : wMo_isSettled_46 post k7 x0 x2 M) : Y p l e rm_Mo_isSettled s m args below meth c D kCl (hTys κ) A 3 0 0 (MQ below (va_Qi post (hB D kCl (hTys κ) A) A) args s 0 0 A) M 46 [(0, .ref x0), (2, .int x2)] [] := by
  obtain ⟨hx, hb, hml, hr, hown, hts, hlocks, hE, hA⟩ := id C
  have hK := hE.1
  intro H locs ls hM hS hl
  unfold wMo_isSettled_46 at hwp
  refine lv_iconst (v := 1) hx hb d_Mo_isSettled_46 (by decide) ?_
  refine lv_goto (tgt := 51) hx hb d_Mo_isSettled_47 (by decide) ?_
  exact tMo_isSettled_51 C post k7 hk7 x0 x2 (1 : Int32) M hwp H locs ls hM hS (lv_sub hl [0, 1] rfl)
def wMo_isSettled_7 (post : Int32 → Hp → Prop)  : Nat → Nat → Int32 → Int32 → Hp → Prop
  | 0 => fun _ _ _ _ => False
  | n + 1 => fun x0 x1 x2 M => (∃ v2 : Int32, fI M x0 6 14 v2 ∧ ((v2 ≤ x2 → ((x1 = 0 ∨ x1 = 1) ∧ post x1 M)) ∧ (¬ v2 ≤ x2 → ((x1 = 0 → (wMo_isSettled_50 post (wMo_isSettled_7 post n) x0 x2 M)) ∧ (¬ x1 = 0 → (∃ a9 : Nat, fA M x0 6 23 a9 ∧ (∃ v13 : Int64, aJ M a9 x2 v13 ∧ ((v13 = (0 : Int64) → (wMo_isSettled_46 post (wMo_isSettled_7 post n) x0 x2 M)) ∧ (¬ v13 = (0 : Int64) → (hob M x0 6 ∧ (wpMo_countOf x0 x2 M (fun (r21 : Int32) (M19 : Hp) => (∃ a22 : Nat, fA M19 x0 6 21 a22 ∧ (∃ v26 : Int64, aJ M19 a22 x2 v26 ∧ (((r21.toInt64) = v26 → (wMo_isSettled_46 post (wMo_isSettled_7 post n) x0 x2 M19)) ∧ (¬ (r21.toInt64) = v26 → (wMo_isSettled_50 post (wMo_isSettled_7 post n) x0 x2 M19)))))))))))))))))
set_option maxRecDepth 100000 in
set_option maxHeartbeats 4000000 in
theorem tMo_isSettled_7 {p : Program} {l : Launch} {e : Env} {s : State} {m : MethodId} {args : Array Value} {below : List Frame} {meth : Method} {c : Code} {D : va_G} {κ : Nat → ClassId} {A : Nat → Prop} (C : Cx_Mo_isSettled p s m args meth c D κ A) (post : Int32 → Hp → Prop)  : ∀ (n : Nat) (x0 : Nat) (x1 : Int32) (x2 : Int32) (M : Hp), wMo_isSettled_7 post n x0 x1 x2 M → Y p l e rm_Mo_isSettled s m args below meth c D kCl (hTys κ) A 3 0 0 (MQ below (va_Qi post (hB D kCl (hTys κ) A) A) args s 0 0 A) M 7 [(0, .ref x0), (1, .int x1), (2, .int x2)] [] := by
  obtain ⟨hx, hb, hml, hr, hown, hts, hlocks, hE, hA⟩ := id C
  have hK := hE.1
  intro n
  induction n with
  | zero => intro x0 x1 x2 M hwp; exact hwp.elim
  | succ n ih =>
    intro x0 x1 x2 M hwp H locs ls hM hS hl
    unfold wMo_isSettled_7 at hwp
    refine lv_iload_n hx hb d_Mo_isSettled_7 rfl (lv_at hl 2 rfl) ?_
    refine lv_aload_n hx hb d_Mo_isSettled_8 rfl (lv_at hl 0 rfl) ?_
    obtain ⟨v2, ⟨fs3, he4, hv5⟩, hwp⟩ := hwp
    refine h_get (C := "BuckTablesModel") (T := Tc6) (N := 36) hx hb hts inc6 hown hK hM he4 rfl 14 (by decide) (hts _ kw_734) (fun _ h9 => h9) hv5 d_Mo_isSettled_9 ?_
    refine lv_icmp_ge (tgt := 58) hx hb d_Mo_isSettled_12 (by decide) (fun c6 => ?_) (fun c6 => ?_)
    · replace hwp := hwp.1 c6
      refine lv_iload_n hx hb d_Mo_isSettled_58 rfl (lv_at hl 1 rfl) ?_
      obtain ⟨hz7, hwp⟩ := hwp
      exact W.zret (v := x1) hx hb hr (by rcases hz7 with h | h <;> rw [h] <;> rfl) (fun t ht hW => ⟨⟨x1, M, rfl, hwp, by show hw D kCl (hTys κ) A M t.heap; rw [ht]; exact hM⟩, hS.F ht⟩) hS.2.2 d_Mo_isSettled_59
    · replace hwp := hwp.2 c6
      refine lv_iload_n hx hb d_Mo_isSettled_15 rfl (lv_at hl 1 rfl) ?_
      refine lv_if_eq (tgt := 50) hx hb d_Mo_isSettled_16 (by decide) (fun c8 => ?_) (fun c8 => ?_)
      · replace hwp := hwp.1 c8
        exact tMo_isSettled_50 C post (wMo_isSettled_7 post n) ih x0 x2 M hwp H locs ls hM hS (lv_sub hl [0, 2] rfl)
      · replace hwp := hwp.2 c8
        refine lv_aload_n hx hb d_Mo_isSettled_19 rfl (lv_at hl 0 rfl) ?_
        obtain ⟨a9, ⟨fs10, he11, hv12⟩, hwp⟩ := hwp
        refine h_get (C := "BuckTablesModel") (T := Tc6) (N := 36) hx hb hts inc6 hown hK hM he11 rfl 23 (by decide) (hts _ kw_743) (fun _ h9 => h9) hv12 d_Mo_isSettled_20 ?_
        refine lv_iload_n hx hb d_Mo_isSettled_23 rfl (lv_at hl 2 rfl) ?_
        obtain ⟨v13, ⟨n14, f15, ha16, hi17, ev13⟩, hwp⟩ := hwp
        refine h_lald hx hb hK hM ha16 rfl hi17 d_Mo_isSettled_24 ?_
        rw [← ev13]
        refine lv_lconst (v := 0) hx hb d_Mo_isSettled_25 (by decide) ?_
        refine W.lcmp hx hb d_Mo_isSettled_26 ?_
        refine lv_if_eq (tgt := 46) hx hb d_Mo_isSettled_27 (by decide) (fun c18 => ?_) (fun c18 => ?_)
        · replace c18 := (lc_eq _ _).mp c18
          replace hwp := hwp.1 c18
          exact tMo_isSettled_46 C post (wMo_isSettled_7 post n) ih x0 x2 M hwp H locs ls hM hS (lv_sub hl [0, 2] rfl)
        · replace c18 := fun h9 => c18 ((lc_eq _ _).mpr h9)
          replace hwp := hwp.2 c18
          refine lv_aload_n hx hb d_Mo_isSettled_30 rfl (lv_at hl 0 rfl) ?_
          refine lv_iload_n hx hb d_Mo_isSettled_31 rfl (lv_at hl 2 rfl) ?_
          obtain ⟨ho20, hwp⟩ := hwp
          refine h_calli hM hS hA (va_runV (As := [.int x2]) (rest := []) ⟨hx, hb, hml, hown, hts⟩ (metMo_countOf l D κ H.size x0 x2 M _ hwp) (cwV 1 hts (gV kw_938 kw_940 kp_36 kw_8 kw_941) rfl rfl rfl (by decide +kernel) ⟨(Nat.le_of_ble_eq_true rfl), (Nat.le_of_ble_eq_true rfl)⟩) (h_preV hE hM hS ho20 (r := ("BuckTablesModel", Tc6, 36)) rfl) rfl rfl hl.1 rfl (lv_room (Nat.le_of_ble_eq_true rfl)) d_Mo_isSettled_32 ⟨(Nat.le_of_ble_eq_true rfl), (Nat.le_of_ble_eq_true rfl)⟩) (fun r21 M19 H locs hwp hM hS => ?_)
          refine lv_i2l hx hb d_Mo_isSettled_35 rfl ?_
          refine lv_aload_n hx hb d_Mo_isSettled_36 rfl (lv_at hl 0 rfl) ?_
          obtain ⟨a22, ⟨fs23, he24, hv25⟩, hwp⟩ := hwp
          refine h_get (C := "BuckTablesModel") (T := Tc6) (N := 36) hx hb hts inc6 hown hK hM he24 rfl 21 (by decide) (hts _ kw_741) (fun _ h9 => h9) hv25 d_Mo_isSettled_37 ?_
          refine lv_iload_n hx hb d_Mo_isSettled_40 rfl (lv_at hl 2 rfl) ?_
          obtain ⟨v26, ⟨n27, f28, ha29, hi30, ev26⟩, hwp⟩ := hwp
          refine h_lald hx hb hK hM ha29 rfl hi30 d_Mo_isSettled_41 ?_
          rw [← ev26]
          refine W.lcmp hx hb d_Mo_isSettled_42 ?_
          refine lv_if_ne (tgt := 50) hx hb d_Mo_isSettled_43 (by decide) (fun c31 => ?_) (fun c31 => ?_)
          · replace c31 := fun h9 => c31 ((lc_eq _ _).mpr h9)
            replace hwp := hwp.2 c31
            exact tMo_isSettled_50 C post (wMo_isSettled_7 post n) ih x0 x2 M19 hwp H locs ls hM hS (lv_sub hl [0, 2] rfl)
          · replace c31 := (lc_eq _ _).mp c31
            replace hwp := hwp.1 c31
            exact tMo_isSettled_46 C post (wMo_isSettled_7 post n) ih x0 x2 M19 hwp H locs ls hM hS (lv_sub hl [0, 2] rfl)
def wpMo_isSettled (self : Nat) (M : Hp) (post : Int32 → Hp → Prop) : Prop := (hob M self 6 ∧ (wpMo_allHold self M (fun (r34 : Int32) (M32 : Hp) => (∃ n35 : Nat, wMo_isSettled_7 post n35 self r34 (0 : Int32) M32))))
set_option maxRecDepth 100000 in
set_option maxHeartbeats 4000000 in
theorem eMo_isSettled {p : Program} {l : Launch} {e : Env} {s : State} {m : MethodId} {args : Array Value} {below : List Frame} {meth : Method} {c : Code} {D : va_G} {κ : Nat → ClassId} {A : Nat → Prop} (C : Cx_Mo_isSettled p s m args meth c D κ A) (post : Int32 → Hp → Prop) (self : Nat) (M : Hp) (hwp : wpMo_isSettled self M post) : Y p l e rm_Mo_isSettled s m args below meth c D kCl (hTys κ) A 3 0 0 (MQ below (va_Qi post (hB D kCl (hTys κ) A) A) args s 0 0 A) M 0 [(0, .ref self)] [] := by
  obtain ⟨hx, hb, hml, hr, hown, hts, hlocks, hE, hA⟩ := id C
  have hK := hE.1
  intro H locs ls hM hS hl
  unfold wpMo_isSettled at hwp
  refine lv_aload_n hx hb d_Mo_isSettled_0 rfl (lv_at hl 0 rfl) ?_
  obtain ⟨ho33, hwp⟩ := hwp
  refine h_calli hM hS hA (va_runV (As := []) (rest := []) ⟨hx, hb, hml, hown, hts⟩ (metMo_allHold l D κ H.size self M _ hwp) (cwV 0 hts (gV kw_951 kw_953 kp_38 kw_8 kw_954) rfl rfl rfl (by decide +kernel) ⟨(Nat.le_of_ble_eq_true rfl), (Nat.le_of_ble_eq_true rfl)⟩) (h_preV hE hM hS ho33 (r := ("BuckTablesModel", Tc6, 36)) rfl) rfl rfl hl.1 rfl (lv_room (Nat.le_of_ble_eq_true rfl)) d_Mo_isSettled_1 ⟨(Nat.le_of_ble_eq_true rfl), (Nat.le_of_ble_eq_true rfl)⟩) (fun r34 M32 H locs hwp hM hS => ?_)
  refine lv_istore_n (lv' := [(1, .int r34), (0, .ref self)]) hx hb d_Mo_isSettled_4 rfl hl (by decide) rfl (fun ls hl => ?_)
  refine lv_iconst (v := 0) hx hb d_Mo_isSettled_5 (by decide) ?_
  refine lv_istore_n (lv' := [(2, .int (0 : Int32)), (1, .int r34), (0, .ref self)]) hx hb d_Mo_isSettled_6 rfl hl (by decide) rfl (fun ls hl => ?_)
  obtain ⟨n35, hwp⟩ := hwp
  exact tMo_isSettled_7 C post n35 self r34 (0 : Int32) M32 hwp H locs ls hM hS (lv_sub hl [2, 1, 0] rfl)
set_option maxRecDepth 100000 in
set_option maxHeartbeats 4000000 in
theorem metMo_isSettled (l : Launch) (D : va_G) (κ : Nat → ClassId) (sz : Nat) (self : Nat) (M : Hp) (post : Int32 → Hp → Prop) (hwp : wpMo_isSettled self M post) : Met l y_Mo_isSettled ws_Mo_isSettled rm_Mo_isSettled (hPc D kCl (hTys κ) M sz [.ref self]) (va_Qi post (hB D kCl (hTys κ) (hAx M sz)) (hAx M sz)) 0 0 (hAx M sz) := by
  refine Met.ofW (cc := prog_8_method_32_code) (maxL := 3) (ret := (some .boolean)) (by decide +kernel) rfl ?_
  intro p e s m args below meth c s₁ B hml hv
  obtain ⟨rfl, hsz, hE, hM0⟩ := hv
  have hts : ∀ w ∈ WG, w.before _ s = true := fun w h => atoms_spec (ws := ws_Mo_isSettled) B.pre w (List.mem_cons_of_mem _ h)
  subst hsz
  have C : Cx_Mo_isSettled p s m _ meth c D κ (hAx M s.heap.size) := ⟨B.exec, B.bytes, hml, B.returns, findClass_of_methodNamed B.named, hts, B.notSynchronized, hE, fun q h => Or.inr h⟩
  have hl := lv_entry ([.ref self]) (n := 3) (Nat.le_of_ble_eq_true rfl)
  rw [lg_entry_eq]
  generalize (lg_sl ([.ref self]) ++ List.replicate (3 - (lg_sl ([.ref self])).length) Slot.unset).toArray = ls at hl ⊢
  exact eMo_isSettled C post self M hwp s.heap [] ls (hM0.self (sz := s.heap.size)) va_S.rf hl
