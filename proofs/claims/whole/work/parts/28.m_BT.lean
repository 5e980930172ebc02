abbrev rm_Pl_burnBeyondLimits : Room := { frames := 2, cells := 0, slots := 0, locals := 122 }
def Cx_Pl_burnBeyondLimits (p : Program) (s : State) (m : MethodId) (args : Array Value) (meth : Method) (c : Code) (D : va_G) (κ : Nat → ClassId) (A : Nat → Prop) : Prop := p.tables.exec = Jvm.exec ∧ c.code = prog_3_method_5_code ∧ c.maxLocals = 4 ∧ meth.sig.returnType = none ∧ s.vm.findClass "BuckTables$Plan" = some m.cls ∧ (∀ w ∈ WG, w.before args s = true) ∧ meth.locks = false ∧ hEnv D kCl (hTys κ) A s ∧ (∀ q, s.heap.size ≤ q → A q)
def wPl_burnBeyondLimits_92 (post : Hp → Prop) (k7 : Nat → Nat → Int32 → Hp → Prop) (x0 : Nat) (x1 : Nat) (x2 : Int32) (M : Hp) : Prop := (∀ z1 : Int32, z1 = x2 + (-1) → (k7 x0 x1 z1 M))
set_option maxRecDepth 100000 in
set_option maxHeartbeats 4000000 in
theorem tPl_burnBeyondLimits_92 {p : Program} {l : Launch} {e : Env} {s : State} {m : MethodId} {args : Array Value} {below : List Frame} {meth : Method} {c : Code} {D : va_G} {κ : Nat → ClassId} {A : Nat → Prop} (C : Cx_Pl_burnBeyondLimits p s m args meth c D κ A) (post : Hp → Prop) (k7 : Nat → Nat → Int32 → Hp → Prop) (hk7 : ∀ (x0 : Nat) (x1 : Nat) (x2 : Int32) (M : Hp), k7 x0 x1 x2 M → Y p l e rm_Pl_burnBeyondLimits s m args below meth c D kCl (hTys κ) A 4 0 0 (MQ below (va_Qv post (hB D kCl (hTys κ) A) A) args s 0 0 A) M 7 [(0, .ref x0), (1, .ref x1), (2, .int x2)] []) (x0 : Nat) (x1 : Nat) (x2 : Int32) (M : Hp) (hwp : wPl_burnBeyondLimits_92 post k7 x0 x1 x2 M) : Y p l e rm_Pl_burnBeyondLimits s m args below meth c D kCl (hTys κ) A 4 0 0 (MQ below (va_Qv post (hB D kCl (hTys κ) A) A) args s 0 0 A) M 92 [(0, .ref x0), (1, .ref x1), (2, .int x2)] [] := by
  obtain ⟨hx, hb, hml, hr, hown, hts, hlocks, hE, hA⟩ := id C
  have hK := hE.1
  intro H locs ls hM hS hl
  unfold wPl_burnBeyondLimits_92 at hwp
  obtain ⟨z1, ez1⟩ : ∃ y : Int32, y = x2 + (-1) := ⟨_, rfl⟩
  replace hwp := hwp z1 ez1
  refine lv_iinc (v := z1) (lv' := [(2, .int z1), (0, .ref x0), (1, .ref x1)]) hx hb d_Pl_burnBeyondLimits_92 hl (k := 2) rfl (by rw [ez1]; rfl) (by decide) rfl (fun ls hl => ?_)
  refine lv_goto (tgt := 7) hx hb d_Pl_burnBeyondLimits_95 (by decide) ?_
  exact hk7 x0 x1 z1 M hwp H locs ls hM hS (lv_sub hl [1, 2, 0] rfl)
def wPl_burnBeyondLimits_7 (post : Hp → Prop)  : Nat → Nat → Nat → Int32 → Hp → Prop
  | 0 => fun _ _ _ _ => False
  | n + 1 => fun x0 x1 x2 M => ((x2 < 0 → (hob M x0 5 ∧ (wpPl_closeGaps x0 M (fun (M3 : Hp) => (post M3))))) ∧ (¬ x2 < 0 → (hob M x0 5 ∧ (wpPl_tellLog x0 x2 (3 : Int32) M (fun (r7 : Int32) (M5 : Hp) => (∃ a8 : Nat, aA 4 M5 x1 r7 a8 ∧ (∃ a14 : Nat, fA M5 x0 5 2 a14 ∧ (∃ v18 : Int32, aI M5 a14 r7 v18 ∧ (hob M5 a8 2 ∧ (wpPr_isBeyond a8 v18 M5 (fun (r25 : Int32) (M23 : Hp) => ((r25 = 0 → (wPl_burnBeyondLimits_92 post (wPl_burnBeyondLimits_7 post n) x0 x1 x2 M23)) ∧ (¬ r25 = 0 → (hob M23 x0 5 ∧ (wpPl_tellLog x0 x2 (0 : Int32) M23 (fun (r29 : Int32) (M27 : Hp) => (hob M27 x0 5 ∧ (wpPl_tellLog x0 x2 (1 : Int32) M27 (fun (r32 : Int32) (M30 : Hp) => (hob M30 x0 5 ∧ (wpPl_tellLog x0 x2 (2 : Int32) M30 (fun (r35 : Int32) (M33 : Hp) => (hob M33 x0 5 ∧ (wpPl_burn x0 r29 r32 r35 M33 (fun (M36 : Hp) => (∃ a38 : Nat, fA M36 x0 5 2 a38 ∧ (∃ v42 : Int32, aI M36 a38 r7 v42 ∧ (∃ M51 : Hp, sI M36 a38 r7 (v42 - (1 : Int32)) M51 ∧ (∃ v52 : Int64, fJ M51 x0 5 4 v52 ∧ (hob M51 x0 5 ∧ (wpPl_tellLog x0 x2 (4 : Int32) M51 (fun (r58 : Int32) (M56 : Hp) => (∃ M59 : Hp, pF M56 x0 5 4 (.long (v52 - (r58.toInt64))) M59 ∧ (∃ a63 : Nat, fA M59 x0 5 0 a63 ∧ (∃ M71 : Hp, sI M59 a63 ((x2 * (5 : Int32)) + (3 : Int32)) (-1 : Int32) M71 ∧ (wPl_burnBeyondLimits_92 post (wPl_burnBeyondLimits_7 post n) x0 x1 x2 M71))))))))))))))))))))))))))))))))))))
set_option maxRecDepth 100000 in
set_option maxHeartbeats 4000000 in
theorem tPl_burnBeyondLimits_7 {p : Program} {l : Launch} {e : Env} {s : State} {m : MethodId} {args : Array Value} {below : List Frame} {meth : Method} {c : Code} {D : va_G} {κ : Nat → ClassId} {A : Nat → Prop} (C : Cx_Pl_burnBeyondLimits p s m args meth c D κ A) (post : Hp → Prop)  : ∀ (n : Nat) (x0 : Nat) (x1 : Nat) (x2 : Int32) (M : Hp), wPl_burnBeyondLimits_7 post n x0 x1 x2 M → Y p l e rm_Pl_burnBeyondLimits s m args below meth c D kCl (hTys κ) A 4 0 0 (MQ below (va_Qv post (hB D kCl (hTys κ) A) A) args s 0 0 A) M 7 [(0, .ref x0), (1, .ref x1), (2, .int x2)] [] := by
  obtain ⟨hx, hb, hml, hr, hown, hts, hlocks, hE, hA⟩ := id C
  have hK := hE.1
  intro n
  induction n with
  | zero => intro x0 x1 x2 M hwp; exact hwp.elim
  | succ n ih =>
    intro x0 x1 x2 M hwp H locs ls hM hS hl
    unfold wPl_burnBeyondLimits_7 at hwp
    refine lv_iload_n hx hb d_Pl_burnBeyondLimits_7 rfl (lv_at hl 2 rfl) ?_
    refine lv_if_lt (tgt := 98) hx hb d_Pl_burnBeyondLimits_8 (by decide) (fun c2 => ?_) (fun c2 => ?_)
    · replace hwp := hwp.1 c2
      refine lv_aload_n hx hb d_Pl_burnBeyondLimits_98 rfl (lv_at hl 0 rfl) ?_
      obtain ⟨ho4, hwp⟩ := hwp
      refine h_callv hM hS hA (va_runV (As := []) (rest := []) ⟨hx, hb, hml, hown, hts⟩ (metPl_closeGaps l D κ H.size x0 M _ hwp) (cwV 0 hts (gV kw_619 kw_621 kp_18 kw_4 kw_622) rfl rfl rfl (by decide +kernel) ⟨(Nat.le_of_ble_eq_true rfl), (Nat.le_of_ble_eq_true rfl)⟩) (h_preV hE hM hS ho4 (r := ("BuckTables$Plan", Tc5, 5)) rfl) rfl rfl hl.1 rfl (lv_room (Nat.le_of_ble_eq_true rfl)) d_Pl_burnBeyondLimits_99 ⟨(Nat.le_of_ble_eq_true rfl), (Nat.le_of_ble_eq_true rfl)⟩) (fun M3 H locs hwp hM hS => ?_)
      exact W.vret hx hb hr (fun t ht hW => ⟨⟨M3, rfl, hwp, by show hw D kCl (hTys κ) A M3 t.heap; rw [ht]; exact hM⟩, hS.F ht⟩) hS.2.2 d_Pl_burnBeyondLimits_102
    · replace hwp := hwp.2 c2
      refine lv_aload_n hx hb d_Pl_burnBeyondLimits_11 rfl (lv_at hl 0 rfl) ?_
      refine lv_iload_n hx hb d_Pl_burnBeyondLimits_12 rfl (lv_at hl 2 rfl) ?_
      refine lv_iconst (v := 3) hx hb d_Pl_burnBeyondLimits_13 (by decide) ?_
      obtain ⟨ho6, hwp⟩ := hwp
      refine h_calli hM hS hA (va_runV (As := [.int x2, .int (3 : Int32)]) (rest := []) ⟨hx, hb, hml, hown, hts⟩ (metPl_tellLog l D κ H.size x0 x2 (3 : Int32) M _ hwp) (cwV 2 hts (gV kw_613 kw_614 kw_615 kw_4 kw_616) rfl rfl rfl (by decide +kernel) ⟨(Nat.le_of_ble_eq_true rfl), (Nat.le_of_ble_eq_true rfl)⟩) (h_preV hE hM hS ho6 (r := ("BuckTables$Plan", Tc5, 5)) rfl) rfl rfl hl.1 rfl (lv_room (Nat.le_of_ble_eq_true rfl)) d_Pl_burnBeyondLimits_14 ⟨(Nat.le_of_ble_eq_true rfl), (Nat.le_of_ble_eq_true rfl)⟩) (fun r7 M5 H locs hwp hM hS => ?_)
      refine lv_istore_n (lv' := [(3, .int r7), (0, .ref x0), (1, .ref x1), (2, .int x2)]) hx hb d_Pl_burnBeyondLimits_17 rfl hl (by decide) rfl (fun ls hl => ?_)
      refine lv_aload_n hx hb d_Pl_burnBeyondLimits_18 rfl (lv_at hl 2 rfl) ?_
      refine lv_iload_n hx hb d_Pl_burnBeyondLimits_19 rfl (lv_at hl 0 rfl) ?_
      obtain ⟨a8, ⟨n9, f10, ha11, hi12, hy13⟩, hwp⟩ := hwp
      refine h_aald hx hb hK hM ha11 rfl hi12 hy13 d_Pl_burnBeyondLimits_20 ?_
      refine lv_aload_n hx hb d_Pl_burnBeyondLimits_21 rfl (lv_at hl 1 rfl) ?_
      obtain ⟨a14, ⟨fs15, he16, hv17⟩, hwp⟩ := hwp
      refine h_get (C := "BuckTables$Plan") (T := Tc5) (N := 5) hx hb hts inc5 hown hK hM he16 rfl 2 (by decide) (hts _ kw_77) (fun _ h9 => h9) hv17 d_Pl_burnBeyondLimits_22 ?_
      refine lv_iload_n hx hb d_Pl_burnBeyondLimits_25 rfl (lv_at hl 0 rfl) ?_
      obtain ⟨v18, ⟨n19, f20, ha21, hi22, ev18⟩, hwp⟩ := hwp
      refine h_iald hx hb hK hM ha21 rfl hi22 d_Pl_burnBeyondLimits_26 ?_
      rw [← ev18]
      obtain ⟨ho24, hwp⟩ := hwp
      refine h_calli hM hS hA (va_runV (As := [.int v18]) (rest := []) ⟨hx, hb, hml, hown, hts⟩ (metPr_isBeyond l D κ H.size a8 v18 M5 _ hwp) (cwV 1 hts (gV kw_617 kw_597 kw_598 kw_7 kw_599) rfl rfl rfl (by decide +kernel) ⟨(Nat.le_of_ble_eq_true rfl), (Nat.le_of_ble_eq_true rfl)⟩) (h_preV hE hM hS ho24 (r := ("BuckTables$Product", Tc2, 10)) rfl) rfl rfl hl.1 rfl (lv_room (Nat.le_of_ble_eq_true rfl)) d_Pl_burnBeyondLimits_27 ⟨(Nat.le_of_ble_eq_true rfl), (Nat.le_of_ble_eq_true rfl)⟩) (fun r25 M23 H locs hwp hM hS => ?_)
      refine lv_if_eq (tgt := 92) hx hb d_Pl_burnBeyondLimits_30 (by decide) (fun c26 => ?_) (fun c26 => ?_)
      · replace hwp := hwp.1 c26
        exact tPl_burnBeyondLimits_92 C post (wPl_burnBeyondLimits_7 post n) ih x0 x1 x2 M23 hwp H locs ls hM hS (lv_sub hl [1, 2, 3] rfl)
      · replace hwp := hwp.2 c26
        refine lv_aload_n hx hb d_Pl_burnBeyondLimits_33 rfl (lv_at hl 1 rfl) ?_
        refine lv_aload_n hx hb d_Pl_burnBeyondLimits_34 rfl (lv_at hl 1 rfl) ?_
        refine lv_iload_n hx hb d_Pl_burnBeyondLimits_35 rfl (lv_at hl 3 rfl) ?_
        refine lv_iconst (v := 0) hx hb d_Pl_burnBeyondLimits_36 (by decide) ?_
        obtain ⟨ho28, hwp⟩ := hwp
        refine h_calli hM hS hA (va_runV (As := [.int x2, .int (0 : Int32)]) (rest := [.ref x0]) ⟨hx, hb, hml, hown, hts⟩ (metPl_tellLog l D κ H.size x0 x2 (0 : Int32) M23 _ hwp) (cwV 2 hts (gV kw_613 kw_614 kw_615 kw_4 kw_616) rfl rfl rfl (by decide +kernel) ⟨(Nat.le_of_ble_eq_true rfl), (Nat.le_of_ble_eq_true rfl)⟩) (h_preV hE hM hS ho28 (r := ("BuckTables$Plan", Tc5, 5)) rfl) rfl rfl hl.1 rfl (lv_room (Nat.le_of_ble_eq_true rfl)) d_Pl_burnBeyondLimits_37 ⟨(Nat.le_of_ble_eq_true rfl), (Nat.le_of_ble_eq_true rfl)⟩) (fun r29 M27 H locs hwp hM hS => ?_)
        refine lv_aload_n hx hb d_Pl_burnBeyondLimits_40 rfl (lv_at hl 1 rfl) ?_
        refine lv_iload_n hx hb d_Pl_burnBeyondLimits_41 rfl (lv_at hl 3 rfl) ?_
        refine lv_iconst (v := 1) hx hb d_Pl_burnBeyondLimits_42 (by decide) ?_
        obtain ⟨ho31, hwp⟩ := hwp
        refine h_calli hM hS hA (va_runV (As := [.int x2, .int (1 : Int32)]) (rest := [.int r29, .ref x0]) ⟨hx, hb, hml, hown, hts⟩ (metPl_tellLog l D κ H.size x0 x2 (1 : Int32) M27 _ hwp) (cwV 2 hts (gV kw_613 kw_614 kw_615 kw_4 kw_616) rfl rfl rfl (by decide +kernel) ⟨(Nat.le_of_ble_eq_true rfl), (Nat.le_of_ble_eq_true rfl)⟩) (h_preV hE hM hS ho31 (r := ("BuckTables$Plan", Tc5, 5)) rfl) rfl rfl hl.1 rfl (lv_room (Nat.le_of_ble_eq_true rfl)) d_Pl_burnBeyondLimits_43 ⟨(Nat.le_of_ble_eq_true rfl), (Nat.le_of_ble_eq_true rfl)⟩) (fun r32 M30 H locs hwp hM hS => ?_)
        refine lv_aload_n hx hb d_Pl_burnBeyondLimits_46 rfl (lv_at hl 1 rfl) ?_
        refine lv_iload_n hx hb d_Pl_burnBeyondLimits_47 rfl (lv_at hl 3 rfl) ?_
        refine lv_iconst (v := 2) hx hb d_Pl_burnBeyondLimits_48 (by decide) ?_
        obtain ⟨ho34, hwp⟩ := hwp
        refine h_calli hM hS hA (va_runV (As := [.int x2, .int (2 : Int32)]) (rest := [.int r32, .int r29, .ref x0]) ⟨hx, hb, hml, hown, hts⟩ (metPl_tellLog l D κ H.size x0 x2 (2 : Int32) M30 _ hwp) (cwV 2 hts (gV kw_613 kw_614 kw_615 kw_4 kw_616) rfl rfl rfl (by decide +kernel) ⟨(Nat.le_of_ble_eq_true rfl), (Nat.le_of_ble_eq_true rfl)⟩) (h_preV hE hM hS ho34 (r := ("BuckTables$Plan", Tc5, 5)) rfl) rfl rfl hl.1 rfl (lv_room (Nat.le_of_ble_eq_true rfl)) d_Pl_burnBeyondLimits_49 ⟨(Nat.le_of_ble_eq_true rfl), (Nat.le_of_ble_eq_true rfl)⟩) (fun r35 M33 H locs hwp hM hS => ?_)
        obtain ⟨ho37, hwp⟩ := hwp
        refine h_callv hM hS hA (va_runV (As := [.int r29, .int r32, .int r35]) (rest := []) ⟨hx, hb, hml, hown, hts⟩ (metPl_burn l D κ H.size x0 r29 r32 r35 M33 _ hwp) (cwV 3 hts (gV kw_618 kw_321 kw_322 kw_4 kw_323) rfl rfl rfl (by decide +kernel) ⟨(Nat.le_of_ble_eq_true rfl), (Nat.le_of_ble_eq_true rfl)⟩) (h_preV hE hM hS ho37 (r := ("BuckTables$Plan", Tc5, 5)) rfl) rfl rfl hl.1 rfl (lv_room (Nat.le_of_ble_eq_true rfl)) d_Pl_burnBeyondLimits_52 ⟨(Nat.le_of_ble_eq_true rfl), (Nat.le_of_ble_eq_true rfl)⟩) (fun M36 H locs hwp hM hS => ?_)
        refine lv_aload_n hx hb d_Pl_burnBeyondLimits_55 rfl (lv_at hl 1 rfl) ?_
        obtain ⟨a38, ⟨fs39, he40, hv41⟩, hwp⟩ := hwp
        refine h_get (C := "BuckTables$Plan") (T := Tc5) (N := 5) hx hb hts inc5 hown hK hM he40 rfl 2 (by decide) (hts _ kw_77) (fun _ h9 => h9) hv41 d_Pl_burnBeyondLimits_56 ?_
        refine lv_iload_n hx hb d_Pl_burnBeyondLimits_59 rfl (lv_at hl 0 rfl) ?_
        refine lv_dup2_11 hx hb d_Pl_burnBeyondLimits_60 rfl rfl ?_
        obtain ⟨v42, ⟨n43, f44, ha45, hi46, ev42⟩, hwp⟩ := hwp
        refine h_iald hx hb hK hM ha45 rfl hi46 d_Pl_burnBeyondLimits_61 ?_
        rw [← ev42]
        refine lv_iconst (v := 1) hx hb d_Pl_burnBeyondLimits_62 (by decide) ?_
        refine lv_isub hx hb d_Pl_burnBeyondLimits_63 ?_
        obtain ⟨M51, ⟨n47, f48, ha49, hi50, eM51⟩, hwp⟩ := hwp
        refine h_iast hx hb hK hM hS ha49 rfl hi50 d_Pl_burnBeyondLimits_64 (fun H locs hM hS => ?_)
        rw [← eM51] at hM
        refine lv_aload_n hx hb d_Pl_burnBeyondLimits_65 rfl (lv_at hl 1 rfl) ?_
        refine lv_dup hx hb d_Pl_burnBeyondLimits_66 rfl ?_
        obtain ⟨v52, ⟨fs53, he54, hv55⟩, hwp⟩ := hwp
        refine h_get (C := "BuckTables$Plan") (T := Tc5) (N := 5) hx hb hts inc5 hown hK hM he54 rfl 4 (by decide) (hts _ kw_81) (fun _ h9 => h9) hv55 d_Pl_burnBeyondLimits_67 ?_
        refine lv_aload_n hx hb d_Pl_burnBeyondLimits_70 rfl (lv_at hl 1 rfl) ?_
        refine lv_iload_n hx hb d_Pl_burnBeyondLimits_71 rfl (lv_at hl 3 rfl) ?_
        refine lv_iconst (v := 4) hx hb d_Pl_burnBeyondLimits_72 (by decide) ?_
        obtain ⟨ho57, hwp⟩ := hwp
        refine h_calli hM hS hA (va_runV (As := [.int x2, .int (4 : Int32)]) (rest := [.long v52, .ref x0]) ⟨hx, hb, hml, hown, hts⟩ (metPl_tellLog l D κ H.size x0 x2 (4 : Int32) M51 _ hwp) (cwV 2 hts (gV kw_613 kw_614 kw_615 kw_4 kw_616) rfl rfl rfl (by decide +kernel) ⟨(Nat.le_of_ble_eq_true rfl), (Nat.le_of_ble_eq_true rfl)⟩) (h_preV hE hM hS ho57 (r := ("BuckTables$Plan", Tc5, 5)) rfl) rfl rfl hl.1 rfl (lv_room (Nat.le_of_ble_eq_true rfl)) d_Pl_burnBeyondLimits_73 ⟨(Nat.le_of_ble_eq_true rfl), (Nat.le_of_ble_eq_true rfl)⟩) (fun r58 M56 H locs hwp hM hS => ?_)
        refine lv_i2l hx hb d_Pl_burnBeyondLimits_76 rfl ?_
        refine lv_lsub hx hb d_Pl_burnBeyondLimits_77 ?_
        obtain ⟨M59, ⟨fs60, he61, hl62, eM59⟩, hwp⟩ := hwp
        refine h_put (C := "BuckTables$Plan") (T := Tc5) (N := 5) (v := .long (v52 - (r58.toInt64))) (ty := .long) hx hb hts inc5 tyc5 tyc5_ok nmc5 hown hK hM hS he61 rfl 4 (by decide) (hts _ kw_81) (fun _ h9 => h9) rfl (by decide +kernel) rfl rfl hl62 d_Pl_burnBeyondLimits_78 (fun H locs hM hS => ?_)
        rw [← eM59] at hM
        refine lv_aload_n hx hb d_Pl_burnBeyondLimits_81 rfl (lv_at hl 1 rfl) ?_
        obtain ⟨a63, ⟨fs64, he65, hv66⟩, hwp⟩ := hwp
        refine h_get (C := "BuckTables$Plan") (T := Tc5) (N := 5) hx hb hts inc5 hown hK hM he65 rfl 0 (by decide) (hts _ kw_75) (fun _ h9 => h9) hv66 d_Pl_burnBeyondLimits_82 ?_
        refine lv_iload_n hx hb d_Pl_burnBeyondLimits_85 rfl (lv_at hl 3 rfl) ?_
        refine lv_iconst (v := 5) hx hb d_Pl_burnBeyondLimits_86 (by decide) ?_
        refine lv_imul hx hb d_Pl_burnBeyondLimits_87 ?_
        refine lv_iconst (v := 3) hx hb d_Pl_burnBeyondLimits_88 (by decide) ?_
        refine lv_iadd hx hb d_Pl_burnBeyondLimits_89 ?_
        refine lv_iconst (v := -1) hx hb d_Pl_burnBeyondLimits_90 (by decide) ?_
        obtain ⟨M71, ⟨n67, f68, ha69, hi70, eM71⟩, hwp⟩ := hwp
        refine h_iast hx hb hK hM hS ha69 rfl hi70 d_Pl_burnBeyondLimits_91 (fun H locs hM hS => ?_)
        rw [← eM71] at hM
        exact tPl_burnBeyondLimits_92 C post (wPl_burnBeyondLimits_7 post n) ih x0 x1 x2 M71 hwp H locs ls hM hS (lv_sub hl [1, 2, 3] rfl)
def wpPl_burnBeyondLimits (self : Nat) (p0 : Nat) (M : Hp) (post : Hp → Prop) : Prop := (∃ v72 : Int32, fI M self 5 3 v72 ∧ (∀ z76 : Int32, z76 = (v72 - (1 : Int32)) → (∃ n77 : Nat, wPl_burnBeyondLimits_7 post n77 self p0 z76 M)))
set_option maxRecDepth 100000 in
set_option maxHeartbeats 4000000 in
theorem ePl_burnBeyondLimits {p : Program} {l : Launch} {e : Env} {s : State} {m : MethodId} {args : Array Value} {below : List Frame} {meth : Method} {c : Code} {D : va_G} {κ : Nat → ClassId} {A : Nat → Prop} (C : Cx_Pl_burnBeyondLimits p s m args meth c D κ A) (post : Hp → Prop) (self : Nat) (p0 : Nat) (M : Hp) (hwp : wpPl_burnBeyondLimits self p0 M post) : Y p l e rm_Pl_burnBeyondLimits s m args below meth c D kCl (hTys κ) A 4 0 0 (MQ below (va_Qv post (hB D kCl (hTys κ) A) A) args s 0 0 A) M 0 [(0, .ref self), (1, .ref p0)] [] := by
  obtain ⟨hx, hb, hml, hr, hown, hts, hlocks, hE, hA⟩ := id C
  have hK := hE.1
  intro H locs ls hM hS hl
  unfold wpPl_burnBeyondLimits at hwp
  refine lv_aload_n hx hb d_Pl_burnBeyondLimits_0 rfl (lv_at hl 0 rfl) ?_
  obtain ⟨v72, ⟨fs73, he74, hv75⟩, hwp⟩ := hwp
  refine h_get (C := "BuckTables$Plan") (T := Tc5) (N := 5) hx hb hts inc5 hown hK hM he74 rfl 3 (by decide) (hts _ kw_79) (fun _ h9 => h9) hv75 d_Pl_burnBeyondLimits_1 ?_
  refine lv_iconst (v := 1) hx hb d_Pl_burnBeyondLimits_4 (by decide) ?_
  refine lv_isub hx hb d_Pl_burnBeyondLimits_5 ?_
  refine lv_topi (fun z76 ez76 => ?_)
  replace hwp := hwp z76 ez76
  refine lv_istore_n (lv' := [(2, .int z76), (0, .ref self), (1, .ref p0)]) hx hb d_Pl_burnBeyondLimits_6 rfl hl (by decide) rfl (fun ls hl => ?_)
  obtain ⟨n77, hwp⟩ := hwp
  exact tPl_burnBeyondLimits_7 C post n77 self p0 z76 M hwp H locs ls hM hS (lv_sub hl [1, 2, 0] rfl)
set_option maxRecDepth 100000 in
set_option maxHeartbeats 4000000 in
theorem metPl_burnBeyondLimits (l : Launch) (D : va_G) (κ : Nat → ClassId) (sz : Nat) (self : Nat) (p0 : Nat) (M : Hp) (post : Hp → Prop) (hwp : wpPl_burnBeyondLimits self p0 M post) : Met l y_Pl_burnBeyondLimits ws_Pl_burnBeyondLimits rm_Pl_burnBeyondLimits (hPc D kCl (hTys κ) M sz [.ref self, .ref p0]) (va_Qv post (hB D kCl (hTys κ) (hAx M sz)) (hAx M sz)) 0 0 (hAx M sz) := by
  refine Met.ofW (cc := prog_3_method_5_code) (maxL := 4) (ret := none) (by decide +kernel) rfl ?_
  intro p e s m args below meth c s₁ B hml hv
  obtain ⟨rfl, hsz, hE, hM0⟩ := hv
  have hts : ∀ w ∈ WG, w.before _ s = true := fun w h => atoms_spec (ws := ws_Pl_burnBeyondLimits) B.pre w (List.mem_cons_of_mem _ h)
  subst hsz
  have C : Cx_Pl_burnBeyondLimits p s m _ meth c D κ (hAx M s.heap.size) := ⟨B.exec, B.bytes, hml, B.returns, findClass_of_methodNamed B.named, hts, B.notSynchronized, hE, fun q h => Or.inr h⟩
  have hl := lv_entry ([.ref self, .ref p0]) (n := 4) (Nat.le_of_ble_eq_true rfl)
  rw [lg_entry_eq]
  generalize (lg_sl ([.ref self, .ref p0]) ++ List.replicate (4 - (lg_sl ([.ref self, .ref p0])).length) Slot.unset).toArray = ls at hl ⊢
  exact ePl_burnBeyondLimits C post self p0 M hwp s.heap [] ls (hM0.self (sz := s.heap.size)) va_S.rf hl
abbrev rm_BT_makePriced : Room := { frames := 5, cells := 0, slots := 0, locals := 145 }
def Cx_BT_makePriced (p : Program) (s : State) (m : MethodId) (args : Array Value) (meth : Method) (c : Code) (D : va_G) (κ : Nat → ClassId) (A : Nat → Prop) : Prop := p.tables.exec = Jvm.exec ∧ c.code = prog_1_method_29_code ∧ c.maxLocals = 9 ∧ meth.sig.returnType = (some .int) ∧ s.vm.findClass "BuckTables" = some m.cls ∧ (∀ w ∈ WG, w.before args s = true) ∧ meth.locks = false ∧ hEnv D kCl (hTys κ) A s ∧ (∀ q, s.heap.size ≤ q → A q)
def wBT_makePriced_160 (post : Int32 → Hp → Prop)  (x0 : Nat) (x1 : Int32) (x5 : Int32) (M : Hp) : Prop := (∃ M1 : Hp, pF M x0 0 10 (.int x1) M1 ∧ (∃ M5 : Hp, pF M1 x0 0 9 (.int (1 : Int32)) M5 ∧ (post x5 M5)))
set_option maxRecDepth 100000 in
set_option maxHeartbeats 4000000 in
theorem tBT_makePriced_160 {p : Program} {l : Launch} {e : Env} {s : State} {m : MethodId} {args : Array Value} {below : List Frame} {meth : Method} {c : Code} {D : va_G} {κ : Nat → ClassId} {A : Nat → Prop} (C : Cx_BT_makePriced p s m args meth c D κ A) (post : Int32 → Hp → Prop)  (x0 : Nat) (x1 : Int32) (x5 : Int32) (M : Hp) (hwp : wBT_makePriced_160 post x0 x1 x5 M) : Y p l e rm_BT_makePriced s m args below meth c D kCl (hTys κ) A 9 0 0 (MQ below (va_Qi post (hB D kCl (hTys κ) A) A) args s 0 0 A) M 160 [(0, .ref x0), (1, .int x1), (5, .int x5)] [] := by
  obtain ⟨hx, hb, hml, hr, hown, hts, hlocks, hE, hA⟩ := id C
  have hK := hE.1
  intro H locs ls hM hS hl
  unfold wBT_makePriced_160 at hwp
  refine lv_aload_n hx hb d_BT_makePriced_160 rfl (lv_at hl 0 rfl) ?_
  refine lv_iload_n hx hb d_BT_makePriced_161 rfl (lv_at hl 1 rfl) ?_
  obtain ⟨M1, ⟨fs2, he3, hl4, eM1⟩, hwp⟩ := hwp
  refine h_put (C := "BuckTables") (T := Tc0) (N := 12) (v := .int x1) (ty := .int) hx hb hts inc0 tyc0 tyc0_ok nmc0 hown hK hM hS he3 rfl 10 (by decide) (hts _ kw_212) (fun _ h9 => h9) rfl (by decide +kernel) rfl rfl hl4 d_BT_makePriced_162 (fun H locs hM hS => ?_)
  rw [← eM1] at hM
  refine lv_aload_n hx hb d_BT_makePriced_165 rfl (lv_at hl 0 rfl) ?_
  refine lv_iconst (v := 1) hx hb d_BT_makePriced_166 (by decide) ?_
  obtain ⟨M5, ⟨fs6, he7, hl8, eM5⟩, hwp⟩ := hwp
  refine h_put (C := "BuckTables") (T := Tc0) (N := 12) (v := .int (1 : Int32)) (ty := .boolean) hx hb hts inc0 tyc0 tyc0_ok nmc0 hown hK hM hS he7 rfl 9 (by decide) (hts _ kw_211) (fun _ h9 => h9) rfl (by decide +kernel) (by decide) (by decide) hl8 d_BT_makePriced_167 (fun H locs hM hS => ?_)
  rw [← eM5] at hM
  refine lv_iload hx hb d_BT_makePriced_170 (lv_at hl 2 rfl) ?_
  exact W.iret (v := x5) hx hb hr (fun t ht hW => ⟨⟨x5, M5, rfl, hwp, by show hw D kCl (hTys κ) A M5 t.heap; rw [ht]; exact hM⟩, hS.F ht⟩) hS.2.2 d_BT_makePriced_172
def wBT_makePriced_144 (post : Int32 → Hp → Prop)  (x0 : Nat) (x1 : Int32) (x2 : Nat) (x3 : Int32) (x5 : Int32) (M : Hp) : Prop := ((x3 = 0 → (∃ a10 : Nat, fA M x0 0 1 a10 ∧ (hob M x2 5 ∧ (wpPl_burnBeyondLimits x2 a10 M (fun (M14 : Hp) => (hob M14 x0 0 ∧ (wpBT_keepTrial x0 M14 (fun (M16 : Hp) => (wBT_makePriced_160 post x0 x1 x5 M16))))))))) ∧ (¬ x3 = 0 → (wBT_makePriced_160 post x0 x1 x5 M)))
set_option maxRecDepth 100000 in
set_option maxHeartbeats 4000000 in
theorem tBT_makePriced_144 {p : Program} {l : Launch} {e : Env} {s : State} {m : MethodId} {args : Array Value} {below : List Frame} {meth : Method} {c : Code} {D : va_G} {κ : Nat → ClassId} {A : Nat → Prop} (C : Cx_BT_makePriced p s m args meth c D κ A) (post : Int32 → Hp → Prop)  (x0 : Nat) (x1 : Int32) (x2 : Nat) (x3 : Int32) (x5 : Int32) (M : Hp) (hwp : wBT_makePriced_144 post x0 x1 x2 x3 x5 M) : Y p l e rm_BT_makePriced s m args below meth c D kCl (hTys κ) A 9 0 0 (MQ below (va_Qi post (hB D kCl (hTys κ) A) A) args s 0 0 A) M 144 [(0, .ref x0), (1, .int x1), (2, .ref x2), (3, .int x3), (5, .int x5)] [] := by
  obtain ⟨hx, hb, hml, hr, hown, hts, hlocks, hE, hA⟩ := id C
  have hK := hE.1
  intro H locs ls hM hS hl
  unfold wBT_makePriced_144 at hwp
  refine lv_iload_n hx hb d_BT_makePriced_144 rfl (lv_at hl 3 rfl) ?_
  refine lv_if_ne (tgt := 160) hx hb d_BT_makePriced_145 (by decide) (fun c9 => ?_) (fun c9 => ?_)
  · replace hwp := hwp.2 c9
    exact tBT_makePriced_160 C post x0 x1 x5 M hwp H locs ls hM hS (lv_sub hl [0, 1, 4] rfl)
  · replace hwp := hwp.1 c9
    refine lv_aload_n hx hb d_BT_makePriced_148 rfl (lv_at hl 2 rfl) ?_
    refine lv_aload_n hx hb d_BT_makePriced_149 rfl (lv_at hl 0 rfl) ?_
    obtain ⟨a10, ⟨fs11, he12, hv13⟩, hwp⟩ := hwp
    refine h_get (C := "BuckTables") (T := Tc0) (N := 12) hx hb hts inc0 hown hK hM he12 rfl 1 (by decide) (hts _ kw_203) (fun _ h9 => h9) hv13 d_BT_makePriced_150 ?_
    obtain ⟨ho15, hwp⟩ := hwp
    refine h_callv hM hS hA (va_runV (As := [.ref a10]) (rest := []) ⟨hx, hb, hml, hown, hts⟩ (metPl_burnBeyondLimits l D κ H.size x2 a10 M _ hwp) (cwV 1 hts (gV kw_609 kw_610 kw_611 kw_4 kw_612) rfl rfl rfl (by decide +kernel) ⟨(Nat.le_of_ble_eq_true rfl), (Nat.le_of_ble_eq_true rfl)⟩) (h_preV hE hM hS ho15 (r := ("BuckTables$Plan", Tc5, 5)) rfl) rfl rfl hl.1 rfl (lv_room (Nat.le_of_ble_eq_true rfl)) d_BT_makePriced_153 ⟨(Nat.le_of_ble_eq_true rfl), (Nat.le_of_ble_eq_true rfl)⟩) (fun M14 H locs hwp hM hS => ?_)
    refine lv_aload_n hx hb d_BT_makePriced_156 rfl (lv_at hl 0 rfl) ?_
    obtain ⟨ho17, hwp⟩ := hwp
    refine h_callv hM hS hA (va_runV (As := []) (rest := []) ⟨hx, hb, hml, hown, hts⟩ (metBT_keepTrial l D κ H.size x0 M14 _ hwp) (cwV 0 hts (gV kw_605 kw_607 kp_17 kw_1 kw_608) rfl rfl rfl (by decide +kernel) ⟨(Nat.le_of_ble_eq_true rfl), (Nat.le_of_ble_eq_true rfl)⟩) (h_preV hE hM hS ho17 (r := ("BuckTables", Tc0, 12)) rfl) rfl rfl hl.1 rfl (lv_room (Nat.le_of_ble_eq_true rfl)) d_BT_makePriced_157 ⟨(Nat.le_of_ble_eq_true rfl), (Nat.le_of_ble_eq_true rfl)⟩) (fun M16 H locs hwp hM hS => ?_)
    exact tBT_makePriced_160 C post x0 x1 x5 M16 hwp H locs ls hM hS (lv_sub hl [0, 1, 4] rfl)
def wBT_makePriced_141 (post : Int32 → Hp → Prop) (k17 : Nat → Int32 → Nat → Int32 → Int32 → Int32 → Hp → Prop) (x0 : Nat) (x1 : Int32) (x2 : Nat) (x3 : Int32) (x4 : Int32) (x5 : Int32) (M : Hp) : Prop := (k17 x0 x1 x2 x3 x4 x5 M)
set_option maxRecDepth 100000 in
set_option maxHeartbeats 4000000 in
theorem tBT_makePriced_141 {p : Program} {l : Launch} {e : Env} {s : State} {m : MethodId} {args : Array Value} {below : List Frame} {meth : Method} {c : Code} {D : va_G} {κ : Nat → ClassId} {A : Nat → Prop} (C : Cx_BT_makePriced p s m args meth c D κ A) (post : Int32 → Hp → Prop) (k17 : Nat → Int32 → Nat → Int32 → Int32 → Int32 → Hp → Prop) (hk17 : ∀ (x0 : Nat) (x1 : Int32) (x2 : Nat) (x3 : Int32) (x4 : Int32) (x5 : Int32) (M : Hp), k17 x0 x1 x2 x3 x4 x5 M → Y p l e rm_BT_makePriced s m args below meth c D kCl (hTys κ) A 9 0 0 (MQ below (va_Qi post (hB D kCl (hTys κ) A) A) args s 0 0 A) M 17 [(0, .ref x0), (1, .int x1), (2, .ref x2), (3, .int x3), (4, .int x4), (5, .int x5)] []) (x0 : Nat) (x1 : Int32) (x2 : Nat) (x3 : Int32) (x4 : Int32) (x5 : Int32) (M : Hp) (hwp : wBT_makePriced_141 post k17 x0 x1 x2 x3 x4 x5 M) : Y p l e rm_BT_makePriced s m args below meth c D kCl (hTys κ) A 9 0 0 (MQ below (va_Qi post (hB D kCl (hTys κ) A) A) args s 0 0 A) M 141 [(0, .ref x0), (1, .int x1), (2, .ref x2), (3, .int x3), (4, .int x4), (5, .int x5)] [] := by
  obtain ⟨hx, hb, hml, hr, hown, hts, hlocks, hE, hA⟩ := id C
  have hK := hE.1
  intro H locs ls hM hS hl
  unfold wBT_makePriced_141 at hwp
  refine lv_goto (tgt := 17) hx hb d_BT_makePriced_141 (by decide) ?_
  exact hk17 x0 x1 x2 x3 x4 x5 M hwp H locs ls hM hS (lv_sub hl [0, 1, 2, 3, 4, 5] rfl)
def wBT_makePriced_135 (post : Int32 → Hp → Prop) (k17 : Nat → Int32 → Nat → Int32 → Int32 → Int32 → Hp → Prop) (x0 : Nat) (x1 : Int32) (x2 : Nat) (x4 : Int32) (x5 : Int32) (M : Hp) : Prop := (hob M x0 0 ∧ (wpBT_keepTrial x0 M (fun (M18 : Hp) => (wBT_makePriced_141 post k17 x0 x1 x2 (1 : Int32) x4 x5 M18))))
set_option maxRecDepth 100000 in
set_option maxHeartbeats 4000000 in
theorem tBT_makePriced_135 {p : Program} {l : Launch} {e : Env} {s : State} {m : MethodId} {args : Array Value} {below : List Frame} {meth : Method} {c : Code} {D : va_G} {κ : Nat → ClassId} {A : Nat → Prop} (C : Cx_BT_makePriced p s m args meth c D κ A) (post : Int32 → Hp → Prop) (k17 : Nat → Int32 → Nat → Int32 → Int32 → Int32 → Hp → Prop) (hk17 : ∀ (x0 : Nat) (x1 : Int32) (x2 : Nat) (x3 : Int32) (x4 : Int32) (x5 : Int32) (M : Hp), k17 x0 x1 x2 x3 x4 x5 M → Y p l e rm_BT_makePriced s m args below meth c D kCl (hTys κ) A 9 0 0 (MQ below (va_Qi post (hB D kCl (hTys κ) A) A) args s 0 0 A) M 17 [(0, .ref x0), (1, .int x1), (2, .ref x2), (3, .int x3), (4, .int x4), (5, .int x5)] []) (x0 : Nat) (x1 : Int32) (x2 : Nat) (x4 : Int32) (x5 : Int32) (M : Hp) (hwp : wBT_makePriced_135 post k17 x0 x1 x2 x4 x5 M) : Y p l e rm_BT_makePriced s m args below meth c D kCl (hTys κ) A 9 0 0 (MQ below (va_Qi post (hB D kCl (hTys κ) A) A) args s 0 0 A) M 135 [(0, .ref x0), (1, .int x1), (2, .ref x2), (4, .int x4), (5, .int x5)] [] := by
  obtain ⟨hx, hb, hml, hr, hown, hts, hlocks, hE, hA⟩ := id C
  have hK := hE.1
  intro H locs ls hM hS hl
  unfold wBT_makePriced_135 at hwp
  refine lv_aload_n hx hb d_BT_makePriced_135 rfl (lv_at hl 0 rfl) ?_
  obtain ⟨ho19, hwp⟩ := hwp
  refine h_callv hM hS hA (va_runV (As := []) (rest := []) ⟨hx, hb, hml, hown, hts⟩ (metBT_keepTrial l D κ H.size x0 M _ hwp) (cwV 0 hts (gV kw_605 kw_607 kp_17 kw_1 kw_608) rfl rfl rfl (by decide +kernel) ⟨(Nat.le_of_ble_eq_true rfl), (Nat.le_of_ble_eq_true rfl)⟩) (h_preV hE hM hS ho19 (r := ("BuckTables", Tc0, 12)) rfl) rfl rfl hl.1 rfl (lv_room (Nat.le_of_ble_eq_true rfl)) d_BT_makePriced_136 ⟨(Nat.le_of_ble_eq_true rfl), (Nat.le_of_ble_eq_true rfl)⟩) (fun M18 H locs hwp hM hS => ?_)
  refine lv_iconst (v := 1) hx hb d_BT_makePriced_139 (by decide) ?_
  refine lv_istore_n (lv' := [(3, .int (1 : Int32)), (0, .ref x0), (1, .int x1), (2, .ref x2), (4, .int x4), (5, .int x5)]) hx hb d_BT_makePriced_140 rfl hl (by decide) rfl (fun ls hl => ?_)
  exact tBT_makePriced_141 C post k17 hk17 x0 x1 x2 (1 : Int32) x4 x5 M18 hwp H locs ls hM hS (lv_sub hl [1, 2, 3, 0, 4, 5] rfl)
def wBT_makePriced_109 (post : Int32 → Hp → Prop) (k17 : Nat → Int32 → Nat → Int32 → Int32 → Int32 → Hp → Prop) (x0 : Nat) (x1 : Int32) (x2 : Nat) (x3 : Int32) (x5 : Int32) (x8 : Int32) (y0 : Int32) (M : Hp) : Prop := ((x8 = 0 → (wBT_makePriced_141 post k17 x0 x1 x2 x3 y0 x5 M)) ∧ (¬ x8 = 0 → ((x3 = 0 → (wBT_makePriced_135 post k17 x0 x1 x2 y0 x5 M)) ∧ (¬ x3 = 0 → (∃ v22 : Int64, fJ M x2 5 4 v22 ∧ (∃ a26 : Nat, fA M x0 0 7 a26 ∧ (∃ v30 : Int64, fJ M a26 5 4 v30 ∧ ((v22 ≤ v30 → (wBT_makePriced_141 post k17 x0 x1 x2 x3 y0 x5 M)) ∧ (¬ v22 ≤ v30 → (wBT_makePriced_135 post k17 x0 x1 x2 y0 x5 M))))))))))
set_option maxRecDepth 100000 in
set_option maxHeartbeats 4000000 in
theorem tBT_makePriced_109 {p : Program} {l : Launch} {e : Env} {s : State} {m : MethodId} {args : Array Value} {below : List Frame} {meth : Method} {c : Code} {D : va_G} {κ : Nat → ClassId} {A : Nat → Prop} (C : Cx_BT_makePriced p s m args meth c D κ A) (post : Int32 → Hp → Prop) (k17 : Nat → Int32 → Nat → Int32 → Int32 → Int32 → Hp → Prop) (hk17 : ∀ (x0 : Nat) (x1 : Int32) (x2 : Nat) (x3 : Int32) (x4 : Int32) (x5 : Int32) (M : Hp), k17 x0 x1 x2 x3 x4 x5 M → Y p l e rm_BT_makePriced s m args below meth c D kCl (hTys κ) A 9 0 0 (MQ below (va_Qi post (hB D kCl (hTys κ) A) A) args s 0 0 A) M 17 [(0, .ref x0), (1, .int x1), (2, .ref x2), (3, .int x3), (4, .int x4), (5, .int x5)] []) (x0 : Nat) (x1 : Int32) (x2 : Nat) (x3 : Int32) (x5 : Int32) (x8 : Int32) (y0 : Int32) (M : Hp) (hwp : wBT_makePriced_109 post k17 x0 x1 x2 x3 x5 x8 y0 M) : Y p l e rm_BT_makePriced s m args below meth c D kCl (hTys κ) A 9 0 0 (MQ below (va_Qi post (hB D kCl (hTys κ) A) A) args s 0 0 A) M 109 [(0, .ref x0), (1, .int x1), (2, .ref x2), (3, .int x3), (5, .int x5), (8, .int x8)] [.int y0] := by
  obtain ⟨hx, hb, hml, hr, hown, hts, hlocks, hE, hA⟩ := id C
  have hK := hE.1
  intro H locs ls hM hS hl
  unfold wBT_makePriced_109 at hwp
  refine lv_istore (lv' := [(4, .int y0), (0, .ref x0), (1, .int x1), (2, .ref x2), (3, .int x3), (5, .int x5), (8, .int x8)]) hx hb d_BT_makePriced_109 hl (by decide) rfl (fun ls hl => ?_)
  refine lv_iload hx hb d_BT_makePriced_111 (lv_at hl 6 rfl) ?_
  refine lv_if_eq (tgt := 141) hx hb d_BT_makePriced_113 (by decide) (fun c20 => ?_) (fun c20 => ?_)
  · replace hwp := hwp.1 c20
    exact tBT_makePriced_141 C post k17 hk17 x0 x1 x2 x3 y0 x5 M hwp H locs ls hM hS (lv_sub hl [1, 2, 3, 4, 0, 5] rfl)
  · replace hwp := hwp.2 c20
    refine lv_iload_n hx hb d_BT_makePriced_116 rfl (lv_at hl 4 rfl) ?_
    refine lv_if_eq (tgt := 135) hx hb d_BT_makePriced_117 (by decide) (fun c21 => ?_) (fun c21 => ?_)
    · replace hwp := hwp.1 c21
      exact tBT_makePriced_135 C post k17 hk17 x0 x1 x2 y0 x5 M hwp H locs ls hM hS (lv_sub hl [1, 2, 3, 0, 5] rfl)
    · replace hwp := hwp.2 c21
      refine lv_aload_n hx hb d_BT_makePriced_120 rfl (lv_at hl 3 rfl) ?_
      obtain ⟨v22, ⟨fs23, he24, hv25⟩, hwp⟩ := hwp
      refine h_get (C := "BuckTables$Plan") (T := Tc5) (N := 5) hx hb hts inc5 hown hK hM he24 rfl 4 (by decide) (hts _ kw_82) (fun _ h9 => h9) hv25 d_BT_makePriced_121 ?_
      refine lv_aload_n hx hb d_BT_makePriced_124 rfl (lv_at hl 1 rfl) ?_
      obtain ⟨a26, ⟨fs27, he28, hv29⟩, hwp⟩ := hwp
      refine h_get (C := "BuckTables") (T := Tc0) (N := 12) hx hb hts inc0 hown hK hM he28 rfl 7 (by decide) (hts _ kw_209) (fun _ h9 => h9) hv29 d_BT_makePriced_125 ?_
      obtain ⟨v30, ⟨fs31, he32, hv33⟩, hwp⟩ := hwp
      refine h_get (C := "BuckTables$Plan") (T := Tc5) (N := 5) hx hb hts inc5 hown hK hM he32 rfl 4 (by decide) (hts _ kw_82) (fun _ h9 => h9) hv33 d_BT_makePriced_128 ?_
      refine W.lcmp hx hb d_BT_makePriced_131 ?_
      refine lv_if_le (tgt := 141) hx hb d_BT_makePriced_132 (by decide) (fun c34 => ?_) (fun c34 => ?_)
      · replace c34 := (lc_le _ _).mp c34
        replace hwp := hwp.1 c34
        exact tBT_makePriced_141 C post k17 hk17 x0 x1 x2 x3 y0 x5 M hwp H locs ls hM hS (lv_sub hl [1, 2, 3, 4, 0, 5] rfl)
      · replace c34 := fun h9 => c34 ((lc_le _ _).mpr h9)
        replace hwp := hwp.2 c34
        exact tBT_makePriced_135 C post k17 hk17 x0 x1 x2 y0 x5 M hwp H locs ls hM hS (lv_sub hl [1, 2, 3, 0, 5] rfl)
def wBT_makePriced_108 (post : Int32 → Hp → Prop) (k17 : Nat → Int32 → Nat → Int32 → Int32 → Int32 → Hp → Prop) (x0 : Nat) (x1 : Int32) (x2 : Nat) (x3 : Int32) (x5 : Int32) (x8 : Int32) (M : Hp) : Prop := (wBT_makePriced_109 post k17 x0 x1 x2 x3 x5 x8 (0 : Int32) M)
set_option maxRecDepth 100000 in
set_option maxHeartbeats 4000000 in
theorem tBT_makePriced_108 {p : Program} {l : Launch} {e : Env} {s : State} {m : MethodId} {args : Array Value} {below : List Frame} {meth : Method} {c : Code} {D : va_G} {κ : Nat → ClassId} {A : Nat → Prop} (C : Cx_BT_makePriced p s m args meth c D κ A) (post : Int32 → Hp → Prop) (k17 : Nat → Int32 → Nat → Int32 → Int32 → Int32 → Hp → Prop) (hk17 : ∀ (x0 : Nat) (x1 : Int32) (x2 : Nat) (x3 : Int32) (x4 : Int32) (x5 : Int32) (M : Hp), k17 x0 x1 x2 x3 x4 x5 M → Y p l e rm_BT_makePriced s m args below meth c D kCl (hTys κ) A 9 0 0 (MQ below (va_Qi post (hB D kCl (hTys κ) A) A) args s 0 0 A) M 17 [(0, .ref x0), (1, .int x1), (2, .ref x2), (3, .int x3), (4, .int x4), (5, .int x5)] []) (x0 : Nat) (x1 : Int32) (x2 : Nat) (x3 : Int32) (x5 : Int32) (x8 : Int32) (M : Hp) (hwp : wBT_makePriced_108 post k17 x0 x1 x2 x3 x5 x8 M) : Y p l e rm_BT_makePriced s m args below meth c D kCl (hTys κ) A 9 0 0 (MQ below (va_Qi post (hB D kCl (hTys κ) A) A) args s 0 0 A) M 108 [(0, .ref x0), (1, .int x1), (2, .ref x2), (3, .int x3), (5, .int x5), (8, .int x8)] [] := by
  obtain ⟨hx, hb, hml, hr, hown, hts, hlocks, hE, hA⟩ := id C
  have hK := hE.1
  intro H locs ls hM hS hl
  unfold wBT_makePriced_108 at hwp
  refine lv_iconst (v := 0) hx hb d_BT_makePriced_108 (by decide) ?_
  exact tBT_makePriced_109 C post k17 hk17 x0 x1 x2 x3 x5 x8 (0 : Int32) M hwp H locs ls hM hS (lv_sub hl [0, 1, 2, 3, 4, 5] rfl)
def wBT_makePriced_81 (post : Int32 → Hp → Prop) (k17 : Nat → Int32 → Nat → Int32 → Int32 → Int32 → Hp → Prop) (x0 : Nat) (x1 : Int32) (x2 : Nat) (x3 : Int32) (x5 : Int32) (y0 : Int64) (y1 : Nat) (M : Hp) : Prop := (∃ M35 : Hp, pF M y1 0 11 (.long y0) M35 ∧ (hob M35 x0 0 ∧ (wpBT_limitsHold x0 x2 M35 (fun (r41 : Int32) (M39 : Hp) => ((r41 = 0 → (wBT_makePriced_108 post k17 x0 x1 x2 x3 x5 r41 M39)) ∧ (¬ r41 = 0 → (hob M39 x0 0 ∧ (wpBT_pricesAreUsed x0 x2 M39 (fun (r45 : Int32) (M43 : Hp) => ((r45 = 0 → (wBT_makePriced_108 post k17 x0 x1 x2 x3 x5 r41 M43)) ∧ (¬ r45 = 0 → (wBT_makePriced_109 post k17 x0 x1 x2 x3 x5 r41 (1 : Int32) M43))))))))))))
set_option maxRecDepth 100000 in
set_option maxHeartbeats 4000000 in
theorem tBT_makePriced_81 {p : Program} {l : Launch} {e : Env} {s : State} {m : MethodId} {args : Array Value} {below : List Frame} {meth : Method} {c : Code} {D : va_G} {κ : Nat → ClassId} {A : Nat → Prop} (C : Cx_BT_makePriced p s m args meth c D κ A) (post : Int32 → Hp → Prop) (k17 : Nat → Int32 → Nat → Int32 → Int32 → Int32 → Hp → Prop) (hk17 : ∀ (x0 : Nat) (x1 : Int32) (x2 : Nat) (x3 : Int32) (x4 : Int32) (x5 : Int32) (M : Hp), k17 x0 x1 x2 x3 x4 x5 M → Y p l e rm_BT_makePriced s m args below meth c D kCl (hTys κ) A 9 0 0 (MQ below (va_Qi post (hB D kCl (hTys κ) A) A) args s 0 0 A) M 17 [(0, .ref x0), (1, .int x1), (2, .ref x2), (3, .int x3), (4, .int x4), (5, .int x5)] []) (x0 : Nat) (x1 : Int32) (x2 : Nat) (x3 : Int32) (x5 : Int32) (y0 : Int64) (y1 : Nat) (M : Hp) (hwp : wBT_makePriced_81 post k17 x0 x1 x2 x3 x5 y0 y1 M) : Y p l e rm_BT_makePriced s m args below meth c D kCl (hTys κ) A 9 0 0 (MQ below (va_Qi post (hB D kCl (hTys κ) A) A) args s 0 0 A) M 81 [(0, .ref x0), (1, .int x1), (2, .ref x2), (3, .int x3), (5, .int x5)] [.long y0, .ref y1] := by
  obtain ⟨hx, hb, hml, hr, hown, hts, hlocks, hE, hA⟩ := id C
  have hK := hE.1
  intro H locs ls hM hS hl
  unfold wBT_makePriced_81 at hwp
  obtain ⟨M35, ⟨fs36, he37, hl38, eM35⟩, hwp⟩ := hwp
  refine h_put (C := "BuckTables") (T := Tc0) (N := 12) (v := .long y0) (ty := .long) hx hb hts inc0 tyc0 tyc0_ok nmc0 hown hK hM hS he37 rfl 11 (by decide) (hts _ kw_213) (fun _ h9 => h9) rfl (by decide +kernel) rfl rfl hl38 d_BT_makePriced_81 (fun H locs hM hS => ?_)
  rw [← eM35] at hM
  refine lv_aload_n hx hb d_BT_makePriced_84 rfl (lv_at hl 0 rfl) ?_
  refine lv_aload_n hx hb d_BT_makePriced_85 rfl (lv_at hl 2 rfl) ?_
  obtain ⟨ho40, hwp⟩ := hwp
  refine h_calli hM hS hA (va_runV (As := [.ref x2]) (rest := []) ⟨hx, hb, hml, hown, hts⟩ (metBT_limitsHold l D κ H.size x0 x2 M35 _ hwp) (cwV 1 hts (gV kw_592 kw_594 kp_15 kw_1 kw_595) rfl rfl rfl (by decide +kernel) ⟨(Nat.le_of_ble_eq_true rfl), (Nat.le_of_ble_eq_true rfl)⟩) (h_preV hE hM hS ho40 (r := ("BuckTables", Tc0, 12)) rfl) rfl rfl hl.1 rfl (lv_room (Nat.le_of_ble_eq_true rfl)) d_BT_makePriced_86 ⟨(Nat.le_of_ble_eq_true rfl), (Nat.le_of_ble_eq_true rfl)⟩) (fun r41 M39 H locs hwp hM hS => ?_)
  refine lv_istore (lv' := [(8, .int r41), (0, .ref x0), (1, .int x1), (2, .ref x2), (3, .int x3), (5, .int x5)]) hx hb d_BT_makePriced_89 hl (by decide) rfl (fun ls hl => ?_)
  refine lv_iload hx hb d_BT_makePriced_91 (lv_at hl 0 rfl) ?_
  refine lv_if_eq (tgt := 108) hx hb d_BT_makePriced_93 (by decide) (fun c42 => ?_) (fun c42 => ?_)
  · replace hwp := hwp.1 c42
    exact tBT_makePriced_108 C post k17 hk17 x0 x1 x2 x3 x5 r41 M39 hwp H locs ls hM hS (lv_sub hl [1, 2, 3, 4, 5, 0] rfl)
  · replace hwp := hwp.2 c42
    refine lv_aload_n hx hb d_BT_makePriced_96 rfl (lv_at hl 1 rfl) ?_
    refine lv_aload_n hx hb d_BT_makePriced_97 rfl (lv_at hl 3 rfl) ?_
    obtain ⟨ho44, hwp⟩ := hwp
    refine h_calli hM hS hA (va_runV (As := [.ref x2]) (rest := []) ⟨hx, hb, hml, hown, hts⟩ (metBT_pricesAreUsed l D κ H.size x0 x2 M39 _ hwp) (cwV 1 hts (gV kw_601 kw_603 kp_16 kw_1 kw_604) rfl rfl rfl (by decide +kernel) ⟨(Nat.le_of_ble_eq_true rfl), (Nat.le_of_ble_eq_true rfl)⟩) (h_preV hE hM hS ho44 (r := ("BuckTables", Tc0, 12)) rfl) rfl rfl hl.1 rfl (lv_room (Nat.le_of_ble_eq_true rfl)) d_BT_makePriced_98 ⟨(Nat.le_of_ble_eq_true rfl), (Nat.le_of_ble_eq_true rfl)⟩) (fun r45 M43 H locs hwp hM hS => ?_)
    refine lv_if_eq (tgt := 108) hx hb d_BT_makePriced_101 (by decide) (fun c46 => ?_) (fun c46 => ?_)
    · replace hwp := hwp.1 c46
      exact tBT_makePriced_108 C post k17 hk17 x0 x1 x2 x3 x5 r41 M43 hwp H locs ls hM hS (lv_sub hl [1, 2, 3, 4, 5, 0] rfl)
    · replace hwp := hwp.2 c46
      refine lv_iconst (v := 1) hx hb d_BT_makePriced_104 (by decide) ?_
      refine lv_goto (tgt := 109) hx hb d_BT_makePriced_105 (by decide) ?_
      exact tBT_makePriced_109 C post k17 hk17 x0 x1 x2 x3 x5 r41 (1 : Int32) M43 hwp H locs ls hM hS (lv_sub hl [1, 2, 3, 4, 5, 0] rfl)
def wBT_makePriced_40 (post : Int32 → Hp → Prop) (k17 : Nat → Int32 → Nat → Int32 → Int32 → Int32 → Hp → Prop) (x0 : Nat) (x1 : Int32) (x3 : Int32) (x5 : Int32) (M : Hp) : Prop := (∀ z47 : Int32, z47 = x5 + 1 → (∃ a48 : Nat, fA M x0 0 8 a48 ∧ (hob M x0 0 ∧ (wpBT_cutAll x0 a48 M (fun (M52 : Hp) => (hob M52 x0 0 ∧ (wpBT_valueOf x0 a48 M52 (fun (r56 : Int64) (M54 : Hp) => ((z47 = (1 : Int32) → (wBT_makePriced_81 post k17 x0 x1 a48 x3 z47 r56 x0 M54)) ∧ (¬ z47 = (1 : Int32) → (∃ v58 : Int64, fJ M54 x0 0 11 v58 ∧ (wBT_makePriced_81 post k17 x0 x1 a48 x3 z47 (if r56 < v58 then r56 else v58) x0 M54))))))))))))
set_option maxRecDepth 100000 in
set_option maxHeartbeats 4000000 in
theorem tBT_makePriced_40 {p : Program} {l : Launch} {e : Env} {s : State} {m : MethodId} {args : Array Value} {below : List Frame} {meth : Method} {c : Code} {D : va_G} {κ : Nat → ClassId} {A : Nat → Prop} (C : Cx_BT_makePriced p s m args meth c D κ A) (post : Int32 → Hp → Prop) (k17 : Nat → Int32 → Nat → Int32 → Int32 → Int32 → Hp → Prop) (hk17 : ∀ (x0 : Nat) (x1 : Int32) (x2 : Nat) (x3 : Int32) (x4 : Int32) (x5 : Int32) (M : Hp), k17 x0 x1 x2 x3 x4 x5 M → Y p l e rm_BT_makePriced s m args below meth c D kCl (hTys κ) A 9 0 0 (MQ below (va_Qi post (hB D kCl (hTys κ) A) A) args s 0 0 A) M 17 [(0, .ref x0), (1, .int x1), (2, .ref x2), (3, .int x3), (4, .int x4), (5, .int x5)] []) (x0 : Nat) (x1 : Int32) (x3 : Int32) (x5 : Int32) (M : Hp) (hwp : wBT_makePriced_40 post k17 x0 x1 x3 x5 M) : Y p l e rm_BT_makePriced s m args below meth c D kCl (hTys κ) A 9 0 0 (MQ below (va_Qi post (hB D kCl (hTys κ) A) A) args s 0 0 A) M 40 [(0, .ref x0), (1, .int x1), (3, .int x3), (5, .int x5)] [] := by
  obtain ⟨hx, hb, hml, hr, hown, hts, hlocks, hE, hA⟩ := id C
  have hK := hE.1
  intro H locs ls hM hS hl
  unfold wBT_makePriced_40 at hwp
  obtain ⟨z47, ez47⟩ : ∃ y : Int32, y = x5 + 1 := ⟨_, rfl⟩
  replace hwp := hwp z47 ez47
  refine lv_iinc (v := z47) (lv' := [(5, .int z47), (0, .ref x0), (1, .int x1), (3, .int x3)]) hx hb d_BT_makePriced_40 hl (k := 3) rfl (by rw [ez47]; rfl) (by decide) rfl (fun ls hl => ?_)
  refine lv_aload_n hx hb d_BT_makePriced_43 rfl (lv_at hl 1 rfl) ?_
  obtain ⟨a48, ⟨fs49, he50, hv51⟩, hwp⟩ := hwp
  refine h_get (C := "BuckTables") (T := Tc0) (N := 12) hx hb hts inc0 hown hK hM he50 rfl 8 (by decide) (hts _ kw_210) (fun _ h9 => h9) hv51 d_BT_makePriced_44 ?_
  refine lv_astore_n (lv' := [(2, .ref a48), (5, .int z47), (0, .ref x0), (1, .int x1), (3, .int x3)]) hx hb d_BT_makePriced_47 rfl hl (by decide) rfl (fun ls hl => ?_)
  refine lv_aload_n hx hb d_BT_makePriced_48 rfl (lv_at hl 2 rfl) ?_
  refine lv_aload_n hx hb d_BT_makePriced_49 rfl (lv_at hl 0 rfl) ?_
  obtain ⟨ho53, hwp⟩ := hwp
  refine h_callv hM hS hA (va_runV (As := [.ref a48]) (rest := []) ⟨hx, hb, hml, hown, hts⟩ (metBT_cutAll l D κ H.size x0 a48 M _ hwp) (cwV 1 hts (gV kw_272 kw_274 kp_6 kw_1 kw_275) rfl rfl rfl (by decide +kernel) ⟨(Nat.le_of_ble_eq_true rfl), (Nat.le_of_ble_eq_true rfl)⟩) (h_preV hE hM hS ho53 (r := ("BuckTables", Tc0, 12)) rfl) rfl rfl hl.1 rfl (lv_room (Nat.le_of_ble_eq_true rfl)) d_BT_makePriced_50 ⟨(Nat.le_of_ble_eq_true rfl), (Nat.le_of_ble_eq_true rfl)⟩) (fun M52 H locs hwp hM hS => ?_)
  refine lv_aload_n hx hb d_BT_makePriced_53 rfl (lv_at hl 2 rfl) ?_
  refine lv_aload_n hx hb d_BT_makePriced_54 rfl (lv_at hl 0 rfl) ?_
  obtain ⟨ho55, hwp⟩ := hwp
  refine h_calll hM hS hA (va_runV (As := [.ref a48]) (rest := []) ⟨hx, hb, hml, hown, hts⟩ (metBT_valueOf l D κ H.size x0 a48 M52 _ hwp) (cwV 1 hts (gV kw_585 kw_587 kp_14 kw_1 kw_588) rfl rfl rfl (by decide +kernel) ⟨(Nat.le_of_ble_eq_true rfl), (Nat.le_of_ble_eq_true rfl)⟩) (h_preV hE hM hS ho55 (r := ("BuckTables", Tc0, 12)) rfl) rfl rfl hl.1 rfl (lv_room (Nat.le_of_ble_eq_true rfl)) d_BT_makePriced_55 ⟨(Nat.le_of_ble_eq_true rfl), (Nat.le_of_ble_eq_true rfl)⟩) (fun r56 M54 H locs hwp hM hS => ?_)
  refine lv_lstore (lv' := [(6, .long r56), (2, .ref a48), (5, .int z47), (0, .ref x0), (1, .int x1), (3, .int x3)]) hx hb d_BT_makePriced_58 hl (by decide) rfl (fun ls hl => ?_)
  refine lv_aload_n hx hb d_BT_makePriced_60 rfl (lv_at hl 3 rfl) ?_
  refine lv_iload hx hb d_BT_makePriced_61 (lv_at hl 2 rfl) ?_
  refine lv_iconst (v := 1) hx hb d_BT_makePriced_63 (by decide) ?_
  refine lv_icmp_ne (tgt := 72) hx hb d_BT_makePriced_64 (by decide) (fun c57 => ?_) (fun c57 => ?_)
  · replace hwp := hwp.2 c57
    refine lv_aload_n hx hb d_BT_makePriced_72 rfl (lv_at hl 3 rfl) ?_
    obtain ⟨v58, ⟨fs59, he60, hv61⟩, hwp⟩ := hwp
    refine h_get (C := "BuckTables") (T := Tc0) (N := 12) hx hb hts inc0 hown hK hM he60 rfl 11 (by decide) (hts _ kw_213) (fun _ h9 => h9) hv61 d_BT_makePriced_73 ?_
    refine lv_lload hx hb d_BT_makePriced_76 (lv_at hl 0 rfl) ?_
    refine va_mmin_long hx hb (show c.maxLocals = ls.size by rw [hml, hl.1]) hown (hts _ kw_589) (hts _ kw_590) (hts _ kw_5) (hts _ kw_591) (Nat.le_of_ble_eq_true rfl) (Nat.le_of_ble_eq_true rfl) (Nat.le_of_ble_eq_true rfl) (Nat.le_of_ble_eq_true rfl) d_BT_makePriced_78 ?_
    exact tBT_makePriced_81 C post k17 hk17 x0 x1 a48 x3 z47 (if r56 < v58 then r56 else v58) x0 M54 hwp H locs ls hM hS (lv_sub hl [3, 4, 1, 5, 2] rfl)
  · replace hwp := hwp.1 c57
    refine lv_lload hx hb d_BT_makePriced_67 (lv_at hl 0 rfl) ?_
    refine lv_goto (tgt := 81) hx hb d_BT_makePriced_69 (by decide) ?_
    exact tBT_makePriced_81 C post k17 hk17 x0 x1 a48 x3 z47 r56 x0 M54 hwp H locs ls hM hS (lv_sub hl [3, 4, 1, 5, 2] rfl)
def wBT_makePriced_17 (post : Int32 → Hp → Prop)  : Nat → Nat → Int32 → Nat → Int32 → Int32 → Int32 → Hp → Prop
  | 0 => fun _ _ _ _ _ _ _ => False
  | n + 1 => fun x0 x1 x2 x3 x4 x5 M => ((x1 ≤ x5 → (wBT_makePriced_144 post x0 x1 x2 x3 x5 M)) ∧ (¬ x1 ≤ x5 → ((x4 = 0 → ((x5 ≤ 0 → (wBT_makePriced_40 post (wBT_makePriced_17 post n) x0 x1 x3 x5 M)) ∧ (¬ x5 ≤ 0 → (hob M x0 0 ∧ (wpBT_changePrices x0 x2 x5 M (fun (M65 : Hp) => (wBT_makePriced_40 post (wBT_makePriced_17 post n) x0 x1 x3 x5 M65))))))) ∧ (¬ x4 = 0 → (wBT_makePriced_144 post x0 x1 x2 x3 x5 M)))))
set_option maxRecDepth 100000 in
set_option maxHeartbeats 4000000 in
theorem tBT_makePriced_17 {p : Program} {l : Launch} {e : Env} {s : State} {m : MethodId} {args : Array Value} {below : List Frame} {meth : Method} {c : Code} {D : va_G} {κ : Nat → ClassId} {A : Nat → Prop} (C : Cx_BT_makePriced p s m args meth c D κ A) (post : Int32 → Hp → Prop)  : ∀ (n : Nat) (x0 : Nat) (x1 : Int32) (x2 : Nat) (x3 : Int32) (x4 : Int32) (x5 : Int32) (M : Hp), wBT_makePriced_17 post n x0 x1 x2 x3 x4 x5 M → Y p l e rm_BT_makePriced s m args below meth c D kCl (hTys κ) A 9 0 0 (MQ below (va_Qi post (hB D kCl (hTys κ) A) A) args s 0 0 A) M 17 [(0, .ref x0), (1, .int x1), (2, .ref x2), (3, .int x3), (4, .int x4), (5, .int x5)] [] := by
  obtain ⟨hx, hb, hml, hr, hown, hts, hlocks, hE, hA⟩ := id C
  have hK := hE.1
  intro n
  induction n with
  | zero => intro x0 x1 x2 x3 x4 x5 M hwp; exact hwp.elim
  | succ n ih =>
    intro x0 x1 x2 x3 x4 x5 M hwp H locs ls hM hS hl
    unfold wBT_makePriced_17 at hwp
    refine lv_iload hx hb d_BT_makePriced_17 (lv_at hl 5 rfl) ?_
    refine lv_iload_n hx hb d_BT_makePriced_19 rfl (lv_at hl 1 rfl) ?_
    refine lv_icmp_ge (tgt := 144) hx hb d_BT_makePriced_20 (by decide) (fun c62 => ?_) (fun c62 => ?_)
    · replace hwp := hwp.1 c62
      exact tBT_makePriced_144 C post x0 x1 x2 x3 x5 M hwp H locs ls hM hS (lv_sub hl [0, 1, 2, 3, 5] rfl)
    · replace hwp := hwp.2 c62
      refine lv_iload hx hb d_BT_makePriced_23 (lv_at hl 4 rfl) ?_
      refine lv_if_ne (tgt := 144) hx hb d_BT_makePriced_25 (by decide) (fun c63 => ?_) (fun c63 => ?_)
      · replace hwp := hwp.2 c63
        exact tBT_makePriced_144 C post x0 x1 x2 x3 x5 M hwp H locs ls hM hS (lv_sub hl [0, 1, 2, 3, 5] rfl)
      · replace hwp := hwp.1 c63
        refine lv_iload hx hb d_BT_makePriced_28 (lv_at hl 5 rfl) ?_
        refine lv_if_le (tgt := 40) hx hb d_BT_makePriced_30 (by decide) (fun c64 => ?_) (fun c64 => ?_)
        · replace hwp := hwp.1 c64
          exact tBT_makePriced_40 C post (wBT_makePriced_17 post n) ih x0 x1 x3 x5 M hwp H locs ls hM hS (lv_sub hl [0, 1, 3, 5] rfl)
        · replace hwp := hwp.2 c64
          refine lv_aload_n hx hb d_BT_makePriced_33 rfl (lv_at hl 0 rfl) ?_
          refine lv_aload_n hx hb d_BT_makePriced_34 rfl (lv_at hl 2 rfl) ?_
          refine lv_iload hx hb d_BT_makePriced_35 (lv_at hl 5 rfl) ?_
          obtain ⟨ho66, hwp⟩ := hwp
          refine h_callv hM hS hA (va_runV (As := [.ref x2, .int x5]) (rest := []) ⟨hx, hb, hml, hown, hts⟩ (metBT_changePrices l D κ H.size x0 x2 x5 M _ hwp) (cwV 2 hts (gV kw_574 kw_576 kp_13 kw_1 kw_577) rfl rfl rfl (by decide +kernel) ⟨(Nat.le_of_ble_eq_true rfl), (Nat.le_of_ble_eq_true rfl)⟩) (h_preV hE hM hS ho66 (r := ("BuckTables", Tc0, 12)) rfl) rfl rfl hl.1 rfl (lv_room (Nat.le_of_ble_eq_true rfl)) d_BT_makePriced_37 ⟨(Nat.le_of_ble_eq_true rfl), (Nat.le_of_ble_eq_true rfl)⟩) (fun M65 H locs hwp hM hS => ?_)
          exact tBT_makePriced_40 C post (wBT_makePriced_17 post n) ih x0 x1 x3 x5 M65 hwp H locs ls hM hS (lv_sub hl [0, 1, 3, 5] rfl)
def wpBT_makePriced (self : Nat) (p0 : Int32) (M : Hp) (post : Int32 → Hp → Prop) : Prop := (hob M self 0 ∧ (wpBT_startPlans self M (fun (M67 : Hp) => (∃ a69 : Nat, fA M67 self 0 8 a69 ∧ (∃ n73 : Nat, wBT_makePriced_17 post n73 self p0 a69 (0 : Int32) (0 : Int32) (0 : Int32) M67)))))
set_option maxRecDepth 100000 in
set_option maxHeartbeats 4000000 in
theorem eBT_makePriced {p : Program} {l : Launch} {e : Env} {s : State} {m : MethodId} {args : Array Value} {below : List Frame} {meth : Method} {c : Code} {D : va_G} {κ : Nat → ClassId} {A : Nat → Prop} (C : Cx_BT_makePriced p s m args meth c D κ A) (post : Int32 → Hp → Prop) (self : Nat) (p0 : Int32) (M : Hp) (hwp : wpBT_makePriced self p0 M post) : Y p l e rm_BT_makePriced s m args below meth c D kCl (hTys κ) A 9 0 0 (MQ below (va_Qi post (hB D kCl (hTys κ) A) A) args s 0 0 A) M 0 [(0, .ref self), (1, .int p0)] [] := by
  obtain ⟨hx, hb, hml, hr, hown, hts, hlocks, hE, hA⟩ := id C
  have hK := hE.1
  intro H locs ls hM hS hl
  unfold wpBT_makePriced at hwp
  refine lv_aload_n hx hb d_BT_makePriced_0 rfl (lv_at hl 0 rfl) ?_
  obtain ⟨ho68, hwp⟩ := hwp
  refine h_callv hM hS hA (va_runV (As := []) (rest := []) ⟨hx, hb, hml, hown, hts⟩ (metBT_startPlans l D κ H.size self M _ hwp) (cwV 0 hts (gV kw_247 kw_249 kp_1 kw_1 kw_250) rfl rfl rfl (by decide +kernel) ⟨(Nat.le_of_ble_eq_true rfl), (Nat.le_of_ble_eq_true rfl)⟩) (h_preV hE hM hS ho68 (r := ("BuckTables", Tc0, 12)) rfl) rfl rfl hl.1 rfl (lv_room (Nat.le_of_ble_eq_true rfl)) d_BT_makePriced_1 ⟨(Nat.le_of_ble_eq_true rfl), (Nat.le_of_ble_eq_true rfl)⟩) (fun M67 H locs hwp hM hS => ?_)
  refine lv_aload_n hx hb d_BT_makePriced_4 rfl (lv_at hl 0 rfl) ?_
  obtain ⟨a69, ⟨fs70, he71, hv72⟩, hwp⟩ := hwp
  refine h_get (C := "BuckTables") (T := Tc0) (N := 12) hx hb hts inc0 hown hK hM he71 rfl 8 (by decide) (hts _ kw_210) (fun _ h9 => h9) hv72 d_BT_makePriced_5 ?_
  refine lv_astore_n (lv' := [(2, .ref a69), (0, .ref self), (1, .int p0)]) hx hb d_BT_makePriced_8 rfl hl (by decide) rfl (fun ls hl => ?_)
  refine lv_iconst (v := 0) hx hb d_BT_makePriced_9 (by decide) ?_
  refine lv_istore_n (lv' := [(3, .int (0 : Int32)), (2, .ref a69), (0, .ref self), (1, .int p0)]) hx hb d_BT_makePriced_10 rfl hl (by decide) rfl (fun ls hl => ?_)
  refine lv_iconst (v := 0) hx hb d_BT_makePriced_11 (by decide) ?_
  refine lv_istore (lv' := [(4, .int (0 : Int32)), (3, .int (0 : Int32)), (2, .ref a69), (0, .ref self), (1, .int p0)]) hx hb d_BT_makePriced_12 hl (by decide) rfl (fun ls hl => ?_)
  refine lv_iconst (v := 0) hx hb d_BT_makePriced_14 (by decide) ?_
  refine lv_istore (lv' := [(5, .int (0 : Int32)), (4, .int (0 : Int32)), (3, .int (0 : Int32)), (2, .ref a69), (0, .ref self), (1, .int p0)]) hx hb d_BT_makePriced_15 hl (by decide) rfl (fun ls hl => ?_)
  obtain ⟨n73, hwp⟩ := hwp
  exact tBT_makePriced_17 C post n73 self p0 a69 (0 : Int32) (0 : Int32) (0 : Int32) M67 hwp H locs ls hM hS (lv_sub hl [4, 5, 3, 2, 1, 0] rfl)
set_option maxRecDepth 100000 in
set_option maxHeartbeats 4000000 in
theorem metBT_makePriced (l : Launch) (D : va_G) (κ : Nat → ClassId) (sz : Nat) (self : Nat) (p0 : Int32) (M : Hp) (post : Int32 → Hp → Prop) (hwp : wpBT_makePriced self p0 M post) : Met l y_BT_makePriced ws_BT_makePriced rm_BT_makePriced (hPc D kCl (hTys κ) M sz [.ref self, .int p0]) (va_Qi post (hB D kCl (hTys κ) (hAx M sz)) (hAx M sz)) 0 0 (hAx M sz) := by
  refine Met.ofW (cc := prog_1_method_29_code) (maxL := 9) (ret := (some .int)) (by decide +kernel) rfl ?_
  intro p e s m args below meth c s₁ B hml hv
  obtain ⟨rfl, hsz, hE, hM0⟩ := hv
  have hts : ∀ w ∈ WG, w.before _ s = true := fun w h => atoms_spec (ws := ws_BT_makePriced) B.pre w (List.mem_cons_of_mem _ h)
  subst hsz
  have C : Cx_BT_makePriced p s m _ meth c D κ (hAx M s.heap.size) := ⟨B.exec, B.bytes, hml, B.returns, findClass_of_methodNamed B.named, hts, B.notSynchronized, hE, fun q h => Or.inr h⟩
  have hl := lv_entry ([.ref self, .int p0]) (n := 9) (Nat.le_of_ble_eq_true rfl)
  rw [lg_entry_eq]
  generalize (lg_sl ([.ref self, .int p0]) ++ List.replicate (9 - (lg_sl ([.ref self, .int p0])).length) Slot.unset).toArray = ls at hl ⊢
  exact eBT_makePriced C post self p0 M hwp s.heap [] ls (hM0.self (sz := s.heap.size)) va_S.rf hl
abbrev rm_BT_priced : Room := { frames := 6, cells := 1, slots := 6, locals := 173 }
def Cx_BT_priced (p : Program) (s : State) (m : MethodId) (args : Array Value) (meth : Method) (c : Code) (D : va_G) (κ : Nat → ClassId) (A : Nat → Prop) : Prop := p.tables.exec = Jvm.exec ∧ c.code = prog_1_method_13_code ∧ c.maxLocals = 2 ∧ meth.sig.returnType = (some .int) ∧ s.vm.findClass "BuckTables" = some m.cls ∧ (∀ w ∈ WG, w.before args s = true) ∧ meth.locks = false ∧ hEnv D kCl (hTys κ) A s ∧ (∀ q, s.heap.size ≤ q → A q) ∧ c.exceptionTable.isEmpty = true
def wBT_priced_11 (post : Int32 → Hp → Prop) (px : String → Hp → Prop)   (M : Hp) : Prop := (px "java/lang/IllegalArgumentException" M)
set_option maxRecDepth 100000 in
set_option maxHeartbeats 4000000 in
theorem tBT_priced_11 {p : Program} {l : Launch} {e : Env} {s : State} {m : MethodId} {args : Array Value} {below : List Frame} {meth : Method} {c : Code} {D : va_G} {κ : Nat → ClassId} {A : Nat → Prop} (C : Cx_BT_priced p s m args meth c D κ A) (hst : l.stackTraces = false) (post : Int32 → Hp → Prop) (px : String → Hp → Prop)   (M : Hp) (hwp : wBT_priced_11 post px  M) : Y p l e rm_BT_priced s m args below meth c D kCl (hTys κ) A 2 0 0 (xMQ below (va_Qi post (hB D kCl (hTys κ) A) A) D kCl (hTys κ) A px args s 1 6) M 11 [] [] := by
  obtain ⟨hx, hb, hml, hr, hown, hts, hlocks, hE, hA, hnoex⟩ := id C
  have hK := hE.1
  intro H locs ls hM hS hl
  unfold wBT_priced_11 at hwp
  exact x_throw (own := "BuckTables") (cls := "java/lang/IllegalArgumentException") (text := "rounds are not 1 .. 10") (names := ["java/lang/RuntimeException", "java/lang/Exception"]) (ik := 98) (is := 179) (ic := 102) hx hb hst hown (by decide +kernel) (by decide +kernel) hE.2 hS hM xin_BT_98_102 (List.mem_append_right _ (List.mem_of_getElem? (i := 569) (by decide +kernel))) (by rw [hml]; exact hl.1) d_BT_priced_11 d_BT_priced_14 d_BT_priced_15 d_BT_priced_17 d_BT_priced_20 (x_empty hnoex) (Nat.le_of_ble_eq_true rfl) (Nat.le_of_ble_eq_true rfl) (Nat.le_of_ble_eq_true rfl) (Nat.le_of_ble_eq_true rfl) hlocks hwp (Nat.le_of_ble_eq_true rfl) (Nat.le_of_ble_eq_true rfl)
def wpBT_priced (self : Nat) (p0 : Int32) (M : Hp) (post : Int32 → Hp → Prop) (px : String → Hp → Prop) : Prop := ((p0 < (1 : Int32) → (wBT_priced_11 post px M)) ∧ (¬ p0 < (1 : Int32) → ((p0 ≤ (10 : Int32) → (hob M self 0 ∧ (wpBT_makePriced self p0 M (fun (r5 : Int32) (M3 : Hp) => (post r5 M3))))) ∧ (¬ p0 ≤ (10 : Int32) → (wBT_priced_11 post px M)))))
set_option maxRecDepth 100000 in
set_option maxHeartbeats 4000000 in
theorem eBT_priced {p : Program} {l : Launch} {e : Env} {s : State} {m : MethodId} {args : Array Value} {below : List Frame} {meth : Method} {c : Code} {D : va_G} {κ : Nat → ClassId} {A : Nat → Prop} (C : Cx_BT_priced p s m args meth c D κ A) (hst : l.stackTraces = false) (post : Int32 → Hp → Prop) (px : String → Hp → Prop) (self : Nat) (p0 : Int32) (M : Hp) (hwp : wpBT_priced self p0 M post px) : Y p l e rm_BT_priced s m args below meth c D kCl (hTys κ) A 2 0 0 (xMQ below (va_Qi post (hB D kCl (hTys κ) A) A) D kCl (hTys κ) A px args s 1 6) M 0 [(0, .ref self), (1, .int p0)] [] := by
  obtain ⟨hx, hb, hml, hr, hown, hts, hlocks, hE, hA, hnoex⟩ := id C
  have hK := hE.1
  intro H locs ls hM hS hl
  unfold wpBT_priced at hwp
  refine lv_iload_n hx hb d_BT_priced_0 rfl (lv_at hl 1 rfl) ?_
  refine lv_iconst (v := 1) hx hb d_BT_priced_1 (by decide) ?_
  refine lv_icmp_lt (tgt := 11) hx hb d_BT_priced_2 (by decide) (fun c1 => ?_) (fun c1 => ?_)
  · replace hwp := hwp.1 c1
    exact tBT_priced_11 C hst post px M hwp H locs ls hM hS (lv_sub hl [] rfl)
  · replace hwp := hwp.2 c1
    refine lv_iload_n hx hb d_BT_priced_5 rfl (lv_at hl 1 rfl) ?_
    refine lv_bipush (v := 10) hx hb d_BT_priced_6 (by decide) ?_
    refine lv_icmp_le (tgt := 21) hx hb d_BT_priced_8 (by decide) (fun c2 => ?_) (fun c2 => ?_)
    · replace hwp := hwp.1 c2
      refine lv_aload_n hx hb d_BT_priced_21 rfl (lv_at hl 0 rfl) ?_
      refine lv_iload_n hx hb d_BT_priced_22 rfl (lv_at hl 1 rfl) ?_
      obtain ⟨ho4, hwp⟩ := hwp
      refine h_calli hM hS hA (va_runV (As := [.int p0]) (rest := []) ⟨hx, hb, hml, hown, hts⟩ (metBT_makePriced l D κ H.size self p0 M _ hwp) (cwV 1 hts (gV kw_570 kw_572 kp_12 kw_1 kw_573) rfl rfl rfl (by decide +kernel) ⟨(Nat.le_of_ble_eq_true rfl), (Nat.le_of_ble_eq_true rfl)⟩) (h_preV hE hM hS ho4 (r := ("BuckTables", Tc0, 12)) rfl) rfl rfl hl.1 rfl (lv_room (Nat.le_of_ble_eq_true rfl)) d_BT_priced_23 ⟨(Nat.le_of_ble_eq_true rfl), (Nat.le_of_ble_eq_true rfl)⟩) (fun r5 M3 H locs hwp hM hS => ?_)
      refine W.widen (k := 1) (n := 6) (by omega) (by omega) ?_
      exact x_ret (W.iret (v := r5) hx hb hr (fun t ht hW => ⟨⟨r5, M3, rfl, hwp, by show hw D kCl (hTys κ) A M3 t.heap; rw [ht]; exact hM⟩, hS.F ht⟩) hS.2.2 d_BT_priced_26)
    · replace hwp := hwp.2 c2
      exact tBT_priced_11 C hst post px M hwp H locs ls hM hS (lv_sub hl [] rfl)
set_option maxRecDepth 100000 in
set_option maxHeartbeats 4000000 in
theorem metBT_priced (l : Launch) (hst : l.stackTraces = false) (D : va_G) (κ : Nat → ClassId) (sz : Nat) (self : Nat) (p0 : Int32) (M : Hp) (post : Int32 → Hp → Prop) (px : String → Hp → Prop) (hwp : wpBT_priced self p0 M post px) : xMet l y_BT_priced ws_BT_priced rm_BT_priced (hPc D kCl (hTys κ) M sz [.ref self, .int p0]) (va_Qi post (hB D kCl (hTys κ) (hAx M sz)) (hAx M sz)) D kCl (hTys κ) (hAx M sz) px 1 6 := by
  refine xMet.ofW (cc := prog_1_method_13_code) (maxL := 2) (ret := (some .int)) (by decide +kernel) rfl ?_
  intro p e s m args below meth c s₁ B hml hv
  obtain ⟨rfl, hsz, hE, hM0⟩ := hv
  have hts : ∀ w ∈ WG, w.before _ s = true := fun w h => atoms_spec (ws := ws_BT_priced) B.pre w (List.mem_cons_of_mem _ h)
  subst hsz
  have C : Cx_BT_priced p s m _ meth c D κ (hAx M s.heap.size) := ⟨B.exec, B.bytes, hml, B.returns, findClass_of_methodNamed B.named, hts, B.notSynchronized, hE, fun q h => Or.inr h, B.noHandlers (atoms_spec (ws := ws_BT_priced) B.pre _ List.mem_cons_self)⟩
  have hl := lv_entry ([.ref self, .int p0]) (n := 2) (Nat.le_of_ble_eq_true rfl)
  rw [lg_entry_eq]
  generalize (lg_sl ([.ref self, .int p0]) ++ List.replicate (2 - (lg_sl ([.ref self, .int p0])).length) Slot.unset).toArray = ls at hl ⊢
  exact eBT_priced C hst post px self p0 M hwp s.heap [] ls (hM0.self (sz := s.heap.size)) va_S.rf hl
abbrev rm_BT_needPlan : Room := { frames := 6, cells := 1, slots := 6, locals := 90 }
def Cx_BT_needPlan (p : Program) (s : State) (m : MethodId) (args : Array Value) (meth : Method) (c : Code) (D : va_G) (κ : Nat → ClassId) (A : Nat → Prop) : Prop := p.tables.exec = Jvm.exec ∧ c.code = prog_1_method_24_code ∧ c.maxLocals = 1 ∧ meth.sig.returnType = none ∧ s.vm.findClass "BuckTables" = some m.cls ∧ (∀ w ∈ WG, w.before args s = true) ∧ meth.locks = false ∧ hEnv D kCl (hTys κ) A s ∧ (∀ q, s.heap.size ≤ q → A q) ∧ c.exceptionTable.isEmpty = true
def wpBT_needPlan (self : Nat) (M : Hp) (post : Hp → Prop) (px : String → Hp → Prop) : Prop := (∃ v1 : Int32, fI M self 0 9 v1 ∧ ((v1 = 0 → (px "java/lang/IllegalStateException" M)) ∧ (¬ v1 = 0 → (post M))))
set_option maxRecDepth 100000 in
set_option maxHeartbeats 4000000 in
theorem eBT_needPlan {p : Program} {l : Launch} {e : Env} {s : State} {m : MethodId} {args : Array Value} {below : List Frame} {meth : Method} {c : Code} {D : va_G} {κ : Nat → ClassId} {A : Nat → Prop} (C : Cx_BT_needPlan p s m args meth c D κ A) (hst : l.stackTraces = false) (post : Hp → Prop) (px : String → Hp → Prop) (self : Nat) (M : Hp) (hwp : wpBT_needPlan self M post px) : Y p l e rm_BT_needPlan s m args below meth c D kCl (hTys κ) A 1 0 0 (xMQ below (va_Qv post (hB D kCl (hTys κ) A) A) D kCl (hTys κ) A px args s 1 6) M 0 [(0, .ref self)] [] := by
  obtain ⟨hx, hb, hml, hr, hown, hts, hlocks, hE, hA, hnoex⟩ := id C
  have hK := hE.1
  intro H locs ls hM hS hl
  unfold wpBT_needPlan at hwp
  refine lv_aload_n hx hb d_BT_needPlan_0 rfl (lv_at hl 0 rfl) ?_
  obtain ⟨v1, ⟨fs2, he3, hv4⟩, hwp⟩ := hwp
  refine h_get (C := "BuckTables") (T := Tc0) (N := 12) hx hb hts inc0 hown hK hM he3 rfl 9 (by decide) (hts _ kw_211) (fun _ h9 => h9) hv4 d_BT_needPlan_1 ?_
  refine lv_if_ne (tgt := 17) hx hb d_BT_needPlan_4 (by decide) (fun c5 => ?_) (fun c5 => ?_)
  · replace hwp := hwp.2 c5
    refine W.widen (k := 1) (n := 6) (by omega) (by omega) ?_
    exact x_ret (W.vret hx hb hr (fun t ht hW => ⟨⟨M, rfl, hwp, by show hw D kCl (hTys κ) A M t.heap; rw [ht]; exact hM⟩, hS.F ht⟩) hS.2.2 d_BT_needPlan_17)
  · replace hwp := hwp.1 c5
    exact x_throw (own := "BuckTables") (cls := "java/lang/IllegalStateException") (text := "no plan was made since something was told") (names := ["java/lang/RuntimeException", "java/lang/Exception"]) (ik := 83) (is := 226) (ic := 87) hx hb hst hown (by decide +kernel) (by decide +kernel) hE.2 hS hM xin_BT_83_87 (List.mem_append_right _ (List.mem_of_getElem? (i := 637) (by decide +kernel))) (by rw [hml]; exact hl.1) d_BT_needPlan_7 d_BT_needPlan_10 d_BT_needPlan_11 d_BT_needPlan_13 d_BT_needPlan_16 (x_empty hnoex) (Nat.le_of_ble_eq_true rfl) (Nat.le_of_ble_eq_true rfl) (Nat.le_of_ble_eq_true rfl) (Nat.le_of_ble_eq_true rfl) hlocks hwp (Nat.le_of_ble_eq_true rfl) (Nat.le_of_ble_eq_true rfl)
set_option maxRecDepth 100000 in
set_option maxHeartbeats 4000000 in
theorem metBT_needPlan (l : Launch) (hst : l.stackTraces = false) (D : va_G) (κ : Nat → ClassId) (sz : Nat) (self : Nat) (M : Hp) (post : Hp → Prop) (px : String → Hp → Prop) (hwp : wpBT_needPlan self M post px) : xMet l y_BT_needPlan ws_BT_needPlan rm_BT_needPlan (hPc D kCl (hTys κ) M sz [.ref self]) (va_Qv post (hB D kCl (hTys κ) (hAx M sz)) (hAx M sz)) D kCl (hTys κ) (hAx M sz) px 1 6 := by
  refine xMet.ofW (cc := prog_1_method_24_code) (maxL := 1) (ret := none) (by decide +kernel) rfl ?_
  intro p e s m args below meth c s₁ B hml hv
  obtain ⟨rfl, hsz, hE, hM0⟩ := hv
  have hts : ∀ w ∈ WG, w.before _ s = true := fun w h => atoms_spec (ws := ws_BT_needPlan) B.pre w (List.mem_cons_of_mem _ h)
  subst hsz
  have C : Cx_BT_needPlan p s m _ meth c D κ (hAx M s.heap.size) := ⟨B.exec, B.bytes, hml, B.returns, findClass_of_methodNamed B.named, hts, B.notSynchronized, hE, fun q h => Or.inr h, B.noHandlers (atoms_spec (ws := ws_BT_needPlan) B.pre _ List.mem_cons_self)⟩
  have hl := lv_entry ([.ref self]) (n := 1) (Nat.le_of_ble_eq_true rfl)
  rw [lg_entry_eq]
  generalize (lg_sl ([.ref self]) ++ List.replicate (1 - (lg_sl ([.ref self])).length) Slot.unset).toArray = ls at hl ⊢
  exact eBT_needPlan C hst post px self M hwp s.heap [] ls (hM0.self (sz := s.heap.size)) va_S.rf hl
