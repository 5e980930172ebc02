abbrev rm_Mo_override : Room := { frames := 5, cells := 0, slots := 0, locals := 134 }
def Cx_Mo_override (p : Program) (s : State) (m : MethodId) (args : Array Value) (meth : Method) (c : Code) (D : va_G) (κ : Nat → ClassId) (A : Nat → Prop) : Prop := p.tables.exec = Jvm.exec ∧ c.code = prog_8_method_47_code ∧ c.maxLocals = 5 ∧ meth.sig.returnType = (some .int) ∧ s.vm.findClass "BuckTablesModel" = some m.cls ∧ (∀ w ∈ WG, w.before args s = true) ∧ meth.locks = false ∧ hEnv D kCl (hTys κ) A s ∧ (∀ q, s.heap.size ≤ q → A q)
def wMo_override_112 (post : Int32 → Hp → Prop)  (x0 : Nat) (x2 : Int64) (M : Hp) : Prop := (hob M x0 6 ∧ (wpMo_trueWorth x0 M (fun (r3 : Int64) (M1 : Hp) => (post ((x2 - r3).toInt32) M1))))
set_option maxRecDepth 100000 in
set_option maxHeartbeats 4000000 in
theorem tMo_override_112 {p : Program} {l : Launch} {e : Env} {s : State} {m : MethodId} {args : Array Value} {below : List Frame} {meth : Method} {c : Code} {D : va_G} {κ : Nat → ClassId} {A : Nat → Prop} (C : Cx_Mo_override p s m args meth c D κ A) (post : Int32 → Hp → Prop)  (x0 : Nat) (x2 : Int64) (M : Hp) (hwp : wMo_override_112 post x0 x2 M) : Y p l e rm_Mo_override s m args below meth c D kCl (hTys κ) A 5 0 0 (MQ below (va_Qi post (hB D kCl (hTys κ) A) A) args s 0 0 A) M 112 [(0, .ref x0), (2, .long x2)] [] := by
  obtain ⟨hx, hb, hml, hr, hown, hts, hlocks, hE, hA⟩ := id C
  have hK := hE.1
  intro H locs ls hM hS hl
  unfold wMo_override_112 at hwp
  refine lv_lload_n hx hb d_Mo_override_112 rfl (lv_at hl 1 rfl) ?_
  refine lv_aload_n hx hb d_Mo_override_113 rfl (lv_at hl 0 rfl) ?_
  obtain ⟨ho2, hwp⟩ := hwp
  refine h_calll hM hS hA (va_runV (As := []) (rest := [.long x2]) ⟨hx, hb, hml, hown, hts⟩ (metMo_trueWorth l D κ H.size x0 M _ hwp) (cwV 0 hts (gV kw_955 kw_957 kp_39 kw_8 kw_958) rfl rfl rfl (by decide +kernel) ⟨(Nat.le_of_ble_eq_true rfl), (Nat.le_of_ble_eq_true rfl)⟩) (h_preV hE hM hS ho2 (r := ("BuckTablesModel", Tc6, 36)) rfl) rfl rfl hl.1 rfl (lv_room (Nat.le_of_ble_eq_true rfl)) d_Mo_override_114 ⟨(Nat.le_of_ble_eq_true rfl), (Nat.le_of_ble_eq_true rfl)⟩) (fun r3 M1 H locs hwp hM hS => ?_)
  refine lv_lsub hx hb d_Mo_override_117 ?_
  refine lv_l2i hx hb d_Mo_override_118 rfl ?_
  exact W.iret (v := ((x2 - r3).toInt32)) hx hb hr (fun t ht hW => ⟨⟨((x2 - r3).toInt32), M1, rfl, hwp, by show hw D kCl (hTys κ) A M1 t.heap; rw [ht]; exact hM⟩, hS.F ht⟩) hS.2.2 d_Mo_override_119
def wMo_override_47 (post : Int32 → Hp → Prop)  (x0 : Nat) (x1 : Int32) (y0 : Int32) (y1 : Nat) (M : Hp) : Prop := (∃ M4 : Hp, pF M y1 6 0 (.int y0) M4 ∧ (∃ v8 : Int32, fI M4 x0 6 0 v8 ∧ ((v8 ≤ 0 → (hob M4 x0 6 ∧ (wpMo_trueWorth x0 M4 (fun (r15 : Int64) (M13 : Hp) => (∃ a16 : Nat, fA M13 x0 6 13 a16 ∧ (∃ v20 : Int32, fI M13 x0 6 4 v20 ∧ (∃ v24 : Int32, fI M13 x0 6 1 v24 ∧ (¬ v24 = 0 ∧ (∃ M33 : Hp, sZ M13 a16 (((81 : Int32) * (v20 - (1 : Int32))) + (x1 / v24)) (1 : Int32) M33 ∧ (∃ v34 : Int32, fI M33 x0 6 34 v34 ∧ ((v34 = 0 → (hob M33 x0 6 ∧ (wpMo_run x0 M33 (fun (r48 : Int32) (M46 : Hp) => (wMo_override_112 post x0 r15 M46))))) ∧ (¬ v34 = 0 → (∃ v39 : Int32, fI M33 x0 6 34 v39 ∧ (hob M33 x0 6 ∧ (wpMo_goRounds x0 v39 M33 (fun (r45 : Int32) (M43 : Hp) => (wMo_override_112 post x0 r15 M43))))))))))))))))) ∧ (¬ v8 ≤ 0 → (post (0 : Int32) M4)))))
set_option maxRecDepth 100000 in
set_option maxHeartbeats 4000000 in
theorem tMo_override_47 {p : Program} {l : Launch} {e : Env} {s : State} {m : MethodId} {args : Array Value} {below : List Frame} {meth : Method} {c : Code} {D : va_G} {κ : Nat → ClassId} {A : Nat → Prop} (C : Cx_Mo_override p s m args meth c D κ A) (post : Int32 → Hp → Prop)  (x0 : Nat) (x1 : Int32) (y0 : Int32) (y1 : Nat) (M : Hp) (hwp : wMo_override_47 post x0 x1 y0 y1 M) : Y p l e rm_Mo_override s m args below meth c D kCl (hTys κ) A 5 0 0 (MQ below (va_Qi post (hB D kCl (hTys κ) A) A) args s 0 0 A) M 47 [(0, .ref x0), (1, .int x1)] [.int y0, .ref y1] := by
  obtain ⟨hx, hb, hml, hr, hown, hts, hlocks, hE, hA⟩ := id C
  have hK := hE.1
  intro H locs ls hM hS hl
  unfold wMo_override_47 at hwp
  obtain ⟨M4, ⟨fs5, he6, hl7, eM4⟩, hwp⟩ := hwp
  refine h_put (C := "BuckTablesModel") (T := Tc6) (N := 36) (v := .int y0) (ty := .int) hx hb hts inc6 tyc6 tyc6_ok nmc6 hown hK hM hS he6 rfl 0 (by decide) (hts _ kw_720) (fun _ h9 => h9) rfl (by decide +kernel) rfl rfl hl7 d_Mo_override_47 (fun H locs hM hS => ?_)
  rw [← eM4] at hM
  refine lv_aload_n hx hb d_Mo_override_50 rfl (lv_at hl 0 rfl) ?_
  obtain ⟨v8, ⟨fs9, he10, hv11⟩, hwp⟩ := hwp
  refine h_get (C := "BuckTablesModel") (T := Tc6) (N := 36) hx hb hts inc6 hown hK hM he10 rfl 0 (by decide) (hts _ kw_720) (fun _ h9 => h9) hv11 d_Mo_override_51 ?_
  refine lv_if_le (tgt := 59) hx hb d_Mo_override_54 (by decide) (fun c12 => ?_) (fun c12 => ?_)
  · replace hwp := hwp.1 c12
    refine lv_aload_n hx hb d_Mo_override_59 rfl (lv_at hl 0 rfl) ?_
    obtain ⟨ho14, hwp⟩ := hwp
    refine h_calll hM hS hA (va_runV (As := []) (rest := []) ⟨hx, hb, hml, hown, hts⟩ (metMo_trueWorth l D κ H.size x0 M4 _ hwp) (cwV 0 hts (gV kw_955 kw_957 kp_39 kw_8 kw_958) rfl rfl rfl (by decide +kernel) ⟨(Nat.le_of_ble_eq_true rfl), (Nat.le_of_ble_eq_true rfl)⟩) (h_preV hE hM hS ho14 (r := ("BuckTablesModel", Tc6, 36)) rfl) rfl rfl hl.1 rfl (lv_room (Nat.le_of_ble_eq_true rfl)) d_Mo_override_60 ⟨(Nat.le_of_ble_eq_true rfl), (Nat.le_of_ble_eq_true rfl)⟩) (fun r15 M13 H locs hwp hM hS => ?_)
    refine lv_lstore_n (lv' := [(2, .long r15), (0, .ref x0), (1, .int x1)]) hx hb d_Mo_override_63 rfl hl (by decide) rfl (fun ls hl => ?_)
    refine lv_aload_n hx hb d_Mo_override_64 rfl (lv_at hl 1 rfl) ?_
    obtain ⟨a16, ⟨fs17, he18, hv19⟩, hwp⟩ := hwp
    refine h_get (C := "BuckTablesModel") (T := Tc6) (N := 36) hx hb hts inc6 hown hK hM he18 rfl 13 (by decide) (hts _ kw_733) (fun _ h9 => h9) hv19 d_Mo_override_65 ?_
    refine lv_bipush (v := 81) hx hb d_Mo_override_68 (by decide) ?_
    refine lv_aload_n hx hb d_Mo_override_70 rfl (lv_at hl 1 rfl) ?_
    obtain ⟨v20, ⟨fs21, he22, hv23⟩, hwp⟩ := hwp
    refine h_get (C := "BuckTablesModel") (T := Tc6) (N := 36) hx hb hts inc6 hown hK hM he22 rfl 4 (by decide) (hts _ kw_724) (fun _ h9 => h9) hv23 d_Mo_override_71 ?_
    refine lv_iconst (v := 1) hx hb d_Mo_override_74 (by decide) ?_
    refine lv_isub hx hb d_Mo_override_75 ?_
    refine lv_imul hx hb d_Mo_override_76 ?_
    refine lv_iload_n hx hb d_Mo_override_77 rfl (lv_at hl 2 rfl) ?_
    refine lv_aload_n hx hb d_Mo_override_78 rfl (lv_at hl 1 rfl) ?_
    obtain ⟨v24, ⟨fs25, he26, hv27⟩, hwp⟩ := hwp
    refine h_get (C := "BuckTablesModel") (T := Tc6) (N := 36) hx hb hts inc6 hown hK hM he26 rfl 1 (by decide) (hts _ kw_721) (fun _ h9 => h9) hv27 d_Mo_override_79 ?_
    obtain ⟨h28, hwp⟩ := hwp
    refine lv_idiv hx hb d_Mo_override_82 h28 ?_
    refine lv_iadd hx hb d_Mo_override_83 ?_
    refine lv_iconst (v := 1) hx hb d_Mo_override_84 (by decide) ?_
    obtain ⟨M33, ⟨n29, f30, ha31, hi32, eM33⟩, hwp⟩ := hwp
    refine h_zast hx hb hK hM hS ha31 rfl hi32 d_Mo_override_85 (fun H locs hM hS => ?_)
    rw [← eM33] at hM
    refine lv_aload_n hx hb d_Mo_override_86 rfl (lv_at hl 1 rfl) ?_
    obtain ⟨v34, ⟨fs35, he36, hv37⟩, hwp⟩ := hwp
    refine h_get (C := "BuckTablesModel") (T := Tc6) (N := 36) hx hb hts inc6 hown hK hM he36 rfl 34 (by decide) (hts _ kw_754) (fun _ h9 => h9) hv37 d_Mo_override_87 ?_
    refine lv_if_ne (tgt := 102) hx hb d_Mo_override_90 (by decide) (fun c38 => ?_) (fun c38 => ?_)
    · replace hwp := hwp.2 c38
      refine lv_aload_n hx hb d_Mo_override_102 rfl (lv_at hl 1 rfl) ?_
      refine lv_aload_n hx hb d_Mo_override_103 rfl (lv_at hl 1 rfl) ?_
      obtain ⟨v39, ⟨fs40, he41, hv42⟩, hwp⟩ := hwp
      refine h_get (C := "BuckTablesModel") (T := Tc6) (N := 36) hx hb hts inc6 hown hK hM he41 rfl 34 (by decide) (hts _ kw_754) (fun _ h9 => h9) hv42 d_Mo_override_104 ?_
      obtain ⟨ho44, hwp⟩ := hwp
      refine h_calli hM hS hA (va_runV (As := [.int v39]) (rest := []) ⟨hx, hb, hml, hown, hts⟩ (metMo_goRounds l D κ H.size x0 v39 M33 _ hwp) (cwV 1 hts (gV kw_947 kw_949 kp_37 kw_8 kw_950) rfl rfl rfl (by decide +kernel) ⟨(Nat.le_of_ble_eq_true rfl), (Nat.le_of_ble_eq_true rfl)⟩) (h_preV hE hM hS ho44 (r := ("BuckTablesModel", Tc6, 36)) rfl) rfl rfl hl.1 rfl (lv_room (Nat.le_of_ble_eq_true rfl)) d_Mo_override_107 ⟨(Nat.le_of_ble_eq_true rfl), (Nat.le_of_ble_eq_true rfl)⟩) (fun r45 M43 H locs hwp hM hS => ?_)
      refine lv_istore (lv' := [(4, .int r45), (2, .long r15), (0, .ref x0), (1, .int x1)]) hx hb d_Mo_override_110 hl (by decide) rfl (fun ls hl => ?_)
      exact tMo_override_112 C post x0 r15 M43 hwp H locs ls hM hS (lv_sub hl [2, 1] rfl)
    · replace hwp := hwp.1 c38
      refine lv_aload_n hx hb d_Mo_override_93 rfl (lv_at hl 1 rfl) ?_
      obtain ⟨ho47, hwp⟩ := hwp
      refine h_calli hM hS hA (va_runV (As := []) (rest := []) ⟨hx, hb, hml, hown, hts⟩ (metMo_run l D κ H.size x0 M33 _ hwp) (cwV 0 hts (gV kw_1021 kw_899 kw_900 kw_8 kw_901) rfl rfl rfl (by decide +kernel) ⟨(Nat.le_of_ble_eq_true rfl), (Nat.le_of_ble_eq_true rfl)⟩) (h_preV hE hM hS ho47 (r := ("BuckTablesModel", Tc6, 36)) rfl) rfl rfl hl.1 rfl (lv_room (Nat.le_of_ble_eq_true rfl)) d_Mo_override_94 ⟨(Nat.le_of_ble_eq_true rfl), (Nat.le_of_ble_eq_true rfl)⟩) (fun r48 M46 H locs hwp hM hS => ?_)
      refine lv_istore (lv' := [(4, .int r48), (2, .long r15), (0, .ref x0), (1, .int x1)]) hx hb d_Mo_override_97 hl (by decide) rfl (fun ls hl => ?_)
      refine lv_goto (tgt := 112) hx hb d_Mo_override_99 (by decide) ?_
      exact tMo_override_112 C post x0 r15 M46 hwp H locs ls hM hS (lv_sub hl [2, 1] rfl)
  · replace hwp := hwp.2 c12
    refine lv_iconst (v := 0) hx hb d_Mo_override_57 (by decide) ?_
    exact W.iret (v := (0 : Int32)) hx hb hr (fun t ht hW => ⟨⟨(0 : Int32), M4, rfl, hwp, by show hw D kCl (hTys κ) A M4 t.heap; rw [ht]; exact hM⟩, hS.F ht⟩) hS.2.2 d_Mo_override_58
def wMo_override_42 (post : Int32 → Hp → Prop)  (x0 : Nat) (x1 : Int32) (y0 : Nat) (M : Hp) : Prop := (wMo_override_47 post x0 x1 (2 : Int32) y0 M)
set_option maxRecDepth 100000 in
set_option maxHeartbeats 4000000 in
theorem tMo_override_42 {p : Program} {l : Launch} {e : Env} {s : State} {m : MethodId} {args : Array Value} {below : List Frame} {meth : Method} {c : Code} {D : va_G} {κ : Nat → ClassId} {A : Nat → Prop} (C : Cx_Mo_override p s m args meth c D κ A) (post : Int32 → Hp → Prop)  (x0 : Nat) (x1 : Int32) (y0 : Nat) (M : Hp) (hwp : wMo_override_42 post x0 x1 y0 M) : Y p l e rm_Mo_override s m args below meth c D kCl (hTys κ) A 5 0 0 (MQ below (va_Qi post (hB D kCl (hTys κ) A) A) args s 0 0 A) M 42 [(0, .ref x0), (1, .int x1)] [.ref y0] := by
  obtain ⟨hx, hb, hml, hr, hown, hts, hlocks, hE, hA⟩ := id C
  have hK := hE.1
  intro H locs ls hM hS hl
  unfold wMo_override_42 at hwp
  refine lv_iconst (v := 2) hx hb d_Mo_override_42 (by decide) ?_
  refine lv_goto (tgt := 47) hx hb d_Mo_override_43 (by decide) ?_
  exact tMo_override_47 C post x0 x1 (2 : Int32) y0 M hwp H locs ls hM hS (lv_sub hl [0, 1] rfl)
def wpMo_override (self : Nat) (p0 : Int32) (M : Hp) (post : Int32 → Hp → Prop) : Prop := (hob M self 6 ∧ (wpMo_none self M (fun (r51 : Int32) (M49 : Hp) => ((r51 = 0 → (hob M49 self 6 ∧ (wpMo_isEnd self p0 M49 (fun (r55 : Int32) (M53 : Hp) => ((r55 = 0 → (wMo_override_42 post self p0 self M53)) ∧ (¬ r55 = 0 → (∃ a57 : Nat, fA M53 self 6 13 a57 ∧ (∃ v61 : Int32, fI M53 self 6 4 v61 ∧ (∃ v65 : Int32, fI M53 self 6 1 v65 ∧ (¬ v65 = 0 ∧ (∃ v70 : Int32, aZ M53 a57 (((81 : Int32) * (v61 - (1 : Int32))) + (p0 / v65)) v70 ∧ ((v70 = 0 → (wMo_override_47 post self p0 (0 : Int32) self M53)) ∧ (¬ v70 = 0 → (wMo_override_42 post self p0 self M53)))))))))))))) ∧ (¬ r51 = 0 → (post (0 : Int32) M49))))))
set_option maxRecDepth 100000 in
set_option maxHeartbeats 4000000 in
theorem eMo_override {p : Program} {l : Launch} {e : Env} {s : State} {m : MethodId} {args : Array Value} {below : List Frame} {meth : Method} {c : Code} {D : va_G} {κ : Nat → ClassId} {A : Nat → Prop} (C : Cx_Mo_override p s m args meth c D κ A) (post : Int32 → Hp → Prop) (self : Nat) (p0 : Int32) (M : Hp) (hwp : wpMo_override self p0 M post) : Y p l e rm_Mo_override s m args below meth c D kCl (hTys κ) A 5 0 0 (MQ below (va_Qi post (hB D kCl (hTys κ) A) A) args s 0 0 A) M 0 [(0, .ref self), (1, .int p0)] [] := by
  obtain ⟨hx, hb, hml, hr, hown, hts, hlocks, hE, hA⟩ := id C
  have hK := hE.1
  intro H locs ls hM hS hl
  unfold wpMo_override at hwp
  refine lv_aload_n hx hb d_Mo_override_0 rfl (lv_at hl 0 rfl) ?_
  obtain ⟨ho50, hwp⟩ := hwp
  refine h_calli hM hS hA (va_runV (As := []) (rest := []) ⟨hx, hb, hml, hown, hts⟩ (metMo_none l D κ H.size self M _ hwp) (cwV 0 hts (gV kw_979 kw_981 kp_44 kw_8 kw_982) rfl rfl rfl (by decide +kernel) ⟨(Nat.le_of_ble_eq_true rfl), (Nat.le_of_ble_eq_true rfl)⟩) (h_preV hE hM hS ho50 (r := ("BuckTablesModel", Tc6, 36)) rfl) rfl rfl hl.1 rfl (lv_room (Nat.le_of_ble_eq_true rfl)) d_Mo_override_1 ⟨(Nat.le_of_ble_eq_true rfl), (Nat.le_of_ble_eq_true rfl)⟩) (fun r51 M49 H locs hwp hM hS => ?_)
  refine lv_if_eq (tgt := 9) hx hb d_Mo_override_4 (by decide) (fun c52 => ?_) (fun c52 => ?_)
  · replace hwp := hwp.1 c52
    refine lv_aload_n hx hb d_Mo_override_9 rfl (lv_at hl 0 rfl) ?_
    refine lv_aload_n hx hb d_Mo_override_10 rfl (lv_at hl 0 rfl) ?_
    refine lv_iload_n hx hb d_Mo_override_11 rfl (lv_at hl 1 rfl) ?_
    obtain ⟨ho54, hwp⟩ := hwp
    refine h_calli hM hS hA (va_runV (As := [.int p0]) (rest := [.ref self]) ⟨hx, hb, hml, hown, hts⟩ (metMo_isEnd l D κ H.size self p0 M49 _ hwp) (cwV 1 hts (gV kw_871 kw_873 kp_25 kw_8 kw_874) rfl rfl rfl (by decide +kernel) ⟨(Nat.le_of_ble_eq_true rfl), (Nat.le_of_ble_eq_true rfl)⟩) (h_preV hE hM hS ho54 (r := ("BuckTablesModel", Tc6, 36)) rfl) rfl rfl hl.1 rfl (lv_room (Nat.le_of_ble_eq_true rfl)) d_Mo_override_12 ⟨(Nat.le_of_ble_eq_true rfl), (Nat.le_of_ble_eq_true rfl)⟩) (fun r55 M53 H locs hwp hM hS => ?_)
    refine lv_if_eq (tgt := 42) hx hb d_Mo_override_15 (by decide) (fun c56 => ?_) (fun c56 => ?_)
    · replace hwp := hwp.1 c56
      exact tMo_override_42 C post self p0 self M53 hwp H locs ls hM hS (lv_sub hl [0, 1] rfl)
    · replace hwp := hwp.2 c56
      refine lv_aload_n hx hb d_Mo_override_18 rfl (lv_at hl 0 rfl) ?_
      obtain ⟨a57, ⟨fs58, he59, hv60⟩, hwp⟩ := hwp
      refine h_get (C := "BuckTablesModel") (T := Tc6) (N := 36) hx hb hts inc6 hown hK hM he59 rfl 13 (by decide) (hts _ kw_733) (fun _ h9 => h9) hv60 d_Mo_override_19 ?_
      refine lv_bipush (v := 81) hx hb d_Mo_override_22 (by decide) ?_
      refine lv_aload_n hx hb d_Mo_override_24 rfl (lv_at hl 0 rfl) ?_
      obtain ⟨v61, ⟨fs62, he63, hv64⟩, hwp⟩ := hwp
      refine h_get (C := "BuckTablesModel") (T := Tc6) (N := 36) hx hb hts inc6 hown hK hM he63 rfl 4 (by decide) (hts _ kw_724) (fun _ h9 => h9) hv64 d_Mo_override_25 ?_
      refine lv_iconst (v := 1) hx hb d_Mo_override_28 (by decide) ?_
      refine lv_isub hx hb d_Mo_override_29 ?_
      refine lv_imul hx hb d_Mo_override_30 ?_
      refine lv_iload_n hx hb d_Mo_override_31 rfl (lv_at hl 1 rfl) ?_
      refine lv_aload_n hx hb d_Mo_override_32 rfl (lv_at hl 0 rfl) ?_
      obtain ⟨v65, ⟨fs66, he67, hv68⟩, hwp⟩ := hwp
      refine h_get (C := "BuckTablesModel") (T := Tc6) (N := 36) hx hb hts inc6 hown hK hM he67 rfl 1 (by decide) (hts _ kw_721) (fun _ h9 => h9) hv68 d_Mo_override_33 ?_
      obtain ⟨h69, hwp⟩ := hwp
      refine lv_idiv hx hb d_Mo_override_36 h69 ?_
      refine lv_iadd hx hb d_Mo_override_37 ?_
      obtain ⟨v70, ⟨n71, f72, ha73, hi74, ev70⟩, hwp⟩ := hwp
      refine h_zald hx hb hK hM ha73 rfl hi74 d_Mo_override_38 ?_
      rw [← ev70]
      refine lv_if_eq (tgt := 46) hx hb d_Mo_override_39 (by decide) (fun c75 => ?_) (fun c75 => ?_)
      · replace hwp := hwp.1 c75
        refine lv_iconst (v := 0) hx hb d_Mo_override_46 (by decide) ?_
        exact tMo_override_47 C post self p0 (0 : Int32) self M53 hwp H locs ls hM hS (lv_sub hl [0, 1] rfl)
      · replace hwp := hwp.2 c75
        exact tMo_override_42 C post self p0 self M53 hwp H locs ls hM hS (lv_sub hl [0, 1] rfl)
  · replace hwp := hwp.2 c52
    refine lv_iconst (v := 0) hx hb d_Mo_override_7 (by decide) ?_
    exact W.iret (v := (0 : Int32)) hx hb hr (fun t ht hW => ⟨⟨(0 : Int32), M49, rfl, hwp, by show hw D kCl (hTys κ) A M49 t.heap; rw [ht]; exact hM⟩, hS.F ht⟩) hS.2.2 d_Mo_override_8
set_option maxRecDepth 100000 in
set_option maxHeartbeats 4000000 in
theorem metMo_override (l : Launch) (D : va_G) (κ : Nat → ClassId) (sz : Nat) (self : Nat) (p0 : Int32) (M : Hp) (post : Int32 → Hp → Prop) (hwp : wpMo_override self p0 M post) : Met l y_Mo_override ws_Mo_override rm_Mo_override (hPc D kCl (hTys κ) M sz [.ref self, .int p0]) (va_Qi post (hB D kCl (hTys κ) (hAx M sz)) (hAx M sz)) 0 0 (hAx M sz) := by
  refine Met.ofW (cc := prog_8_method_47_code) (maxL := 5) (ret := (some .int)) (by decide +kernel) rfl ?_
  intro p e s m args below meth c s₁ B hml hv
  obtain ⟨rfl, hsz, hE, hM0⟩ := hv
  have hts : ∀ w ∈ WG, w.before _ s = true := fun w h => atoms_spec (ws := ws_Mo_override) B.pre w (List.mem_cons_of_mem _ h)
  subst hsz
  have C : Cx_Mo_override p s m _ meth c D κ (hAx M s.heap.size) := ⟨B.exec, B.bytes, hml, B.returns, findClass_of_methodNamed B.named, hts, B.notSynchronized, hE, fun q h => Or.inr h⟩
  have hl := lv_entry ([.ref self, .int p0]) (n := 5) (Nat.le_of_ble_eq_true rfl)
  rw [lg_entry_eq]
  generalize (lg_sl ([.ref self, .int p0]) ++ List.replicate (5 - (lg_sl ([.ref self, .int p0])).length) Slot.unset).toArray = ls at hl ⊢
  exact eMo_override C post self p0 M hwp s.heap [] ls (hM0.self (sz := s.heap.size)) va_S.rf hl
abbrev rm_Mo_greatest : Room := { frames := 2, cells := 0, slots := 0, locals := 48 }
def Cx_Mo_greatest (p : Program) (s : State) (m : MethodId) (args : Array Value) (meth : Method) (c : Code) (D : va_G) (κ : Nat → ClassId) (A : Nat → Prop) : Prop := p.tables.exec = Jvm.exec ∧ c.code = prog_8_method_48_code ∧ c.maxLocals = 1 ∧ meth.sig.returnType = (some .boolean) ∧ s.vm.findClass "BuckTablesModel" = some m.cls ∧ (∀ w ∈ WG, w.before args s = true) ∧ meth.locks = false ∧ hEnv D kCl (hTys κ) A s ∧ (∀ q, s.heap.size ≤ q → A q)
def wMo_greatest_24 (post : Int32 → Hp → Prop)   (y0 : Int32) (M : Hp) : Prop := ((y0 = 0 ∨ y0 = 1) ∧ post y0 M)
set_option maxRecDepth 100000 in
set_option maxHeartbeats 4000000 in
theorem tMo_greatest_24 {p : Program} {l : Launch} {e : Env} {s : State} {m : MethodId} {args : Array Value} {below : List Frame} {meth : Method} {c : Code} {D : va_G} {κ : Nat → ClassId} {A : Nat → Prop} (C : Cx_Mo_greatest p s m args meth c D κ A) (post : Int32 → Hp → Prop)   (y0 : Int32) (M : Hp) (hwp : wMo_greatest_24 post y0 M) : Y p l e rm_Mo_greatest s m args below meth c D kCl (hTys κ) A 1 0 0 (MQ below (va_Qi post (hB D kCl (hTys κ) A) A) args s 0 0 A) M 24 [] [.int y0] := by
  obtain ⟨hx, hb, hml, hr, hown, hts, hlocks, hE, hA⟩ := id C
  have hK := hE.1
  intro H locs ls hM hS hl
  unfold wMo_greatest_24 at hwp
  obtain ⟨hz1, hwp⟩ := hwp
  exact W.zret (v := y0) hx hb hr (by rcases hz1 with h | h <;> rw [h] <;> rfl) (fun t ht hW => ⟨⟨y0, M, rfl, hwp, by show hw D kCl (hTys κ) A M t.heap; rw [ht]; exact hM⟩, hS.F ht⟩) hS.2.2 d_Mo_greatest_24
def wMo_greatest_23 (post : Int32 → Hp → Prop)   (M : Hp) : Prop := (wMo_greatest_24 post (0 : Int32) M)
set_option maxRecDepth 100000 in
set_option maxHeartbeats 4000000 in
theorem tMo_greatest_23 {p : Program} {l : Launch} {e : Env} {s : State} {m : MethodId} {args : Array Value} {below : List Frame} {meth : Method} {c : Code} {D : va_G} {κ : Nat → ClassId} {A : Nat → Prop} (C : Cx_Mo_greatest p s m args meth c D κ A) (post : Int32 → Hp → Prop)   (M : Hp) (hwp : wMo_greatest_23 post  M) : Y p l e rm_Mo_greatest s m args below meth c D kCl (hTys κ) A 1 0 0 (MQ below (va_Qi post (hB D kCl (hTys κ) A) A) args s 0 0 A) M 23 [] [] := by
  obtain ⟨hx, hb, hml, hr, hown, hts, hlocks, hE, hA⟩ := id C
  have hK := hE.1
  intro H locs ls hM hS hl
  unfold wMo_greatest_23 at hwp
  refine lv_iconst (v := 0) hx hb d_Mo_greatest_23 (by decide) ?_
  exact tMo_greatest_24 C post (0 : Int32) M hwp H locs ls hM hS (lv_sub hl [] rfl)
def wpMo_greatest (self : Nat) (M : Hp) (post : Int32 → Hp → Prop) : Prop := (hob M self 6 ∧ (wpMo_none self M (fun (r4 : Int32) (M2 : Hp) => ((r4 = 0 → (hob M2 self 6 ∧ (wpMo_trueWorth self M2 (fun (r8 : Int64) (M6 : Hp) => (∃ v9 : Int64, fJ M6 self 6 35 v9 ∧ ((r8 = v9 → (wMo_greatest_24 post (1 : Int32) M6)) ∧ (¬ r8 = v9 → (wMo_greatest_23 post M6)))))))) ∧ (¬ r4 = 0 → (wMo_greatest_23 post M2))))))
set_option maxRecDepth 100000 in
set_option maxHeartbeats 4000000 in
theorem eMo_greatest {p : Program} {l : Launch} {e : Env} {s : State} {m : MethodId} {args : Array Value} {below : List Frame} {meth : Method} {c : Code} {D : va_G} {κ : Nat → ClassId} {A : Nat → Prop} (C : Cx_Mo_greatest p s m args meth c D κ A) (post : Int32 → Hp → Prop) (self : Nat) (M : Hp) (hwp : wpMo_greatest self M post) : Y p l e rm_Mo_greatest s m args below meth c D kCl (hTys κ) A 1 0 0 (MQ below (va_Qi post (hB D kCl (hTys κ) A) A) args s 0 0 A) M 0 [(0, .ref self)] [] := by
  obtain ⟨hx, hb, hml, hr, hown, hts, hlocks, hE, hA⟩ := id C
  have hK := hE.1
  intro H locs ls hM hS hl
  unfold wpMo_greatest at hwp
  refine lv_aload_n hx hb d_Mo_greatest_0 rfl (lv_at hl 0 rfl) ?_
  obtain ⟨ho3, hwp⟩ := hwp
  refine h_calli hM hS hA (va_runV (As := []) (rest := []) ⟨hx, hb, hml, hown, hts⟩ (metMo_none l D κ H.size self M _ hwp) (cwV 0 hts (gV kw_979 kw_981 kp_44 kw_8 kw_982) rfl rfl rfl (by decide +kernel) ⟨(Nat.le_of_ble_eq_true rfl), (Nat.le_of_ble_eq_true rfl)⟩) (h_preV hE hM hS ho3 (r := ("BuckTablesModel", Tc6, 36)) rfl) rfl rfl hl.1 rfl (lv_room (Nat.le_of_ble_eq_true rfl)) d_Mo_greatest_1 ⟨(Nat.le_of_ble_eq_true rfl), (Nat.le_of_ble_eq_true rfl)⟩) (fun r4 M2 H locs hwp hM hS => ?_)
  refine lv_if_ne (tgt := 23) hx hb d_Mo_greatest_4 (by decide) (fun c5 => ?_) (fun c5 => ?_)
  · replace hwp := hwp.2 c5
    exact tMo_greatest_23 C post M2 hwp H locs ls hM hS (lv_sub hl [] rfl)
  · replace hwp := hwp.1 c5
    refine lv_aload_n hx hb d_Mo_greatest_7 rfl (lv_at hl 0 rfl) ?_
    obtain ⟨ho7, hwp⟩ := hwp
    refine h_calll hM hS hA (va_runV (As := []) (rest := []) ⟨hx, hb, hml, hown, hts⟩ (metMo_trueWorth l D κ H.size self M2 _ hwp) (cwV 0 hts (gV kw_955 kw_957 kp_39 kw_8 kw_958) rfl rfl rfl (by decide +kernel) ⟨(Nat.le_of_ble_eq_true rfl), (Nat.le_of_ble_eq_true rfl)⟩) (h_preV hE hM hS ho7 (r := ("BuckTablesModel", Tc6, 36)) rfl) rfl rfl hl.1 rfl (lv_room (Nat.le_of_ble_eq_true rfl)) d_Mo_greatest_8 ⟨(Nat.le_of_ble_eq_true rfl), (Nat.le_of_ble_eq_true rfl)⟩) (fun r8 M6 H locs hwp hM hS => ?_)
    refine lv_aload_n hx hb d_Mo_greatest_11 rfl (lv_at hl 0 rfl) ?_
    obtain ⟨v9, ⟨fs10, he11, hv12⟩, hwp⟩ := hwp
    refine h_get (C := "BuckTablesModel") (T := Tc6) (N := 36) hx hb hts inc6 hown hK hM he11 rfl 35 (by decide) (hts _ kw_755) (fun _ h9 => h9) hv12 d_Mo_greatest_12 ?_
    refine W.lcmp hx hb d_Mo_greatest_15 ?_
    refine lv_if_ne (tgt := 23) hx hb d_Mo_greatest_16 (by decide) (fun c13 => ?_) (fun c13 => ?_)
    · replace c13 := fun h9 => c13 ((lc_eq _ _).mpr h9)
      replace hwp := hwp.2 c13
      exact tMo_greatest_23 C post M6 hwp H locs ls hM hS (lv_sub hl [] rfl)
    · replace c13 := (lc_eq _ _).mp c13
      replace hwp := hwp.1 c13
      refine lv_iconst (v := 1) hx hb d_Mo_greatest_19 (by decide) ?_
      refine lv_goto (tgt := 24) hx hb d_Mo_greatest_20 (by decide) ?_
      exact tMo_greatest_24 C post (1 : Int32) M6 hwp H locs ls hM hS (lv_sub hl [] rfl)
set_option maxRecDepth 100000 in
set_option maxHeartbeats 4000000 in
theorem metMo_greatest (l : Launch) (D : va_G) (κ : Nat → ClassId) (sz : Nat) (self : Nat) (M : Hp) (post : Int32 → Hp → Prop) (hwp : wpMo_greatest self M post) : Met l y_Mo_greatest ws_Mo_greatest rm_Mo_greatest (hPc D kCl (hTys κ) M sz [.ref self]) (va_Qi post (hB D kCl (hTys κ) (hAx M sz)) (hAx M sz)) 0 0 (hAx M sz) := by
  refine Met.ofW (cc := prog_8_method_48_code) (maxL := 1) (ret := (some .boolean)) (by decide +kernel) rfl ?_
  intro p e s m args below meth c s₁ B hml hv
  obtain ⟨rfl, hsz, hE, hM0⟩ := hv
  have hts : ∀ w ∈ WG, w.before _ s = true := fun w h => atoms_spec (ws := ws_Mo_greatest) B.pre w (List.mem_cons_of_mem _ h)
  subst hsz
  have C : Cx_Mo_greatest p s m _ meth c D κ (hAx M s.heap.size) := ⟨B.exec, B.bytes, hml, B.returns, findClass_of_methodNamed B.named, hts, B.notSynchronized, hE, fun q h => Or.inr h⟩
  have hl := lv_entry ([.ref self]) (n := 1) (Nat.le_of_ble_eq_true rfl)
  rw [lg_entry_eq]
  generalize (lg_sl ([.ref self]) ++ List.replicate (1 - (lg_sl ([.ref self])).length) Slot.unset).toArray = ls at hl ⊢
  exact eMo_greatest C post self M hwp s.heap [] ls (hM0.self (sz := s.heap.size)) va_S.rf hl
