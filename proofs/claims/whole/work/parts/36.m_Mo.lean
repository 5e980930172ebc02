abbrev rm_Mo_walk : Room := { frames := 2, cells := 0, slots := 0, locals := 57 }
def Cx_Mo_walk (p : Program) (s : State) (m : MethodId) (args : Array Value) (meth : Method) (c : Code) (D : va_G) (κ : Nat → ClassId) (A : Nat → Prop) : Prop := p.tables.exec = Jvm.exec ∧ c.code = prog_8_method_24_code ∧ c.maxLocals = 6 ∧ meth.sig.returnType = none ∧ s.vm.findClass "BuckTablesModel" = some m.cls ∧ (∀ w ∈ WG, w.before args s = true) ∧ meth.locks = false ∧ hEnv D kCl (hTys κ) A s ∧ (∀ q, s.heap.size ≤ q → A q)
def wMo_walk_128 (post : Hp → Prop) (k8 : Nat → Int32 → Int32 → Int32 → Hp → Prop) (x0 : Nat) (x1 : Int32) (x2 : Int32) (x3 : Int32) (M : Hp) : Prop := (k8 x0 x1 x2 x3 M)
set_option maxRecDepth 100000 in
set_option maxHeartbeats 4000000 in
theorem tMo_walk_128 {p : Program} {l : Launch} {e : Env} {s : State} {m : MethodId} {args : Array Value} {below : List Frame} {meth : Method} {c : Code} {D : va_G} {κ : Nat → ClassId} {A : Nat → Prop} (C : Cx_Mo_walk p s m args meth c D κ A) (post : Hp → Prop) (k8 : Nat → Int32 → Int32 → Int32 → Hp → Prop) (hk8 : ∀ (x0 : Nat) (x1 : Int32) (x2 : Int32) (x3 : Int32) (M : Hp), k8 x0 x1 x2 x3 M → Y p l e rm_Mo_walk s m args below meth c D kCl (hTys κ) A 6 0 0 (MQ below (va_Qv post (hB D kCl (hTys κ) A) A) args s 0 0 A) M 8 [(0, .ref x0), (1, .int x1), (2, .int x2), (3, .int x3)] []) (x0 : Nat) (x1 : Int32) (x2 : Int32) (x3 : Int32) (M : Hp) (hwp : wMo_walk_128 post k8 x0 x1 x2 x3 M) : Y p l e rm_Mo_walk s m args below meth c D kCl (hTys κ) A 6 0 0 (MQ below (va_Qv post (hB D kCl (hTys κ) A) A) args s 0 0 A) M 128 [(0, .ref x0), (1, .int x1), (2, .int x2), (3, .int x3)] [] := by
  obtain ⟨hx, hb, hml, hr, hown, hts, hlocks, hE, hA⟩ := id C
  have hK := hE.1
  intro H locs ls hM hS hl
  unfold wMo_walk_128 at hwp
  refine lv_goto (tgt := 8) hx hb d_Mo_walk_128 (by decide) ?_
  exact hk8 x0 x1 x2 x3 M hwp H locs ls hM hS (lv_sub hl [0, 1, 2, 3] rfl)
def wMo_walk_8 (post : Hp → Prop)  : Nat → Nat → Int32 → Int32 → Int32 → Hp → Prop
  | 0 => fun _ _ _ _ _ => False
  | n + 1 => fun x0 x1 x2 x3 M => ((x2 ≤ x3 → (post M)) ∧ (¬ x2 ≤ x3 → (hob M x0 6 ∧ (wpMo_goOn x0 x1 x3 x2 M (fun (r4 : Int32) (M2 : Hp) => ((r4 = 0 → (hob M2 x0 6 ∧ (wpMo_mark x0 x1 x3 (x3 + (1 : Int32)) (2 : Int32) M2 (fun (M44 : Hp) => (∀ z46 : Int32, z46 = x3 + 1 → (wMo_walk_128 post (wMo_walk_8 post n) x0 x1 x2 z46 M44)))))) ∧ (¬ r4 = 0 → (∀ z6 : Int32, z6 = (x3 + (r4 / (8 : Int32))) → (hob M2 x0 6 ∧ (wpMo_mark x0 x1 x3 z6 (4 : Int32) M2 (fun (M7 : Hp) => (∃ a9 : Nat, fA M7 x0 6 25 a9 ∧ (∃ M17 : Hp, sI M7 a9 (((81 : Int32) * x1) + x3) (1 : Int32) M17 ∧ (∃ a18 : Nat, fA M17 x0 6 26 a18 ∧ (∃ M26 : Hp, sI M17 a18 (((81 : Int32) * x1) + x3) (r4 / (8 : Int32)) M26 ∧ (∃ a27 : Nat, fA M26 x0 6 27 a27 ∧ (∃ M35 : Hp, sI M26 a27 (((81 : Int32) * x1) + x3) (r4 - r4 / (8 : Int32) * (8 : Int32)) M35 ∧ (hob M35 x0 6 ∧ (wpMo_behind x0 x2 z6 M35 (fun (r38 : Int32) (M36 : Hp) => (hob M36 x0 6 ∧ (wpMo_mark x0 x1 z6 r38 (3 : Int32) M36 (fun (M39 : Hp) => (hob M39 x0 6 ∧ (wpMo_behind x0 x2 z6 M39 (fun (r43 : Int32) (M41 : Hp) => (wMo_walk_128 post (wMo_walk_8 post n) x0 x1 x2 r43 M41)))))))))))))))))))))))))))
set_option maxRecDepth 100000 in
set_option maxHeartbeats 4000000 in
theorem tMo_walk_8 {p : Program} {l : Launch} {e : Env} {s : State} {m : MethodId} {args : Array Value} {below : List Frame} {meth : Method} {c : Code} {D : va_G} {κ : Nat → ClassId} {A : Nat → Prop} (C : Cx_Mo_walk p s m args meth c D κ A) (post : Hp → Prop)  : ∀ (n : Nat) (x0 : Nat) (x1 : Int32) (x2 : Int32) (x3 : Int32) (M : Hp), wMo_walk_8 post n x0 x1 x2 x3 M → Y p l e rm_Mo_walk s m args below meth c D kCl (hTys κ) A 6 0 0 (MQ below (va_Qv post (hB D kCl (hTys κ) A) A) args s 0 0 A) M 8 [(0, .ref x0), (1, .int x1), (2, .int x2), (3, .int x3)] [] := by
  obtain ⟨hx, hb, hml, hr, hown, hts, hlocks, hE, hA⟩ := id C
  have hK := hE.1
  intro n
  induction n with
  | zero => intro x0 x1 x2 x3 M hwp; exact hwp.elim
  | succ n ih =>
    intro x0 x1 x2 x3 M hwp H locs ls hM hS hl
    unfold wMo_walk_8 at hwp
    refine lv_iload_n hx hb d_Mo_walk_8 rfl (lv_at hl 3 rfl) ?_
    refine lv_iload_n hx hb d_Mo_walk_9 rfl (lv_at hl 2 rfl) ?_
    refine lv_icmp_ge (tgt := 131) hx hb d_Mo_walk_10 (by decide) (fun c1 => ?_) (fun c1 => ?_)
    · replace hwp := hwp.1 c1
      exact W.vret hx hb hr (fun t ht hW => ⟨⟨M, rfl, hwp, by show hw D kCl (hTys κ) A M t.heap; rw [ht]; exact hM⟩, hS.F ht⟩) hS.2.2 d_Mo_walk_131
    · replace hwp := hwp.2 c1
      refine lv_aload_n hx hb d_Mo_walk_13 rfl (lv_at hl 0 rfl) ?_
      refine lv_iload_n hx hb d_Mo_walk_14 rfl (lv_at hl 1 rfl) ?_
      refine lv_iload_n hx hb d_Mo_walk_15 rfl (lv_at hl 3 rfl) ?_
      refine lv_iload_n hx hb d_Mo_walk_16 rfl (lv_at hl 2 rfl) ?_
      obtain ⟨ho3, hwp⟩ := hwp
      refine h_calli hM hS hA (va_runV (As := [.int x1, .int x3, .int x2]) (rest := []) ⟨hx, hb, hml, hown, hts⟩ (metMo_goOn l D κ H.size x0 x1 x3 x2 M _ hwp) (cwV 3 hts (gV kw_926 kw_928 kp_33 kw_8 kw_929) rfl rfl rfl (by decide +kernel) ⟨(Nat.le_of_ble_eq_true rfl), (Nat.le_of_ble_eq_true rfl)⟩) (h_preV hE hM hS ho3 (r := ("BuckTablesModel", Tc6, 36)) rfl) rfl rfl hl.1 rfl (lv_room (Nat.le_of_ble_eq_true rfl)) d_Mo_walk_17 ⟨(Nat.le_of_ble_eq_true rfl), (Nat.le_of_ble_eq_true rfl)⟩) (fun r4 M2 H locs hwp hM hS => ?_)
      refine lv_istore (lv' := [(4, .int r4), (0, .ref x0), (1, .int x1), (2, .int x2), (3, .int x3)]) hx hb d_Mo_walk_20 hl (by decide) rfl (fun ls hl => ?_)
      refine lv_iload hx hb d_Mo_walk_22 (lv_at hl 0 rfl) ?_
      refine lv_if_ne (tgt := 43) hx hb d_Mo_walk_24 (by decide) (fun c5 => ?_) (fun c5 => ?_)
      · replace hwp := hwp.2 c5
        refine lv_iload_n hx hb d_Mo_walk_43 rfl (lv_at hl 4 rfl) ?_
        refine lv_iload hx hb d_Mo_walk_44 (lv_at hl 0 rfl) ?_
        refine lv_bipush (v := 8) hx hb d_Mo_walk_46 (by decide) ?_
        refine lv_idiv hx hb d_Mo_walk_48 (by decide) ?_
        refine lv_iadd hx hb d_Mo_walk_49 ?_
        refine lv_topi (fun z6 ez6 => ?_)
        replace hwp := hwp z6 ez6
        refine lv_istore (lv' := [(5, .int z6), (4, .int r4), (0, .ref x0), (1, .int x1), (2, .int x2), (3, .int x3)]) hx hb d_Mo_walk_50 hl (by decide) rfl (fun ls hl => ?_)
        refine lv_aload_n hx hb d_Mo_walk_52 rfl (lv_at hl 2 rfl) ?_
        refine lv_iload_n hx hb d_Mo_walk_53 rfl (lv_at hl 3 rfl) ?_
        refine lv_iload_n hx hb d_Mo_walk_54 rfl (lv_at hl 5 rfl) ?_
        refine lv_iload hx hb d_Mo_walk_55 (lv_at hl 0 rfl) ?_
        refine lv_iconst (v := 4) hx hb d_Mo_walk_57 (by decide) ?_
        obtain ⟨ho8, hwp⟩ := hwp
        refine h_callv hM hS hA (va_runV (As := [.int x1, .int x3, .int z6, .int (4 : Int32)]) (rest := []) ⟨hx, hb, hml, hown, hts⟩ (metMo_mark l D κ H.size x0 x1 x3 z6 (4 : Int32) M2 _ hwp) (cwV 4 hts (gV kw_930 kw_932 kp_34 kw_8 kw_933) rfl rfl rfl (by decide +kernel) ⟨(Nat.le_of_ble_eq_true rfl), (Nat.le_of_ble_eq_true rfl)⟩) (h_preV hE hM hS ho8 (r := ("BuckTablesModel", Tc6, 36)) rfl) rfl rfl hl.1 rfl (lv_room (Nat.le_of_ble_eq_true rfl)) d_Mo_walk_58 ⟨(Nat.le_of_ble_eq_true rfl), (Nat.le_of_ble_eq_true rfl)⟩) (fun M7 H locs hwp hM hS => ?_)
        refine lv_aload_n hx hb d_Mo_walk_61 rfl (lv_at hl 2 rfl) ?_
        obtain ⟨a9, ⟨fs10, he11, hv12⟩, hwp⟩ := hwp
        refine h_get (C := "BuckTablesModel") (T := Tc6) (N := 36) hx hb hts inc6 hown hK hM he11 rfl 25 (by decide) (hts _ kw_745) (fun _ h9 => h9) hv12 d_Mo_walk_62 ?_
        refine lv_bipush (v := 81) hx hb d_Mo_walk_65 (by decide) ?_
        refine lv_iload_n hx hb d_Mo_walk_67 rfl (lv_at hl 3 rfl) ?_
        refine lv_imul hx hb d_Mo_walk_68 ?_
        refine lv_iload_n hx hb d_Mo_walk_69 rfl (lv_at hl 5 rfl) ?_
        refine lv_iadd hx hb d_Mo_walk_70 ?_
        refine lv_iconst (v := 1) hx hb d_Mo_walk_71 (by decide) ?_
        obtain ⟨M17, ⟨n13, f14, ha15, hi16, eM17⟩, hwp⟩ := hwp
        refine h_iast hx hb hK hM hS ha15 rfl hi16 d_Mo_walk_72 (fun H locs hM hS => ?_)
        rw [← eM17] at hM
        refine lv_aload_n hx hb d_Mo_walk_73 rfl (lv_at hl 2 rfl) ?_
        obtain ⟨a18, ⟨fs19, he20, hv21⟩, hwp⟩ := hwp
        refine h_get (C := "BuckTablesModel") (T := Tc6) (N := 36) hx hb hts inc6 hown hK hM he20 rfl 26 (by decide) (hts _ kw_746) (fun _ h9 => h9) hv21 d_Mo_walk_74 ?_
        refine lv_bipush (v := 81) hx hb d_Mo_walk_77 (by decide) ?_
        refine lv_iload_n hx hb d_Mo_walk_79 rfl (lv_at hl 3 rfl) ?_
        refine lv_imul hx hb d_Mo_walk_80 ?_
        refine lv_iload_n hx hb d_Mo_walk_81 rfl (lv_at hl 5 rfl) ?_
        refine lv_iadd hx hb d_Mo_walk_82 ?_
        refine lv_iload hx hb d_Mo_walk_83 (lv_at hl 1 rfl) ?_
        refine lv_bipush (v := 8) hx hb d_Mo_walk_85 (by decide) ?_
        refine lv_idiv hx hb d_Mo_walk_87 (by decide) ?_
        obtain ⟨M26, ⟨n22, f23, ha24, hi25, eM26⟩, hwp⟩ := hwp
        refine h_iast hx hb hK hM hS ha24 rfl hi25 d_Mo_walk_88 (fun H locs hM hS => ?_)
        rw [← eM26] at hM
        refine lv_aload_n hx hb d_Mo_walk_89 rfl (lv_at hl 2 rfl) ?_
        obtain ⟨a27, ⟨fs28, he29, hv30⟩, hwp⟩ := hwp
        refine h_get (C := "BuckTablesModel") (T := Tc6) (N := 36) hx hb hts inc6 hown hK hM he29 rfl 27 (by decide) (hts _ kw_747) (fun _ h9 => h9) hv30 d_Mo_walk_90 ?_
        refine lv_bipush (v := 81) hx hb d_Mo_walk_93 (by decide) ?_
        refine lv_iload_n hx hb d_Mo_walk_95 rfl (lv_at hl 3 rfl) ?_
        refine lv_imul hx hb d_Mo_walk_96 ?_
        refine lv_iload_n hx hb d_Mo_walk_97 rfl (lv_at hl 5 rfl) ?_
        refine lv_iadd hx hb d_Mo_walk_98 ?_
        refine lv_iload hx hb d_Mo_walk_99 (lv_at hl 1 rfl) ?_
        refine lv_bipush (v := 8) hx hb d_Mo_walk_101 (by decide) ?_
        refine lv_irem hx hb d_Mo_walk_103 (by decide) ?_
        obtain ⟨M35, ⟨n31, f32, ha33, hi34, eM35⟩, hwp⟩ := hwp
        refine h_iast hx hb hK hM hS ha33 rfl hi34 d_Mo_walk_104 (fun H locs hM hS => ?_)
        rw [← eM35] at hM
        refine lv_aload_n hx hb d_Mo_walk_105 rfl (lv_at hl 2 rfl) ?_
        refine lv_iload_n hx hb d_Mo_walk_106 rfl (lv_at hl 3 rfl) ?_
        refine lv_iload hx hb d_Mo_walk_107 (lv_at hl 0 rfl) ?_
        refine lv_aload_n hx hb d_Mo_walk_109 rfl (lv_at hl 2 rfl) ?_
        refine lv_iload_n hx hb d_Mo_walk_110 rfl (lv_at hl 4 rfl) ?_
        refine lv_iload hx hb d_Mo_walk_111 (lv_at hl 0 rfl) ?_
        obtain ⟨ho37, hwp⟩ := hwp
        refine h_calli hM hS hA (va_runV (As := [.int x2, .int z6]) (rest := [.int z6, .int x1, .ref x0]) ⟨hx, hb, hml, hown, hts⟩ (metMo_behind l D κ H.size x0 x2 z6 M35 _ hwp) (cwV 2 hts (gV kw_914 kw_916 kp_30 kw_8 kw_917) rfl rfl rfl (by decide +kernel) ⟨(Nat.le_of_ble_eq_true rfl), (Nat.le_of_ble_eq_true rfl)⟩) (h_preV hE hM hS ho37 (r := ("BuckTablesModel", Tc6, 36)) rfl) rfl rfl hl.1 rfl (lv_room (Nat.le_of_ble_eq_true rfl)) d_Mo_walk_113 ⟨(Nat.le_of_ble_eq_true rfl), (Nat.le_of_ble_eq_true rfl)⟩) (fun r38 M36 H locs hwp hM hS => ?_)
        refine lv_iconst (v := 3) hx hb d_Mo_walk_116 (by decide) ?_
        obtain ⟨ho40, hwp⟩ := hwp
        refine h_callv hM hS hA (va_runV (As := [.int x1, .int z6, .int r38, .int (3 : Int32)]) (rest := []) ⟨hx, hb, hml, hown, hts⟩ (metMo_mark l D κ H.size x0 x1 z6 r38 (3 : Int32) M36 _ hwp) (cwV 4 hts (gV kw_930 kw_932 kp_34 kw_8 kw_933) rfl rfl rfl (by decide +kernel) ⟨(Nat.le_of_ble_eq_true rfl), (Nat.le_of_ble_eq_true rfl)⟩) (h_preV hE hM hS ho40 (r := ("BuckTablesModel", Tc6, 36)) rfl) rfl rfl hl.1 rfl (lv_room (Nat.le_of_ble_eq_true rfl)) d_Mo_walk_117 ⟨(Nat.le_of_ble_eq_true rfl), (Nat.le_of_ble_eq_true rfl)⟩) (fun M39 H locs hwp hM hS => ?_)
        refine lv_aload_n hx hb d_Mo_walk_120 rfl (lv_at hl 2 rfl) ?_
        refine lv_iload_n hx hb d_Mo_walk_121 rfl (lv_at hl 4 rfl) ?_
        refine lv_iload hx hb d_Mo_walk_122 (lv_at hl 0 rfl) ?_
        obtain ⟨ho42, hwp⟩ := hwp
        refine h_calli hM hS hA (va_runV (As := [.int x2, .int z6]) (rest := []) ⟨hx, hb, hml, hown, hts⟩ (metMo_behind l D κ H.size x0 x2 z6 M39 _ hwp) (cwV 2 hts (gV kw_914 kw_916 kp_30 kw_8 kw_917) rfl rfl rfl (by decide +kernel) ⟨(Nat.le_of_ble_eq_true rfl), (Nat.le_of_ble_eq_true rfl)⟩) (h_preV hE hM hS ho42 (r := ("BuckTablesModel", Tc6, 36)) rfl) rfl rfl hl.1 rfl (lv_room (Nat.le_of_ble_eq_true rfl)) d_Mo_walk_124 ⟨(Nat.le_of_ble_eq_true rfl), (Nat.le_of_ble_eq_true rfl)⟩) (fun r43 M41 H locs hwp hM hS => ?_)
        refine lv_istore_n (lv' := [(3, .int r43), (5, .int z6), (4, .int r4), (0, .ref x0), (1, .int x1), (2, .int x2)]) hx hb d_Mo_walk_127 rfl hl (by decide) rfl (fun ls hl => ?_)
        exact tMo_walk_128 C post (wMo_walk_8 post n) ih x0 x1 x2 r43 M41 hwp H locs ls hM hS (lv_sub hl [3, 4, 5, 0] rfl)
      · replace hwp := hwp.1 c5
        refine lv_aload_n hx hb d_Mo_walk_27 rfl (lv_at hl 1 rfl) ?_
        refine lv_iload_n hx hb d_Mo_walk_28 rfl (lv_at hl 2 rfl) ?_
        refine lv_iload_n hx hb d_Mo_walk_29 rfl (lv_at hl 4 rfl) ?_
        refine lv_iload_n hx hb d_Mo_walk_30 rfl (lv_at hl 4 rfl) ?_
        refine lv_iconst (v := 1) hx hb d_Mo_walk_31 (by decide) ?_
        refine lv_iadd hx hb d_Mo_walk_32 ?_
        refine lv_iconst (v := 2) hx hb d_Mo_walk_33 (by decide) ?_
        obtain ⟨ho45, hwp⟩ := hwp
        refine h_callv hM hS hA (va_runV (As := [.int x1, .int x3, .int (x3 + (1 : Int32)), .int (2 : Int32)]) (rest := []) ⟨hx, hb, hml, hown, hts⟩ (metMo_mark l D κ H.size x0 x1 x3 (x3 + (1 : Int32)) (2 : Int32) M2 _ hwp) (cwV 4 hts (gV kw_930 kw_932 kp_34 kw_8 kw_933) rfl rfl rfl (by decide +kernel) ⟨(Nat.le_of_ble_eq_true rfl), (Nat.le_of_ble_eq_true rfl)⟩) (h_preV hE hM hS ho45 (r := ("BuckTablesModel", Tc6, 36)) rfl) rfl rfl hl.1 rfl (lv_room (Nat.le_of_ble_eq_true rfl)) d_Mo_walk_34 ⟨(Nat.le_of_ble_eq_true rfl), (Nat.le_of_ble_eq_true rfl)⟩) (fun M44 H locs hwp hM hS => ?_)
        obtain ⟨z46, ez46⟩ : ∃ y : Int32, y = x3 + 1 := ⟨_, rfl⟩
        replace hwp := hwp z46 ez46
        refine lv_iinc (v := z46) (lv' := [(3, .int z46), (4, .int r4), (0, .ref x0), (1, .int x1), (2, .int x2)]) hx hb d_Mo_walk_37 hl (k := 4) rfl (by rw [ez46]; rfl) (by decide) rfl (fun ls hl => ?_)
        refine lv_goto (tgt := 128) hx hb d_Mo_walk_40 (by decide) ?_
        exact tMo_walk_128 C post (wMo_walk_8 post n) ih x0 x1 x2 z46 M44 hwp H locs ls hM hS (lv_sub hl [2, 3, 4, 0] rfl)
def wpMo_walk (self : Nat) (p0 : Int32) (M : Hp) (post : Hp → Prop) : Prop := (hob M self 6 ∧ (wpMo_stepsOf self p0 M (fun (r49 : Int32) (M47 : Hp) => (∃ n50 : Nat, wMo_walk_8 post n50 self p0 r49 (0 : Int32) M47))))
set_option maxRecDepth 100000 in
set_option maxHeartbeats 4000000 in
theorem eMo_walk {p : Program} {l : Launch} {e : Env} {s : State} {m : MethodId} {args : Array Value} {below : List Frame} {meth : Method} {c : Code} {D : va_G} {κ : Nat → ClassId} {A : Nat → Prop} (C : Cx_Mo_walk p s m args meth c D κ A) (post : Hp → Prop) (self : Nat) (p0 : Int32) (M : Hp) (hwp : wpMo_walk self p0 M post) : Y p l e rm_Mo_walk s m args below meth c D kCl (hTys κ) A 6 0 0 (MQ below (va_Qv post (hB D kCl (hTys κ) A) A) args s 0 0 A) M 0 [(0, .ref self), (1, .int p0)] [] := by
  obtain ⟨hx, hb, hml, hr, hown, hts, hlocks, hE, hA⟩ := id C
  have hK := hE.1
  intro H locs ls hM hS hl
  unfold wpMo_walk at hwp
  refine lv_aload_n hx hb d_Mo_walk_0 rfl (lv_at hl 0 rfl) ?_
  refine lv_iload_n hx hb d_Mo_walk_1 rfl (lv_at hl 1 rfl) ?_
  obtain ⟨ho48, hwp⟩ := hwp
  refine h_calli hM hS hA (va_runV (As := [.int p0]) (rest := []) ⟨hx, hb, hml, hown, hts⟩ (metMo_stepsOf l D κ H.size self p0 M _ hwp) (cwV 1 hts (gV kw_875 kw_877 kp_26 kw_8 kw_878) rfl rfl rfl (by decide +kernel) ⟨(Nat.le_of_ble_eq_true rfl), (Nat.le_of_ble_eq_true rfl)⟩) (h_preV hE hM hS ho48 (r := ("BuckTablesModel", Tc6, 36)) rfl) rfl rfl hl.1 rfl (lv_room (Nat.le_of_ble_eq_true rfl)) d_Mo_walk_2 ⟨(Nat.le_of_ble_eq_true rfl), (Nat.le_of_ble_eq_true rfl)⟩) (fun r49 M47 H locs hwp hM hS => ?_)
  refine lv_istore_n (lv' := [(2, .int r49), (0, .ref self), (1, .int p0)]) hx hb d_Mo_walk_5 rfl hl (by decide) rfl (fun ls hl => ?_)
  refine lv_iconst (v := 0) hx hb d_Mo_walk_6 (by decide) ?_
  refine lv_istore_n (lv' := [(3, .int (0 : Int32)), (2, .int r49), (0, .ref self), (1, .int p0)]) hx hb d_Mo_walk_7 rfl hl (by decide) rfl (fun ls hl => ?_)
  obtain ⟨n50, hwp⟩ := hwp
  exact tMo_walk_8 C post n50 self p0 r49 (0 : Int32) M47 hwp H locs ls hM hS (lv_sub hl [2, 3, 1, 0] rfl)
set_option maxRecDepth 100000 in
set_option maxHeartbeats 4000000 in
theorem metMo_walk (l : Launch) (D : va_G) (κ : Nat → ClassId) (sz : Nat) (self : Nat) (p0 : Int32) (M : Hp) (post : Hp → Prop) (hwp : wpMo_walk self p0 M post) : Met l y_Mo_walk ws_Mo_walk rm_Mo_walk (hPc D kCl (hTys κ) M sz [.ref self, .int p0]) (va_Qv post (hB D kCl (hTys κ) (hAx M sz)) (hAx M sz)) 0 0 (hAx M sz) := by
  refine Met.ofW (cc := prog_8_method_24_code) (maxL := 6) (ret := none) (by decide +kernel) rfl ?_
  intro p e s m args below meth c s₁ B hml hv
  obtain ⟨rfl, hsz, hE, hM0⟩ := hv
  have hts : ∀ w ∈ WG, w.before _ s = true := fun w h => atoms_spec (ws := ws_Mo_walk) B.pre w (List.mem_cons_of_mem _ h)
  subst hsz
  have C : Cx_Mo_walk p s m _ meth c D κ (hAx M s.heap.size) := ⟨B.exec, B.bytes, hml, B.returns, findClass_of_methodNamed B.named, hts, B.notSynchronized, hE, fun q h => Or.inr h⟩
  have hl := lv_entry ([.ref self, .int p0]) (n := 6) (Nat.le_of_ble_eq_true rfl)
  rw [lg_entry_eq]
  generalize (lg_sl ([.ref self, .int p0]) ++ List.replicate (6 - (lg_sl ([.ref self, .int p0])).length) Slot.unset).toArray = ls at hl ⊢
  exact eMo_walk C post self p0 M hwp s.heap [] ls (hM0.self (sz := s.heap.size)) va_S.rf hl
abbrev rm_Mo_plan : Room := { frames := 3, cells := 0, slots := 0, locals := 82 }
def Cx_Mo_plan (p : Program) (s : State) (m : MethodId) (args : Array Value) (meth : Method) (c : Code) (D : va_G) (κ : Nat → ClassId) (A : Nat → Prop) : Prop := p.tables.exec = Jvm.exec ∧ c.code = prog_8_method_25_code ∧ c.maxLocals = 4 ∧ meth.sig.returnType = (some .long) ∧ s.vm.findClass "BuckTablesModel" = some m.cls ∧ (∀ w ∈ WG, w.before args s = true) ∧ meth.locks = false ∧ hEnv D kCl (hTys κ) A s ∧ (∀ q, s.heap.size ≤ q → A q)
def wMo_plan_4 (post : Int64 → Hp → Prop)  : Nat → Nat → Int64 → Int32 → Hp → Prop
  | 0 => fun _ _ _ _ => False
  | n + 1 => fun x0 x1 x3 M => (∃ v1 : Int32, fI M x0 6 4 v1 ∧ ((v1 ≤ x3 → (post x1 M)) ∧ (¬ v1 ≤ x3 → (hob M x0 6 ∧ (wpMo_reckon x0 x3 M (fun (M6 : Hp) => (∃ a8 : Nat, fA M6 x0 6 31 a8 ∧ (∃ v12 : Int64, aJ M6 a8 (0 : Int32) v12 ∧ (∀ z17 : Int64, z17 = (x1 + v12) → (hob M6 x0 6 ∧ (wpMo_walk x0 x3 M6 (fun (M18 : Hp) => (∀ z20 : Int32, z20 = x3 + 1 → ((wMo_plan_4 post n) x0 z17 z20 M18))))))))))))))
set_option maxRecDepth 100000 in
set_option maxHeartbeats 4000000 in
theorem tMo_plan_4 {p : Program} {l : Launch} {e : Env} {s : State} {m : MethodId} {args : Array Value} {below : List Frame} {meth : Method} {c : Code} {D : va_G} {κ : Nat → ClassId} {A : Nat → Prop} (C : Cx_Mo_plan p s m args meth c D κ A) (post : Int64 → Hp → Prop)  : ∀ (n : Nat) (x0 : Nat) (x1 : Int64) (x3 : Int32) (M : Hp), wMo_plan_4 post n x0 x1 x3 M → Y p l e rm_Mo_plan s m args below meth c D kCl (hTys κ) A 4 0 0 (MQ below (va_Ql post (hB D kCl (hTys κ) A) A) args s 0 0 A) M 4 [(0, .ref x0), (1, .long x1), (3, .int x3)] [] := by
  obtain ⟨hx, hb, hml, hr, hown, hts, hlocks, hE, hA⟩ := id C
  have hK := hE.1
  intro n
  induction n with
  | zero => intro x0 x1 x3 M hwp; exact hwp.elim
  | succ n ih =>
    intro x0 x1 x3 M hwp H locs ls hM hS hl
    unfold wMo_plan_4 at hwp
    refine lv_iload_n hx hb d_Mo_plan_4 rfl (lv_at hl 2 rfl) ?_
    refine lv_aload_n hx hb d_Mo_plan_5 rfl (lv_at hl 0 rfl) ?_
    obtain ⟨v1, ⟨fs2, he3, hv4⟩, hwp⟩ := hwp
    refine h_get (C := "BuckTablesModel") (T := Tc6) (N := 36) hx hb hts inc6 hown hK hM he3 rfl 4 (by decide) (hts _ kw_724) (fun _ h9 => h9) hv4 d_Mo_plan_6 ?_
    refine lv_icmp_ge (tgt := 37) hx hb d_Mo_plan_9 (by decide) (fun c5 => ?_) (fun c5 => ?_)
    · replace hwp := hwp.1 c5
      refine lv_lload_n hx hb d_Mo_plan_37 rfl (lv_at hl 1 rfl) ?_
      exact W.lret (v := x1) hx hb hr (fun t ht hW => ⟨⟨x1, M, rfl, hwp, by show hw D kCl (hTys κ) A M t.heap; rw [ht]; exact hM⟩, hS.F ht⟩) hS.2.2 d_Mo_plan_38
    · replace hwp := hwp.2 c5
      refine lv_aload_n hx hb d_Mo_plan_12 rfl (lv_at hl 0 rfl) ?_
      refine lv_iload_n hx hb d_Mo_plan_13 rfl (lv_at hl 2 rfl) ?_
      obtain ⟨ho7, hwp⟩ := hwp
      refine h_callv hM hS hA (va_runV (As := [.int x3]) (rest := []) ⟨hx, hb, hml, hown, hts⟩ (metMo_reckon l D κ H.size x0 x3 M _ hwp) (cwV 1 hts (gV kw_906 kw_908 kp_28 kw_8 kw_909) rfl rfl rfl (by decide +kernel) ⟨(Nat.le_of_ble_eq_true rfl), (Nat.le_of_ble_eq_true rfl)⟩) (h_preV hE hM hS ho7 (r := ("BuckTablesModel", Tc6, 36)) rfl) rfl rfl hl.1 rfl (lv_room (Nat.le_of_ble_eq_true rfl)) d_Mo_plan_14 ⟨(Nat.le_of_ble_eq_true rfl), (Nat.le_of_ble_eq_true rfl)⟩) (fun M6 H locs hwp hM hS => ?_)
      refine lv_lload_n hx hb d_Mo_plan_17 rfl (lv_at hl 1 rfl) ?_
      refine lv_aload_n hx hb d_Mo_plan_18 rfl (lv_at hl 0 rfl) ?_
      obtain ⟨a8, ⟨fs9, he10, hv11⟩, hwp⟩ := hwp
      refine h_get (C := "BuckTablesModel") (T := Tc6) (N := 36) hx hb hts inc6 hown hK hM he10 rfl 31 (by decide) (hts _ kw_751) (fun _ h9 => h9) hv11 d_Mo_plan_19 ?_
      refine lv_iconst (v := 0) hx hb d_Mo_plan_22 (by decide) ?_
      obtain ⟨v12, ⟨n13, f14, ha15, hi16, ev12⟩, hwp⟩ := hwp
      refine h_lald hx hb hK hM ha15 rfl hi16 d_Mo_plan_23 ?_
      rw [← ev12]
      refine lv_ladd hx hb d_Mo_plan_24 ?_
      refine lv_topl (fun z17 ez17 => ?_)
      replace hwp := hwp z17 ez17
      refine lv_lstore_n (lv' := [(1, .long z17), (0, .ref x0), (3, .int x3)]) hx hb d_Mo_plan_25 rfl hl (by decide) rfl (fun ls hl => ?_)
      refine lv_aload_n hx hb d_Mo_plan_26 rfl (lv_at hl 1 rfl) ?_
      refine lv_iload_n hx hb d_Mo_plan_27 rfl (lv_at hl 2 rfl) ?_
      obtain ⟨ho19, hwp⟩ := hwp
      refine h_callv hM hS hA (va_runV (As := [.int x3]) (rest := []) ⟨hx, hb, hml, hown, hts⟩ (metMo_walk l D κ H.size x0 x3 M6 _ hwp) (cwV 1 hts (gV kw_922 kw_924 kp_32 kw_8 kw_925) rfl rfl rfl (by decide +kernel) ⟨(Nat.le_of_ble_eq_true rfl), (Nat.le_of_ble_eq_true rfl)⟩) (h_preV hE hM hS ho19 (r := ("BuckTablesModel", Tc6, 36)) rfl) rfl rfl hl.1 rfl (lv_room (Nat.le_of_ble_eq_true rfl)) d_Mo_plan_28 ⟨(Nat.le_of_ble_eq_true rfl), (Nat.le_of_ble_eq_true rfl)⟩) (fun M18 H locs hwp hM hS => ?_)
      obtain ⟨z20, ez20⟩ : ∃ y : Int32, y = x3 + 1 := ⟨_, rfl⟩
      replace hwp := hwp z20 ez20
      refine lv_iinc (v := z20) (lv' := [(3, .int z20), (1, .long z17), (0, .ref x0)]) hx hb d_Mo_plan_31 hl (k := 2) rfl (by rw [ez20]; rfl) (by decide) rfl (fun ls hl => ?_)
      refine lv_goto (tgt := 4) hx hb d_Mo_plan_34 (by decide) ?_
      exact ih x0 z17 z20 M18 hwp H locs ls hM hS (lv_sub hl [2, 1, 0] rfl)
def wpMo_plan (self : Nat) (M : Hp) (post : Int64 → Hp → Prop) : Prop := (∃ n21 : Nat, wMo_plan_4 post n21 self (0 : Int64) (0 : Int32) M)
set_option maxRecDepth 100000 in
set_option maxHeartbeats 4000000 in
theorem eMo_plan {p : Program} {l : Launch} {e : Env} {s : State} {m : MethodId} {args : Array Value} {below : List Frame} {meth : Method} {c : Code} {D : va_G} {κ : Nat → ClassId} {A : Nat → Prop} (C : Cx_Mo_plan p s m args meth c D κ A) (post : Int64 → Hp → Prop) (self : Nat) (M : Hp) (hwp : wpMo_plan self M post) : Y p l e rm_Mo_plan s m args below meth c D kCl (hTys κ) A 4 0 0 (MQ below (va_Ql post (hB D kCl (hTys κ) A) A) args s 0 0 A) M 0 [(0, .ref self)] [] := by
  obtain ⟨hx, hb, hml, hr, hown, hts, hlocks, hE, hA⟩ := id C
  have hK := hE.1
  intro H locs ls hM hS hl
  unfold wpMo_plan at hwp
  refine lv_lconst (v := 0) hx hb d_Mo_plan_0 (by decide) ?_
  refine lv_lstore_n (lv' := [(1, .long (0 : Int64)), (0, .ref self)]) hx hb d_Mo_plan_1 rfl hl (by decide) rfl (fun ls hl => ?_)
  refine lv_iconst (v := 0) hx hb d_Mo_plan_2 (by decide) ?_
  refine lv_istore_n (lv' := [(3, .int (0 : Int32)), (1, .long (0 : Int64)), (0, .ref self)]) hx hb d_Mo_plan_3 rfl hl (by decide) rfl (fun ls hl => ?_)
  obtain ⟨n21, hwp⟩ := hwp
  exact tMo_plan_4 C post n21 self (0 : Int64) (0 : Int32) M hwp H locs ls hM hS (lv_sub hl [2, 1, 0] rfl)
set_option maxRecDepth 100000 in
set_option maxHeartbeats 4000000 in
theorem metMo_plan (l : Launch) (D : va_G) (κ : Nat → ClassId) (sz : Nat) (self : Nat) (M : Hp) (post : Int64 → Hp → Prop) (hwp : wpMo_plan self M post) : Met l y_Mo_plan ws_Mo_plan rm_Mo_plan (hPc D kCl (hTys κ) M sz [.ref self]) (va_Ql post (hB D kCl (hTys κ) (hAx M sz)) (hAx M sz)) 0 0 (hAx M sz) := by
  refine Met.ofW (cc := prog_8_method_25_code) (maxL := 4) (ret := (some .long)) (by decide +kernel) rfl ?_
  intro p e s m args below meth c s₁ B hml hv
  obtain ⟨rfl, hsz, hE, hM0⟩ := hv
  have hts : ∀ w ∈ WG, w.before _ s = true := fun w h => atoms_spec (ws := ws_Mo_plan) B.pre w (List.mem_cons_of_mem _ h)
  subst hsz
  have C : Cx_Mo_plan p s m _ meth c D κ (hAx M s.heap.size) := ⟨B.exec, B.bytes, hml, B.returns, findClass_of_methodNamed B.named, hts, B.notSynchronized, hE, fun q h => Or.inr h⟩
  have hl := lv_entry ([.ref self]) (n := 4) (Nat.le_of_ble_eq_true rfl)
  rw [lg_entry_eq]
  generalize (lg_sl ([.ref self]) ++ List.replicate (4 - (lg_sl ([.ref self])).length) Slot.unset).toArray = ls at hl ⊢
  exact eMo_plan C post self M hwp s.heap [] ls (hM0.self (sz := s.heap.size)) va_S.rf hl
abbrev rm_Mo_countOf : Room := { frames := 1, cells := 0, slots := 0, locals := 21 }
def Cx_Mo_countOf (p : Program) (s : State) (m : MethodId) (args : Array Value) (meth : Method) (c : Code) (D : va_G) (κ : Nat → ClassId) (A : Nat → Prop) : Prop := p.tables.exec = Jvm.exec ∧ c.code = prog_8_method_26_code ∧ c.maxLocals = 5 ∧ meth.sig.returnType = (some .int) ∧ s.vm.findClass "BuckTablesModel" = some m.cls ∧ (∀ w ∈ WG, w.before args s = true) ∧ meth.locks = false ∧ hEnv D kCl (hTys κ) A s ∧ (∀ q, s.heap.size ≤ q → A q)
def wMo_countOf_64 (post : Int32 → Hp → Prop) (k4 : Nat → Int32 → Int32 → Int32 → Hp → Prop) (k15 : Nat → Int32 → Int32 → Int32 → Int32 → Hp → Prop) (x0 : Nat) (x1 : Int32) (x3 : Int32) (x4 : Int32) (y0 : Int32) (M : Hp) : Prop := (∀ z1 : Int32, z1 = x4 + 1 → (k15 x0 x1 y0 x3 z1 M))
set_option maxRecDepth 100000 in
set_option maxHeartbeats 4000000 in
theorem tMo_countOf_64 {p : Program} {l : Launch} {e : Env} {s : State} {m : MethodId} {args : Array Value} {below : List Frame} {meth : Method} {c : Code} {D : va_G} {κ : Nat → ClassId} {A : Nat → Prop} (C : Cx_Mo_countOf p s m args meth c D κ A) (post : Int32 → Hp → Prop) (k4 : Nat → Int32 → Int32 → Int32 → Hp → Prop) (hk4 : ∀ (x0 : Nat) (x1 : Int32) (x2 : Int32) (x3 : Int32) (M : Hp), k4 x0 x1 x2 x3 M → Y p l e rm_Mo_countOf s m args below meth c D kCl (hTys κ) A 5 0 0 (MQ below (va_Qi post (hB D kCl (hTys κ) A) A) args s 0 0 A) M 4 [(0, .ref x0), (1, .int x1), (2, .int x2), (3, .int x3)] []) (k15 : Nat → Int32 → Int32 → Int32 → Int32 → Hp → Prop) (hk15 : ∀ (x0 : Nat) (x1 : Int32) (x2 : Int32) (x3 : Int32) (x4 : Int32) (M : Hp), k15 x0 x1 x2 x3 x4 M → Y p l e rm_Mo_countOf s m args below meth c D kCl (hTys κ) A 5 0 0 (MQ below (va_Qi post (hB D kCl (hTys κ) A) A) args s 0 0 A) M 15 [(0, .ref x0), (1, .int x1), (2, .int x2), (3, .int x3), (4, .int x4)] []) (x0 : Nat) (x1 : Int32) (x3 : Int32) (x4 : Int32) (y0 : Int32) (M : Hp) (hwp : wMo_countOf_64 post k4 k15 x0 x1 x3 x4 y0 M) : Y p l e rm_Mo_countOf s m args below meth c D kCl (hTys κ) A 5 0 0 (MQ below (va_Qi post (hB D kCl (hTys κ) A) A) args s 0 0 A) M 64 [(0, .ref x0), (1, .int x1), (3, .int x3), (4, .int x4)] [.int y0] := by
  obtain ⟨hx, hb, hml, hr, hown, hts, hlocks, hE, hA⟩ := id C
  have hK := hE.1
  intro H locs ls hM hS hl
  unfold wMo_countOf_64 at hwp
  refine lv_istore_n (lv' := [(2, .int y0), (0, .ref x0), (1, .int x1), (3, .int x3), (4, .int x4)]) hx hb d_Mo_countOf_64 rfl hl (by decide) rfl (fun ls hl => ?_)
  obtain ⟨z1, ez1⟩ : ∃ y : Int32, y = x4 + 1 := ⟨_, rfl⟩
  replace hwp := hwp z1 ez1
  refine lv_iinc (v := z1) (lv' := [(4, .int z1), (2, .int y0), (0, .ref x0), (1, .int x1), (3, .int x3)]) hx hb d_Mo_countOf_65 hl (k := 4) rfl (by rw [ez1]; rfl) (by decide) rfl (fun ls hl => ?_)
  refine lv_goto (tgt := 15) hx hb d_Mo_countOf_68 (by decide) ?_
  exact hk15 x0 x1 y0 x3 z1 M hwp H locs ls hM hS (lv_sub hl [2, 3, 1, 4, 0] rfl)
def wMo_countOf_63 (post : Int32 → Hp → Prop) (k4 : Nat → Int32 → Int32 → Int32 → Hp → Prop) (k15 : Nat → Int32 → Int32 → Int32 → Int32 → Hp → Prop) (x0 : Nat) (x1 : Int32) (x2 : Int32) (x3 : Int32) (x4 : Int32) (M : Hp) : Prop := (wMo_countOf_64 post k4 k15 x0 x1 x3 x4 x2 M)
set_option maxRecDepth 100000 in
set_option maxHeartbeats 4000000 in
theorem tMo_countOf_63 {p : Program} {l : Launch} {e : Env} {s : State} {m : MethodId} {args : Array Value} {below : List Frame} {meth : Method} {c : Code} {D : va_G} {κ : Nat → ClassId} {A : Nat → Prop} (C : Cx_Mo_countOf p s m args meth c D κ A) (post : Int32 → Hp → Prop) (k4 : Nat → Int32 → Int32 → Int32 → Hp → Prop) (hk4 : ∀ (x0 : Nat) (x1 : Int32) (x2 : Int32) (x3 : Int32) (M : Hp), k4 x0 x1 x2 x3 M → Y p l e rm_Mo_countOf s m args below meth c D kCl (hTys κ) A 5 0 0 (MQ below (va_Qi post (hB D kCl (hTys κ) A) A) args s 0 0 A) M 4 [(0, .ref x0), (1, .int x1), (2, .int x2), (3, .int x3)] []) (k15 : Nat → Int32 → Int32 → Int32 → Int32 → Hp → Prop) (hk15 : ∀ (x0 : Nat) (x1 : Int32) (x2 : Int32) (x3 : Int32) (x4 : Int32) (M : Hp), k15 x0 x1 x2 x3 x4 M → Y p l e rm_Mo_countOf s m args below meth c D kCl (hTys κ) A 5 0 0 (MQ below (va_Qi post (hB D kCl (hTys κ) A) A) args s 0 0 A) M 15 [(0, .ref x0), (1, .int x1), (2, .int x2), (3, .int x3), (4, .int x4)] []) (x0 : Nat) (x1 : Int32) (x2 : Int32) (x3 : Int32) (x4 : Int32) (M : Hp) (hwp : wMo_countOf_63 post k4 k15 x0 x1 x2 x3 x4 M) : Y p l e rm_Mo_countOf s m args below meth c D kCl (hTys κ) A 5 0 0 (MQ below (va_Qi post (hB D kCl (hTys κ) A) A) args s 0 0 A) M 63 [(0, .ref x0), (1, .int x1), (2, .int x2), (3, .int x3), (4, .int x4)] [] := by
  obtain ⟨hx, hb, hml, hr, hown, hts, hlocks, hE, hA⟩ := id C
  have hK := hE.1
  intro H locs ls hM hS hl
  unfold wMo_countOf_63 at hwp
  refine lv_iload_n hx hb d_Mo_countOf_63 rfl (lv_at hl 2 rfl) ?_
  exact tMo_countOf_64 C post k4 hk4 k15 hk15 x0 x1 x3 x4 x2 M hwp H locs ls hM hS (lv_sub hl [0, 1, 3, 4] rfl)
def wMo_countOf_15 (post : Int32 → Hp → Prop) (k4 : Nat → Int32 → Int32 → Int32 → Hp → Prop) : Nat → Nat → Int32 → Int32 → Int32 → Int32 → Hp → Prop
  | 0 => fun _ _ _ _ _ _ => False
  | n + 1 => fun x0 x1 x2 x3 x4 M => (hob M x0 6 ∧ (wpMo_stepsOf x0 x3 M (fun (r4 : Int32) (M2 : Hp) => ((r4 ≤ x4 → (∀ z6 : Int32, z6 = x3 + 1 → (k4 x0 x1 x2 z6 M2))) ∧ (¬ r4 ≤ x4 → (∃ a7 : Nat, fA M2 x0 6 25 a7 ∧ (∃ v11 : Int32, aI M2 a7 (((81 : Int32) * x3) + x4) v11 ∧ ((v11 = (1 : Int32) → (∃ a17 : Nat, fA M2 x0 6 27 a17 ∧ (∃ v21 : Int32, aI M2 a17 (((81 : Int32) * x3) + x4) v21 ∧ ((v21 = x1 → (wMo_countOf_64 post k4 (wMo_countOf_15 post k4 n) x0 x1 x3 x4 (x2 + (1 : Int32)) M2)) ∧ (¬ v21 = x1 → (wMo_countOf_63 post k4 (wMo_countOf_15 post k4 n) x0 x1 x2 x3 x4 M2)))))) ∧ (¬ v11 = (1 : Int32) → (wMo_countOf_63 post k4 (wMo_countOf_15 post k4 n) x0 x1 x2 x3 x4 M2))))))))))
set_option maxRecDepth 100000 in
set_option maxHeartbeats 4000000 in
theorem tMo_countOf_15 {p : Program} {l : Launch} {e : Env} {s : State} {m : MethodId} {args : Array Value} {below : List Frame} {meth : Method} {c : Code} {D : va_G} {κ : Nat → ClassId} {A : Nat → Prop} (C : Cx_Mo_countOf p s m args meth c D κ A) (post : Int32 → Hp → Prop) (k4 : Nat → Int32 → Int32 → Int32 → Hp → Prop) (hk4 : ∀ (x0 : Nat) (x1 : Int32) (x2 : Int32) (x3 : Int32) (M : Hp), k4 x0 x1 x2 x3 M → Y p l e rm_Mo_countOf s m args below meth c D kCl (hTys κ) A 5 0 0 (MQ below (va_Qi post (hB D kCl (hTys κ) A) A) args s 0 0 A) M 4 [(0, .ref x0), (1, .int x1), (2, .int x2), (3, .int x3)] []) : ∀ (n : Nat) (x0 : Nat) (x1 : Int32) (x2 : Int32) (x3 : Int32) (x4 : Int32) (M : Hp), wMo_countOf_15 post k4 n x0 x1 x2 x3 x4 M → Y p l e rm_Mo_countOf s m args below meth c D kCl (hTys κ) A 5 0 0 (MQ below (va_Qi post (hB D kCl (hTys κ) A) A) args s 0 0 A) M 15 [(0, .ref x0), (1, .int x1), (2, .int x2), (3, .int x3), (4, .int x4)] [] := by
  obtain ⟨hx, hb, hml, hr, hown, hts, hlocks, hE, hA⟩ := id C
  have hK := hE.1
  intro n
  induction n with
  | zero => intro x0 x1 x2 x3 x4 M hwp; exact hwp.elim
  | succ n ih =>
    intro x0 x1 x2 x3 x4 M hwp H locs ls hM hS hl
    unfold wMo_countOf_15 at hwp
    refine lv_iload hx hb d_Mo_countOf_15 (lv_at hl 4 rfl) ?_
    refine lv_aload_n hx hb d_Mo_countOf_17 rfl (lv_at hl 0 rfl) ?_
    refine lv_iload_n hx hb d_Mo_countOf_18 rfl (lv_at hl 3 rfl) ?_
    obtain ⟨ho3, hwp⟩ := hwp
    refine h_calli hM hS hA (va_runV (As := [.int x3]) (rest := [.int x4]) ⟨hx, hb, hml, hown, hts⟩ (metMo_stepsOf l D κ H.size x0 x3 M _ hwp) (cwV 1 hts (gV kw_875 kw_877 kp_26 kw_8 kw_878) rfl rfl rfl (by decide +kernel) ⟨(Nat.le_of_ble_eq_true rfl), (Nat.le_of_ble_eq_true rfl)⟩) (h_preV hE hM hS ho3 (r := ("BuckTablesModel", Tc6, 36)) rfl) rfl rfl hl.1 rfl (lv_room (Nat.le_of_ble_eq_true rfl)) d_Mo_countOf_19 ⟨(Nat.le_of_ble_eq_true rfl), (Nat.le_of_ble_eq_true rfl)⟩) (fun r4 M2 H locs hwp hM hS => ?_)
    refine lv_icmp_ge (tgt := 71) hx hb d_Mo_countOf_22 (by decide) (fun c5 => ?_) (fun c5 => ?_)
    · replace hwp := hwp.1 c5
      obtain ⟨z6, ez6⟩ : ∃ y : Int32, y = x3 + 1 := ⟨_, rfl⟩
      replace hwp := hwp z6 ez6
      refine lv_iinc (v := z6) (lv' := [(3, .int z6), (0, .ref x0), (1, .int x1), (2, .int x2), (4, .int x4)]) hx hb d_Mo_countOf_71 hl (k := 3) rfl (by rw [ez6]; rfl) (by decide) rfl (fun ls hl => ?_)
      refine lv_goto (tgt := 4) hx hb d_Mo_countOf_74 (by decide) ?_
      exact hk4 x0 x1 x2 z6 M2 hwp H locs ls hM hS (lv_sub hl [1, 2, 3, 0] rfl)
    · replace hwp := hwp.2 c5
      refine lv_aload_n hx hb d_Mo_countOf_25 rfl (lv_at hl 0 rfl) ?_
      obtain ⟨a7, ⟨fs8, he9, hv10⟩, hwp⟩ := hwp
      refine h_get (C := "BuckTablesModel") (T := Tc6) (N := 36) hx hb hts inc6 hown hK hM he9 rfl 25 (by decide) (hts _ kw_745) (fun _ h9 => h9) hv10 d_Mo_countOf_26 ?_
      refine lv_bipush (v := 81) hx hb d_Mo_countOf_29 (by decide) ?_
      refine lv_iload_n hx hb d_Mo_countOf_31 rfl (lv_at hl 3 rfl) ?_
      refine lv_imul hx hb d_Mo_countOf_32 ?_
      refine lv_iload hx hb d_Mo_countOf_33 (lv_at hl 4 rfl) ?_
      refine lv_iadd hx hb d_Mo_countOf_35 ?_
      obtain ⟨v11, ⟨n12, f13, ha14, hi15, ev11⟩, hwp⟩ := hwp
      refine h_iald hx hb hK hM ha14 rfl hi15 d_Mo_countOf_36 ?_
      rw [← ev11]
      refine lv_iconst (v := 1) hx hb d_Mo_countOf_37 (by decide) ?_
      refine lv_icmp_ne (tgt := 63) hx hb d_Mo_countOf_38 (by decide) (fun c16 => ?_) (fun c16 => ?_)
      · replace hwp := hwp.2 c16
        exact tMo_countOf_63 C post k4 hk4 (wMo_countOf_15 post k4 n) ih x0 x1 x2 x3 x4 M2 hwp H locs ls hM hS (lv_sub hl [0, 1, 2, 3, 4] rfl)
      · replace hwp := hwp.1 c16
        refine lv_aload_n hx hb d_Mo_countOf_41 rfl (lv_at hl 0 rfl) ?_
        obtain ⟨a17, ⟨fs18, he19, hv20⟩, hwp⟩ := hwp
        refine h_get (C := "BuckTablesModel") (T := Tc6) (N := 36) hx hb hts inc6 hown hK hM he19 rfl 27 (by decide) (hts _ kw_747) (fun _ h9 => h9) hv20 d_Mo_countOf_42 ?_
        refine lv_bipush (v := 81) hx hb d_Mo_countOf_45 (by decide) ?_
        refine lv_iload_n hx hb d_Mo_countOf_47 rfl (lv_at hl 3 rfl) ?_
        refine lv_imul hx hb d_Mo_countOf_48 ?_
        refine lv_iload hx hb d_Mo_countOf_49 (lv_at hl 4 rfl) ?_
        refine lv_iadd hx hb d_Mo_countOf_51 ?_
        obtain ⟨v21, ⟨n22, f23, ha24, hi25, ev21⟩, hwp⟩ := hwp
        refine h_iald hx hb hK hM ha24 rfl hi25 d_Mo_countOf_52 ?_
        rw [← ev21]
        refine lv_iload_n hx hb d_Mo_countOf_53 rfl (lv_at hl 1 rfl) ?_
        refine lv_icmp_ne (tgt := 63) hx hb d_Mo_countOf_54 (by decide) (fun c26 => ?_) (fun c26 => ?_)
        · replace hwp := hwp.2 c26
          exact tMo_countOf_63 C post k4 hk4 (wMo_countOf_15 post k4 n) ih x0 x1 x2 x3 x4 M2 hwp H locs ls hM hS (lv_sub hl [0, 1, 2, 3, 4] rfl)
        · replace hwp := hwp.1 c26
          refine lv_iload_n hx hb d_Mo_countOf_57 rfl (lv_at hl 2 rfl) ?_
          refine lv_iconst (v := 1) hx hb d_Mo_countOf_58 (by decide) ?_
          refine lv_iadd hx hb d_Mo_countOf_59 ?_
          refine lv_goto (tgt := 64) hx hb d_Mo_countOf_60 (by decide) ?_
          exact tMo_countOf_64 C post k4 hk4 (wMo_countOf_15 post k4 n) ih x0 x1 x3 x4 (x2 + (1 : Int32)) M2 hwp H locs ls hM hS (lv_sub hl [0, 1, 3, 4] rfl)
def wMo_countOf_4 (post : Int32 → Hp → Prop)  : Nat → Nat → Int32 → Int32 → Int32 → Hp → Prop
  | 0 => fun _ _ _ _ _ => False
  | n + 1 => fun x0 x1 x2 x3 M => (∃ v27 : Int32, fI M x0 6 4 v27 ∧ ((v27 ≤ x3 → (post x2 M)) ∧ (¬ v27 ≤ x3 → (∃ n32 : Nat, wMo_countOf_15 post (wMo_countOf_4 post n) n32 x0 x1 x2 x3 (0 : Int32) M))))
set_option maxRecDepth 100000 in
set_option maxHeartbeats 4000000 in
theorem tMo_countOf_4 {p : Program} {l : Launch} {e : Env} {s : State} {m : MethodId} {args : Array Value} {below : List Frame} {meth : Method} {c : Code} {D : va_G} {κ : Nat → ClassId} {A : Nat → Prop} (C : Cx_Mo_countOf p s m args meth c D κ A) (post : Int32 → Hp → Prop)  : ∀ (n : Nat) (x0 : Nat) (x1 : Int32) (x2 : Int32) (x3 : Int32) (M : Hp), wMo_countOf_4 post n x0 x1 x2 x3 M → Y p l e rm_Mo_countOf s m args below meth c D kCl (hTys κ) A 5 0 0 (MQ below (va_Qi post (hB D kCl (hTys κ) A) A) args s 0 0 A) M 4 [(0, .ref x0), (1, .int x1), (2, .int x2), (3, .int x3)] [] := by
  obtain ⟨hx, hb, hml, hr, hown, hts, hlocks, hE, hA⟩ := id C
  have hK := hE.1
  intro n
  induction n with
  | zero => intro x0 x1 x2 x3 M hwp; exact hwp.elim
  | succ n ih =>
    intro x0 x1 x2 x3 M hwp H locs ls hM hS hl
    unfold wMo_countOf_4 at hwp
    refine lv_iload_n hx hb d_Mo_countOf_4 rfl (lv_at hl 3 rfl) ?_
    refine lv_aload_n hx hb d_Mo_countOf_5 rfl (lv_at hl 0 rfl) ?_
    obtain ⟨v27, ⟨fs28, he29, hv30⟩, hwp⟩ := hwp
    refine h_get (C := "BuckTablesModel") (T := Tc6) (N := 36) hx hb hts inc6 hown hK hM he29 rfl 4 (by decide) (hts _ kw_724) (fun _ h9 => h9) hv30 d_Mo_countOf_6 ?_
    refine lv_icmp_ge (tgt := 77) hx hb d_Mo_countOf_9 (by decide) (fun c31 => ?_) (fun c31 => ?_)
    · replace hwp := hwp.1 c31
      refine lv_iload_n hx hb d_Mo_countOf_77 rfl (lv_at hl 2 rfl) ?_
      exact W.iret (v := x2) hx hb hr (fun t ht hW => ⟨⟨x2, M, rfl, hwp, by show hw D kCl (hTys κ) A M t.heap; rw [ht]; exact hM⟩, hS.F ht⟩) hS.2.2 d_Mo_countOf_78
    · replace hwp := hwp.2 c31
      refine lv_iconst (v := 0) hx hb d_Mo_countOf_12 (by decide) ?_
      refine lv_istore (lv' := [(4, .int (0 : Int32)), (0, .ref x0), (1, .int x1), (2, .int x2), (3, .int x3)]) hx hb d_Mo_countOf_13 hl (by decide) rfl (fun ls hl => ?_)
      obtain ⟨n32, hwp⟩ := hwp
      exact tMo_countOf_15 C post (wMo_countOf_4 post n) ih n32 x0 x1 x2 x3 (0 : Int32) M hwp H locs ls hM hS (lv_sub hl [1, 2, 3, 4, 0] rfl)
def wpMo_countOf (self : Nat) (p0 : Int32) (M : Hp) (post : Int32 → Hp → Prop) : Prop := (∃ n33 : Nat, wMo_countOf_4 post n33 self p0 (0 : Int32) (0 : Int32) M)
set_option maxRecDepth 100000 in
set_option maxHeartbeats 4000000 in
theorem eMo_countOf {p : Program} {l : Launch} {e : Env} {s : State} {m : MethodId} {args : Array Value} {below : List Frame} {meth : Method} {c : Code} {D : va_G} {κ : Nat → ClassId} {A : Nat → Prop} (C : Cx_Mo_countOf p s m args meth c D κ A) (post : Int32 → Hp → Prop) (self : Nat) (p0 : Int32) (M : Hp) (hwp : wpMo_countOf self p0 M post) : Y p l e rm_Mo_countOf s m args below meth c D kCl (hTys κ) A 5 0 0 (MQ below (va_Qi post (hB D kCl (hTys κ) A) A) args s 0 0 A) M 0 [(0, .ref self), (1, .int p0)] [] := by
  obtain ⟨hx, hb, hml, hr, hown, hts, hlocks, hE, hA⟩ := id C
  have hK := hE.1
  intro H locs ls hM hS hl
  unfold wpMo_countOf at hwp
  refine lv_iconst (v := 0) hx hb d_Mo_countOf_0 (by decide) ?_
  refine lv_istore_n (lv' := [(2, .int (0 : Int32)), (0, .ref self), (1, .int p0)]) hx hb d_Mo_countOf_1 rfl hl (by decide) rfl (fun ls hl => ?_)
  refine lv_iconst (v := 0) hx hb d_Mo_countOf_2 (by decide) ?_
  refine lv_istore_n (lv' := [(3, .int (0 : Int32)), (2, .int (0 : Int32)), (0, .ref self), (1, .int p0)]) hx hb d_Mo_countOf_3 rfl hl (by decide) rfl (fun ls hl => ?_)
  obtain ⟨n33, hwp⟩ := hwp
  exact tMo_countOf_4 C post n33 self p0 (0 : Int32) (0 : Int32) M hwp H locs ls hM hS (lv_sub hl [2, 3, 1, 0] rfl)
set_option maxRecDepth 100000 in
set_option maxHeartbeats 4000000 in
theorem metMo_countOf (l : Launch) (D : va_G) (κ : Nat → ClassId) (sz : Nat) (self : Nat) (p0 : Int32) (M : Hp) (post : Int32 → Hp → Prop) (hwp : wpMo_countOf self p0 M post) : Met l y_Mo_countOf ws_Mo_countOf rm_Mo_countOf (hPc D kCl (hTys κ) M sz [.ref self, .int p0]) (va_Qi post (hB D kCl (hTys κ) (hAx M sz)) (hAx M sz)) 0 0 (hAx M sz) := by
  refine Met.ofW (cc := prog_8_method_26_code) (maxL := 5) (ret := (some .int)) (by decide +kernel) rfl ?_
  intro p e s m args below meth c s₁ B hml hv
  obtain ⟨rfl, hsz, hE, hM0⟩ := hv
  have hts : ∀ w ∈ WG, w.before _ s = true := fun w h => atoms_spec (ws := ws_Mo_countOf) B.pre w (List.mem_cons_of_mem _ h)
  subst hsz
  have C : Cx_Mo_countOf p s m _ meth c D κ (hAx M s.heap.size) := ⟨B.exec, B.bytes, hml, B.returns, findClass_of_methodNamed B.named, hts, B.notSynchronized, hE, fun q h => Or.inr h⟩
  have hl := lv_entry ([.ref self, .int p0]) (n := 5) (Nat.le_of_ble_eq_true rfl)
  rw [lg_entry_eq]
  generalize (lg_sl ([.ref self, .int p0]) ++ List.replicate (5 - (lg_sl ([.ref self, .int p0])).length) Slot.unset).toArray = ls at hl ⊢
  exact eMo_countOf C post self p0 M hwp s.heap [] ls (hM0.self (sz := s.heap.size)) va_S.rf hl
abbrev rm_Mo_trueWorth : Room := { frames := 1, cells := 0, slots := 0, locals := 23 }
def Cx_Mo_trueWorth (p : Program) (s : State) (m : MethodId) (args : Array Value) (meth : Method) (c : Code) (D : va_G) (κ : Nat → ClassId) (A : Nat → Prop) : Prop := p.tables.exec = Jvm.exec ∧ c.code = prog_8_method_27_code ∧ c.maxLocals = 6 ∧ meth.sig.returnType = (some .long) ∧ s.vm.findClass "BuckTablesModel" = some m.cls ∧ (∀ w ∈ WG, w.before args s = true) ∧ meth.locks = false ∧ hEnv D kCl (hTys κ) A s ∧ (∀ q, s.heap.size ≤ q → A q)
def wMo_trueWorth_70 (post : Int64 → Hp → Prop) (k4 : Nat → Int64 → Int32 → Hp → Prop) (k15 : Nat → Int64 → Int32 → Int32 → Hp → Prop) (x0 : Nat) (x3 : Int32) (x4 : Int32) (y0 : Int64) (M : Hp) : Prop := (∀ z1 : Int32, z1 = x4 + 1 → (k15 x0 y0 x3 z1 M))
set_option maxRecDepth 100000 in
set_option maxHeartbeats 4000000 in
theorem tMo_trueWorth_70 {p : Program} {l : Launch} {e : Env} {s : State} {m : MethodId} {args : Array Value} {below : List Frame} {meth : Method} {c : Code} {D : va_G} {κ : Nat → ClassId} {A : Nat → Prop} (C : Cx_Mo_trueWorth p s m args meth c D κ A) (post : Int64 → Hp → Prop) (k4 : Nat → Int64 → Int32 → Hp → Prop) (hk4 : ∀ (x0 : Nat) (x1 : Int64) (x3 : Int32) (M : Hp), k4 x0 x1 x3 M → Y p l e rm_Mo_trueWorth s m args below meth c D kCl (hTys κ) A 6 0 0 (MQ below (va_Ql post (hB D kCl (hTys κ) A) A) args s 0 0 A) M 4 [(0, .ref x0), (1, .long x1), (3, .int x3)] []) (k15 : Nat → Int64 → Int32 → Int32 → Hp → Prop) (hk15 : ∀ (x0 : Nat) (x1 : Int64) (x3 : Int32) (x4 : Int32) (M : Hp), k15 x0 x1 x3 x4 M → Y p l e rm_Mo_trueWorth s m args below meth c D kCl (hTys κ) A 6 0 0 (MQ below (va_Ql post (hB D kCl (hTys κ) A) A) args s 0 0 A) M 15 [(0, .ref x0), (1, .long x1), (3, .int x3), (4, .int x4)] []) (x0 : Nat) (x3 : Int32) (x4 : Int32) (y0 : Int64) (M : Hp) (hwp : wMo_trueWorth_70 post k4 k15 x0 x3 x4 y0 M) : Y p l e rm_Mo_trueWorth s m args below meth c D kCl (hTys κ) A 6 0 0 (MQ below (va_Ql post (hB D kCl (hTys κ) A) A) args s 0 0 A) M 70 [(0, .ref x0), (3, .int x3), (4, .int x4)] [.long y0] := by
  obtain ⟨hx, hb, hml, hr, hown, hts, hlocks, hE, hA⟩ := id C
  have hK := hE.1
  intro H locs ls hM hS hl
  unfold wMo_trueWorth_70 at hwp
  refine lv_lstore_n (lv' := [(1, .long y0), (0, .ref x0), (3, .int x3), (4, .int x4)]) hx hb d_Mo_trueWorth_70 rfl hl (by decide) rfl (fun ls hl => ?_)
  obtain ⟨z1, ez1⟩ : ∃ y : Int32, y = x4 + 1 := ⟨_, rfl⟩
  replace hwp := hwp z1 ez1
  refine lv_iinc (v := z1) (lv' := [(4, .int z1), (1, .long y0), (0, .ref x0), (3, .int x3)]) hx hb d_Mo_trueWorth_71 hl (k := 3) rfl (by rw [ez1]; rfl) (by decide) rfl (fun ls hl => ?_)
  refine lv_goto (tgt := 15) hx hb d_Mo_trueWorth_74 (by decide) ?_
  exact hk15 x0 y0 x3 z1 M hwp H locs ls hM hS (lv_sub hl [2, 1, 3, 0] rfl)
def wMo_trueWorth_15 (post : Int64 → Hp → Prop) (k4 : Nat → Int64 → Int32 → Hp → Prop) : Nat → Nat → Int64 → Int32 → Int32 → Hp → Prop
  | 0 => fun _ _ _ _ _ => False
  | n + 1 => fun x0 x1 x3 x4 M => (hob M x0 6 ∧ (wpMo_stepsOf x0 x3 M (fun (r4 : Int32) (M2 : Hp) => ((r4 ≤ x4 → (∀ z6 : Int32, z6 = x3 + 1 → (k4 x0 x1 z6 M2))) ∧ (¬ r4 ≤ x4 → (∀ z7 : Int32, z7 = (((81 : Int32) * x3) + x4) → (∃ a8 : Nat, fA M2 x0 6 25 a8 ∧ (∃ v12 : Int32, aI M2 a8 z7 v12 ∧ ((v12 = (1 : Int32) → (∃ a18 : Nat, fA M2 x0 6 26 a18 ∧ (∃ v22 : Int32, aI M2 a18 z7 v22 ∧ (∃ a27 : Nat, fA M2 x0 6 27 a27 ∧ (∃ v31 : Int32, aI M2 a27 z7 v31 ∧ (hob M2 x0 6 ∧ (wpMo_worthOf x0 x3 v22 v31 M2 (fun (r38 : Int64) (M36 : Hp) => (wMo_trueWorth_70 post k4 (wMo_trueWorth_15 post k4 n) x0 x3 x4 (x1 + r38) M36))))))))) ∧ (¬ v12 = (1 : Int32) → (wMo_trueWorth_70 post k4 (wMo_trueWorth_15 post k4 n) x0 x3 x4 x1 M2)))))))))))
set_option maxRecDepth 100000 in
set_option maxHeartbeats 4000000 in
theorem tMo_trueWorth_15 {p : Program} {l : Launch} {e : Env} {s : State} {m : MethodId} {args : Array Value} {below : List Frame} {meth : Method} {c : Code} {D : va_G} {κ : Nat → ClassId} {A : Nat → Prop} (C : Cx_Mo_trueWorth p s m args meth c D κ A) (post : Int64 → Hp → Prop) (k4 : Nat → Int64 → Int32 → Hp → Prop) (hk4 : ∀ (x0 : Nat) (x1 : Int64) (x3 : Int32) (M : Hp), k4 x0 x1 x3 M → Y p l e rm_Mo_trueWorth s m args below meth c D kCl (hTys κ) A 6 0 0 (MQ below (va_Ql post (hB D kCl (hTys κ) A) A) args s 0 0 A) M 4 [(0, .ref x0), (1, .long x1), (3, .int x3)] []) : ∀ (n : Nat) (x0 : Nat) (x1 : Int64) (x3 : Int32) (x4 : Int32) (M : Hp), wMo_trueWorth_15 post k4 n x0 x1 x3 x4 M → Y p l e rm_Mo_trueWorth s m args below meth c D kCl (hTys κ) A 6 0 0 (MQ below (va_Ql post (hB D kCl (hTys κ) A) A) args s 0 0 A) M 15 [(0, .ref x0), (1, .long x1), (3, .int x3), (4, .int x4)] [] := by
  obtain ⟨hx, hb, hml, hr, hown, hts, hlocks, hE, hA⟩ := id C
  have hK := hE.1
  intro n
  induction n with
  | zero => intro x0 x1 x3 x4 M hwp; exact hwp.elim
  | succ n ih =>
    intro x0 x1 x3 x4 M hwp H locs ls hM hS hl
    unfold wMo_trueWorth_15 at hwp
    refine lv_iload hx hb d_Mo_trueWorth_15 (lv_at hl 3 rfl) ?_
    refine lv_aload_n hx hb d_Mo_trueWorth_17 rfl (lv_at hl 0 rfl) ?_
    refine lv_iload_n hx hb d_Mo_trueWorth_18 rfl (lv_at hl 2 rfl) ?_
    obtain ⟨ho3, hwp⟩ := hwp
    refine h_calli hM hS hA (va_runV (As := [.int x3]) (rest := [.int x4]) ⟨hx, hb, hml, hown, hts⟩ (metMo_stepsOf l D κ H.size x0 x3 M _ hwp) (cwV 1 hts (gV kw_875 kw_877 kp_26 kw_8 kw_878) rfl rfl rfl (by decide +kernel) ⟨(Nat.le_of_ble_eq_true rfl), (Nat.le_of_ble_eq_true rfl)⟩) (h_preV hE hM hS ho3 (r := ("BuckTablesModel", Tc6, 36)) rfl) rfl rfl hl.1 rfl (lv_room (Nat.le_of_ble_eq_true rfl)) d_Mo_trueWorth_19 ⟨(Nat.le_of_ble_eq_true rfl), (Nat.le_of_ble_eq_true rfl)⟩) (fun r4 M2 H locs hwp hM hS => ?_)
    refine lv_icmp_ge (tgt := 77) hx hb d_Mo_trueWorth_22 (by decide) (fun c5 => ?_) (fun c5 => ?_)
    · replace hwp := hwp.1 c5
      obtain ⟨z6, ez6⟩ : ∃ y : Int32, y = x3 + 1 := ⟨_, rfl⟩
      replace hwp := hwp z6 ez6
      refine lv_iinc (v := z6) (lv' := [(3, .int z6), (0, .ref x0), (1, .long x1), (4, .int x4)]) hx hb d_Mo_trueWorth_77 hl (k := 2) rfl (by rw [ez6]; rfl) (by decide) rfl (fun ls hl => ?_)
      refine lv_goto (tgt := 4) hx hb d_Mo_trueWorth_80 (by decide) ?_
      exact hk4 x0 x1 z6 M2 hwp H locs ls hM hS (lv_sub hl [1, 2, 0] rfl)
    · replace hwp := hwp.2 c5
      refine lv_bipush (v := 81) hx hb d_Mo_trueWorth_25 (by decide) ?_
      refine lv_iload_n hx hb d_Mo_trueWorth_27 rfl (lv_at hl 2 rfl) ?_
      refine lv_imul hx hb d_Mo_trueWorth_28 ?_
      refine lv_iload hx hb d_Mo_trueWorth_29 (lv_at hl 3 rfl) ?_
      refine lv_iadd hx hb d_Mo_trueWorth_31 ?_
      refine lv_topi (fun z7 ez7 => ?_)
      replace hwp := hwp z7 ez7
      refine lv_istore (lv' := [(5, .int z7), (0, .ref x0), (1, .long x1), (3, .int x3), (4, .int x4)]) hx hb d_Mo_trueWorth_32 hl (by decide) rfl (fun ls hl => ?_)
      refine lv_aload_n hx hb d_Mo_trueWorth_34 rfl (lv_at hl 1 rfl) ?_
      obtain ⟨a8, ⟨fs9, he10, hv11⟩, hwp⟩ := hwp
      refine h_get (C := "BuckTablesModel") (T := Tc6) (N := 36) hx hb hts inc6 hown hK hM he10 rfl 25 (by decide) (hts _ kw_745) (fun _ h9 => h9) hv11 d_Mo_trueWorth_35 ?_
      refine lv_iload hx hb d_Mo_trueWorth_38 (lv_at hl 0 rfl) ?_
      obtain ⟨v12, ⟨n13, f14, ha15, hi16, ev12⟩, hwp⟩ := hwp
      refine h_iald hx hb hK hM ha15 rfl hi16 d_Mo_trueWorth_40 ?_
      rw [← ev12]
      refine lv_iconst (v := 1) hx hb d_Mo_trueWorth_41 (by decide) ?_
      refine lv_icmp_ne (tgt := 69) hx hb d_Mo_trueWorth_42 (by decide) (fun c17 => ?_) (fun c17 => ?_)
      · replace hwp := hwp.2 c17
        refine lv_lload_n hx hb d_Mo_trueWorth_69 rfl (lv_at hl 2 rfl) ?_
        exact tMo_trueWorth_70 C post k4 hk4 (wMo_trueWorth_15 post k4 n) ih x0 x3 x4 x1 M2 hwp H locs ls hM hS (lv_sub hl [1, 3, 4] rfl)
      · replace hwp := hwp.1 c17
        refine lv_lload_n hx hb d_Mo_trueWorth_45 rfl (lv_at hl 2 rfl) ?_
        refine lv_aload_n hx hb d_Mo_trueWorth_46 rfl (lv_at hl 1 rfl) ?_
        refine lv_iload_n hx hb d_Mo_trueWorth_47 rfl (lv_at hl 3 rfl) ?_
        refine lv_aload_n hx hb d_Mo_trueWorth_48 rfl (lv_at hl 1 rfl) ?_
        obtain ⟨a18, ⟨fs19, he20, hv21⟩, hwp⟩ := hwp
        refine h_get (C := "BuckTablesModel") (T := Tc6) (N := 36) hx hb hts inc6 hown hK hM he20 rfl 26 (by decide) (hts _ kw_746) (fun _ h9 => h9) hv21 d_Mo_trueWorth_49 ?_
        refine lv_iload hx hb d_Mo_trueWorth_52 (lv_at hl 0 rfl) ?_
        obtain ⟨v22, ⟨n23, f24, ha25, hi26, ev22⟩, hwp⟩ := hwp
        refine h_iald hx hb hK hM ha25 rfl hi26 d_Mo_trueWorth_54 ?_
        rw [← ev22]
        refine lv_aload_n hx hb d_Mo_trueWorth_55 rfl (lv_at hl 1 rfl) ?_
        obtain ⟨a27, ⟨fs28, he29, hv30⟩, hwp⟩ := hwp
        refine h_get (C := "BuckTablesModel") (T := Tc6) (N := 36) hx hb hts inc6 hown hK hM he29 rfl 27 (by decide) (hts _ kw_747) (fun _ h9 => h9) hv30 d_Mo_trueWorth_56 ?_
        refine lv_iload hx hb d_Mo_trueWorth_59 (lv_at hl 0 rfl) ?_
        obtain ⟨v31, ⟨n32, f33, ha34, hi35, ev31⟩, hwp⟩ := hwp
        refine h_iald hx hb hK hM ha34 rfl hi35 d_Mo_trueWorth_61 ?_
        rw [← ev31]
        obtain ⟨ho37, hwp⟩ := hwp
        refine h_calll hM hS hA (va_runV (As := [.int x3, .int v22, .int v31]) (rest := [.long x1]) ⟨hx, hb, hml, hown, hts⟩ (metMo_worthOf l D κ H.size x0 x3 v22 v31 M2 _ hwp) (cwV 3 hts (gV kw_918 kw_920 kp_31 kw_8 kw_921) rfl rfl rfl (by decide +kernel) ⟨(Nat.le_of_ble_eq_true rfl), (Nat.le_of_ble_eq_true rfl)⟩) (h_preV hE hM hS ho37 (r := ("BuckTablesModel", Tc6, 36)) rfl) rfl rfl hl.1 rfl (lv_room (Nat.le_of_ble_eq_true rfl)) d_Mo_trueWorth_62 ⟨(Nat.le_of_ble_eq_true rfl), (Nat.le_of_ble_eq_true rfl)⟩) (fun r38 M36 H locs hwp hM hS => ?_)
        refine lv_ladd hx hb d_Mo_trueWorth_65 ?_
        refine lv_goto (tgt := 70) hx hb d_Mo_trueWorth_66 (by decide) ?_
        exact tMo_trueWorth_70 C post k4 hk4 (wMo_trueWorth_15 post k4 n) ih x0 x3 x4 (x1 + r38) M36 hwp H locs ls hM hS (lv_sub hl [1, 3, 4] rfl)
def wMo_trueWorth_4 (post : Int64 → Hp → Prop)  : Nat → Nat → Int64 → Int32 → Hp → Prop
  | 0 => fun _ _ _ _ => False
  | n + 1 => fun x0 x1 x3 M => (∃ v39 : Int32, fI M x0 6 4 v39 ∧ ((v39 ≤ x3 → (post x1 M)) ∧ (¬ v39 ≤ x3 → (∃ n44 : Nat, wMo_trueWorth_15 post (wMo_trueWorth_4 post n) n44 x0 x1 x3 (0 : Int32) M))))
set_option maxRecDepth 100000 in
set_option maxHeartbeats 4000000 in
theorem tMo_trueWorth_4 {p : Program} {l : Launch} {e : Env} {s : State} {m : MethodId} {args : Array Value} {below : List Frame} {meth : Method} {c : Code} {D : va_G} {κ : Nat → ClassId} {A : Nat → Prop} (C : Cx_Mo_trueWorth p s m args meth c D κ A) (post : Int64 → Hp → Prop)  : ∀ (n : Nat) (x0 : Nat) (x1 : Int64) (x3 : Int32) (M : Hp), wMo_trueWorth_4 post n x0 x1 x3 M → Y p l e rm_Mo_trueWorth s m args below meth c D kCl (hTys κ) A 6 0 0 (MQ below (va_Ql post (hB D kCl (hTys κ) A) A) args s 0 0 A) M 4 [(0, .ref x0), (1, .long x1), (3, .int x3)] [] := by
  obtain ⟨hx, hb, hml, hr, hown, hts, hlocks, hE, hA⟩ := id C
  have hK := hE.1
  intro n
  induction n with
  | zero => intro x0 x1 x3 M hwp; exact hwp.elim
  | succ n ih =>
    intro x0 x1 x3 M hwp H locs ls hM hS hl
    unfold wMo_trueWorth_4 at hwp
    refine lv_iload_n hx hb d_Mo_trueWorth_4 rfl (lv_at hl 2 rfl) ?_
    refine lv_aload_n hx hb d_Mo_trueWorth_5 rfl (lv_at hl 0 rfl) ?_
    obtain ⟨v39, ⟨fs40, he41, hv42⟩, hwp⟩ := hwp
    refine h_get (C := "BuckTablesModel") (T := Tc6) (N := 36) hx hb hts inc6 hown hK hM he41 rfl 4 (by decide) (hts _ kw_724) (fun _ h9 => h9) hv42 d_Mo_trueWorth_6 ?_
    refine lv_icmp_ge (tgt := 83) hx hb d_Mo_trueWorth_9 (by decide) (fun c43 => ?_) (fun c43 => ?_)
    · replace hwp := hwp.1 c43
      refine lv_lload_n hx hb d_Mo_trueWorth_83 rfl (lv_at hl 1 rfl) ?_
      exact W.lret (v := x1) hx hb hr (fun t ht hW => ⟨⟨x1, M, rfl, hwp, by show hw D kCl (hTys κ) A M t.heap; rw [ht]; exact hM⟩, hS.F ht⟩) hS.2.2 d_Mo_trueWorth_84
    · replace hwp := hwp.2 c43
      refine lv_iconst (v := 0) hx hb d_Mo_trueWorth_12 (by decide) ?_
      refine lv_istore (lv' := [(4, .int (0 : Int32)), (0, .ref x0), (1, .long x1), (3, .int x3)]) hx hb d_Mo_trueWorth_13 hl (by decide) rfl (fun ls hl => ?_)
      obtain ⟨n44, hwp⟩ := hwp
      exact tMo_trueWorth_15 C post (wMo_trueWorth_4 post n) ih n44 x0 x1 x3 (0 : Int32) M hwp H locs ls hM hS (lv_sub hl [1, 2, 3, 0] rfl)
def wpMo_trueWorth (self : Nat) (M : Hp) (post : Int64 → Hp → Prop) : Prop := (∃ n45 : Nat, wMo_trueWorth_4 post n45 self (0 : Int64) (0 : Int32) M)
set_option maxRecDepth 100000 in
set_option maxHeartbeats 4000000 in
theorem eMo_trueWorth {p : Program} {l : Launch} {e : Env} {s : State} {m : MethodId} {args : Array Value} {below : List Frame} {meth : Method} {c : Code} {D : va_G} {κ : Nat → ClassId} {A : Nat → Prop} (C : Cx_Mo_trueWorth p s m args meth c D κ A) (post : Int64 → Hp → Prop) (self : Nat) (M : Hp) (hwp : wpMo_trueWorth self M post) : Y p l e rm_Mo_trueWorth s m args below meth c D kCl (hTys κ) A 6 0 0 (MQ below (va_Ql post (hB D kCl (hTys κ) A) A) args s 0 0 A) M 0 [(0, .ref self)] [] := by
  obtain ⟨hx, hb, hml, hr, hown, hts, hlocks, hE, hA⟩ := id C
  have hK := hE.1
  intro H locs ls hM hS hl
  unfold wpMo_trueWorth at hwp
  refine lv_lconst (v := 0) hx hb d_Mo_trueWorth_0 (by decide) ?_
  refine lv_lstore_n (lv' := [(1, .long (0 : Int64)), (0, .ref self)]) hx hb d_Mo_trueWorth_1 rfl hl (by decide) rfl (fun ls hl => ?_)
  refine lv_iconst (v := 0) hx hb d_Mo_trueWorth_2 (by decide) ?_
  refine lv_istore_n (lv' := [(3, .int (0 : Int32)), (1, .long (0 : Int64)), (0, .ref self)]) hx hb d_Mo_trueWorth_3 rfl hl (by decide) rfl (fun ls hl => ?_)
  obtain ⟨n45, hwp⟩ := hwp
  exact tMo_trueWorth_4 C post n45 self (0 : Int64) (0 : Int32) M hwp H locs ls hM hS (lv_sub hl [2, 1, 0] rfl)
set_option maxRecDepth 100000 in
set_option maxHeartbeats 4000000 in
theorem metMo_trueWorth (l : Launch) (D : va_G) (κ : Nat → ClassId) (sz : Nat) (self : Nat) (M : Hp) (post : Int64 → Hp → Prop) (hwp : wpMo_trueWorth self M post) : Met l y_Mo_trueWorth ws_Mo_trueWorth rm_Mo_trueWorth (hPc D kCl (hTys κ) M sz [.ref self]) (va_Ql post (hB D kCl (hTys κ) (hAx M sz)) (hAx M sz)) 0 0 (hAx M sz) := by
  refine Met.ofW (cc := prog_8_method_27_code) (maxL := 6) (ret := (some .long)) (by decide +kernel) rfl ?_
  intro p e s m args below meth c s₁ B hml hv
  obtain ⟨rfl, hsz, hE, hM0⟩ := hv
  have hts : ∀ w ∈ WG, w.before _ s = true := fun w h => atoms_spec (ws := ws_Mo_trueWorth) B.pre w (List.mem_cons_of_mem _ h)
  subst hsz
  have C : Cx_Mo_trueWorth p s m _ meth c D κ (hAx M s.heap.size) := ⟨B.exec, B.bytes, hml, B.returns, findClass_of_methodNamed B.named, hts, B.notSynchronized, hE, fun q h => Or.inr h⟩
  have hl := lv_entry ([.ref self]) (n := 6) (Nat.le_of_ble_eq_true rfl)
  rw [lg_entry_eq]
  generalize (lg_sl ([.ref self]) ++ List.replicate (6 - (lg_sl ([.ref self])).length) Slot.unset).toArray = ls at hl ⊢
  exact eMo_trueWorth C post self M hwp s.heap [] ls (hM0.self (sz := s.heap.size)) va_S.rf hl
abbrev rm_Mo_logCount : Room := { frames := 2, cells := 0, slots := 0, locals := 45 }
def Cx_Mo_logCount (p : Program) (s : State) (m : MethodId) (args : Array Value) (meth : Method) (c : Code) (D : va_G) (κ : Nat → ClassId) (A : Nat → Prop) : Prop := p.tables.exec = Jvm.exec ∧ c.code = prog_8_method_28_code ∧ c.maxLocals = 3 ∧ meth.sig.returnType = (some .int) ∧ s.vm.findClass "BuckTablesModel" = some m.cls ∧ (∀ w ∈ WG, w.before args s = true) ∧ meth.locks = false ∧ hEnv D kCl (hTys κ) A s ∧ (∀ q, s.heap.size ≤ q → A q)
def wMo_logCount_4 (post : Int32 → Hp → Prop)  : Nat → Nat → Int32 → Int32 → Hp → Prop
  | 0 => fun _ _ _ _ => False
  | n + 1 => fun x0 x1 x2 M => (∃ v1 : Int32, fI M x0 6 14 v1 ∧ ((v1 ≤ x2 → (post x1 M)) ∧ (¬ v1 ≤ x2 → (hob M x0 6 ∧ (wpMo_countOf x0 x2 M (fun (r8 : Int32) (M6 : Hp) => (∀ z9 : Int32, z9 = (x1 + r8) → (∀ z10 : Int32, z10 = x2 + 1 → ((wMo_logCount_4 post n) x0 z9 z10 M6)))))))))
set_option maxRecDepth 100000 in
set_option maxHeartbeats 4000000 in
theorem tMo_logCount_4 {p : Program} {l : Launch} {e : Env} {s : State} {m : MethodId} {args : Array Value} {below : List Frame} {meth : Method} {c : Code} {D : va_G} {κ : Nat → ClassId} {A : Nat → Prop} (C : Cx_Mo_logCount p s m args meth c D κ A) (post : Int32 → Hp → Prop)  : ∀ (n : Nat) (x0 : Nat) (x1 : Int32) (x2 : Int32) (M : Hp), wMo_logCount_4 post n x0 x1 x2 M → Y p l e rm_Mo_logCount s m args below meth c D kCl (hTys κ) A 3 0 0 (MQ below (va_Qi post (hB D kCl (hTys κ) A) A) args s 0 0 A) M 4 [(0, .ref x0), (1, .int x1), (2, .int x2)] [] := by
  obtain ⟨hx, hb, hml, hr, hown, hts, hlocks, hE, hA⟩ := id C
  have hK := hE.1
  intro n
  induction n with
  | zero => intro x0 x1 x2 M hwp; exact hwp.elim
  | succ n ih =>
    intro x0 x1 x2 M hwp H locs ls hM hS hl
    unfold wMo_logCount_4 at hwp
    refine lv_iload_n hx hb d_Mo_logCount_4 rfl (lv_at hl 2 rfl) ?_
    refine lv_aload_n hx hb d_Mo_logCount_5 rfl (lv_at hl 0 rfl) ?_
    obtain ⟨v1, ⟨fs2, he3, hv4⟩, hwp⟩ := hwp
    refine h_get (C := "BuckTablesModel") (T := Tc6) (N := 36) hx hb hts inc6 hown hK hM he3 rfl 14 (by decide) (hts _ kw_734) (fun _ h9 => h9) hv4 d_Mo_logCount_6 ?_
    refine lv_icmp_ge (tgt := 26) hx hb d_Mo_logCount_9 (by decide) (fun c5 => ?_) (fun c5 => ?_)
    · replace hwp := hwp.1 c5
      refine lv_iload_n hx hb d_Mo_logCount_26 rfl (lv_at hl 1 rfl) ?_
      exact W.iret (v := x1) hx hb hr (fun t ht hW => ⟨⟨x1, M, rfl, hwp, by show hw D kCl (hTys κ) A M t.heap; rw [ht]; exact hM⟩, hS.F ht⟩) hS.2.2 d_Mo_logCount_27
    · replace hwp := hwp.2 c5
      refine lv_iload_n hx hb d_Mo_logCount_12 rfl (lv_at hl 1 rfl) ?_
      refine lv_aload_n hx hb d_Mo_logCount_13 rfl (lv_at hl 0 rfl) ?_
      refine lv_iload_n hx hb d_Mo_logCount_14 rfl (lv_at hl 2 rfl) ?_
      obtain ⟨ho7, hwp⟩ := hwp
      refine h_calli hM hS hA (va_runV (As := [.int x2]) (rest := [.int x1]) ⟨hx, hb, hml, hown, hts⟩ (metMo_countOf l D κ H.size x0 x2 M _ hwp) (cwV 1 hts (gV kw_938 kw_940 kp_36 kw_8 kw_941) rfl rfl rfl (by decide +kernel) ⟨(Nat.le_of_ble_eq_true rfl), (Nat.le_of_ble_eq_true rfl)⟩) (h_preV hE hM hS ho7 (r := ("BuckTablesModel", Tc6, 36)) rfl) rfl rfl hl.1 rfl (lv_room (Nat.le_of_ble_eq_true rfl)) d_Mo_logCount_15 ⟨(Nat.le_of_ble_eq_true rfl), (Nat.le_of_ble_eq_true rfl)⟩) (fun r8 M6 H locs hwp hM hS => ?_)
      refine lv_iadd hx hb d_Mo_logCount_18 ?_
      refine lv_topi (fun z9 ez9 => ?_)
      replace hwp := hwp z9 ez9
      refine lv_istore_n (lv' := [(1, .int z9), (0, .ref x0), (2, .int x2)]) hx hb d_Mo_logCount_19 rfl hl (by decide) rfl (fun ls hl => ?_)
      obtain ⟨z10, ez10⟩ : ∃ y : Int32, y = x2 + 1 := ⟨_, rfl⟩
      replace hwp := hwp z10 ez10
      refine lv_iinc (v := z10) (lv' := [(2, .int z10), (1, .int z9), (0, .ref x0)]) hx hb d_Mo_logCount_20 hl (k := 2) rfl (by rw [ez10]; rfl) (by decide) rfl (fun ls hl => ?_)
      refine lv_goto (tgt := 4) hx hb d_Mo_logCount_23 (by decide) ?_
      exact ih x0 z9 z10 M6 hwp H locs ls hM hS (lv_sub hl [2, 1, 0] rfl)
def wpMo_logCount (self : Nat) (M : Hp) (post : Int32 → Hp → Prop) : Prop := (∃ n11 : Nat, wMo_logCount_4 post n11 self (0 : Int32) (0 : Int32) M)
set_option maxRecDepth 100000 in
set_option maxHeartbeats 4000000 in
theorem eMo_logCount {p : Program} {l : Launch} {e : Env} {s : State} {m : MethodId} {args : Array Value} {below : List Frame} {meth : Method} {c : Code} {D : va_G} {κ : Nat → ClassId} {A : Nat → Prop} (C : Cx_Mo_logCount p s m args meth c D κ A) (post : Int32 → Hp → Prop) (self : Nat) (M : Hp) (hwp : wpMo_logCount self M post) : Y p l e rm_Mo_logCount s m args below meth c D kCl (hTys κ) A 3 0 0 (MQ below (va_Qi post (hB D kCl (hTys κ) A) A) args s 0 0 A) M 0 [(0, .ref self)] [] := by
  obtain ⟨hx, hb, hml, hr, hown, hts, hlocks, hE, hA⟩ := id C
  have hK := hE.1
  intro H locs ls hM hS hl
  unfold wpMo_logCount at hwp
  refine lv_iconst (v := 0) hx hb d_Mo_logCount_0 (by decide) ?_
  refine lv_istore_n (lv' := [(1, .int (0 : Int32)), (0, .ref self)]) hx hb d_Mo_logCount_1 rfl hl (by decide) rfl (fun ls hl => ?_)
  refine lv_iconst (v := 0) hx hb d_Mo_logCount_2 (by decide) ?_
  refine lv_istore_n (lv' := [(2, .int (0 : Int32)), (1, .int (0 : Int32)), (0, .ref self)]) hx hb d_Mo_logCount_3 rfl hl (by decide) rfl (fun ls hl => ?_)
  obtain ⟨n11, hwp⟩ := hwp
  exact tMo_logCount_4 C post n11 self (0 : Int32) (0 : Int32) M hwp H locs ls hM hS (lv_sub hl [2, 1, 0] rfl)
set_option maxRecDepth 100000 in
set_option maxHeartbeats 4000000 in
theorem metMo_logCount (l : Launch) (D : va_G) (κ : Nat → ClassId) (sz : Nat) (self : Nat) (M : Hp) (post : Int32 → Hp → Prop) (hwp : wpMo_logCount self M post) : Met l y_Mo_logCount ws_Mo_logCount rm_Mo_logCount (hPc D kCl (hTys κ) M sz [.ref self]) (va_Qi post (hB D kCl (hTys κ) (hAx M sz)) (hAx M sz)) 0 0 (hAx M sz) := by
  refine Met.ofW (cc := prog_8_method_28_code) (maxL := 3) (ret := (some .int)) (by decide +kernel) rfl ?_
  intro p e s m args below meth c s₁ B hml hv
  obtain ⟨rfl, hsz, hE, hM0⟩ := hv
  have hts : ∀ w ∈ WG, w.before _ s = true := fun w h => atoms_spec (ws := ws_Mo_logCount) B.pre w (List.mem_cons_of_mem _ h)
  subst hsz
  have C : Cx_Mo_logCount p s m _ meth c D κ (hAx M s.heap.size) := ⟨B.exec, B.bytes, hml, B.returns, findClass_of_methodNamed B.named, hts, B.notSynchronized, hE, fun q h => Or.inr h⟩
  have hl := lv_entry ([.ref self]) (n := 3) (Nat.le_of_ble_eq_true rfl)
  rw [lg_entry_eq]
  generalize (lg_sl ([.ref self]) ++ List.replicate (3 - (lg_sl ([.ref self])).length) Slot.unset).toArray = ls at hl ⊢
  exact eMo_logCount C post self M hwp s.heap [] ls (hM0.self (sz := s.heap.size)) va_S.rf hl
