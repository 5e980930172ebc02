abbrev rm_Mo_goOn : Room := { frames := 1, cells := 0, slots := 0, locals := 30 }
def Cx_Mo_goOn (p : Program) (s : State) (m : MethodId) (args : Array Value) (meth : Method) (c : Code) (D : va_G) (κ : Nat → ClassId) (A : Nat → Prop) : Prop := p.tables.exec = Jvm.exec ∧ c.code = prog_8_method_22_code ∧ c.maxLocals = 8 ∧ meth.sig.returnType = (some .int) ∧ s.vm.findClass "BuckTablesModel" = some m.cls ∧ (∀ w ∈ WG, w.before args s = true) ∧ meth.locks = false ∧ hEnv D kCl (hTys κ) A s ∧ (∀ q, s.heap.size ≤ q → A q)
def wMo_goOn_121 (post : Int32 → Hp → Prop) (k3 : Nat → Int32 → Int32 → Int32 → Int32 → Hp → Prop) (k12 : Nat → Int32 → Int32 → Int32 → Int32 → Int32 → Hp → Prop) (x0 : Nat) (x1 : Int32) (x2 : Int32) (x3 : Int32) (x4 : Int32) (x5 : Int32) (M : Hp) : Prop := (∀ z1 : Int32, z1 = x5 + 1 → (k12 x0 x1 x2 x3 x4 z1 M))
set_option maxRecDepth 100000 in
set_option maxHeartbeats 4000000 in
theorem tMo_goOn_121 {p : Program} {l : Launch} {e : Env} {s : State} {m : MethodId} {args : Array Value} {below : List Frame} {meth : Method} {c : Code} {D : va_G} {κ : Nat → ClassId} {A : Nat → Prop} (C : Cx_Mo_goOn p s m args meth c D κ A) (post : Int32 → Hp → Prop) (k3 : Nat → Int32 → Int32 → Int32 → Int32 → Hp → Prop) (hk3 : ∀ (x0 : Nat) (x1 : Int32) (x2 : Int32) (x3 : Int32) (x4 : Int32) (M : Hp), k3 x0 x1 x2 x3 x4 M → Y p l e rm_Mo_goOn s m args below meth c D kCl (hTys κ) A 8 0 0 (MQ below (va_Qi post (hB D kCl (hTys κ) A) A) args s 0 0 A) M 3 [(0, .ref x0), (1, .int x1), (2, .int x2), (3, .int x3), (4, .int x4)] []) (k12 : Nat → Int32 → Int32 → Int32 → Int32 → Int32 → Hp → Prop) (hk12 : ∀ (x0 : Nat) (x1 : Int32) (x2 : Int32) (x3 : Int32) (x4 : Int32) (x5 : Int32) (M : Hp), k12 x0 x1 x2 x3 x4 x5 M → Y p l e rm_Mo_goOn s m args below meth c D kCl (hTys κ) A 8 0 0 (MQ below (va_Qi post (hB D kCl (hTys κ) A) A) args s 0 0 A) M 12 [(0, .ref x0), (1, .int x1), (2, .int x2), (3, .int x3), (4, .int x4), (5, .int x5)] []) (x0 : Nat) (x1 : Int32) (x2 : Int32) (x3 : Int32) (x4 : Int32) (x5 : Int32) (M : Hp) (hwp : wMo_goOn_121 post k3 k12 x0 x1 x2 x3 x4 x5 M) : Y p l e rm_Mo_goOn s m args below meth c D kCl (hTys κ) A 8 0 0 (MQ below (va_Qi post (hB D kCl (hTys κ) A) A) args s 0 0 A) M 121 [(0, .ref x0), (1, .int x1), (2, .int x2), (3, .int x3), (4, .int x4), (5, .int x5)] [] := by
  obtain ⟨hx, hb, hml, hr, hown, hts, hlocks, hE, hA⟩ := id C
  have hK := hE.1
  intro H locs ls hM hS hl
  unfold wMo_goOn_121 at hwp
  obtain ⟨z1, ez1⟩ : ∃ y : Int32, y = x5 + 1 := ⟨_, rfl⟩
  replace hwp := hwp z1 ez1
  refine lv_iinc (v := z1) (lv' := [(5, .int z1), (0, .ref x0), (1, .int x1), (2, .int x2), (3, .int x3), (4, .int x4)]) hx hb d_Mo_goOn_121 hl (k := 5) rfl (by rw [ez1]; rfl) (by decide) rfl (fun ls hl => ?_)
  refine lv_goto (tgt := 12) hx hb d_Mo_goOn_124 (by decide) ?_
  exact hk12 x0 x1 x2 x3 x4 z1 M hwp H locs ls hM hS (lv_sub hl [1, 2, 3, 4, 5, 0] rfl)
def wMo_goOn_90 (post : Int32 → Hp → Prop) (k3 : Nat → Int32 → Int32 → Int32 → Int32 → Hp → Prop) (k12 : Nat → Int32 → Int32 → Int32 → Int32 → Int32 → Hp → Prop) (x0 : Nat) (x1 : Int32) (x2 : Int32) (x3 : Int32) (x4 : Int32) (x5 : Int32) (y0 : Int32) (M : Hp) : Prop := ((y0 = 0 → (wMo_goOn_121 post k3 k12 x0 x1 x2 x3 x4 x5 M)) ∧ (¬ y0 = 0 → (hob M x0 6 ∧ (wpMo_may x0 x1 x2 x4 x5 M (fun (r5 : Int32) (M3 : Hp) => ((r5 = 0 → (wMo_goOn_121 post k3 k12 x0 x1 x2 x3 x4 x5 M3)) ∧ (¬ r5 = 0 → (post (((8 : Int32) * (x4 - x2)) + x5) M3))))))))
set_option maxRecDepth 100000 in
set_option maxHeartbeats 4000000 in
theorem tMo_goOn_90 {p : Program} {l : Launch} {e : Env} {s : State} {m : MethodId} {args : Array Value} {below : List Frame} {meth : Method} {c : Code} {D : va_G} {κ : Nat → ClassId} {A : Nat → Prop} (C : Cx_Mo_goOn p s m args meth c D κ A) (post : Int32 → Hp → Prop) (k3 : Nat → Int32 → Int32 → Int32 → Int32 → Hp → Prop) (hk3 : ∀ (x0 : Nat) (x1 : Int32) (x2 : Int32) (x3 : Int32) (x4 : Int32) (M : Hp), k3 x0 x1 x2 x3 x4 M → Y p l e rm_Mo_goOn s m args below meth c D kCl (hTys κ) A 8 0 0 (MQ below (va_Qi post (hB D kCl (hTys κ) A) A) args s 0 0 A) M 3 [(0, .ref x0), (1, .int x1), (2, .int x2), (3, .int x3), (4, .int x4)] []) (k12 : Nat → Int32 → Int32 → Int32 → Int32 → Int32 → Hp → Prop) (hk12 : ∀ (x0 : Nat) (x1 : Int32) (x2 : Int32) (x3 : Int32) (x4 : Int32) (x5 : Int32) (M : Hp), k12 x0 x1 x2 x3 x4 x5 M → Y p l e rm_Mo_goOn s m args below meth c D kCl (hTys κ) A 8 0 0 (MQ below (va_Qi post (hB D kCl (hTys κ) A) A) args s 0 0 A) M 12 [(0, .ref x0), (1, .int x1), (2, .int x2), (3, .int x3), (4, .int x4), (5, .int x5)] []) (x0 : Nat) (x1 : Int32) (x2 : Int32) (x3 : Int32) (x4 : Int32) (x5 : Int32) (y0 : Int32) (M : Hp) (hwp : wMo_goOn_90 post k3 k12 x0 x1 x2 x3 x4 x5 y0 M) : Y p l e rm_Mo_goOn s m args below meth c D kCl (hTys κ) A 8 0 0 (MQ below (va_Qi post (hB D kCl (hTys κ) A) A) args s 0 0 A) M 90 [(0, .ref x0), (1, .int x1), (2, .int x2), (3, .int x3), (4, .int x4), (5, .int x5)] [.int y0] := by
  obtain ⟨hx, hb, hml, hr, hown, hts, hlocks, hE, hA⟩ := id C
  have hK := hE.1
  intro H locs ls hM hS hl
  unfold wMo_goOn_90 at hwp
  refine lv_istore (lv' := [(7, .int y0), (0, .ref x0), (1, .int x1), (2, .int x2), (3, .int x3), (4, .int x4), (5, .int x5)]) hx hb d_Mo_goOn_90 hl (by decide) rfl (fun ls hl => ?_)
  refine lv_iload hx hb d_Mo_goOn_92 (lv_at hl 0 rfl) ?_
  refine lv_if_eq (tgt := 121) hx hb d_Mo_goOn_94 (by decide) (fun c2 => ?_) (fun c2 => ?_)
  · replace hwp := hwp.1 c2
    exact tMo_goOn_121 C post k3 hk3 k12 hk12 x0 x1 x2 x3 x4 x5 M hwp H locs ls hM hS (lv_sub hl [1, 2, 3, 4, 5, 6] rfl)
  · replace hwp := hwp.2 c2
    refine lv_aload_n hx hb d_Mo_goOn_97 rfl (lv_at hl 1 rfl) ?_
    refine lv_iload_n hx hb d_Mo_goOn_98 rfl (lv_at hl 2 rfl) ?_
    refine lv_iload_n hx hb d_Mo_goOn_99 rfl (lv_at hl 3 rfl) ?_
    refine lv_iload hx hb d_Mo_goOn_100 (lv_at hl 5 rfl) ?_
    refine lv_iload hx hb d_Mo_goOn_102 (lv_at hl 6 rfl) ?_
    obtain ⟨ho4, hwp⟩ := hwp
    refine h_calli hM hS hA (va_runV (As := [.int x1, .int x2, .int x4, .int x5]) (rest := []) ⟨hx, hb, hml, hown, hts⟩ (metMo_may l D κ H.size x0 x1 x2 x4 x5 M _ hwp) (cwV 4 hts (gV kw_910 kw_912 kp_29 kw_8 kw_913) rfl rfl rfl (by decide +kernel) ⟨(Nat.le_of_ble_eq_true rfl), (Nat.le_of_ble_eq_true rfl)⟩) (h_preV hE hM hS ho4 (r := ("BuckTablesModel", Tc6, 36)) rfl) rfl rfl hl.1 rfl (lv_room (Nat.le_of_ble_eq_true rfl)) d_Mo_goOn_104 ⟨(Nat.le_of_ble_eq_true rfl), (Nat.le_of_ble_eq_true rfl)⟩) (fun r5 M3 H locs hwp hM hS => ?_)
    refine lv_if_eq (tgt := 121) hx hb d_Mo_goOn_107 (by decide) (fun c6 => ?_) (fun c6 => ?_)
    · replace hwp := hwp.1 c6
      exact tMo_goOn_121 C post k3 hk3 k12 hk12 x0 x1 x2 x3 x4 x5 M3 hwp H locs ls hM hS (lv_sub hl [1, 2, 3, 4, 5, 6] rfl)
    · replace hwp := hwp.2 c6
      refine lv_bipush (v := 8) hx hb d_Mo_goOn_110 (by decide) ?_
      refine lv_iload hx hb d_Mo_goOn_112 (lv_at hl 5 rfl) ?_
      refine lv_iload_n hx hb d_Mo_goOn_114 rfl (lv_at hl 3 rfl) ?_
      refine lv_isub hx hb d_Mo_goOn_115 ?_
      refine lv_imul hx hb d_Mo_goOn_116 ?_
      refine lv_iload hx hb d_Mo_goOn_117 (lv_at hl 6 rfl) ?_
      refine lv_iadd hx hb d_Mo_goOn_119 ?_
      exact W.iret (v := (((8 : Int32) * (x4 - x2)) + x5)) hx hb hr (fun t ht hW => ⟨⟨(((8 : Int32) * (x4 - x2)) + x5), M3, rfl, hwp, by show hw D kCl (hTys κ) A M3 t.heap; rw [ht]; exact hM⟩, hS.F ht⟩) hS.2.2 d_Mo_goOn_120
def wMo_goOn_89 (post : Int32 → Hp → Prop) (k3 : Nat → Int32 → Int32 → Int32 → Int32 → Hp → Prop) (k12 : Nat → Int32 → Int32 → Int32 → Int32 → Int32 → Hp → Prop) (x0 : Nat) (x1 : Int32) (x2 : Int32) (x3 : Int32) (x4 : Int32) (x5 : Int32) (M : Hp) : Prop := (wMo_goOn_90 post k3 k12 x0 x1 x2 x3 x4 x5 (0 : Int32) M)
set_option maxRecDepth 100000 in
set_option maxHeartbeats 4000000 in
theorem tMo_goOn_89 {p : Program} {l : Launch} {e : Env} {s : State} {m : MethodId} {args : Array Value} {below : List Frame} {meth : Method} {c : Code} {D : va_G} {κ : Nat → ClassId} {A : Nat → Prop} (C : Cx_Mo_goOn p s m args meth c D κ A) (post : Int32 → Hp → Prop) (k3 : Nat → Int32 → Int32 → Int32 → Int32 → Hp → Prop) (hk3 : ∀ (x0 : Nat) (x1 : Int32) (x2 : Int32) (x3 : Int32) (x4 : Int32) (M : Hp), k3 x0 x1 x2 x3 x4 M → Y p l e rm_Mo_goOn s m args below meth c D kCl (hTys κ) A 8 0 0 (MQ below (va_Qi post (hB D kCl (hTys κ) A) A) args s 0 0 A) M 3 [(0, .ref x0), (1, .int x1), (2, .int x2), (3, .int x3), (4, .int x4)] []) (k12 : Nat → Int32 → Int32 → Int32 → Int32 → Int32 → Hp → Prop) (hk12 : ∀ (x0 : Nat) (x1 : Int32) (x2 : Int32) (x3 : Int32) (x4 : Int32) (x5 : Int32) (M : Hp), k12 x0 x1 x2 x3 x4 x5 M → Y p l e rm_Mo_goOn s m args below meth c D kCl (hTys κ) A 8 0 0 (MQ below (va_Qi post (hB D kCl (hTys κ) A) A) args s 0 0 A) M 12 [(0, .ref x0), (1, .int x1), (2, .int x2), (3, .int x3), (4, .int x4), (5, .int x5)] []) (x0 : Nat) (x1 : Int32) (x2 : Int32) (x3 : Int32) (x4 : Int32) (x5 : Int32) (M : Hp) (hwp : wMo_goOn_89 post k3 k12 x0 x1 x2 x3 x4 x5 M) : Y p l e rm_Mo_goOn s m args below meth c D kCl (hTys κ) A 8 0 0 (MQ below (va_Qi post (hB D kCl (hTys κ) A) A) args s 0 0 A) M 89 [(0, .ref x0), (1, .int x1), (2, .int x2), (3, .int x3), (4, .int x4), (5, .int x5)] [] := by
  obtain ⟨hx, hb, hml, hr, hown, hts, hlocks, hE, hA⟩ := id C
  have hK := hE.1
  intro H locs ls hM hS hl
  unfold wMo_goOn_89 at hwp
  refine lv_iconst (v := 0) hx hb d_Mo_goOn_89 (by decide) ?_
  exact tMo_goOn_90 C post k3 hk3 k12 hk12 x0 x1 x2 x3 x4 x5 (0 : Int32) M hwp H locs ls hM hS (lv_sub hl [0, 1, 2, 3, 4, 5] rfl)
def wMo_goOn_12 (post : Int32 → Hp → Prop) (k3 : Nat → Int32 → Int32 → Int32 → Int32 → Hp → Prop) : Nat → Nat → Int32 → Int32 → Int32 → Int32 → Int32 → Hp → Prop
  | 0 => fun _ _ _ _ _ _ _ => False
  | n + 1 => fun x0 x1 x2 x3 x4 x5 M => (∃ v7 : Int32, fI M x0 6 14 v7 ∧ ((v7 ≤ x5 → (∀ z12 : Int32, z12 = x4 + (-1) → (k3 x0 x1 x2 x3 z12 M))) ∧ (¬ v7 ≤ x5 → (hob M x0 6 ∧ (wpMo_behind x0 x3 x4 M (fun (r15 : Int32) (M13 : Hp) => (∃ a16 : Nat, fA M13 x0 6 32 a16 ∧ (∃ v20 : Int32, aI M13 a16 r15 v20 ∧ (∃ a25 : Nat, fA M13 x0 6 32 a25 ∧ (∃ v29 : Int32, aI M13 a25 x2 v29 ∧ (((v20 + (1 : Int32)) = v29 → (∃ a35 : Nat, fA M13 x0 6 31 a35 ∧ (∃ v39 : Int64, aJ M13 a35 r15 v39 ∧ (hob M13 x0 6 ∧ (wpMo_worthOf x0 x1 (x4 - x2) x5 M13 (fun (r46 : Int64) (M44 : Hp) => (∃ a47 : Nat, fA M44 x0 6 23 a47 ∧ (∃ v51 : Int64, aJ M44 a47 x5 v51 ∧ (∃ a56 : Nat, fA M44 x0 6 31 a56 ∧ (∃ v60 : Int64, aJ M44 a56 x2 v60 ∧ ((((v39 + r46) - v51) = v60 → (wMo_goOn_90 post k3 (wMo_goOn_12 post k3 n) x0 x1 x2 x3 x4 x5 (1 : Int32) M44)) ∧ (¬ ((v39 + r46) - v51) = v60 → (wMo_goOn_89 post k3 (wMo_goOn_12 post k3 n) x0 x1 x2 x3 x4 x5 M44))))))))))))) ∧ (¬ (v20 + (1 : Int32)) = v29 → (wMo_goOn_89 post k3 (wMo_goOn_12 post k3 n) x0 x1 x2 x3 x4 x5 M13)))))))))))))
set_option maxRecDepth 100000 in
set_option maxHeartbeats 4000000 in
theorem tMo_goOn_12 {p : Program} {l : Launch} {e : Env} {s : State} {m : MethodId} {args : Array Value} {below : List Frame} {meth : Method} {c : Code} {D : va_G} {κ : Nat → ClassId} {A : Nat → Prop} (C : Cx_Mo_goOn p s m args meth c D κ A) (post : Int32 → Hp → Prop) (k3 : Nat → Int32 → Int32 → Int32 → Int32 → Hp → Prop) (hk3 : ∀ (x0 : Nat) (x1 : Int32) (x2 : Int32) (x3 : Int32) (x4 : Int32) (M : Hp), k3 x0 x1 x2 x3 x4 M → Y p l e rm_Mo_goOn s m args below meth c D kCl (hTys κ) A 8 0 0 (MQ below (va_Qi post (hB D kCl (hTys κ) A) A) args s 0 0 A) M 3 [(0, .ref x0), (1, .int x1), (2, .int x2), (3, .int x3), (4, .int x4)] []) : ∀ (n : Nat) (x0 : Nat) (x1 : Int32) (x2 : Int32) (x3 : Int32) (x4 : Int32) (x5 : Int32) (M : Hp), wMo_goOn_12 post k3 n x0 x1 x2 x3 x4 x5 M → Y p l e rm_Mo_goOn s m args below meth c D kCl (hTys κ) A 8 0 0 (MQ below (va_Qi post (hB D kCl (hTys κ) A) A) args s 0 0 A) M 12 [(0, .ref x0), (1, .int x1), (2, .int x2), (3, .int x3), (4, .int x4), (5, .int x5)] [] := by
  obtain ⟨hx, hb, hml, hr, hown, hts, hlocks, hE, hA⟩ := id C
  have hK := hE.1
  intro n
  induction n with
  | zero => intro x0 x1 x2 x3 x4 x5 M hwp; exact hwp.elim
  | succ n ih =>
    intro x0 x1 x2 x3 x4 x5 M hwp H locs ls hM hS hl
    unfold wMo_goOn_12 at hwp
    refine lv_iload hx hb d_Mo_goOn_12 (lv_at hl 5 rfl) ?_
    refine lv_aload_n hx hb d_Mo_goOn_14 rfl (lv_at hl 0 rfl) ?_
    obtain ⟨v7, ⟨fs8, he9, hv10⟩, hwp⟩ := hwp
    refine h_get (C := "BuckTablesModel") (T := Tc6) (N := 36) hx hb hts inc6 hown hK hM he9 rfl 14 (by decide) (hts _ kw_734) (fun _ h9 => h9) hv10 d_Mo_goOn_15 ?_
    refine lv_icmp_ge (tgt := 127) hx hb d_Mo_goOn_18 (by decide) (fun c11 => ?_) (fun c11 => ?_)
    · replace hwp := hwp.1 c11
      obtain ⟨z12, ez12⟩ : ∃ y : Int32, y = x4 + (-1) := ⟨_, rfl⟩
      replace hwp := hwp z12 ez12
      refine lv_iinc (v := z12) (lv' := [(4, .int z12), (0, .ref x0), (1, .int x1), (2, .int x2), (3, .int x3), (5, .int x5)]) hx hb d_Mo_goOn_127 hl (k := 4) rfl (by rw [ez12]; rfl) (by decide) rfl (fun ls hl => ?_)
      refine lv_goto (tgt := 3) hx hb d_Mo_goOn_130 (by decide) ?_
      exact hk3 x0 x1 x2 x3 z12 M hwp H locs ls hM hS (lv_sub hl [1, 2, 3, 4, 0] rfl)
    · replace hwp := hwp.2 c11
      refine lv_aload_n hx hb d_Mo_goOn_21 rfl (lv_at hl 0 rfl) ?_
      refine lv_iload_n hx hb d_Mo_goOn_22 rfl (lv_at hl 3 rfl) ?_
      refine lv_iload hx hb d_Mo_goOn_23 (lv_at hl 4 rfl) ?_
      obtain ⟨ho14, hwp⟩ := hwp
      refine h_calli hM hS hA (va_runV (As := [.int x3, .int x4]) (rest := []) ⟨hx, hb, hml, hown, hts⟩ (metMo_behind l D κ H.size x0 x3 x4 M _ hwp) (cwV 2 hts (gV kw_914 kw_916 kp_30 kw_8 kw_917) rfl rfl rfl (by decide +kernel) ⟨(Nat.le_of_ble_eq_true rfl), (Nat.le_of_ble_eq_true rfl)⟩) (h_preV hE hM hS ho14 (r := ("BuckTablesModel", Tc6, 36)) rfl) rfl rfl hl.1 rfl (lv_room (Nat.le_of_ble_eq_true rfl)) d_Mo_goOn_25 ⟨(Nat.le_of_ble_eq_true rfl), (Nat.le_of_ble_eq_true rfl)⟩) (fun r15 M13 H locs hwp hM hS => ?_)
      refine lv_istore (lv' := [(6, .int r15), (0, .ref x0), (1, .int x1), (2, .int x2), (3, .int x3), (4, .int x4), (5, .int x5)]) hx hb d_Mo_goOn_28 hl (by decide) rfl (fun ls hl => ?_)
      refine lv_aload_n hx hb d_Mo_goOn_30 rfl (lv_at hl 1 rfl) ?_
      obtain ⟨a16, ⟨fs17, he18, hv19⟩, hwp⟩ := hwp
      refine h_get (C := "BuckTablesModel") (T := Tc6) (N := 36) hx hb hts inc6 hown hK hM he18 rfl 32 (by decide) (hts _ kw_752) (fun _ h9 => h9) hv19 d_Mo_goOn_31 ?_
      refine lv_iload hx hb d_Mo_goOn_34 (lv_at hl 0 rfl) ?_
      obtain ⟨v20, ⟨n21, f22, ha23, hi24, ev20⟩, hwp⟩ := hwp
      refine h_iald hx hb hK hM ha23 rfl hi24 d_Mo_goOn_36 ?_
      rw [← ev20]
      refine lv_iconst (v := 1) hx hb d_Mo_goOn_37 (by decide) ?_
      refine lv_iadd hx hb d_Mo_goOn_38 ?_
      refine lv_aload_n hx hb d_Mo_goOn_39 rfl (lv_at hl 1 rfl) ?_
      obtain ⟨a25, ⟨fs26, he27, hv28⟩, hwp⟩ := hwp
      refine h_get (C := "BuckTablesModel") (T := Tc6) (N := 36) hx hb hts inc6 hown hK hM he27 rfl 32 (by decide) (hts _ kw_752) (fun _ h9 => h9) hv28 d_Mo_goOn_40 ?_
      refine lv_iload_n hx hb d_Mo_goOn_43 rfl (lv_at hl 3 rfl) ?_
      obtain ⟨v29, ⟨n30, f31, ha32, hi33, ev29⟩, hwp⟩ := hwp
      refine h_iald hx hb hK hM ha32 rfl hi33 d_Mo_goOn_44 ?_
      rw [← ev29]
      refine lv_icmp_ne (tgt := 89) hx hb d_Mo_goOn_45 (by decide) (fun c34 => ?_) (fun c34 => ?_)
      · replace hwp := hwp.2 c34
        exact tMo_goOn_89 C post k3 hk3 (wMo_goOn_12 post k3 n) ih x0 x1 x2 x3 x4 x5 M13 hwp H locs ls hM hS (lv_sub hl [1, 2, 3, 4, 5, 6] rfl)
      · replace hwp := hwp.1 c34
        refine lv_aload_n hx hb d_Mo_goOn_48 rfl (lv_at hl 1 rfl) ?_
        obtain ⟨a35, ⟨fs36, he37, hv38⟩, hwp⟩ := hwp
        refine h_get (C := "BuckTablesModel") (T := Tc6) (N := 36) hx hb hts inc6 hown hK hM he37 rfl 31 (by decide) (hts _ kw_751) (fun _ h9 => h9) hv38 d_Mo_goOn_49 ?_
        refine lv_iload hx hb d_Mo_goOn_52 (lv_at hl 0 rfl) ?_
        obtain ⟨v39, ⟨n40, f41, ha42, hi43, ev39⟩, hwp⟩ := hwp
        refine h_lald hx hb hK hM ha42 rfl hi43 d_Mo_goOn_54 ?_
        rw [← ev39]
        refine lv_aload_n hx hb d_Mo_goOn_55 rfl (lv_at hl 1 rfl) ?_
        refine lv_iload_n hx hb d_Mo_goOn_56 rfl (lv_at hl 2 rfl) ?_
        refine lv_iload hx hb d_Mo_goOn_57 (lv_at hl 5 rfl) ?_
        refine lv_iload_n hx hb d_Mo_goOn_59 rfl (lv_at hl 3 rfl) ?_
        refine lv_isub hx hb d_Mo_goOn_60 ?_
        refine lv_iload hx hb d_Mo_goOn_61 (lv_at hl 6 rfl) ?_
        obtain ⟨ho45, hwp⟩ := hwp
        refine h_calll hM hS hA (va_runV (As := [.int x1, .int (x4 - x2), .int x5]) (rest := [.long v39]) ⟨hx, hb, hml, hown, hts⟩ (metMo_worthOf l D κ H.size x0 x1 (x4 - x2) x5 M13 _ hwp) (cwV 3 hts (gV kw_918 kw_920 kp_31 kw_8 kw_921) rfl rfl rfl (by decide +kernel) ⟨(Nat.le_of_ble_eq_true rfl), (Nat.le_of_ble_eq_true rfl)⟩) (h_preV hE hM hS ho45 (r := ("BuckTablesModel", Tc6, 36)) rfl) rfl rfl hl.1 rfl (lv_room (Nat.le_of_ble_eq_true rfl)) d_Mo_goOn_63 ⟨(Nat.le_of_ble_eq_true rfl), (Nat.le_of_ble_eq_true rfl)⟩) (fun r46 M44 H locs hwp hM hS => ?_)
        refine lv_ladd hx hb d_Mo_goOn_66 ?_
        refine lv_aload_n hx hb d_Mo_goOn_67 rfl (lv_at hl 1 rfl) ?_
        obtain ⟨a47, ⟨fs48, he49, hv50⟩, hwp⟩ := hwp
        refine h_get (C := "BuckTablesModel") (T := Tc6) (N := 36) hx hb hts inc6 hown hK hM he49 rfl 23 (by decide) (hts _ kw_743) (fun _ h9 => h9) hv50 d_Mo_goOn_68 ?_
        refine lv_iload hx hb d_Mo_goOn_71 (lv_at hl 6 rfl) ?_
        obtain ⟨v51, ⟨n52, f53, ha54, hi55, ev51⟩, hwp⟩ := hwp
        refine h_lald hx hb hK hM ha54 rfl hi55 d_Mo_goOn_73 ?_
        rw [← ev51]
        refine lv_lsub hx hb d_Mo_goOn_74 ?_
        refine lv_aload_n hx hb d_Mo_goOn_75 rfl (lv_at hl 1 rfl) ?_
        obtain ⟨a56, ⟨fs57, he58, hv59⟩, hwp⟩ := hwp
        refine h_get (C := "BuckTablesModel") (T := Tc6) (N := 36) hx hb hts inc6 hown hK hM he58 rfl 31 (by decide) (hts _ kw_751) (fun _ h9 => h9) hv59 d_Mo_goOn_76 ?_
        refine lv_iload_n hx hb d_Mo_goOn_79 rfl (lv_at hl 3 rfl) ?_
        obtain ⟨v60, ⟨n61, f62, ha63, hi64, ev60⟩, hwp⟩ := hwp
        refine h_lald hx hb hK hM ha63 rfl hi64 d_Mo_goOn_80 ?_
        rw [← ev60]
        refine W.lcmp hx hb d_Mo_goOn_81 ?_
        refine lv_if_ne (tgt := 89) hx hb d_Mo_goOn_82 (by decide) (fun c65 => ?_) (fun c65 => ?_)
        · replace c65 := fun h9 => c65 ((lc_eq _ _).mpr h9)
          replace hwp := hwp.2 c65
          exact tMo_goOn_89 C post k3 hk3 (wMo_goOn_12 post k3 n) ih x0 x1 x2 x3 x4 x5 M44 hwp H locs ls hM hS (lv_sub hl [1, 2, 3, 4, 5, 6] rfl)
        · replace c65 := (lc_eq _ _).mp c65
          replace hwp := hwp.1 c65
          refine lv_iconst (v := 1) hx hb d_Mo_goOn_85 (by decide) ?_
          refine lv_goto (tgt := 90) hx hb d_Mo_goOn_86 (by decide) ?_
          exact tMo_goOn_90 C post k3 hk3 (wMo_goOn_12 post k3 n) ih x0 x1 x2 x3 x4 x5 (1 : Int32) M44 hwp H locs ls hM hS (lv_sub hl [1, 2, 3, 4, 5, 6] rfl)
def wMo_goOn_3 (post : Int32 → Hp → Prop)  : Nat → Nat → Int32 → Int32 → Int32 → Int32 → Hp → Prop
  | 0 => fun _ _ _ _ _ _ => False
  | n + 1 => fun x0 x1 x2 x3 x4 M => ((x4 ≤ x2 → (post (0 : Int32) M)) ∧ (¬ x4 ≤ x2 → (∃ n67 : Nat, wMo_goOn_12 post (wMo_goOn_3 post n) n67 x0 x1 x2 x3 x4 (0 : Int32) M)))
set_option maxRecDepth 100000 in
set_option maxHeartbeats 4000000 in
theorem tMo_goOn_3 {p : Program} {l : Launch} {e : Env} {s : State} {m : MethodId} {args : Array Value} {below : List Frame} {meth : Method} {c : Code} {D : va_G} {κ : Nat → ClassId} {A : Nat → Prop} (C : Cx_Mo_goOn p s m args meth c D κ A) (post : Int32 → Hp → Prop)  : ∀ (n : Nat) (x0 : Nat) (x1 : Int32) (x2 : Int32) (x3 : Int32) (x4 : Int32) (M : Hp), wMo_goOn_3 post n x0 x1 x2 x3 x4 M → Y p l e rm_Mo_goOn s m args below meth c D kCl (hTys κ) A 8 0 0 (MQ below (va_Qi post (hB D kCl (hTys κ) A) A) args s 0 0 A) M 3 [(0, .ref x0), (1, .int x1), (2, .int x2), (3, .int x3), (4, .int x4)] [] := by
  obtain ⟨hx, hb, hml, hr, hown, hts, hlocks, hE, hA⟩ := id C
  have hK := hE.1
  intro n
  induction n with
  | zero => intro x0 x1 x2 x3 x4 M hwp; exact hwp.elim
  | succ n ih =>
    intro x0 x1 x2 x3 x4 M hwp H locs ls hM hS hl
    unfold wMo_goOn_3 at hwp
    refine lv_iload hx hb d_Mo_goOn_3 (lv_at hl 4 rfl) ?_
    refine lv_iload_n hx hb d_Mo_goOn_5 rfl (lv_at hl 2 rfl) ?_
    refine lv_icmp_le (tgt := 133) hx hb d_Mo_goOn_6 (by decide) (fun c66 => ?_) (fun c66 => ?_)
    · replace hwp := hwp.1 c66
      refine lv_iconst (v := 0) hx hb d_Mo_goOn_133 (by decide) ?_
      exact W.iret (v := (0 : Int32)) hx hb hr (fun t ht hW => ⟨⟨(0 : Int32), M, rfl, hwp, by show hw D kCl (hTys κ) A M t.heap; rw [ht]; exact hM⟩, hS.F ht⟩) hS.2.2 d_Mo_goOn_134
    · replace hwp := hwp.2 c66
      refine lv_iconst (v := 0) hx hb d_Mo_goOn_9 (by decide) ?_
      refine lv_istore (lv' := [(5, .int (0 : Int32)), (0, .ref x0), (1, .int x1), (2, .int x2), (3, .int x3), (4, .int x4)]) hx hb d_Mo_goOn_10 hl (by decide) rfl (fun ls hl => ?_)
      obtain ⟨n67, hwp⟩ := hwp
      exact tMo_goOn_12 C post (wMo_goOn_3 post n) ih n67 x0 x1 x2 x3 x4 (0 : Int32) M hwp H locs ls hM hS (lv_sub hl [1, 2, 3, 4, 5, 0] rfl)
def wpMo_goOn (self : Nat) (p0 : Int32) (p1 : Int32) (p2 : Int32) (M : Hp) (post : Int32 → Hp → Prop) : Prop := (∃ n68 : Nat, wMo_goOn_3 post n68 self p0 p1 p2 p2 M)
set_option maxRecDepth 100000 in
set_option maxHeartbeats 4000000 in
theorem eMo_goOn {p : Program} {l : Launch} {e : Env} {s : State} {m : MethodId} {args : Array Value} {below : List Frame} {meth : Method} {c : Code} {D : va_G} {κ : Nat → ClassId} {A : Nat → Prop} (C : Cx_Mo_goOn p s m args meth c D κ A) (post : Int32 → Hp → Prop) (self : Nat) (p0 : Int32) (p1 : Int32) (p2 : Int32) (M : Hp) (hwp : wpMo_goOn self p0 p1 p2 M post) : Y p l e rm_Mo_goOn s m args below meth c D kCl (hTys κ) A 8 0 0 (MQ below (va_Qi post (hB D kCl (hTys κ) A) A) args s 0 0 A) M 0 [(0, .ref self), (1, .int p0), (2, .int p1), (3, .int p2)] [] := by
  obtain ⟨hx, hb, hml, hr, hown, hts, hlocks, hE, hA⟩ := id C
  have hK := hE.1
  intro H locs ls hM hS hl
  unfold wpMo_goOn at hwp
  refine lv_iload_n hx hb d_Mo_goOn_0 rfl (lv_at hl 3 rfl) ?_
  refine lv_istore (lv' := [(4, .int p2), (0, .ref self), (1, .int p0), (2, .int p1), (3, .int p2)]) hx hb d_Mo_goOn_1 hl (by decide) rfl (fun ls hl => ?_)
  obtain ⟨n68, hwp⟩ := hwp
  exact tMo_goOn_3 C post n68 self p0 p1 p2 p2 M hwp H locs ls hM hS (lv_sub hl [1, 2, 3, 4, 0] rfl)
set_option maxRecDepth 100000 in
set_option maxHeartbeats 4000000 in
theorem metMo_goOn (l : Launch) (D : va_G) (κ : Nat → ClassId) (sz : Nat) (self : Nat) (p0 : Int32) (p1 : Int32) (p2 : Int32) (M : Hp) (post : Int32 → Hp → Prop) (hwp : wpMo_goOn self p0 p1 p2 M post) : Met l y_Mo_goOn ws_Mo_goOn rm_Mo_goOn (hPc D kCl (hTys κ) M sz [.ref self, .int p0, .int p1, .int p2]) (va_Qi post (hB D kCl (hTys κ) (hAx M sz)) (hAx M sz)) 0 0 (hAx M sz) := by
  refine Met.ofW (cc := prog_8_method_22_code) (maxL := 8) (ret := (some .int)) (by decide +kernel) rfl ?_
  intro p e s m args below meth c s₁ B hml hv
  obtain ⟨rfl, hsz, hE, hM0⟩ := hv
  have hts : ∀ w ∈ WG, w.before _ s = true := fun w h => atoms_spec (ws := ws_Mo_goOn) B.pre w (List.mem_cons_of_mem _ h)
  subst hsz
  have C : Cx_Mo_goOn p s m _ meth c D κ (hAx M s.heap.size) := ⟨B.exec, B.bytes, hml, B.returns, findClass_of_methodNamed B.named, hts, B.notSynchronized, hE, fun q h => Or.inr h⟩
  have hl := lv_entry ([.ref self, .int p0, .int p1, .int p2]) (n := 8) (Nat.le_of_ble_eq_true rfl)
  rw [lg_entry_eq]
  generalize (lg_sl ([.ref self, .int p0, .int p1, .int p2]) ++ List.replicate (8 - (lg_sl ([.ref self, .int p0, .int p1, .int p2])).length) Slot.unset).toArray = ls at hl ⊢
  exact eMo_goOn C post self p0 p1 p2 M hwp s.heap [] ls (hM0.self (sz := s.heap.size)) va_S.rf hl
abbrev rm_Mo_mark : Room := { frames := 0, cells := 0, slots := 0, locals := 0 }
def Cx_Mo_mark (p : Program) (s : State) (m : MethodId) (args : Array Value) (meth : Method) (c : Code) (D : va_G) (κ : Nat → ClassId) (A : Nat → Prop) : Prop := p.tables.exec = Jvm.exec ∧ c.code = prog_8_method_23_code ∧ c.maxLocals = 6 ∧ meth.sig.returnType = none ∧ s.vm.findClass "BuckTablesModel" = some m.cls ∧ (∀ w ∈ WG, w.before args s = true) ∧ meth.locks = false ∧ hEnv D kCl (hTys κ) A s ∧ (∀ q, s.heap.size ≤ q → A q)
def wMo_mark_3 (post : Hp → Prop)  : Nat → Nat → Int32 → Int32 → Int32 → Int32 → Hp → Prop
  | 0 => fun _ _ _ _ _ _ => False
  | n + 1 => fun x0 x1 x3 x4 x5 M => ((x3 ≤ x5 → (post M)) ∧ (¬ x3 ≤ x5 → (∃ a2 : Nat, fA M x0 6 25 a2 ∧ (∃ M10 : Hp, sI M a2 (((81 : Int32) * x1) + x5) x4 M10 ∧ (∀ z11 : Int32, z11 = x5 + 1 → ((wMo_mark_3 post n) x0 x1 x3 x4 z11 M10))))))
set_option maxRecDepth 100000 in
set_option maxHeartbeats 4000000 in
theorem tMo_mark_3 {p : Program} {l : Launch} {e : Env} {s : State} {m : MethodId} {args : Array Value} {below : List Frame} {meth : Method} {c : Code} {D : va_G} {κ : Nat → ClassId} {A : Nat → Prop} (C : Cx_Mo_mark p s m args meth c D κ A) (post : Hp → Prop)  : ∀ (n : Nat) (x0 : Nat) (x1 : Int32) (x3 : Int32) (x4 : Int32) (x5 : Int32) (M : Hp), wMo_mark_3 post n x0 x1 x3 x4 x5 M → Y p l e rm_Mo_mark s m args below meth c D kCl (hTys κ) A 6 0 0 (MQ below (va_Qv post (hB D kCl (hTys κ) A) A) args s 0 0 A) M 3 [(0, .ref x0), (1, .int x1), (3, .int x3), (4, .int x4), (5, .int x5)] [] := by
  obtain ⟨hx, hb, hml, hr, hown, hts, hlocks, hE, hA⟩ := id C
  have hK := hE.1
  intro n
  induction n with
  | zero => intro x0 x1 x3 x4 x5 M hwp; exact hwp.elim
  | succ n ih =>
    intro x0 x1 x3 x4 x5 M hwp H locs ls hM hS hl
    unfold wMo_mark_3 at hwp
    refine lv_iload hx hb d_Mo_mark_3 (lv_at hl 4 rfl) ?_
    refine lv_iload_n hx hb d_Mo_mark_5 rfl (lv_at hl 2 rfl) ?_
    refine lv_icmp_ge (tgt := 29) hx hb d_Mo_mark_6 (by decide) (fun c1 => ?_) (fun c1 => ?_)
    · replace hwp := hwp.1 c1
      exact W.vret hx hb hr (fun t ht hW => ⟨⟨M, rfl, hwp, by show hw D kCl (hTys κ) A M t.heap; rw [ht]; exact hM⟩, hS.F ht⟩) hS.2.2 d_Mo_mark_29
    · replace hwp := hwp.2 c1
      refine lv_aload_n hx hb d_Mo_mark_9 rfl (lv_at hl 0 rfl) ?_
      obtain ⟨a2, ⟨fs3, he4, hv5⟩, hwp⟩ := hwp
      refine h_get (C := "BuckTablesModel") (T := Tc6) (N := 36) hx hb hts inc6 hown hK hM he4 rfl 25 (by decide) (hts _ kw_745) (fun _ h9 => h9) hv5 d_Mo_mark_10 ?_
      refine lv_bipush (v := 81) hx hb d_Mo_mark_13 (by decide) ?_
      refine lv_iload_n hx hb d_Mo_mark_15 rfl (lv_at hl 1 rfl) ?_
      refine lv_imul hx hb d_Mo_mark_16 ?_
      refine lv_iload hx hb d_Mo_mark_17 (lv_at hl 4 rfl) ?_
      refine lv_iadd hx hb d_Mo_mark_19 ?_
      refine lv_iload hx hb d_Mo_mark_20 (lv_at hl 3 rfl) ?_
      obtain ⟨M10, ⟨n6, f7, ha8, hi9, eM10⟩, hwp⟩ := hwp
      refine h_iast hx hb hK hM hS ha8 rfl hi9 d_Mo_mark_22 (fun H locs hM hS => ?_)
      rw [← eM10] at hM
      obtain ⟨z11, ez11⟩ : ∃ y : Int32, y = x5 + 1 := ⟨_, rfl⟩
      replace hwp := hwp z11 ez11
      refine lv_iinc (v := z11) (lv' := [(5, .int z11), (0, .ref x0), (1, .int x1), (3, .int x3), (4, .int x4)]) hx hb d_Mo_mark_23 hl (k := 4) rfl (by rw [ez11]; rfl) (by decide) rfl (fun ls hl => ?_)
      refine lv_goto (tgt := 3) hx hb d_Mo_mark_26 (by decide) ?_
      exact ih x0 x1 x3 x4 z11 M10 hwp H locs ls hM hS (lv_sub hl [1, 2, 3, 4, 0] rfl)
def wpMo_mark (self : Nat) (p0 : Int32) (p1 : Int32) (p2 : Int32) (p3 : Int32) (M : Hp) (post : Hp → Prop) : Prop := (∃ n12 : Nat, wMo_mark_3 post n12 self p0 p2 p3 p1 M)
set_option maxRecDepth 100000 in
set_option maxHeartbeats 4000000 in
theorem eMo_mark {p : Program} {l : Launch} {e : Env} {s : State} {m : MethodId} {args : Array Value} {below : List Frame} {meth : Method} {c : Code} {D : va_G} {κ : Nat → ClassId} {A : Nat → Prop} (C : Cx_Mo_mark p s m args meth c D κ A) (post : Hp → Prop) (self : Nat) (p0 : Int32) (p1 : Int32) (p2 : Int32) (p3 : Int32) (M : Hp) (hwp : wpMo_mark self p0 p1 p2 p3 M post) : Y p l e rm_Mo_mark s m args below meth c D kCl (hTys κ) A 6 0 0 (MQ below (va_Qv post (hB D kCl (hTys κ) A) A) args s 0 0 A) M 0 [(0, .ref self), (1, .int p0), (2, .int p1), (3, .int p2), (4, .int p3)] [] := by
  obtain ⟨hx, hb, hml, hr, hown, hts, hlocks, hE, hA⟩ := id C
  have hK := hE.1
  intro H locs ls hM hS hl
  unfold wpMo_mark at hwp
  refine lv_iload_n hx hb d_Mo_mark_0 rfl (lv_at hl 2 rfl) ?_
  refine lv_istore (lv' := [(5, .int p1), (0, .ref self), (1, .int p0), (2, .int p1), (3, .int p2), (4, .int p3)]) hx hb d_Mo_mark_1 hl (by decide) rfl (fun ls hl => ?_)
  obtain ⟨n12, hwp⟩ := hwp
  exact tMo_mark_3 C post n12 self p0 p2 p3 p1 M hwp H locs ls hM hS (lv_sub hl [1, 2, 4, 5, 0] rfl)
set_option maxRecDepth 100000 in
set_option maxHeartbeats 4000000 in
theorem metMo_mark (l : Launch) (D : va_G) (κ : Nat → ClassId) (sz : Nat) (self : Nat) (p0 : Int32) (p1 : Int32) (p2 : Int32) (p3 : Int32) (M : Hp) (post : Hp → Prop) (hwp : wpMo_mark self p0 p1 p2 p3 M post) : Met l y_Mo_mark ws_Mo_mark rm_Mo_mark (hPc D kCl (hTys κ) M sz [.ref self, .int p0, .int p1, .int p2, .int p3]) (va_Qv post (hB D kCl (hTys κ) (hAx M sz)) (hAx M sz)) 0 0 (hAx M sz) := by
  refine Met.ofW (cc := prog_8_method_23_code) (maxL := 6) (ret := none) (by decide +kernel) rfl ?_
  intro p e s m args below meth c s₁ B hml hv
  obtain ⟨rfl, hsz, hE, hM0⟩ := hv
  have hts : ∀ w ∈ WG, w.before _ s = true := fun w h => atoms_spec (ws := ws_Mo_mark) B.pre w (List.mem_cons_of_mem _ h)
  subst hsz
  have C : Cx_Mo_mark p s m _ meth c D κ (hAx M s.heap.size) := ⟨B.exec, B.bytes, hml, B.returns, findClass_of_methodNamed B.named, hts, B.notSynchronized, hE, fun q h => Or.inr h⟩
  have hl := lv_entry ([.ref self, .int p0, .int p1, .int p2, .int p3]) (n := 6) (Nat.le_of_ble_eq_true rfl)
  rw [lg_entry_eq]
  generalize (lg_sl ([.ref self, .int p0, .int p1, .int p2, .int p3]) ++ List.replicate (6 - (lg_sl ([.ref self, .int p0, .int p1, .int p2, .int p3])).length) Slot.unset).toArray = ls at hl ⊢
  exact eMo_mark C post self p0 p1 p2 p3 M hwp s.heap [] ls (hM0.self (sz := s.heap.size)) va_S.rf hl
abbrev rm_Mo_walk : Room := { frames := 2, cells := 0, slots := 0, locals := 57 }
def Cx_Mo_walk (p : Program) (s : State) (m : MethodId) (args : Array Value) (meth : Method) (c : Code) (D : va_G) (κ : Nat → ClassId) (A : Nat → Prop) : Prop := p.tables.exec = Jvm.exec ∧ c.code = prog_8_method_24_code ∧ c.maxLocals = 6 ∧ meth.sig.returnType = none ∧ s.vm.findClass "BuckTablesModel" = some m.cls ∧ (∀ w ∈ WG, w.before args s = true) ∧ meth.locks = false ∧ hEnv D kCl (hTys κ) A s ∧ (∀ q, s.heap.size ≤ q → A q)
def wMo_walk_128 (post : Hp → Prop) (k8 : Nat → Int32 → Int32 → Int32 → Hp → Prop) (x0 : Nat) (x1 : Int32) (x2 : Int32) (x3 : Int32) (M : Hp) : Prop := (k8 x0 x1 x2 x3 M)
set_option maxRecDepth 100000 in
set_option maxHeartbeats 4000000 in
theorem tMo_walk_128 {p : Program} {l : Launch} {e : Env} {s : State} {m : MethodId} {args : Array Value} {below : List Frame} {meth : Method} {c : Code} {D : va_G} {κ : Nat → ClassId} {A : Nat → Prop} (C : Cx_Mo_walk p s m args meth c D κ A) (post : Hp → Prop) (k8 : Nat → Int32 → Int32 → Int32 → Hp → Prop) (hk8 : ∀ (x0 : Nat) (x1 : Int32) (x2 : Int32) (x3 : Int32) (M : Hp), k8 x0 x1 x2 x3 M → Y p l e rm_Mo_walk s m args below meth c D kCl (hTys κ) A 6 0 0 (MQ below (va_Qv post (hB D kCl (hTys κ) A) A) args s 0 0 A) M 8 [(0, .ref x0), (1, .int x1), (2, .int x2), (3, .int x3)] []) (x0 : Nat) (x1 : Int32) (x2 : Int32) (x3 : Int32) (M : Hp) (hwp : wMo_walk_128 post k8 x0 x1 x2 x3 M) : Y p l e rm_Mo_walk s m args below meth c D kCl (hTys κ) A 6 0 0 (MQ below (va_Qv post (hB D kCl (hTys κ) A) A) args s 0 0 A) M 128 [(0, .ref x0), (1, .int x1), (2, .int x2), (3, .int x3)] [] := by
  obtain ⟨hx, hb, hml, hr, hown, hts, hlocks, hE, hA⟩ := id C
  have hK := hE.1
  intro H locs ls hM hS hl
  unfold wMo_walk_128 at hwp
  refine lv_goto (tgt := 8) hx hb d_Mo_walk_128 (by decide) ?_
  exact hk8 x0 x1 x2 x3 M hwp H locs ls hM hS (lv_sub hl [0, 1, 2, 3] rfl)
def wMo_walk_8 (post : Hp → Prop)  : Nat → Nat → Int32 → Int32 → Int32 → Hp → Prop
  | 0 => fun _ _ _ _ _ => False
  | n + 1 => fun x0 x1 x2 x3 M => ((x2 ≤ x3 → (post M)) ∧ (¬ x2 ≤ x3 → (hob M x0 6 ∧ (wpMo_goOn x0 x1 x3 x2 M (fun (r4 : Int32) (M2 : Hp) => ((r4 = 0 → (hob M2 x0 6 ∧ (wpMo_mark x0 x1 x3 (x3 + (1 : Int32)) (2 : Int32) M2 (fun (M44 : Hp) => (∀ z46 : Int32, z46 = x3 + 1 → (wMo_walk_128 post (wMo_walk_8 post n) x0 x1 x2 z46 M44)))))) ∧ (¬ r4 = 0 → (∀ z6 : Int32, z6 = (x3 + (r4 / (8 : Int32))) → (hob M2 x0 6 ∧ (wpMo_mark x0 x1 x3 z6 (4 : Int32) M2 (fun (M7 : Hp) => (∃ a9 : Nat, fA M7 x0 6 25 a9 ∧ (∃ M17 : Hp, sI M7 a9 (((81 : Int32) * x1) + x3) (1 : Int32) M17 ∧ (∃ a18 : Nat, fA M17 x0 6 26 a18 ∧ (∃ M26 : Hp, sI M17 a18 (((81 : Int32) * x1) + x3) (r4 / (8 : Int32)) M26 ∧ (∃ a27 : Nat, fA M26 x0 6 27 a27 ∧ (∃ M35 : Hp, sI M26 a27 (((81 : Int32) * x1) + x3) (r4 - r4 / (8 : Int32) * (8 : Int32)) M35 ∧ (hob M35 x0 6 ∧ (wpMo_behind x0 x2 z6 M35 (fun (r38 : Int32) (M36 : Hp) => (hob M36 x0 6 ∧ (wpMo_mark x0 x1 z6 r38 (3 : Int32) M36 (fun (M39 : Hp) => (hob M39 x0 6 ∧ (wpMo_behind x0 x2 z6 M39 (fun (r43 : Int32) (M41 : Hp) => (wMo_walk_128 post (wMo_walk_8 post n) x0 x1 x2 r43 M41)))))))))))))))))))))))))))
set_option maxRecDepth 100000 in
set_option maxHeartbeats 4000000 in
theorem tMo_walk_8 {p : Program} {l : Launch} {e : Env} {s : State} {m : MethodId} {args : Array Value} {below : List Frame} {meth : Method} {c : Code} {D : va_G} {κ : Nat → ClassId} {A : Nat → Prop} (C : Cx_Mo_walk p s m args meth c D κ A) (post : Hp → Prop)  : ∀ (n : Nat) (x0 : Nat) (x1 : Int32) (x2 : Int32) (x3 : Int32) (M : Hp), wMo_walk_8 post n x0 x1 x2 x3 M → Y p l e rm_Mo_walk s m args below meth c D kCl (hTys κ) A 6 0 0 (MQ below (va_Qv post (hB D kCl (hTys κ) A) A) args s 0 0 A) M 8 [(0, .ref x0), (1, .int x1), (2, .int x2), (3, .int x3)] [] := by
  obtain ⟨hx, hb, hml, hr, hown, hts, hlocks, hE, hA⟩ := id C
  have hK := hE.1
  intro n
  induction n with
  | zero => intro x0 x1 x2 x3 M hwp; exact hwp.elim
  | succ n ih =>
    intro x0 x1 x2 x3 M hwp H locs ls hM hS hl
    unfold wMo_walk_8 at hwp
    refine lv_iload_n hx hb d_Mo_walk_8 rfl (lv_at hl 3 rfl) ?_
    refine lv_iload_n hx hb d_Mo_walk_9 rfl (lv_at hl 2 rfl) ?_
    refine lv_icmp_ge (tgt := 131) hx hb d_Mo_walk_10 (by decide) (fun c1 => ?_) (fun c1 => ?_)
    · replace hwp := hwp.1 c1
      exact W.vret hx hb hr (fun t ht hW => ⟨⟨M, rfl, hwp, by show hw D kCl (hTys κ) A M t.heap; rw [ht]; exact hM⟩, hS.F ht⟩) hS.2.2 d_Mo_walk_131
    · replace hwp := hwp.2 c1
      refine lv_aload_n hx hb d_Mo_walk_13 rfl (lv_at hl 0 rfl) ?_
      refine lv_iload_n hx hb d_Mo_walk_14 rfl (lv_at hl 1 rfl) ?_
      refine lv_iload_n hx hb d_Mo_walk_15 rfl (lv_at hl 3 rfl) ?_
      refine lv_iload_n hx hb d_Mo_walk_16 rfl (lv_at hl 2 rfl) ?_
      obtain ⟨ho3, hwp⟩ := hwp
      refine h_calli hM hS hA (va_runV (As := [.int x1, .int x3, .int x2]) (rest := []) ⟨hx, hb, hml, hown, hts⟩ (metMo_goOn l D κ H.size x0 x1 x3 x2 M _ hwp) (cwV 3 hts (gV kw_926 kw_928 kp_33 kw_8 kw_929) rfl rfl rfl (by decide +kernel) ⟨(Nat.le_of_ble_eq_true rfl), (Nat.le_of_ble_eq_true rfl)⟩) (h_preV hE hM hS ho3 (r := ("BuckTablesModel", Tc6, 36)) rfl) rfl rfl hl.1 rfl (lv_room (Nat.le_of_ble_eq_true rfl)) d_Mo_walk_17 ⟨(Nat.le_of_ble_eq_true rfl), (Nat.le_of_ble_eq_true rfl)⟩) (fun r4 M2 H locs hwp hM hS => ?_)
      refine lv_istore (lv' := [(4, .int r4), (0, .ref x0), (1, .int x1), (2, .int x2), (3, .int x3)]) hx hb d_Mo_walk_20 hl (by decide) rfl (fun ls hl => ?_)
      refine lv_iload hx hb d_Mo_walk_22 (lv_at hl 0 rfl) ?_
      refine lv_if_ne (tgt := 43) hx hb d_Mo_walk_24 (by decide) (fun c5 => ?_) (fun c5 => ?_)
      · replace hwp := hwp.2 c5
        refine lv_iload_n hx hb d_Mo_walk_43 rfl (lv_at hl 4 rfl) ?_
        refine lv_iload hx hb d_Mo_walk_44 (lv_at hl 0 rfl) ?_
        refine lv_bipush (v := 8) hx hb d_Mo_walk_46 (by decide) ?_
        refine lv_idiv hx hb d_Mo_walk_48 (by decide) ?_
        refine lv_iadd hx hb d_Mo_walk_49 ?_
        refine lv_topi (fun z6 ez6 => ?_)
        replace hwp := hwp z6 ez6
        refine lv_istore (lv' := [(5, .int z6), (4, .int r4), (0, .ref x0), (1, .int x1), (2, .int x2), (3, .int x3)]) hx hb d_Mo_walk_50 hl (by decide) rfl (fun ls hl => ?_)
        refine lv_aload_n hx hb d_Mo_walk_52 rfl (lv_at hl 2 rfl) ?_
        refine lv_iload_n hx hb d_Mo_walk_53 rfl (lv_at hl 3 rfl) ?_
        refine lv_iload_n hx hb d_Mo_walk_54 rfl (lv_at hl 5 rfl) ?_
        refine lv_iload hx hb d_Mo_walk_55 (lv_at hl 0 rfl) ?_
        refine lv_iconst (v := 4) hx hb d_Mo_walk_57 (by decide) ?_
        obtain ⟨ho8, hwp⟩ := hwp
        refine h_callv hM hS hA (va_runV (As := [.int x1, .int x3, .int z6, .int (4 : Int32)]) (rest := []) ⟨hx, hb, hml, hown, hts⟩ (metMo_mark l D κ H.size x0 x1 x3 z6 (4 : Int32) M2 _ hwp) (cwV 4 hts (gV kw_930 kw_932 kp_34 kw_8 kw_933) rfl rfl rfl (by decide +kernel) ⟨(Nat.le_of_ble_eq_true rfl), (Nat.le_of_ble_eq_true rfl)⟩) (h_preV hE hM hS ho8 (r := ("BuckTablesModel", Tc6, 36)) rfl) rfl rfl hl.1 rfl (lv_room (Nat.le_of_ble_eq_true rfl)) d_Mo_walk_58 ⟨(Nat.le_of_ble_eq_true rfl), (Nat.le_of_ble_eq_true rfl)⟩) (fun M7 H locs hwp hM hS => ?_)
        refine lv_aload_n hx hb d_Mo_walk_61 rfl (lv_at hl 2 rfl) ?_
        obtain ⟨a9, ⟨fs10, he11, hv12⟩, hwp⟩ := hwp
        refine h_get (C := "BuckTablesModel") (T := Tc6) (N := 36) hx hb hts inc6 hown hK hM he11 rfl 25 (by decide) (hts _ kw_745) (fun _ h9 => h9) hv12 d_Mo_walk_62 ?_
        refine lv_bipush (v := 81) hx hb d_Mo_walk_65 (by decide) ?_
        refine lv_iload_n hx hb d_Mo_walk_67 rfl (lv_at hl 3 rfl) ?_
        refine lv_imul hx hb d_Mo_walk_68 ?_
        refine lv_iload_n hx hb d_Mo_walk_69 rfl (lv_at hl 5 rfl) ?_
        refine lv_iadd hx hb d_Mo_walk_70 ?_
        refine lv_iconst (v := 1) hx hb d_Mo_walk_71 (by decide) ?_
        obtain ⟨M17, ⟨n13, f14, ha15, hi16, eM17⟩, hwp⟩ := hwp
        refine h_iast hx hb hK hM hS ha15 rfl hi16 d_Mo_walk_72 (fun H locs hM hS => ?_)
        rw [← eM17] at hM
        refine lv_aload_n hx hb d_Mo_walk_73 rfl (lv_at hl 2 rfl) ?_
        obtain ⟨a18, ⟨fs19, he20, hv21⟩, hwp⟩ := hwp
        refine h_get (C := "BuckTablesModel") (T := Tc6) (N := 36) hx hb hts inc6 hown hK hM he20 rfl 26 (by decide) (hts _ kw_746) (fun _ h9 => h9) hv21 d_Mo_walk_74 ?_
        refine lv_bipush (v := 81) hx hb d_Mo_walk_77 (by decide) ?_
        refine lv_iload_n hx hb d_Mo_walk_79 rfl (lv_at hl 3 rfl) ?_
        refine lv_imul hx hb d_Mo_walk_80 ?_
        refine lv_iload_n hx hb d_Mo_walk_81 rfl (lv_at hl 5 rfl) ?_
        refine lv_iadd hx hb d_Mo_walk_82 ?_
        refine lv_iload hx hb d_Mo_walk_83 (lv_at hl 1 rfl) ?_
        refine lv_bipush (v := 8) hx hb d_Mo_walk_85 (by decide) ?_
        refine lv_idiv hx hb d_Mo_walk_87 (by decide) ?_
        obtain ⟨M26, ⟨n22, f23, ha24, hi25, eM26⟩, hwp⟩ := hwp
        refine h_iast hx hb hK hM hS ha24 rfl hi25 d_Mo_walk_88 (fun H locs hM hS => ?_)
        rw [← eM26] at hM
        refine lv_aload_n hx hb d_Mo_walk_89 rfl (lv_at hl 2 rfl) ?_
        obtain ⟨a27, ⟨fs28, he29, hv30⟩, hwp⟩ := hwp
        refine h_get (C := "BuckTablesModel") (T := Tc6) (N := 36) hx hb hts inc6 hown hK hM he29 rfl 27 (by decide) (hts _ kw_747) (fun _ h9 => h9) hv30 d_Mo_walk_90 ?_
        refine lv_bipush (v := 81) hx hb d_Mo_walk_93 (by decide) ?_
        refine lv_iload_n hx hb d_Mo_walk_95 rfl (lv_at hl 3 rfl) ?_
        refine lv_imul hx hb d_Mo_walk_96 ?_
        refine lv_iload_n hx hb d_Mo_walk_97 rfl (lv_at hl 5 rfl) ?_
        refine lv_iadd hx hb d_Mo_walk_98 ?_
        refine lv_iload hx hb d_Mo_walk_99 (lv_at hl 1 rfl) ?_
        refine lv_bipush (v := 8) hx hb d_Mo_walk_101 (by decide) ?_
        refine lv_irem hx hb d_Mo_walk_103 (by decide) ?_
        obtain ⟨M35, ⟨n31, f32, ha33, hi34, eM35⟩, hwp⟩ := hwp
        refine h_iast hx hb hK hM hS ha33 rfl hi34 d_Mo_walk_104 (fun H locs hM hS => ?_)
        rw [← eM35] at hM
        refine lv_aload_n hx hb d_Mo_walk_105 rfl (lv_at hl 2 rfl) ?_
        refine lv_iload_n hx hb d_Mo_walk_106 rfl (lv_at hl 3 rfl) ?_
        refine lv_iload hx hb d_Mo_walk_107 (lv_at hl 0 rfl) ?_
        refine lv_aload_n hx hb d_Mo_walk_109 rfl (lv_at hl 2 rfl) ?_
        refine lv_iload_n hx hb d_Mo_walk_110 rfl (lv_at hl 4 rfl) ?_
        refine lv_iload hx hb d_Mo_walk_111 (lv_at hl 0 rfl) ?_
        obtain ⟨ho37, hwp⟩ := hwp
        refine h_calli hM hS hA (va_runV (As := [.int x2, .int z6]) (rest := [.int z6, .int x1, .ref x0]) ⟨hx, hb, hml, hown, hts⟩ (metMo_behind l D κ H.size x0 x2 z6 M35 _ hwp) (cwV 2 hts (gV kw_914 kw_916 kp_30 kw_8 kw_917) rfl rfl rfl (by decide +kernel) ⟨(Nat.le_of_ble_eq_true rfl), (Nat.le_of_ble_eq_true rfl)⟩) (h_preV hE hM hS ho37 (r := ("BuckTablesModel", Tc6, 36)) rfl) rfl rfl hl.1 rfl (lv_room (Nat.le_of_ble_eq_true rfl)) d_Mo_walk_113 ⟨(Nat.le_of_ble_eq_true rfl), (Nat.le_of_ble_eq_true rfl)⟩) (fun r38 M36 H locs hwp hM hS => ?_)
        refine lv_iconst (v := 3) hx hb d_Mo_walk_116 (by decide) ?_
        obtain ⟨ho40, hwp⟩ := hwp
        refine h_callv hM hS hA (va_runV (As := [.int x1, .int z6, .int r38, .int (3 : Int32)]) (rest := []) ⟨hx, hb, hml, hown, hts⟩ (metMo_mark l D κ H.size x0 x1 z6 r38 (3 : Int32) M36 _ hwp) (cwV 4 hts (gV kw_930 kw_932 kp_34 kw_8 kw_933) rfl rfl rfl (by decide +kernel) ⟨(Nat.le_of_ble_eq_true rfl), (Nat.le_of_ble_eq_true rfl)⟩) (h_preV hE hM hS ho40 (r := ("BuckTablesModel", Tc6, 36)) rfl) rfl rfl hl.1 rfl (lv_room (Nat.le_of_ble_eq_true rfl)) d_Mo_walk_117 ⟨(Nat.le_of_ble_eq_true rfl), (Nat.le_of_ble_eq_true rfl)⟩) (fun M39 H locs hwp hM hS => ?_)
        refine lv_aload_n hx hb d_Mo_walk_120 rfl (lv_at hl 2 rfl) ?_
        refine lv_iload_n hx hb d_Mo_walk_121 rfl (lv_at hl 4 rfl) ?_
        refine lv_iload hx hb d_Mo_walk_122 (lv_at hl 0 rfl) ?_
        obtain ⟨ho42, hwp⟩ := hwp
        refine h_calli hM hS hA (va_runV (As := [.int x2, .int z6]) (rest := []) ⟨hx, hb, hml, hown, hts⟩ (metMo_behind l D κ H.size x0 x2 z6 M39 _ hwp) (cwV 2 hts (gV kw_914 kw_916 kp_30 kw_8 kw_917) rfl rfl rfl (by decide +kernel) ⟨(Nat.le_of_ble_eq_true rfl), (Nat.le_of_ble_eq_true rfl)⟩) (h_preV hE hM hS ho42 (r := ("BuckTablesModel", Tc6, 36)) rfl) rfl rfl hl.1 rfl (lv_room (Nat.le_of_ble_eq_true rfl)) d_Mo_walk_124 ⟨(Nat.le_of_ble_eq_true rfl), (Nat.le_of_ble_eq_true rfl)⟩) (fun r43 M41 H locs hwp hM hS => ?_)
        refine lv_istore_n (lv' := [(3, .int r43), (5, .int z6), (4, .int r4), (0, .ref x0), (1, .int x1), (2, .int x2)]) hx hb d_Mo_walk_127 rfl hl (by decide) rfl (fun ls hl => ?_)
        exact tMo_walk_128 C post (wMo_walk_8 post n) ih x0 x1 x2 r43 M41 hwp H locs ls hM hS (lv_sub hl [3, 4, 5, 0] rfl)
      · replace hwp := hwp.1 c5
        refine lv_aload_n hx hb d_Mo_walk_27 rfl (lv_at hl 1 rfl) ?_
        refine lv_iload_n hx hb d_Mo_walk_28 rfl (lv_at hl 2 rfl) ?_
        refine lv_iload_n hx hb d_Mo_walk_29 rfl (lv_at hl 4 rfl) ?_
        refine lv_iload_n hx hb d_Mo_walk_30 rfl (lv_at hl 4 rfl) ?_
        refine lv_iconst (v := 1) hx hb d_Mo_walk_31 (by decide) ?_
        refine lv_iadd hx hb d_Mo_walk_32 ?_
        refine lv_iconst (v := 2) hx hb d_Mo_walk_33 (by decide) ?_
        obtain ⟨ho45, hwp⟩ := hwp
        refine h_callv hM hS hA (va_runV (As := [.int x1, .int x3, .int (x3 + (1 : Int32)), .int (2 : Int32)]) (rest := []) ⟨hx, hb, hml, hown, hts⟩ (metMo_mark l D κ H.size x0 x1 x3 (x3 + (1 : Int32)) (2 : Int32) M2 _ hwp) (cwV 4 hts (gV kw_930 kw_932 kp_34 kw_8 kw_933) rfl rfl rfl (by decide +kernel) ⟨(Nat.le_of_ble_eq_true rfl), (Nat.le_of_ble_eq_true rfl)⟩) (h_preV hE hM hS ho45 (r := ("BuckTablesModel", Tc6, 36)) rfl) rfl rfl hl.1 rfl (lv_room (Nat.le_of_ble_eq_true rfl)) d_Mo_walk_34 ⟨(Nat.le_of_ble_eq_true rfl), (Nat.le_of_ble_eq_true rfl)⟩) (fun M44 H locs hwp hM hS => ?_)
        obtain ⟨z46, ez46⟩ : ∃ y : Int32, y = x3 + 1 := ⟨_, rfl⟩
        replace hwp := hwp z46 ez46
        refine lv_iinc (v := z46) (lv' := [(3, .int z46), (4, .int r4), (0, .ref x0), (1, .int x1), (2, .int x2)]) hx hb d_Mo_walk_37 hl (k := 4) rfl (by rw [ez46]; rfl) (by decide) rfl (fun ls hl => ?_)
        refine lv_goto (tgt := 128) hx hb d_Mo_walk_40 (by decide) ?_
        exact tMo_walk_128 C post (wMo_walk_8 post n) ih x0 x1 x2 z46 M44 hwp H locs ls hM hS (lv_sub hl [2, 3, 4, 0] rfl)
def wpMo_walk (self : Nat) (p0 : Int32) (M : Hp) (post : Hp → Prop) : Prop := (hob M self 6 ∧ (wpMo_stepsOf self p0 M (fun (r49 : Int32) (M47 : Hp) => (∃ n50 : Nat, wMo_walk_8 post n50 self p0 r49 (0 : Int32) M47))))
set_option maxRecDepth 100000 in
set_option maxHeartbeats 4000000 in
theorem eMo_walk {p : Program} {l : Launch} {e : Env} {s : State} {m : MethodId} {args : Array Value} {below : List Frame} {meth : Method} {c : Code} {D : va_G} {κ : Nat → ClassId} {A : Nat → Prop} (C : Cx_Mo_walk p s m args meth c D κ A) (post : Hp → Prop) (self : Nat) (p0 : Int32) (M : Hp) (hwp : wpMo_walk self p0 M post) : Y p l e rm_Mo_walk s m args below meth c D kCl (hTys κ) A 6 0 0 (MQ below (va_Qv post (hB D kCl (hTys κ) A) A) args s 0 0 A) M 0 [(0, .ref self), (1, .int p0)] [] := by
  obtain ⟨hx, hb, hml, hr, hown, hts, hlocks, hE, hA⟩ := id C
  have hK := hE.1
  intro H locs ls hM hS hl
  unfold wpMo_walk at hwp
  refine lv_aload_n hx hb d_Mo_walk_0 rfl (lv_at hl 0 rfl) ?_
  refine lv_iload_n hx hb d_Mo_walk_1 rfl (lv_at hl 1 rfl) ?_
  obtain ⟨ho48, hwp⟩ := hwp
  refine h_calli hM hS hA (va_runV (As := [.int p0]) (rest := []) ⟨hx, hb, hml, hown, hts⟩ (metMo_stepsOf l D κ H.size self p0 M _ hwp) (cwV 1 hts (gV kw_875 kw_877 kp_26 kw_8 kw_878) rfl rfl rfl (by decide +kernel) ⟨(Nat.le_of_ble_eq_true rfl), (Nat.le_of_ble_eq_true rfl)⟩) (h_preV hE hM hS ho48 (r := ("BuckTablesModel", Tc6, 36)) rfl) rfl rfl hl.1 rfl (lv_room (Nat.le_of_ble_eq_true rfl)) d_Mo_walk_2 ⟨(Nat.le_of_ble_eq_true rfl), (Nat.le_of_ble_eq_true rfl)⟩) (fun r49 M47 H locs hwp hM hS => ?_)
  refine lv_istore_n (lv' := [(2, .int r49), (0, .ref self), (1, .int p0)]) hx hb d_Mo_walk_5 rfl hl (by decide) rfl (fun ls hl => ?_)
  refine lv_iconst (v := 0) hx hb d_Mo_walk_6 (by decide) ?_
  refine lv_istore_n (lv' := [(3, .int (0 : Int32)), (2, .int r49), (0, .ref self), (1, .int p0)]) hx hb d_Mo_walk_7 rfl hl (by decide) rfl (fun ls hl => ?_)
  obtain ⟨n50, hwp⟩ := hwp
  exact tMo_walk_8 C post n50 self p0 r49 (0 : Int32) M47 hwp H locs ls hM hS (lv_sub hl [2, 3, 1, 0] rfl)
set_option maxRecDepth 100000 in
set_option maxHeartbeats 4000000 in
theorem metMo_walk (l : Launch) (D : va_G) (κ : Nat → ClassId) (sz : Nat) (self : Nat) (p0 : Int32) (M : Hp) (post : Hp → Prop) (hwp : wpMo_walk self p0 M post) : Met l y_Mo_walk ws_Mo_walk rm_Mo_walk (hPc D kCl (hTys κ) M sz [.ref self, .int p0]) (va_Qv post (hB D kCl (hTys κ) (hAx M sz)) (hAx M sz)) 0 0 (hAx M sz) := by
  refine Met.ofW (cc := prog_8_method_24_code) (maxL := 6) (ret := none) (by decide +kernel) rfl ?_
  intro p e s m args below meth c s₁ B hml hv
  obtain ⟨rfl, hsz, hE, hM0⟩ := hv
  have hts : ∀ w ∈ WG, w.before _ s = true := fun w h => atoms_spec (ws := ws_Mo_walk) B.pre w (List.mem_cons_of_mem _ h)
  subst hsz
  have C : Cx_Mo_walk p s m _ meth c D κ (hAx M s.heap.size) := ⟨B.exec, B.bytes, hml, B.returns, findClass_of_methodNamed B.named, hts, B.notSynchronized, hE, fun q h => Or.inr h⟩
  have hl := lv_entry ([.ref self, .int p0]) (n := 6) (Nat.le_of_ble_eq_true rfl)
  rw [lg_entry_eq]
  generalize (lg_sl ([.ref self, .int p0]) ++ List.replicate (6 - (lg_sl ([.ref self, .int p0])).length) Slot.unset).toArray = ls at hl ⊢
  exact eMo_walk C post self p0 M hwp s.heap [] ls (hM0.self (sz := s.heap.size)) va_S.rf hl
abbrev rm_Mo_plan : Room := { frames := 3, cells := 0, slots := 0, locals := 82 }
def Cx_Mo_plan (p : Program) (s : State) (m : MethodId) (args : Array Value) (meth : Method) (c : Code) (D : va_G) (κ : Nat → ClassId) (A : Nat → Prop) : Prop := p.tables.exec = Jvm.exec ∧ c.code = prog_8_method_25_code ∧ c.maxLocals = 4 ∧ meth.sig.returnType = (some .long) ∧ s.vm.findClass "BuckTablesModel" = some m.cls ∧ (∀ w ∈ WG, w.before args s = true) ∧ meth.locks = false ∧ hEnv D kCl (hTys κ) A s ∧ (∀ q, s.heap.size ≤ q → A q)
def wMo_plan_4 (post : Int64 → Hp → Prop)  : Nat → Nat → Int64 → Int32 → Hp → Prop
  | 0 => fun _ _ _ _ => False
  | n + 1 => fun x0 x1 x3 M => (∃ v1 : Int32, fI M x0 6 4 v1 ∧ ((v1 ≤ x3 → (post x1 M)) ∧ (¬ v1 ≤ x3 → (hob M x0 6 ∧ (wpMo_reckon x0 x3 M (fun (M6 : Hp) => (∃ a8 : Nat, fA M6 x0 6 31 a8 ∧ (∃ v12 : Int64, aJ M6 a8 (0 : Int32) v12 ∧ (∀ z17 : Int64, z17 = (x1 + v12) → (hob M6 x0 6 ∧ (wpMo_walk x0 x3 M6 (fun (M18 : Hp) => (∀ z20 : Int32, z20 = x3 + 1 → ((wMo_plan_4 post n) x0 z17 z20 M18))))))))))))))
set_option maxRecDepth 100000 in
set_option maxHeartbeats 4000000 in
theorem tMo_plan_4 {p : Program} {l : Launch} {e : Env} {s : State} {m : MethodId} {args : Array Value} {below : List Frame} {meth : Method} {c : Code} {D : va_G} {κ : Nat → ClassId} {A : Nat → Prop} (C : Cx_Mo_plan p s m args meth c D κ A) (post : Int64 → Hp → Prop)  : ∀ (n : Nat) (x0 : Nat) (x1 : Int64) (x3 : Int32) (M : Hp), wMo_plan_4 post n x0 x1 x3 M → Y p l e rm_Mo_plan s m args below meth c D kCl (hTys κ) A 4 0 0 (MQ below (va_Ql post (hB D kCl (hTys κ) A) A) args s 0 0 A) M 4 [(0, .ref x0), (1, .long x1), (3, .int x3)] [] := by
  obtain ⟨hx, hb, hml, hr, hown, hts, hlocks, hE, hA⟩ := id C
  have hK := hE.1
  intro n
  induction n with
  | zero => intro x0 x1 x3 M hwp; exact hwp.elim
  | succ n ih =>
    intro x0 x1 x3 M hwp H locs ls hM hS hl
    unfold wMo_plan_4 at hwp
    refine lv_iload_n hx hb d_Mo_plan_4 rfl (lv_at hl 2 rfl) ?_
    refine lv_aload_n hx hb d_Mo_plan_5 rfl (lv_at hl 0 rfl) ?_
    obtain ⟨v1, ⟨fs2, he3, hv4⟩, hwp⟩ := hwp
    refine h_get (C := "BuckTablesModel") (T := Tc6) (N := 36) hx hb hts inc6 hown hK hM he3 rfl 4 (by decide) (hts _ kw_724) (fun _ h9 => h9) hv4 d_Mo_plan_6 ?_
    refine lv_icmp_ge (tgt := 37) hx hb d_Mo_plan_9 (by decide) (fun c5 => ?_) (fun c5 => ?_)
    · replace hwp := hwp.1 c5
      refine lv_lload_n hx hb d_Mo_plan_37 rfl (lv_at hl 1 rfl) ?_
      exact W.lret (v := x1) hx hb hr (fun t ht hW => ⟨⟨x1, M, rfl, hwp, by show hw D kCl (hTys κ) A M t.heap; rw [ht]; exact hM⟩, hS.F ht⟩) hS.2.2 d_Mo_plan_38
    · replace hwp := hwp.2 c5
      refine lv_aload_n hx hb d_Mo_plan_12 rfl (lv_at hl 0 rfl) ?_
      refine lv_iload_n hx hb d_Mo_plan_13 rfl (lv_at hl 2 rfl) ?_
      obtain ⟨ho7, hwp⟩ := hwp
      refine h_callv hM hS hA (va_runV (As := [.int x3]) (rest := []) ⟨hx, hb, hml, hown, hts⟩ (metMo_reckon l D κ H.size x0 x3 M _ hwp) (cwV 1 hts (gV kw_906 kw_908 kp_28 kw_8 kw_909) rfl rfl rfl (by decide +kernel) ⟨(Nat.le_of_ble_eq_true rfl), (Nat.le_of_ble_eq_true rfl)⟩) (h_preV hE hM hS ho7 (r := ("BuckTablesModel", Tc6, 36)) rfl) rfl rfl hl.1 rfl (lv_room (Nat.le_of_ble_eq_true rfl)) d_Mo_plan_14 ⟨(Nat.le_of_ble_eq_true rfl), (Nat.le_of_ble_eq_true rfl)⟩) (fun M6 H locs hwp hM hS => ?_)
      refine lv_lload_n hx hb d_Mo_plan_17 rfl (lv_at hl 1 rfl) ?_
      refine lv_aload_n hx hb d_Mo_plan_18 rfl (lv_at hl 0 rfl) ?_
      obtain ⟨a8, ⟨fs9, he10, hv11⟩, hwp⟩ := hwp
      refine h_get (C := "BuckTablesModel") (T := Tc6) (N := 36) hx hb hts inc6 hown hK hM he10 rfl 31 (by decide) (hts _ kw_751) (fun _ h9 => h9) hv11 d_Mo_plan_19 ?_
      refine lv_iconst (v := 0) hx hb d_Mo_plan_22 (by decide) ?_
      obtain ⟨v12, ⟨n13, f14, ha15, hi16, ev12⟩, hwp⟩ := hwp
      refine h_lald hx hb hK hM ha15 rfl hi16 d_Mo_plan_23 ?_
      rw [← ev12]
      refine lv_ladd hx hb d_Mo_plan_24 ?_
      refine lv_topl (fun z17 ez17 => ?_)
      replace hwp := hwp z17 ez17
      refine lv_lstore_n (lv' := [(1, .long z17), (0, .ref x0), (3, .int x3)]) hx hb d_Mo_plan_25 rfl hl (by decide) rfl (fun ls hl => ?_)
      refine lv_aload_n hx hb d_Mo_plan_26 rfl (lv_at hl 1 rfl) ?_
      refine lv_iload_n hx hb d_Mo_plan_27 rfl (lv_at hl 2 rfl) ?_
      obtain ⟨ho19, hwp⟩ := hwp
      refine h_callv hM hS hA (va_runV (As := [.int x3]) (rest := []) ⟨hx, hb, hml, hown, hts⟩ (metMo_walk l D κ H.size x0 x3 M6 _ hwp) (cwV 1 hts (gV kw_922 kw_924 kp_32 kw_8 kw_925) rfl rfl rfl (by decide +kernel) ⟨(Nat.le_of_ble_eq_true rfl), (Nat.le_of_ble_eq_true rfl)⟩) (h_preV hE hM hS ho19 (r := ("BuckTablesModel", Tc6, 36)) rfl) rfl rfl hl.1 rfl (lv_room (Nat.le_of_ble_eq_true rfl)) d_Mo_plan_28 ⟨(Nat.le_of_ble_eq_true rfl), (Nat.le_of_ble_eq_true rfl)⟩) (fun M18 H locs hwp hM hS => ?_)
      obtain ⟨z20, ez20⟩ : ∃ y : Int32, y = x3 + 1 := ⟨_, rfl⟩
      replace hwp := hwp z20 ez20
      refine lv_iinc (v := z20) (lv' := [(3, .int z20), (1, .long z17), (0, .ref x0)]) hx hb d_Mo_plan_31 hl (k := 2) rfl (by rw [ez20]; rfl) (by decide) rfl (fun ls hl => ?_)
      refine lv_goto (tgt := 4) hx hb d_Mo_plan_34 (by decide) ?_
      exact ih x0 z17 z20 M18 hwp H locs ls hM hS (lv_sub hl [2, 1, 0] rfl)
def wpMo_plan (self : Nat) (M : Hp) (post : Int64 → Hp → Prop) : Prop := (∃ n21 : Nat, wMo_plan_4 post n21 self (0 : Int64) (0 : Int32) M)
set_option maxRecDepth 100000 in
set_option maxHeartbeats 4000000 in
theorem eMo_plan {p : Program} {l : Launch} {e : Env} {s : State} {m : MethodId} {args : Array Value} {below : List Frame} {meth : Method} {c : Code} {D : va_G} {κ : Nat → ClassId} {A : Nat → Prop} (C : Cx_Mo_plan p s m args meth c D κ A) (post : Int64 → Hp → Prop) (self : Nat) (M : Hp) (hwp : wpMo_plan self M post) : Y p l e rm_Mo_plan s m args below meth c D kCl (hTys κ) A 4 0 0 (MQ below (va_Ql post (hB D kCl (hTys κ) A) A) args s 0 0 A) M 0 [(0, .ref self)] [] := by
  obtain ⟨hx, hb, hml, hr, hown, hts, hlocks, hE, hA⟩ := id C
  have hK := hE.1
  intro H locs ls hM hS hl
  unfold wpMo_plan at hwp
  refine lv_lconst (v := 0) hx hb d_Mo_plan_0 (by decide) ?_
  refine lv_lstore_n (lv' := [(1, .long (0 : Int64)), (0, .ref self)]) hx hb d_Mo_plan_1 rfl hl (by decide) rfl (fun ls hl => ?_)
  refine lv_iconst (v := 0) hx hb d_Mo_plan_2 (by decide) ?_
  refine lv_istore_n (lv' := [(3, .int (0 : Int32)), (1, .long (0 : Int64)), (0, .ref self)]) hx hb d_Mo_plan_3 rfl hl (by decide) rfl (fun ls hl => ?_)
  obtain ⟨n21, hwp⟩ := hwp
  exact tMo_plan_4 C post n21 self (0 : Int64) (0 : Int32) M hwp H locs ls hM hS (lv_sub hl [2, 1, 0] rfl)
set_option maxRecDepth 100000 in
set_option maxHeartbeats 4000000 in
theorem metMo_plan (l : Launch) (D : va_G) (κ : Nat → ClassId) (sz : Nat) (self : Nat) (M : Hp) (post : Int64 → Hp → Prop) (hwp : wpMo_plan self M post) : Met l y_Mo_plan ws_Mo_plan rm_Mo_plan (hPc D kCl (hTys κ) M sz [.ref self]) (va_Ql post (hB D kCl (hTys κ) (hAx M sz)) (hAx M sz)) 0 0 (hAx M sz) := by
  refine Met.ofW (cc := prog_8_method_25_code) (maxL := 4) (ret := (some .long)) (by decide +kernel) rfl ?_
  intro p e s m args below meth c s₁ B hml hv
  obtain ⟨rfl, hsz, hE, hM0⟩ := hv
  have hts : ∀ w ∈ WG, w.before _ s = true := fun w h => atoms_spec (ws := ws_Mo_plan) B.pre w (List.mem_cons_of_mem _ h)
  subst hsz
  have C : Cx_Mo_plan p s m _ meth c D κ (hAx M s.heap.size) := ⟨B.exec, B.bytes, hml, B.returns, findClass_of_methodNamed B.named, hts, B.notSynchronized, hE, fun q h => Or.inr h⟩
  have hl := lv_entry ([.ref self]) (n := 4) (Nat.le_of_ble_eq_true rfl)
  rw [lg_entry_eq]
  generalize (lg_sl ([.ref self]) ++ List.replicate (4 - (lg_sl ([.ref self])).length) Slot.unset).toArray = ls at hl ⊢
  exact eMo_plan C post self M hwp s.heap [] ls (hM0.self (sz := s.heap.size)) va_S.rf hl
abbrev rm_Mo_countOf : Room := { frames := 1, cells := 0, slots := 0, locals := 21 }
def Cx_Mo_countOf (p : Program) (s : State) (m : MethodId) (args : Array Value) (meth : Method) (c : Code) (D : va_G) (κ : Nat → ClassId) (A : Nat → Prop) : Prop := p.tables.exec = Jvm.exec ∧ c.code = prog_8_method_26_code ∧ c.maxLocals = 5 ∧ meth.sig.returnType = (some .int) ∧ s.vm.findClass "BuckTablesModel" = some m.cls ∧ (∀ w ∈ WG, w.before args s = true) ∧ meth.locks = false ∧ hEnv D kCl (hTys κ) A s ∧ (∀ q, s.heap.size ≤ q → A q)
def wMo_countOf_64 (post : Int32 → Hp → Prop) (k4 : Nat → Int32 → Int32 → Int32 → Hp → Prop) (k15 : Nat → Int32 → Int32 → Int32 → Int32 → Hp → Prop) (x0 : Nat) (x1 : Int32) (x3 : Int32) (x4 : Int32) (y0 : Int32) (M : Hp) : Prop := (∀ z1 : Int32, z1 = x4 + 1 → (k15 x0 x1 y0 x3 z1 M))
set_option maxRecDepth 100000 in
set_option maxHeartbeats 4000000 in
theorem tMo_countOf_64 {p : Program} {l : Launch} {e : Env} {s : State} {m : MethodId} {args : Array Value} {below : List Frame} {meth : Method} {c : Code} {D : va_G} {κ : Nat → ClassId} {A : Nat → Prop} (C : Cx_Mo_countOf p s m args meth c D κ A) (post : Int32 → Hp → Prop) (k4 : Nat → Int32 → Int32 → Int32 → Hp → Prop) (hk4 : ∀ (x0 : Nat) (x1 : Int32) (x2 : Int32) (x3 : Int32) (M : Hp), k4 x0 x1 x2 x3 M → Y p l e rm_Mo_countOf s m args below meth c D kCl (hTys κ) A 5 0 0 (MQ below (va_Qi post (hB D kCl (hTys κ) A) A) args s 0 0 A) M 4 [(0, .ref x0), (1, .int x1), (2, .int x2), (3, .int x3)] []) (k15 : Nat → Int32 → Int32 → Int32 → Int32 → Hp → Prop) (hk15 : ∀ (x0 : Nat) (x1 : Int32) (x2 : Int32) (x3 : Int32) (x4 : Int32) (M : Hp), k15 x0 x1 x2 x3 x4 M → Y p l e rm_Mo_countOf s m args below meth c D kCl (hTys κ) A 5 0 0 (MQ below (va_Qi post (hB D kCl (hTys κ) A) A) args s 0 0 A) M 15 [(0, .ref x0), (1, .int x1), (2, .int x2), (3, .int x3), (4, .int x4)] []) (x0 : Nat) (x1 : Int32) (x3 : Int32) (x4 : Int32) (y0 : Int32) (M : Hp) (hwp : wMo_countOf_64 post k4 k15 x0 x1 x3 x4 y0 M) : Y p l e rm_Mo_countOf s m args below meth c D kCl (hTys κ) A 5 0 0 (MQ below (va_Qi post (hB D kCl (hTys κ) A) A) args s 0 0 A) M 64 [(0, .ref x0), (1, .int x1), (3, .int x3), (4, .int x4)] [.int y0] := by
  obtain ⟨hx, hb, hml, hr, hown, hts, hlocks, hE, hA⟩ := id C
  have hK := hE.1
  intro H locs ls hM hS hl
  unfold wMo_countOf_64 at hwp
  refine lv_istore_n (lv' := [(2, .int y0), (0, .ref x0), (1, .int x1), (3, .int x3), (4, .int x4)]) hx hb d_Mo_countOf_64 rfl hl (by decide) rfl (fun ls hl => ?_)
  obtain ⟨z1, ez1⟩ : ∃ y : Int32, y = x4 + 1 := ⟨_, rfl⟩
  replace hwp := hwp z1 ez1
  refine lv_iinc (v := z1) (lv' := [(4, .int z1), (2, .int y0), (0, .ref x0), (1, .int x1), (3, .int x3)]) hx hb d_Mo_countOf_65 hl (k := 4) rfl (by rw [ez1]; rfl) (by decide) rfl (fun ls hl => ?_)
  refine lv_goto (tgt := 15) hx hb d_Mo_countOf_68 (by decide) ?_
  exact hk15 x0 x1 y0 x3 z1 M hwp H locs ls hM hS (lv_sub hl [2, 3, 1, 4, 0] rfl)
def wMo_countOf_63 (post : Int32 → Hp → Prop) (k4 : Nat → Int32 → Int32 → Int32 → Hp → Prop) (k15 : Nat → Int32 → Int32 → Int32 → Int32 → Hp → Prop) (x0 : Nat) (x1 : Int32) (x2 : Int32) (x3 : Int32) (x4 : Int32) (M : Hp) : Prop := (wMo_countOf_64 post k4 k15 x0 x1 x3 x4 x2 M)
set_option maxRecDepth 100000 in
set_option maxHeartbeats 4000000 in
theorem tMo_countOf_63 {p : Program} {l : Launch} {e : Env} {s : State} {m : MethodId} {args : Array Value} {below : List Frame} {meth : Method} {c : Code} {D : va_G} {κ : Nat → ClassId} {A : Nat → Prop} (C : Cx_Mo_countOf p s m args meth c D κ A) (post : Int32 → Hp → Prop) (k4 : Nat → Int32 → Int32 → Int32 → Hp → Prop) (hk4 : ∀ (x0 : Nat) (x1 : Int32) (x2 : Int32) (x3 : Int32) (M : Hp), k4 x0 x1 x2 x3 M → Y p l e rm_Mo_countOf s m args below meth c D kCl (hTys κ) A 5 0 0 (MQ below (va_Qi post (hB D kCl (hTys κ) A) A) args s 0 0 A) M 4 [(0, .ref x0), (1, .int x1), (2, .int x2), (3, .int x3)] []) (k15 : Nat → Int32 → Int32 → Int32 → Int32 → Hp → Prop) (hk15 : ∀ (x0 : Nat) (x1 : Int32) (x2 : Int32) (x3 : Int32) (x4 : Int32) (M : Hp), k15 x0 x1 x2 x3 x4 M → Y p l e rm_Mo_countOf s m args below meth c D kCl (hTys κ) A 5 0 0 (MQ below (va_Qi post (hB D kCl (hTys κ) A) A) args s 0 0 A) M 15 [(0, .ref x0), (1, .int x1), (2, .int x2), (3, .int x3), (4, .int x4)] []) (x0 : Nat) (x1 : Int32) (x2 : Int32) (x3 : Int32) (x4 : Int32) (M : Hp) (hwp : wMo_countOf_63 post k4 k15 x0 x1 x2 x3 x4 M) : Y p l e rm_Mo_countOf s m args below meth c D kCl (hTys κ) A 5 0 0 (MQ below (va_Qi post (hB D kCl (hTys κ) A) A) args s 0 0 A) M 63 [(0, .ref x0), (1, .int x1), (2, .int x2), (3, .int x3), (4, .int x4)] [] := by
  obtain ⟨hx, hb, hml, hr, hown, hts, hlocks, hE, hA⟩ := id C
  have hK := hE.1
  intro H locs ls hM hS hl
  unfold wMo_countOf_63 at hwp
  refine lv_iload_n hx hb d_Mo_countOf_63 rfl (lv_at hl 2 rfl) ?_
  exact tMo_countOf_64 C post k4 hk4 k15 hk15 x0 x1 x3 x4 x2 M hwp H locs ls hM hS (lv_sub hl [0, 1, 3, 4] rfl)
def wMo_countOf_15 (post : Int32 → Hp → Prop) (k4 : Nat → Int32 → Int32 → Int32 → Hp → Prop) : Nat → Nat → Int32 → Int32 → Int32 → Int32 → Hp → Prop
  | 0 => fun _ _ _ _ _ _ => False
  | n + 1 => fun x0 x1 x2 x3 x4 M => (hob M x0 6 ∧ (wpMo_stepsOf x0 x3 M (fun (r4 : Int32) (M2 : Hp) => ((r4 ≤ x4 → (∀ z6 : Int32, z6 = x3 + 1 → (k4 x0 x1 x2 z6 M2))) ∧ (¬ r4 ≤ x4 → (∃ a7 : Nat, fA M2 x0 6 25 a7 ∧ (∃ v11 : Int32, aI M2 a7 (((81 : Int32) * x3) + x4) v11 ∧ ((v11 = (1 : Int32) → (∃ a17 : Nat, fA M2 x0 6 27 a17 ∧ (∃ v21 : Int32, aI M2 a17 (((81 : Int32) * x3) + x4) v21 ∧ ((v21 = x1 → (wMo_countOf_64 post k4 (wMo_countOf_15 post k4 n) x0 x1 x3 x4 (x2 + (1 : Int32)) M2)) ∧ (¬ v21 = x1 → (wMo_countOf_63 post k4 (wMo_countOf_15 post k4 n) x0 x1 x2 x3 x4 M2)))))) ∧ (¬ v11 = (1 : Int32) → (wMo_countOf_63 post k4 (wMo_countOf_15 post k4 n) x0 x1 x2 x3 x4 M2))))))))))
set_option maxRecDepth 100000 in
set_option maxHeartbeats 4000000 in
theorem tMo_countOf_15 {p : Program} {l : Launch} {e : Env} {s : State} {m : MethodId} {args : Array Value} {below : List Frame} {meth : Method} {c : Code} {D : va_G} {κ : Nat → ClassId} {A : Nat → Prop} (C : Cx_Mo_countOf p s m args meth c D κ A) (post : Int32 → Hp → Prop) (k4 : Nat → Int32 → Int32 → Int32 → Hp → Prop) (hk4 : ∀ (x0 : Nat) (x1 : Int32) (x2 : Int32) (x3 : Int32) (M : Hp), k4 x0 x1 x2 x3 M → Y p l e rm_Mo_countOf s m args below meth c D kCl (hTys κ) A 5 0 0 (MQ below (va_Qi post (hB D kCl (hTys κ) A) A) args s 0 0 A) M 4 [(0, .ref x0), (1, .int x1), (2, .int x2), (3, .int x3)] []) : ∀ (n : Nat) (x0 : Nat) (x1 : Int32) (x2 : Int32) (x3 : Int32) (x4 : Int32) (M : Hp), wMo_countOf_15 post k4 n x0 x1 x2 x3 x4 M → Y p l e rm_Mo_countOf s m args below meth c D kCl (hTys κ) A 5 0 0 (MQ below (va_Qi post (hB D kCl (hTys κ) A) A) args s 0 0 A) M 15 [(0, .ref x0), (1, .int x1), (2, .int x2), (3, .int x3), (4, .int x4)] [] := by
  obtain ⟨hx, hb, hml, hr, hown, hts, hlocks, hE, hA⟩ := id C
  have hK := hE.1
  intro n
  induction n with
  | zero => intro x0 x1 x2 x3 x4 M hwp; exact hwp.elim
  | succ n ih =>
    intro x0 x1 x2 x3 x4 M hwp H locs ls hM hS hl
    unfold wMo_countOf_15 at hwp
    refine lv_iload hx hb d_Mo_countOf_15 (lv_at hl 4 rfl) ?_
    refine lv_aload_n hx hb d_Mo_countOf_17 rfl (lv_at hl 0 rfl) ?_
    refine lv_iload_n hx hb d_Mo_countOf_18 rfl (lv_at hl 3 rfl) ?_
    obtain ⟨ho3, hwp⟩ := hwp
    refine h_calli hM hS hA (va_runV (As := [.int x3]) (rest := [.int x4]) ⟨hx, hb, hml, hown, hts⟩ (metMo_stepsOf l D κ H.size x0 x3 M _ hwp) (cwV 1 hts (gV kw_875 kw_877 kp_26 kw_8 kw_878) rfl rfl rfl (by decide +kernel) ⟨(Nat.le_of_ble_eq_true rfl), (Nat.le_of_ble_eq_true rfl)⟩) (h_preV hE hM hS ho3 (r := ("BuckTablesModel", Tc6, 36)) rfl) rfl rfl hl.1 rfl (lv_room (Nat.le_of_ble_eq_true rfl)) d_Mo_countOf_19 ⟨(Nat.le_of_ble_eq_true rfl), (Nat.le_of_ble_eq_true rfl)⟩) (fun r4 M2 H locs hwp hM hS => ?_)
    refine lv_icmp_ge (tgt := 71) hx hb d_Mo_countOf_22 (by decide) (fun c5 => ?_) (fun c5 => ?_)
    · replace hwp := hwp.1 c5
      obtain ⟨z6, ez6⟩ : ∃ y : Int32, y = x3 + 1 := ⟨_, rfl⟩
      replace hwp := hwp z6 ez6
      refine lv_iinc (v := z6) (lv' := [(3, .int z6), (0, .ref x0), (1, .int x1), (2, .int x2), (4, .int x4)]) hx hb d_Mo_countOf_71 hl (k := 3) rfl (by rw [ez6]; rfl) (by decide) rfl (fun ls hl => ?_)
      refine lv_goto (tgt := 4) hx hb d_Mo_countOf_74 (by decide) ?_
      exact hk4 x0 x1 x2 z6 M2 hwp H locs ls hM hS (lv_sub hl [1, 2, 3, 0] rfl)
    · replace hwp := hwp.2 c5
      refine lv_aload_n hx hb d_Mo_countOf_25 rfl (lv_at hl 0 rfl) ?_
      obtain ⟨a7, ⟨fs8, he9, hv10⟩, hwp⟩ := hwp
      refine h_get (C := "BuckTablesModel") (T := Tc6) (N := 36) hx hb hts inc6 hown hK hM he9 rfl 25 (by decide) (hts _ kw_745) (fun _ h9 => h9) hv10 d_Mo_countOf_26 ?_
      refine lv_bipush (v := 81) hx hb d_Mo_countOf_29 (by decide) ?_
      refine lv_iload_n hx hb d_Mo_countOf_31 rfl (lv_at hl 3 rfl) ?_
      refine lv_imul hx hb d_Mo_countOf_32 ?_
      refine lv_iload hx hb d_Mo_countOf_33 (lv_at hl 4 rfl) ?_
      refine lv_iadd hx hb d_Mo_countOf_35 ?_
      obtain ⟨v11, ⟨n12, f13, ha14, hi15, ev11⟩, hwp⟩ := hwp
      refine h_iald hx hb hK hM ha14 rfl hi15 d_Mo_countOf_36 ?_
      rw [← ev11]
      refine lv_iconst (v := 1) hx hb d_Mo_countOf_37 (by decide) ?_
      refine lv_icmp_ne (tgt := 63) hx hb d_Mo_countOf_38 (by decide) (fun c16 => ?_) (fun c16 => ?_)
      · replace hwp := hwp.2 c16
        exact tMo_countOf_63 C post k4 hk4 (wMo_countOf_15 post k4 n) ih x0 x1 x2 x3 x4 M2 hwp H locs ls hM hS (lv_sub hl [0, 1, 2, 3, 4] rfl)
      · replace hwp := hwp.1 c16
        refine lv_aload_n hx hb d_Mo_countOf_41 rfl (lv_at hl 0 rfl) ?_
        obtain ⟨a17, ⟨fs18, he19, hv20⟩, hwp⟩ := hwp
        refine h_get (C := "BuckTablesModel") (T := Tc6) (N := 36) hx hb hts inc6 hown hK hM he19 rfl 27 (by decide) (hts _ kw_747) (fun _ h9 => h9) hv20 d_Mo_countOf_42 ?_
        refine lv_bipush (v := 81) hx hb d_Mo_countOf_45 (by decide) ?_
        refine lv_iload_n hx hb d_Mo_countOf_47 rfl (lv_at hl 3 rfl) ?_
        refine lv_imul hx hb d_Mo_countOf_48 ?_
        refine lv_iload hx hb d_Mo_countOf_49 (lv_at hl 4 rfl) ?_
        refine lv_iadd hx hb d_Mo_countOf_51 ?_
        obtain ⟨v21, ⟨n22, f23, ha24, hi25, ev21⟩, hwp⟩ := hwp
        refine h_iald hx hb hK hM ha24 rfl hi25 d_Mo_countOf_52 ?_
        rw [← ev21]
        refine lv_iload_n hx hb d_Mo_countOf_53 rfl (lv_at hl 1 rfl) ?_
        refine lv_icmp_ne (tgt := 63) hx hb d_Mo_countOf_54 (by decide) (fun c26 => ?_) (fun c26 => ?_)
        · replace hwp := hwp.2 c26
          exact tMo_countOf_63 C post k4 hk4 (wMo_countOf_15 post k4 n) ih x0 x1 x2 x3 x4 M2 hwp H locs ls hM hS (lv_sub hl [0, 1, 2, 3, 4] rfl)
        · replace hwp := hwp.1 c26
          refine lv_iload_n hx hb d_Mo_countOf_57 rfl (lv_at hl 2 rfl) ?_
          refine lv_iconst (v := 1) hx hb d_Mo_countOf_58 (by decide) ?_
          refine lv_iadd hx hb d_Mo_countOf_59 ?_
          refine lv_goto (tgt := 64) hx hb d_Mo_countOf_60 (by decide) ?_
          exact tMo_countOf_64 C post k4 hk4 (wMo_countOf_15 post k4 n) ih x0 x1 x3 x4 (x2 + (1 : Int32)) M2 hwp H locs ls hM hS (lv_sub hl [0, 1, 3, 4] rfl)
def wMo_countOf_4 (post : Int32 → Hp → Prop)  : Nat → Nat → Int32 → Int32 → Int32 → Hp → Prop
  | 0 => fun _ _ _ _ _ => False
  | n + 1 => fun x0 x1 x2 x3 M => (∃ v27 : Int32, fI M x0 6 4 v27 ∧ ((v27 ≤ x3 → (post x2 M)) ∧ (¬ v27 ≤ x3 → (∃ n32 : Nat, wMo_countOf_15 post (wMo_countOf_4 post n) n32 x0 x1 x2 x3 (0 : Int32) M))))
set_option maxRecDepth 100000 in
set_option maxHeartbeats 4000000 in
theorem tMo_countOf_4 {p : Program} {l : Launch} {e : Env} {s : State} {m : MethodId} {args : Array Value} {below : List Frame} {meth : Method} {c : Code} {D : va_G} {κ : Nat → ClassId} {A : Nat → Prop} (C : Cx_Mo_countOf p s m args meth c D κ A) (post : Int32 → Hp → Prop)  : ∀ (n : Nat) (x0 : Nat) (x1 : Int32) (x2 : Int32) (x3 : Int32) (M : Hp), wMo_countOf_4 post n x0 x1 x2 x3 M → Y p l e rm_Mo_countOf s m args below meth c D kCl (hTys κ) A 5 0 0 (MQ below (va_Qi post (hB D kCl (hTys κ) A) A) args s 0 0 A) M 4 [(0, .ref x0), (1, .int x1), (2, .int x2), (3, .int x3)] [] := by
  obtain ⟨hx, hb, hml, hr, hown, hts, hlocks, hE, hA⟩ := id C
  have hK := hE.1
  intro n
  induction n with
  | zero => intro x0 x1 x2 x3 M hwp; exact hwp.elim
  | succ n ih =>
    intro x0 x1 x2 x3 M hwp H locs ls hM hS hl
    unfold wMo_countOf_4 at hwp
    refine lv_iload_n hx hb d_Mo_countOf_4 rfl (lv_at hl 3 rfl) ?_
    refine lv_aload_n hx hb d_Mo_countOf_5 rfl (lv_at hl 0 rfl) ?_
    obtain ⟨v27, ⟨fs28, he29, hv30⟩, hwp⟩ := hwp
    refine h_get (C := "BuckTablesModel") (T := Tc6) (N := 36) hx hb hts inc6 hown hK hM he29 rfl 4 (by decide) (hts _ kw_724) (fun _ h9 => h9) hv30 d_Mo_countOf_6 ?_
    refine lv_icmp_ge (tgt := 77) hx hb d_Mo_countOf_9 (by decide) (fun c31 => ?_) (fun c31 => ?_)
    · replace hwp := hwp.1 c31
      refine lv_iload_n hx hb d_Mo_countOf_77 rfl (lv_at hl 2 rfl) ?_
      exact W.iret (v := x2) hx hb hr (fun t ht hW => ⟨⟨x2, M, rfl, hwp, by show hw D kCl (hTys κ) A M t.heap; rw [ht]; exact hM⟩, hS.F ht⟩) hS.2.2 d_Mo_countOf_78
    · replace hwp := hwp.2 c31
      refine lv_iconst (v := 0) hx hb d_Mo_countOf_12 (by decide) ?_
      refine lv_istore (lv' := [(4, .int (0 : Int32)), (0, .ref x0), (1, .int x1), (2, .int x2), (3, .int x3)]) hx hb d_Mo_countOf_13 hl (by decide) rfl (fun ls hl => ?_)
      obtain ⟨n32, hwp⟩ := hwp
      exact tMo_countOf_15 C post (wMo_countOf_4 post n) ih n32 x0 x1 x2 x3 (0 : Int32) M hwp H locs ls hM hS (lv_sub hl [1, 2, 3, 4, 0] rfl)
def wpMo_countOf (self : Nat) (p0 : Int32) (M : Hp) (post : Int32 → Hp → Prop) : Prop := (∃ n33 : Nat, wMo_countOf_4 post n33 self p0 (0 : Int32) (0 : Int32) M)
set_option maxRecDepth 100000 in
set_option maxHeartbeats 4000000 in
theorem eMo_countOf {p : Program} {l : Launch} {e : Env} {s : State} {m : MethodId} {args : Array Value} {below : List Frame} {meth : Method} {c : Code} {D : va_G} {κ : Nat → ClassId} {A : Nat → Prop} (C : Cx_Mo_countOf p s m args meth c D κ A) (post : Int32 → Hp → Prop) (self : Nat) (p0 : Int32) (M : Hp) (hwp : wpMo_countOf self p0 M post) : Y p l e rm_Mo_countOf s m args below meth c D kCl (hTys κ) A 5 0 0 (MQ below (va_Qi post (hB D kCl (hTys κ) A) A) args s 0 0 A) M 0 [(0, .ref self), (1, .int p0)] [] := by
  obtain ⟨hx, hb, hml, hr, hown, hts, hlocks, hE, hA⟩ := id C
  have hK := hE.1
  intro H locs ls hM hS hl
  unfold wpMo_countOf at hwp
  refine lv_iconst (v := 0) hx hb d_Mo_countOf_0 (by decide) ?_
  refine lv_istore_n (lv' := [(2, .int (0 : Int32)), (0, .ref self), (1, .int p0)]) hx hb d_Mo_countOf_1 rfl hl (by decide) rfl (fun ls hl => ?_)
  refine lv_iconst (v := 0) hx hb d_Mo_countOf_2 (by decide) ?_
  refine lv_istore_n (lv' := [(3, .int (0 : Int32)), (2, .int (0 : Int32)), (0, .ref self), (1, .int p0)]) hx hb d_Mo_countOf_3 rfl hl (by decide) rfl (fun ls hl => ?_)
  obtain ⟨n33, hwp⟩ := hwp
  exact tMo_countOf_4 C post n33 self p0 (0 : Int32) (0 : Int32) M hwp H locs ls hM hS (lv_sub hl [2, 3, 1, 0] rfl)
set_option maxRecDepth 100000 in
set_option maxHeartbeats 4000000 in
theorem metMo_countOf (l : Launch) (D : va_G) (κ : Nat → ClassId) (sz : Nat) (self : Nat) (p0 : Int32) (M : Hp) (post : Int32 → Hp → Prop) (hwp : wpMo_countOf self p0 M post) : Met l y_Mo_countOf ws_Mo_countOf rm_Mo_countOf (hPc D kCl (hTys κ) M sz [.ref self, .int p0]) (va_Qi post (hB D kCl (hTys κ) (hAx M sz)) (hAx M sz)) 0 0 (hAx M sz) := by
  refine Met.ofW (cc := prog_8_method_26_code) (maxL := 5) (ret := (some .int)) (by decide +kernel) rfl ?_
  intro p e s m args below meth c s₁ B hml hv
  obtain ⟨rfl, hsz, hE, hM0⟩ := hv
  have hts : ∀ w ∈ WG, w.before _ s = true := fun w h => atoms_spec (ws := ws_Mo_countOf) B.pre w (List.mem_cons_of_mem _ h)
  subst hsz
  have C : Cx_Mo_countOf p s m _ meth c D κ (hAx M s.heap.size) := ⟨B.exec, B.bytes, hml, B.returns, findClass_of_methodNamed B.named, hts, B.notSynchronized, hE, fun q h => Or.inr h⟩
  have hl := lv_entry ([.ref self, .int p0]) (n := 5) (Nat.le_of_ble_eq_true rfl)
  rw [lg_entry_eq]
  generalize (lg_sl ([.ref self, .int p0]) ++ List.replicate (5 - (lg_sl ([.ref self, .int p0])).length) Slot.unset).toArray = ls at hl ⊢
  exact eMo_countOf C post self p0 M hwp s.heap [] ls (hM0.self (sz := s.heap.size)) va_S.rf hl
