abbrev rm_Mo_reckon : Room := { frames := 1, cells := 0, slots := 0, locals := 30 }
def Cx_Mo_reckon (p : Program) (s : State) (m : MethodId) (args : Array Value) (meth : Method) (c : Code) (D : va_G) (κ : Nat → ClassId) (A : Nat → Prop) : Prop := p.tables.exec = Jvm.exec ∧ c.code = prog_8_method_21_code ∧ c.maxLocals = 9 ∧ meth.sig.returnType = none ∧ s.vm.findClass "BuckTablesModel" = some m.cls ∧ (∀ w ∈ WG, w.before args s = true) ∧ meth.locks = false ∧ hEnv D kCl (hTys κ) A s ∧ (∀ q, s.heap.size ≤ q → A q)
def wMo_reckon_195 (post : Hp → Prop) (k24 : Nat → Int32 → Int32 → Int32 → Hp → Prop) (k61 : Nat → Int32 → Int32 → Int32 → Int32 → Hp → Prop) (k70 : Nat → Int32 → Int32 → Int32 → Int32 → Int32 → Hp → Prop) (x0 : Nat) (x1 : Int32) (x2 : Int32) (x3 : Int32) (x4 : Int32) (x5 : Int32) (M : Hp) : Prop := (∀ z1 : Int32, z1 = x5 + 1 → (k70 x0 x1 x2 x3 x4 z1 M))
set_option maxRecDepth 100000 in
set_option maxHeartbeats 4000000 in
theorem tMo_reckon_195 {p : Program} {l : Launch} {e : Env} {s : State} {m : MethodId} {args : Array Value} {below : List Frame} {meth : Method} {c : Code} {D : va_G} {κ : Nat → ClassId} {A : Nat → Prop} (C : Cx_Mo_reckon p s m args meth c D κ A) (post : Hp → Prop) (k24 : Nat → Int32 → Int32 → Int32 → Hp → Prop) (hk24 : ∀ (x0 : Nat) (x1 : Int32) (x2 : Int32) (x3 : Int32) (M : Hp), k24 x0 x1 x2 x3 M → Y p l e rm_Mo_reckon s m args below meth c D kCl (hTys κ) A 9 0 0 (MQ below (va_Qv post (hB D kCl (hTys κ) A) A) args s 0 0 A) M 24 [(0, .ref x0), (1, .int x1), (2, .int x2), (3, .int x3)] []) (k61 : Nat → Int32 → Int32 → Int32 → Int32 → Hp → Prop) (hk61 : ∀ (x0 : Nat) (x1 : Int32) (x2 : Int32) (x3 : Int32) (x4 : Int32) (M : Hp), k61 x0 x1 x2 x3 x4 M → Y p l e rm_Mo_reckon s m args below meth c D kCl (hTys κ) A 9 0 0 (MQ below (va_Qv post (hB D kCl (hTys κ) A) A) args s 0 0 A) M 61 [(0, .ref x0), (1, .int x1), (2, .int x2), (3, .int x3), (4, .int x4)] []) (k70 : Nat → Int32 → Int32 → Int32 → Int32 → Int32 → Hp → Prop) (hk70 : ∀ (x0 : Nat) (x1 : Int32) (x2 : Int32) (x3 : Int32) (x4 : Int32) (x5 : Int32) (M : Hp), k70 x0 x1 x2 x3 x4 x5 M → Y p l e rm_Mo_reckon s m args below meth c D kCl (hTys κ) A 9 0 0 (MQ below (va_Qv post (hB D kCl (hTys κ) A) A) args s 0 0 A) M 70 [(0, .ref x0), (1, .int x1), (2, .int x2), (3, .int x3), (4, .int x4), (5, .int x5)] []) (x0 : Nat) (x1 : Int32) (x2 : Int32) (x3 : Int32) (x4 : Int32) (x5 : Int32) (M : Hp) (hwp : wMo_reckon_195 post k24 k61 k70 x0 x1 x2 x3 x4 x5 M) : Y p l e rm_Mo_reckon s m args below meth c D kCl (hTys κ) A 9 0 0 (MQ below (va_Qv post (hB D kCl (hTys κ) A) A) args s 0 0 A) M 195 [(0, .ref x0), (1, .int x1), (2, .int x2), (3, .int x3), (4, .int x4), (5, .int x5)] [] := by
  obtain ⟨hx, hb, hml, hr, hown, hts, hlocks, hE, hA⟩ := id C
  have hK := hE.1
  intro H locs ls hM hS hl
  unfold wMo_reckon_195 at hwp
  obtain ⟨z1, ez1⟩ : ∃ y : Int32, y = x5 + 1 := ⟨_, rfl⟩
  replace hwp := hwp z1 ez1
  refine lv_iinc (v := z1) (lv' := [(5, .int z1), (0, .ref x0), (1, .int x1), (2, .int x2), (3, .int x3), (4, .int x4)]) hx hb d_Mo_reckon_195 hl (k := 5) rfl (by rw [ez1]; rfl) (by decide) rfl (fun ls hl => ?_)
  refine lv_goto (tgt := 70) hx hb d_Mo_reckon_198 (by decide) ?_
  exact hk70 x0 x1 x2 x3 x4 z1 M hwp H locs ls hM hS (lv_sub hl [1, 2, 3, 4, 5, 0] rfl)
def wMo_reckon_172 (post : Hp → Prop) (k24 : Nat → Int32 → Int32 → Int32 → Hp → Prop) (k61 : Nat → Int32 → Int32 → Int32 → Int32 → Hp → Prop) (k70 : Nat → Int32 → Int32 → Int32 → Int32 → Int32 → Hp → Prop) (x0 : Nat) (x1 : Int32) (x2 : Int32) (x3 : Int32) (x4 : Int32) (x5 : Int32) (x6 : Int32) (x7 : Int64) (M : Hp) : Prop := (∃ a2 : Nat, fA M x0 6 31 a2 ∧ (∃ M10 : Hp, sJ M a2 x3 x7 M10 ∧ (∃ a11 : Nat, fA M10 x0 6 32 a11 ∧ (∃ a15 : Nat, fA M10 x0 6 32 a15 ∧ (∃ v19 : Int32, aI M10 a15 x6 v19 ∧ (∃ M28 : Hp, sI M10 a11 x3 (v19 + (1 : Int32)) M28 ∧ (wMo_reckon_195 post k24 k61 k70 x0 x1 x2 x3 x4 x5 M28)))))))
set_option maxRecDepth 100000 in
set_option maxHeartbeats 4000000 in
theorem tMo_reckon_172 {p : Program} {l : Launch} {e : Env} {s : State} {m : MethodId} {args : Array Value} {below : List Frame} {meth : Method} {c : Code} {D : va_G} {κ : Nat → ClassId} {A : Nat → Prop} (C : Cx_Mo_reckon p s m args meth c D κ A) (post : Hp → Prop) (k24 : Nat → Int32 → Int32 → Int32 → Hp → Prop) (hk24 : ∀ (x0 : Nat) (x1 : Int32) (x2 : Int32) (x3 : Int32) (M : Hp), k24 x0 x1 x2 x3 M → Y p l e rm_Mo_reckon s m args below meth c D kCl (hTys κ) A 9 0 0 (MQ below (va_Qv post (hB D kCl (hTys κ) A) A) args s 0 0 A) M 24 [(0, .ref x0), (1, .int x1), (2, .int x2), (3, .int x3)] []) (k61 : Nat → Int32 → Int32 → Int32 → Int32 → Hp → Prop) (hk61 : ∀ (x0 : Nat) (x1 : Int32) (x2 : Int32) (x3 : Int32) (x4 : Int32) (M : Hp), k61 x0 x1 x2 x3 x4 M → Y p l e rm_Mo_reckon s m args below meth c D kCl (hTys κ) A 9 0 0 (MQ below (va_Qv post (hB D kCl (hTys κ) A) A) args s 0 0 A) M 61 [(0, .ref x0), (1, .int x1), (2, .int x2), (3, .int x3), (4, .int x4)] []) (k70 : Nat → Int32 → Int32 → Int32 → Int32 → Int32 → Hp → Prop) (hk70 : ∀ (x0 : Nat) (x1 : Int32) (x2 : Int32) (x3 : Int32) (x4 : Int32) (x5 : Int32) (M : Hp), k70 x0 x1 x2 x3 x4 x5 M → Y p l e rm_Mo_reckon s m args below meth c D kCl (hTys κ) A 9 0 0 (MQ below (va_Qv post (hB D kCl (hTys κ) A) A) args s 0 0 A) M 70 [(0, .ref x0), (1, .int x1), (2, .int x2), (3, .int x3), (4, .int x4), (5, .int x5)] []) (x0 : Nat) (x1 : Int32) (x2 : Int32) (x3 : Int32) (x4 : Int32) (x5 : Int32) (x6 : Int32) (x7 : Int64) (M : Hp) (hwp : wMo_reckon_172 post k24 k61 k70 x0 x1 x2 x3 x4 x5 x6 x7 M) : Y p l e rm_Mo_reckon s m args below meth c D kCl (hTys κ) A 9 0 0 (MQ below (va_Qv post (hB D kCl (hTys κ) A) A) args s 0 0 A) M 172 [(0, .ref x0), (1, .int x1), (2, .int x2), (3, .int x3), (4, .int x4), (5, .int x5), (6, .int x6), (7, .long x7)] [] := by
  obtain ⟨hx, hb, hml, hr, hown, hts, hlocks, hE, hA⟩ := id C
  have hK := hE.1
  intro H locs ls hM hS hl
  unfold wMo_reckon_172 at hwp
  refine lv_aload_n hx hb d_Mo_reckon_172 rfl (lv_at hl 0 rfl) ?_
  obtain ⟨a2, ⟨fs3, he4, hv5⟩, hwp⟩ := hwp
  refine h_get (C := "BuckTablesModel") (T := Tc6) (N := 36) hx hb hts inc6 hown hK hM he4 rfl 31 (by decide) (hts _ kw_751) (fun _ h9 => h9) hv5 d_Mo_reckon_173 ?_
  refine lv_iload_n hx hb d_Mo_reckon_176 rfl (lv_at hl 3 rfl) ?_
  refine lv_lload hx hb d_Mo_reckon_177 (lv_at hl 7 rfl) ?_
  obtain ⟨M10, ⟨n6, f7, ha8, hi9, eM10⟩, hwp⟩ := hwp
  refine h_last hx hb hK hM hS ha8 rfl hi9 d_Mo_reckon_179 (fun H locs hM hS => ?_)
  rw [← eM10] at hM
  refine lv_aload_n hx hb d_Mo_reckon_180 rfl (lv_at hl 0 rfl) ?_
  obtain ⟨a11, ⟨fs12, he13, hv14⟩, hwp⟩ := hwp
  refine h_get (C := "BuckTablesModel") (T := Tc6) (N := 36) hx hb hts inc6 hown hK hM he13 rfl 32 (by decide) (hts _ kw_752) (fun _ h9 => h9) hv14 d_Mo_reckon_181 ?_
  refine lv_iload_n hx hb d_Mo_reckon_184 rfl (lv_at hl 3 rfl) ?_
  refine lv_aload_n hx hb d_Mo_reckon_185 rfl (lv_at hl 0 rfl) ?_
  obtain ⟨a15, ⟨fs16, he17, hv18⟩, hwp⟩ := hwp
  refine h_get (C := "BuckTablesModel") (T := Tc6) (N := 36) hx hb hts inc6 hown hK hM he17 rfl 32 (by decide) (hts _ kw_752) (fun _ h9 => h9) hv18 d_Mo_reckon_186 ?_
  refine lv_iload hx hb d_Mo_reckon_189 (lv_at hl 6 rfl) ?_
  obtain ⟨v19, ⟨n20, f21, ha22, hi23, ev19⟩, hwp⟩ := hwp
  refine h_iald hx hb hK hM ha22 rfl hi23 d_Mo_reckon_191 ?_
  rw [← ev19]
  refine lv_iconst (v := 1) hx hb d_Mo_reckon_192 (by decide) ?_
  refine lv_iadd hx hb d_Mo_reckon_193 ?_
  obtain ⟨M28, ⟨n24, f25, ha26, hi27, eM28⟩, hwp⟩ := hwp
  refine h_iast hx hb hK hM hS ha26 rfl hi27 d_Mo_reckon_194 (fun H locs hM hS => ?_)
  rw [← eM28] at hM
  exact tMo_reckon_195 C post k24 hk24 k61 hk61 k70 hk70 x0 x1 x2 x3 x4 x5 M28 hwp H locs ls hM hS (lv_sub hl [0, 1, 2, 3, 4, 5] rfl)
def wMo_reckon_70 (post : Hp → Prop) (k24 : Nat → Int32 → Int32 → Int32 → Hp → Prop) (k61 : Nat → Int32 → Int32 → Int32 → Int32 → Hp → Prop) : Nat → Nat → Int32 → Int32 → Int32 → Int32 → Int32 → Hp → Prop
  | 0 => fun _ _ _ _ _ _ _ => False
  | n + 1 => fun x0 x1 x2 x3 x4 x5 M => (∃ v29 : Int32, fI M x0 6 14 v29 ∧ ((v29 ≤ x5 → (∀ z34 : Int32, z34 = x4 + 1 → (k61 x0 x1 x2 x3 z34 M))) ∧ (¬ v29 ≤ x5 → (hob M x0 6 ∧ (wpMo_may x0 x1 x3 x4 x5 M (fun (r37 : Int32) (M35 : Hp) => ((r37 = 0 → (wMo_reckon_195 post k24 k61 (wMo_reckon_70 post k24 k61 n) x0 x1 x2 x3 x4 x5 M35)) ∧ (¬ r37 = 0 → (hob M35 x0 6 ∧ (wpMo_behind x0 x2 x4 M35 (fun (r41 : Int32) (M39 : Hp) => (∃ a42 : Nat, fA M39 x0 6 31 a42 ∧ (∃ v46 : Int64, aJ M39 a42 r41 v46 ∧ (hob M39 x0 6 ∧ (wpMo_worthOf x0 x1 (x4 - x3) x5 M39 (fun (r53 : Int64) (M51 : Hp) => (∃ a54 : Nat, fA M51 x0 6 23 a54 ∧ (∃ v58 : Int64, aJ M51 a54 x5 v58 ∧ (∀ z63 : Int64, z63 = ((v46 + r53) - v58) → (∃ a64 : Nat, fA M51 x0 6 31 a64 ∧ (∃ v68 : Int64, aJ M51 a64 x3 v68 ∧ ((v68 < z63 → (wMo_reckon_172 post k24 k61 (wMo_reckon_70 post k24 k61 n) x0 x1 x2 x3 x4 x5 r41 z63 M51)) ∧ (¬ v68 < z63 → (∃ a74 : Nat, fA M51 x0 6 31 a74 ∧ (∃ v78 : Int64, aJ M51 a74 x3 v78 ∧ ((z63 = v78 → (∃ a84 : Nat, fA M51 x0 6 32 a84 ∧ (∃ v88 : Int32, aI M51 a84 r41 v88 ∧ (∃ a93 : Nat, fA M51 x0 6 32 a93 ∧ (∃ v97 : Int32, aI M51 a93 x3 v97 ∧ ((v97 ≤ (v88 + (1 : Int32)) → (wMo_reckon_195 post k24 k61 (wMo_reckon_70 post k24 k61 n) x0 x1 x2 x3 x4 x5 M51)) ∧ (¬ v97 ≤ (v88 + (1 : Int32)) → (wMo_reckon_172 post k24 k61 (wMo_reckon_70 post k24 k61 n) x0 x1 x2 x3 x4 x5 r41 z63 M51)))))))) ∧ (¬ z63 = v78 → (wMo_reckon_195 post k24 k61 (wMo_reckon_70 post k24 k61 n) x0 x1 x2 x3 x4 x5 M51))))))))))))))))))))))))))))
set_option maxRecDepth 100000 in
set_option maxHeartbeats 4000000 in
theorem tMo_reckon_70 {p : Program} {l : Launch} {e : Env} {s : State} {m : MethodId} {args : Array Value} {below : List Frame} {meth : Method} {c : Code} {D : va_G} {κ : Nat → ClassId} {A : Nat → Prop} (C : Cx_Mo_reckon p s m args meth c D κ A) (post : Hp → Prop) (k24 : Nat → Int32 → Int32 → Int32 → Hp → Prop) (hk24 : ∀ (x0 : Nat) (x1 : Int32) (x2 : Int32) (x3 : Int32) (M : Hp), k24 x0 x1 x2 x3 M → Y p l e rm_Mo_reckon s m args below meth c D kCl (hTys κ) A 9 0 0 (MQ below (va_Qv post (hB D kCl (hTys κ) A) A) args s 0 0 A) M 24 [(0, .ref x0), (1, .int x1), (2, .int x2), (3, .int x3)] []) (k61 : Nat → Int32 → Int32 → Int32 → Int32 → Hp → Prop) (hk61 : ∀ (x0 : Nat) (x1 : Int32) (x2 : Int32) (x3 : Int32) (x4 : Int32) (M : Hp), k61 x0 x1 x2 x3 x4 M → Y p l e rm_Mo_reckon s m args below meth c D kCl (hTys κ) A 9 0 0 (MQ below (va_Qv post (hB D kCl (hTys κ) A) A) args s 0 0 A) M 61 [(0, .ref x0), (1, .int x1), (2, .int x2), (3, .int x3), (4, .int x4)] []) : ∀ (n : Nat) (x0 : Nat) (x1 : Int32) (x2 : Int32) (x3 : Int32) (x4 : Int32) (x5 : Int32) (M : Hp), wMo_reckon_70 post k24 k61 n x0 x1 x2 x3 x4 x5 M → Y p l e rm_Mo_reckon s m args below meth c D kCl (hTys κ) A 9 0 0 (MQ below (va_Qv post (hB D kCl (hTys κ) A) A) args s 0 0 A) M 70 [(0, .ref x0), (1, .int x1), (2, .int x2), (3, .int x3), (4, .int x4), (5, .int x5)] [] := by
  obtain ⟨hx, hb, hml, hr, hown, hts, hlocks, hE, hA⟩ := id C
  have hK := hE.1
  intro n
  induction n with
  | zero => intro x0 x1 x2 x3 x4 x5 M hwp; exact hwp.elim
  | succ n ih =>
    intro x0 x1 x2 x3 x4 x5 M hwp H locs ls hM hS hl
    unfold wMo_reckon_70 at hwp
    refine lv_iload hx hb d_Mo_reckon_70 (lv_at hl 5 rfl) ?_
    refine lv_aload_n hx hb d_Mo_reckon_72 rfl (lv_at hl 0 rfl) ?_
    obtain ⟨v29, ⟨fs30, he31, hv32⟩, hwp⟩ := hwp
    refine h_get (C := "BuckTablesModel") (T := Tc6) (N := 36) hx hb hts inc6 hown hK hM he31 rfl 14 (by decide) (hts _ kw_734) (fun _ h9 => h9) hv32 d_Mo_reckon_73 ?_
    refine lv_icmp_ge (tgt := 201) hx hb d_Mo_reckon_76 (by decide) (fun c33 => ?_) (fun c33 => ?_)
    · replace hwp := hwp.1 c33
      obtain ⟨z34, ez34⟩ : ∃ y : Int32, y = x4 + 1 := ⟨_, rfl⟩
      replace hwp := hwp z34 ez34
      refine lv_iinc (v := z34) (lv' := [(4, .int z34), (0, .ref x0), (1, .int x1), (2, .int x2), (3, .int x3), (5, .int x5)]) hx hb d_Mo_reckon_201 hl (k := 4) rfl (by rw [ez34]; rfl) (by decide) rfl (fun ls hl => ?_)
      refine lv_goto (tgt := 61) hx hb d_Mo_reckon_204 (by decide) ?_
      exact hk61 x0 x1 x2 x3 z34 M hwp H locs ls hM hS (lv_sub hl [1, 2, 3, 4, 0] rfl)
    · replace hwp := hwp.2 c33
      refine lv_aload_n hx hb d_Mo_reckon_79 rfl (lv_at hl 0 rfl) ?_
      refine lv_iload_n hx hb d_Mo_reckon_80 rfl (lv_at hl 1 rfl) ?_
      refine lv_iload_n hx hb d_Mo_reckon_81 rfl (lv_at hl 3 rfl) ?_
      refine lv_iload hx hb d_Mo_reckon_82 (lv_at hl 4 rfl) ?_
      refine lv_iload hx hb d_Mo_reckon_84 (lv_at hl 5 rfl) ?_
      obtain ⟨ho36, hwp⟩ := hwp
      refine h_calli hM hS hA (va_runV (As := [.int x1, .int x3, .int x4, .int x5]) (rest := []) ⟨hx, hb, hml, hown, hts⟩ (metMo_may l D κ H.size x0 x1 x3 x4 x5 M _ hwp) (cwV 4 hts (gV kw_910 kw_912 kp_29 kw_8 kw_913) rfl rfl rfl (by decide +kernel) ⟨(Nat.le_of_ble_eq_true rfl), (Nat.le_of_ble_eq_true rfl)⟩) (h_preV hE hM hS ho36 (r := ("BuckTablesModel", Tc6, 36)) rfl) rfl rfl hl.1 rfl (lv_room (Nat.le_of_ble_eq_true rfl)) d_Mo_reckon_86 ⟨(Nat.le_of_ble_eq_true rfl), (Nat.le_of_ble_eq_true rfl)⟩) (fun r37 M35 H locs hwp hM hS => ?_)
      refine lv_if_eq (tgt := 195) hx hb d_Mo_reckon_89 (by decide) (fun c38 => ?_) (fun c38 => ?_)
      · replace hwp := hwp.1 c38
        exact tMo_reckon_195 C post k24 hk24 k61 hk61 (wMo_reckon_70 post k24 k61 n) ih x0 x1 x2 x3 x4 x5 M35 hwp H locs ls hM hS (lv_sub hl [0, 1, 2, 3, 4, 5] rfl)
      · replace hwp := hwp.2 c38
        refine lv_aload_n hx hb d_Mo_reckon_92 rfl (lv_at hl 0 rfl) ?_
        refine lv_iload_n hx hb d_Mo_reckon_93 rfl (lv_at hl 2 rfl) ?_
        refine lv_iload hx hb d_Mo_reckon_94 (lv_at hl 4 rfl) ?_
        obtain ⟨ho40, hwp⟩ := hwp
        refine h_calli hM hS hA (va_runV (As := [.int x2, .int x4]) (rest := []) ⟨hx, hb, hml, hown, hts⟩ (metMo_behind l D κ H.size x0 x2 x4 M35 _ hwp) (cwV 2 hts (gV kw_914 kw_916 kp_30 kw_8 kw_917) rfl rfl rfl (by decide +kernel) ⟨(Nat.le_of_ble_eq_true rfl), (Nat.le_of_ble_eq_true rfl)⟩) (h_preV hE hM hS ho40 (r := ("BuckTablesModel", Tc6, 36)) rfl) rfl rfl hl.1 rfl (lv_room (Nat.le_of_ble_eq_true rfl)) d_Mo_reckon_96 ⟨(Nat.le_of_ble_eq_true rfl), (Nat.le_of_ble_eq_true rfl)⟩) (fun r41 M39 H locs hwp hM hS => ?_)
        refine lv_istore (lv' := [(6, .int r41), (0, .ref x0), (1, .int x1), (2, .int x2), (3, .int x3), (4, .int x4), (5, .int x5)]) hx hb d_Mo_reckon_99 hl (by decide) rfl (fun ls hl => ?_)
        refine lv_aload_n hx hb d_Mo_reckon_101 rfl (lv_at hl 1 rfl) ?_
        obtain ⟨a42, ⟨fs43, he44, hv45⟩, hwp⟩ := hwp
        refine h_get (C := "BuckTablesModel") (T := Tc6) (N := 36) hx hb hts inc6 hown hK hM he44 rfl 31 (by decide) (hts _ kw_751) (fun _ h9 => h9) hv45 d_Mo_reckon_102 ?_
        refine lv_iload hx hb d_Mo_reckon_105 (lv_at hl 0 rfl) ?_
        obtain ⟨v46, ⟨n47, f48, ha49, hi50, ev46⟩, hwp⟩ := hwp
        refine h_lald hx hb hK hM ha49 rfl hi50 d_Mo_reckon_107 ?_
        rw [← ev46]
        refine lv_aload_n hx hb d_Mo_reckon_108 rfl (lv_at hl 1 rfl) ?_
        refine lv_iload_n hx hb d_Mo_reckon_109 rfl (lv_at hl 2 rfl) ?_
        refine lv_iload hx hb d_Mo_reckon_110 (lv_at hl 5 rfl) ?_
        refine lv_iload_n hx hb d_Mo_reckon_112 rfl (lv_at hl 4 rfl) ?_
        refine lv_isub hx hb d_Mo_reckon_113 ?_
        refine lv_iload hx hb d_Mo_reckon_114 (lv_at hl 6 rfl) ?_
        obtain ⟨ho52, hwp⟩ := hwp
        refine h_calll hM hS hA (va_runV (As := [.int x1, .int (x4 - x3), .int x5]) (rest := [.long v46]) ⟨hx, hb, hml, hown, hts⟩ (metMo_worthOf l D κ H.size x0 x1 (x4 - x3) x5 M39 _ hwp) (cwV 3 hts (gV kw_918 kw_920 kp_31 kw_8 kw_921) rfl rfl rfl (by decide +kernel) ⟨(Nat.le_of_ble_eq_true rfl), (Nat.le_of_ble_eq_true rfl)⟩) (h_preV hE hM hS ho52 (r := ("BuckTablesModel", Tc6, 36)) rfl) rfl rfl hl.1 rfl (lv_room (Nat.le_of_ble_eq_true rfl)) d_Mo_reckon_116 ⟨(Nat.le_of_ble_eq_true rfl), (Nat.le_of_ble_eq_true rfl)⟩) (fun r53 M51 H locs hwp hM hS => ?_)
        refine lv_ladd hx hb d_Mo_reckon_119 ?_
        refine lv_aload_n hx hb d_Mo_reckon_120 rfl (lv_at hl 1 rfl) ?_
        obtain ⟨a54, ⟨fs55, he56, hv57⟩, hwp⟩ := hwp
        refine h_get (C := "BuckTablesModel") (T := Tc6) (N := 36) hx hb hts inc6 hown hK hM he56 rfl 23 (by decide) (hts _ kw_743) (fun _ h9 => h9) hv57 d_Mo_reckon_121 ?_
        refine lv_iload hx hb d_Mo_reckon_124 (lv_at hl 6 rfl) ?_
        obtain ⟨v58, ⟨n59, f60, ha61, hi62, ev58⟩, hwp⟩ := hwp
        refine h_lald hx hb hK hM ha61 rfl hi62 d_Mo_reckon_126 ?_
        rw [← ev58]
        refine lv_lsub hx hb d_Mo_reckon_127 ?_
        refine lv_topl (fun z63 ez63 => ?_)
        replace hwp := hwp z63 ez63
        refine lv_lstore (lv' := [(7, .long z63), (6, .int r41), (0, .ref x0), (1, .int x1), (2, .int x2), (3, .int x3), (4, .int x4), (5, .int x5)]) hx hb d_Mo_reckon_128 hl (by decide) rfl (fun ls hl => ?_)
        refine lv_lload hx hb d_Mo_reckon_130 (lv_at hl 0 rfl) ?_
        refine lv_aload_n hx hb d_Mo_reckon_132 rfl (lv_at hl 2 rfl) ?_
        obtain ⟨a64, ⟨fs65, he66, hv67⟩, hwp⟩ := hwp
        refine h_get (C := "BuckTablesModel") (T := Tc6) (N := 36) hx hb hts inc6 hown hK hM he66 rfl 31 (by decide) (hts _ kw_751) (fun _ h9 => h9) hv67 d_Mo_reckon_133 ?_
        refine lv_iload_n hx hb d_Mo_reckon_136 rfl (lv_at hl 5 rfl) ?_
        obtain ⟨v68, ⟨n69, f70, ha71, hi72, ev68⟩, hwp⟩ := hwp
        refine h_lald hx hb hK hM ha71 rfl hi72 d_Mo_reckon_137 ?_
        rw [← ev68]
        refine W.lcmp hx hb d_Mo_reckon_138 ?_
        refine lv_if_gt (tgt := 172) hx hb d_Mo_reckon_139 (by decide) (fun c73 => ?_) (fun c73 => ?_)
        · replace c73 := (lc_gt _ _).mp c73
          replace hwp := hwp.1 c73
          exact tMo_reckon_172 C post k24 hk24 k61 hk61 (wMo_reckon_70 post k24 k61 n) ih x0 x1 x2 x3 x4 x5 r41 z63 M51 hwp H locs ls hM hS (lv_sub hl [2, 3, 4, 5, 6, 7, 1, 0] rfl)
        · replace c73 := fun h9 => c73 ((lc_gt _ _).mpr h9)
          replace hwp := hwp.2 c73
          refine lv_lload hx hb d_Mo_reckon_142 (lv_at hl 0 rfl) ?_
          refine lv_aload_n hx hb d_Mo_reckon_144 rfl (lv_at hl 2 rfl) ?_
          obtain ⟨a74, ⟨fs75, he76, hv77⟩, hwp⟩ := hwp
          refine h_get (C := "BuckTablesModel") (T := Tc6) (N := 36) hx hb hts inc6 hown hK hM he76 rfl 31 (by decide) (hts _ kw_751) (fun _ h9 => h9) hv77 d_Mo_reckon_145 ?_
          refine lv_iload_n hx hb d_Mo_reckon_148 rfl (lv_at hl 5 rfl) ?_
          obtain ⟨v78, ⟨n79, f80, ha81, hi82, ev78⟩, hwp⟩ := hwp
          refine h_lald hx hb hK hM ha81 rfl hi82 d_Mo_reckon_149 ?_
          rw [← ev78]
          refine W.lcmp hx hb d_Mo_reckon_150 ?_
          refine lv_if_ne (tgt := 195) hx hb d_Mo_reckon_151 (by decide) (fun c83 => ?_) (fun c83 => ?_)
          · replace c83 := fun h9 => c83 ((lc_eq _ _).mpr h9)
            replace hwp := hwp.2 c83
            exact tMo_reckon_195 C post k24 hk24 k61 hk61 (wMo_reckon_70 post k24 k61 n) ih x0 x1 x2 x3 x4 x5 M51 hwp H locs ls hM hS (lv_sub hl [2, 3, 4, 5, 6, 7] rfl)
          · replace c83 := (lc_eq _ _).mp c83
            replace hwp := hwp.1 c83
            refine lv_aload_n hx hb d_Mo_reckon_154 rfl (lv_at hl 2 rfl) ?_
            obtain ⟨a84, ⟨fs85, he86, hv87⟩, hwp⟩ := hwp
            refine h_get (C := "BuckTablesModel") (T := Tc6) (N := 36) hx hb hts inc6 hown hK hM he86 rfl 32 (by decide) (hts _ kw_752) (fun _ h9 => h9) hv87 d_Mo_reckon_155 ?_
            refine lv_iload hx hb d_Mo_reckon_158 (lv_at hl 1 rfl) ?_
            obtain ⟨v88, ⟨n89, f90, ha91, hi92, ev88⟩, hwp⟩ := hwp
            refine h_iald hx hb hK hM ha91 rfl hi92 d_Mo_reckon_160 ?_
            rw [← ev88]
            refine lv_iconst (v := 1) hx hb d_Mo_reckon_161 (by decide) ?_
            refine lv_iadd hx hb d_Mo_reckon_162 ?_
            refine lv_aload_n hx hb d_Mo_reckon_163 rfl (lv_at hl 2 rfl) ?_
            obtain ⟨a93, ⟨fs94, he95, hv96⟩, hwp⟩ := hwp
            refine h_get (C := "BuckTablesModel") (T := Tc6) (N := 36) hx hb hts inc6 hown hK hM he95 rfl 32 (by decide) (hts _ kw_752) (fun _ h9 => h9) hv96 d_Mo_reckon_164 ?_
            refine lv_iload_n hx hb d_Mo_reckon_167 rfl (lv_at hl 5 rfl) ?_
            obtain ⟨v97, ⟨n98, f99, ha100, hi101, ev97⟩, hwp⟩ := hwp
            refine h_iald hx hb hK hM ha100 rfl hi101 d_Mo_reckon_168 ?_
            rw [← ev97]
            refine lv_icmp_ge (tgt := 195) hx hb d_Mo_reckon_169 (by decide) (fun c102 => ?_) (fun c102 => ?_)
            · replace hwp := hwp.1 c102
              exact tMo_reckon_195 C post k24 hk24 k61 hk61 (wMo_reckon_70 post k24 k61 n) ih x0 x1 x2 x3 x4 x5 M51 hwp H locs ls hM hS (lv_sub hl [2, 3, 4, 5, 6, 7] rfl)
            · replace hwp := hwp.2 c102
              exact tMo_reckon_172 C post k24 hk24 k61 hk61 (wMo_reckon_70 post k24 k61 n) ih x0 x1 x2 x3 x4 x5 r41 z63 M51 hwp H locs ls hM hS (lv_sub hl [2, 3, 4, 5, 6, 7, 1, 0] rfl)
def wMo_reckon_61 (post : Hp → Prop) (k24 : Nat → Int32 → Int32 → Int32 → Hp → Prop) : Nat → Nat → Int32 → Int32 → Int32 → Int32 → Hp → Prop
  | 0 => fun _ _ _ _ _ _ => False
  | n + 1 => fun x0 x1 x2 x3 x4 M => ((x2 < x4 → (∀ z104 : Int32, z104 = x3 + (-1) → (k24 x0 x1 x2 z104 M))) ∧ (¬ x2 < x4 → (∃ n105 : Nat, wMo_reckon_70 post k24 (wMo_reckon_61 post k24 n) n105 x0 x1 x2 x3 x4 (0 : Int32) M)))
set_option maxRecDepth 100000 in
set_option maxHeartbeats 4000000 in
theorem tMo_reckon_61 {p : Program} {l : Launch} {e : Env} {s : State} {m : MethodId} {args : Array Value} {below : List Frame} {meth : Method} {c : Code} {D : va_G} {κ : Nat → ClassId} {A : Nat → Prop} (C : Cx_Mo_reckon p s m args meth c D κ A) (post : Hp → Prop) (k24 : Nat → Int32 → Int32 → Int32 → Hp → Prop) (hk24 : ∀ (x0 : Nat) (x1 : Int32) (x2 : Int32) (x3 : Int32) (M : Hp), k24 x0 x1 x2 x3 M → Y p l e rm_Mo_reckon s m args below meth c D kCl (hTys κ) A 9 0 0 (MQ below (va_Qv post (hB D kCl (hTys κ) A) A) args s 0 0 A) M 24 [(0, .ref x0), (1, .int x1), (2, .int x2), (3, .int x3)] []) : ∀ (n : Nat) (x0 : Nat) (x1 : Int32) (x2 : Int32) (x3 : Int32) (x4 : Int32) (M : Hp), wMo_reckon_61 post k24 n x0 x1 x2 x3 x4 M → Y p l e rm_Mo_reckon s m args below meth c D kCl (hTys κ) A 9 0 0 (MQ below (va_Qv post (hB D kCl (hTys κ) A) A) args s 0 0 A) M 61 [(0, .ref x0), (1, .int x1), (2, .int x2), (3, .int x3), (4, .int x4)] [] := by
  obtain ⟨hx, hb, hml, hr, hown, hts, hlocks, hE, hA⟩ := id C
  have hK := hE.1
  intro n
  induction n with
  | zero => intro x0 x1 x2 x3 x4 M hwp; exact hwp.elim
  | succ n ih =>
    intro x0 x1 x2 x3 x4 M hwp H locs ls hM hS hl
    unfold wMo_reckon_61 at hwp
    refine lv_iload hx hb d_Mo_reckon_61 (lv_at hl 4 rfl) ?_
    refine lv_iload_n hx hb d_Mo_reckon_63 rfl (lv_at hl 2 rfl) ?_
    refine lv_icmp_gt (tgt := 207) hx hb d_Mo_reckon_64 (by decide) (fun c103 => ?_) (fun c103 => ?_)
    · replace hwp := hwp.1 c103
      obtain ⟨z104, ez104⟩ : ∃ y : Int32, y = x3 + (-1) := ⟨_, rfl⟩
      replace hwp := hwp z104 ez104
      refine lv_iinc (v := z104) (lv' := [(3, .int z104), (0, .ref x0), (1, .int x1), (2, .int x2), (4, .int x4)]) hx hb d_Mo_reckon_207 hl (k := 3) rfl (by rw [ez104]; rfl) (by decide) rfl (fun ls hl => ?_)
      refine lv_goto (tgt := 24) hx hb d_Mo_reckon_210 (by decide) ?_
      exact hk24 x0 x1 x2 z104 M hwp H locs ls hM hS (lv_sub hl [1, 2, 3, 0] rfl)
    · replace hwp := hwp.2 c103
      refine lv_iconst (v := 0) hx hb d_Mo_reckon_67 (by decide) ?_
      refine lv_istore (lv' := [(5, .int (0 : Int32)), (0, .ref x0), (1, .int x1), (2, .int x2), (3, .int x3), (4, .int x4)]) hx hb d_Mo_reckon_68 hl (by decide) rfl (fun ls hl => ?_)
      obtain ⟨n105, hwp⟩ := hwp
      exact tMo_reckon_70 C post k24 hk24 (wMo_reckon_61 post k24 n) ih n105 x0 x1 x2 x3 x4 (0 : Int32) M hwp H locs ls hM hS (lv_sub hl [1, 2, 3, 4, 5, 0] rfl)
def wMo_reckon_24 (post : Hp → Prop)  : Nat → Nat → Int32 → Int32 → Int32 → Hp → Prop
  | 0 => fun _ _ _ _ _ => False
  | n + 1 => fun x0 x1 x2 x3 M => ((x3 < 0 → (post M)) ∧ (¬ x3 < 0 → (∃ a107 : Nat, fA M x0 6 31 a107 ∧ (∃ a111 : Nat, fA M x0 6 31 a111 ∧ (∃ v115 : Int64, aJ M a111 (x3 + (1 : Int32)) v115 ∧ (∃ M124 : Hp, sJ M a107 x3 v115 M124 ∧ (∃ a125 : Nat, fA M124 x0 6 32 a125 ∧ (∃ a129 : Nat, fA M124 x0 6 32 a129 ∧ (∃ v133 : Int32, aI M124 a129 (x3 + (1 : Int32)) v133 ∧ (∃ M142 : Hp, sI M124 a125 x3 v133 M142 ∧ (∀ z143 : Int32, z143 = (x3 + (1 : Int32)) → (∃ n144 : Nat, wMo_reckon_61 post (wMo_reckon_24 post n) n144 x0 x1 x2 x3 z143 M142))))))))))))
set_option maxRecDepth 100000 in
set_option maxHeartbeats 4000000 in
theorem tMo_reckon_24 {p : Program} {l : Launch} {e : Env} {s : State} {m : MethodId} {args : Array Value} {below : List Frame} {meth : Method} {c : Code} {D : va_G} {κ : Nat → ClassId} {A : Nat → Prop} (C : Cx_Mo_reckon p s m args meth c D κ A) (post : Hp → Prop)  : ∀ (n : Nat) (x0 : Nat) (x1 : Int32) (x2 : Int32) (x3 : Int32) (M : Hp), wMo_reckon_24 post n x0 x1 x2 x3 M → Y p l e rm_Mo_reckon s m args below meth c D kCl (hTys κ) A 9 0 0 (MQ below (va_Qv post (hB D kCl (hTys κ) A) A) args s 0 0 A) M 24 [(0, .ref x0), (1, .int x1), (2, .int x2), (3, .int x3)] [] := by
  obtain ⟨hx, hb, hml, hr, hown, hts, hlocks, hE, hA⟩ := id C
  have hK := hE.1
  intro n
  induction n with
  | zero => intro x0 x1 x2 x3 M hwp; exact hwp.elim
  | succ n ih =>
    intro x0 x1 x2 x3 M hwp H locs ls hM hS hl
    unfold wMo_reckon_24 at hwp
    refine lv_iload_n hx hb d_Mo_reckon_24 rfl (lv_at hl 3 rfl) ?_
    refine lv_if_lt (tgt := 213) hx hb d_Mo_reckon_25 (by decide) (fun c106 => ?_) (fun c106 => ?_)
    · replace hwp := hwp.1 c106
      exact W.vret hx hb hr (fun t ht hW => ⟨⟨M, rfl, hwp, by show hw D kCl (hTys κ) A M t.heap; rw [ht]; exact hM⟩, hS.F ht⟩) hS.2.2 d_Mo_reckon_213
    · replace hwp := hwp.2 c106
      refine lv_aload_n hx hb d_Mo_reckon_28 rfl (lv_at hl 0 rfl) ?_
      obtain ⟨a107, ⟨fs108, he109, hv110⟩, hwp⟩ := hwp
      refine h_get (C := "BuckTablesModel") (T := Tc6) (N := 36) hx hb hts inc6 hown hK hM he109 rfl 31 (by decide) (hts _ kw_751) (fun _ h9 => h9) hv110 d_Mo_reckon_29 ?_
      refine lv_iload_n hx hb d_Mo_reckon_32 rfl (lv_at hl 3 rfl) ?_
      refine lv_aload_n hx hb d_Mo_reckon_33 rfl (lv_at hl 0 rfl) ?_
      obtain ⟨a111, ⟨fs112, he113, hv114⟩, hwp⟩ := hwp
      refine h_get (C := "BuckTablesModel") (T := Tc6) (N := 36) hx hb hts inc6 hown hK hM he113 rfl 31 (by decide) (hts _ kw_751) (fun _ h9 => h9) hv114 d_Mo_reckon_34 ?_
      refine lv_iload_n hx hb d_Mo_reckon_37 rfl (lv_at hl 3 rfl) ?_
      refine lv_iconst (v := 1) hx hb d_Mo_reckon_38 (by decide) ?_
      refine lv_iadd hx hb d_Mo_reckon_39 ?_
      obtain ⟨v115, ⟨n116, f117, ha118, hi119, ev115⟩, hwp⟩ := hwp
      refine h_lald hx hb hK hM ha118 rfl hi119 d_Mo_reckon_40 ?_
      rw [← ev115]
      obtain ⟨M124, ⟨n120, f121, ha122, hi123, eM124⟩, hwp⟩ := hwp
      refine h_last hx hb hK hM hS ha122 rfl hi123 d_Mo_reckon_41 (fun H locs hM hS => ?_)
      rw [← eM124] at hM
      refine lv_aload_n hx hb d_Mo_reckon_42 rfl (lv_at hl 0 rfl) ?_
      obtain ⟨a125, ⟨fs126, he127, hv128⟩, hwp⟩ := hwp
      refine h_get (C := "BuckTablesModel") (T := Tc6) (N := 36) hx hb hts inc6 hown hK hM he127 rfl 32 (by decide) (hts _ kw_752) (fun _ h9 => h9) hv128 d_Mo_reckon_43 ?_
      refine lv_iload_n hx hb d_Mo_reckon_46 rfl (lv_at hl 3 rfl) ?_
      refine lv_aload_n hx hb d_Mo_reckon_47 rfl (lv_at hl 0 rfl) ?_
      obtain ⟨a129, ⟨fs130, he131, hv132⟩, hwp⟩ := hwp
      refine h_get (C := "BuckTablesModel") (T := Tc6) (N := 36) hx hb hts inc6 hown hK hM he131 rfl 32 (by decide) (hts _ kw_752) (fun _ h9 => h9) hv132 d_Mo_reckon_48 ?_
      refine lv_iload_n hx hb d_Mo_reckon_51 rfl (lv_at hl 3 rfl) ?_
      refine lv_iconst (v := 1) hx hb d_Mo_reckon_52 (by decide) ?_
      refine lv_iadd hx hb d_Mo_reckon_53 ?_
      obtain ⟨v133, ⟨n134, f135, ha136, hi137, ev133⟩, hwp⟩ := hwp
      refine h_iald hx hb hK hM ha136 rfl hi137 d_Mo_reckon_54 ?_
      rw [← ev133]
      obtain ⟨M142, ⟨n138, f139, ha140, hi141, eM142⟩, hwp⟩ := hwp
      refine h_iast hx hb hK hM hS ha140 rfl hi141 d_Mo_reckon_55 (fun H locs hM hS => ?_)
      rw [← eM142] at hM
      refine lv_iload_n hx hb d_Mo_reckon_56 rfl (lv_at hl 3 rfl) ?_
      refine lv_iconst (v := 1) hx hb d_Mo_reckon_57 (by decide) ?_
      refine lv_iadd hx hb d_Mo_reckon_58 ?_
      refine lv_topi (fun z143 ez143 => ?_)
      replace hwp := hwp z143 ez143
      refine lv_istore (lv' := [(4, .int z143), (0, .ref x0), (1, .int x1), (2, .int x2), (3, .int x3)]) hx hb d_Mo_reckon_59 hl (by decide) rfl (fun ls hl => ?_)
      obtain ⟨n144, hwp⟩ := hwp
      exact tMo_reckon_61 C post (wMo_reckon_24 post n) ih n144 x0 x1 x2 x3 z143 M142 hwp H locs ls hM hS (lv_sub hl [1, 2, 3, 4, 0] rfl)
def wpMo_reckon (self : Nat) (p0 : Int32) (M : Hp) (post : Hp → Prop) : Prop := (hob M self 6 ∧ (wpMo_stepsOf self p0 M (fun (r147 : Int32) (M145 : Hp) => (∃ a148 : Nat, fA M145 self 6 31 a148 ∧ (∃ M156 : Hp, sJ M145 a148 r147 (0 : Int64) M156 ∧ (∃ a157 : Nat, fA M156 self 6 32 a157 ∧ (∃ M165 : Hp, sI M156 a157 r147 (0 : Int32) M165 ∧ (∀ z166 : Int32, z166 = (r147 - (1 : Int32)) → (∃ n167 : Nat, wMo_reckon_24 post n167 self p0 r147 z166 M165)))))))))
set_option maxRecDepth 100000 in
set_option maxHeartbeats 4000000 in
theorem eMo_reckon {p : Program} {l : Launch} {e : Env} {s : State} {m : MethodId} {args : Array Value} {below : List Frame} {meth : Method} {c : Code} {D : va_G} {κ : Nat → ClassId} {A : Nat → Prop} (C : Cx_Mo_reckon p s m args meth c D κ A) (post : Hp → Prop) (self : Nat) (p0 : Int32) (M : Hp) (hwp : wpMo_reckon self p0 M post) : Y p l e rm_Mo_reckon s m args below meth c D kCl (hTys κ) A 9 0 0 (MQ below (va_Qv post (hB D kCl (hTys κ) A) A) args s 0 0 A) M 0 [(0, .ref self), (1, .int p0)] [] := by
  obtain ⟨hx, hb, hml, hr, hown, hts, hlocks, hE, hA⟩ := id C
  have hK := hE.1
  intro H locs ls hM hS hl
  unfold wpMo_reckon at hwp
  refine lv_aload_n hx hb d_Mo_reckon_0 rfl (lv_at hl 0 rfl) ?_
  refine lv_iload_n hx hb d_Mo_reckon_1 rfl (lv_at hl 1 rfl) ?_
  obtain ⟨ho146, hwp⟩ := hwp
  refine h_calli hM hS hA (va_runV (As := [.int p0]) (rest := []) ⟨hx, hb, hml, hown, hts⟩ (metMo_stepsOf l D κ H.size self p0 M _ hwp) (cwV 1 hts (gV kw_875 kw_877 kp_26 kw_8 kw_878) rfl rfl rfl (by decide +kernel) ⟨(Nat.le_of_ble_eq_true rfl), (Nat.le_of_ble_eq_true rfl)⟩) (h_preV hE hM hS ho146 (r := ("BuckTablesModel", Tc6, 36)) rfl) rfl rfl hl.1 rfl (lv_room (Nat.le_of_ble_eq_true rfl)) d_Mo_reckon_2 ⟨(Nat.le_of_ble_eq_true rfl), (Nat.le_of_ble_eq_true rfl)⟩) (fun r147 M145 H locs hwp hM hS => ?_)
  refine lv_istore_n (lv' := [(2, .int r147), (0, .ref self), (1, .int p0)]) hx hb d_Mo_reckon_5 rfl hl (by decide) rfl (fun ls hl => ?_)
  refine lv_aload_n hx hb d_Mo_reckon_6 rfl (lv_at hl 1 rfl) ?_
  obtain ⟨a148, ⟨fs149, he150, hv151⟩, hwp⟩ := hwp
  refine h_get (C := "BuckTablesModel") (T := Tc6) (N := 36) hx hb hts inc6 hown hK hM he150 rfl 31 (by decide) (hts _ kw_751) (fun _ h9 => h9) hv151 d_Mo_reckon_7 ?_
  refine lv_iload_n hx hb d_Mo_reckon_10 rfl (lv_at hl 0 rfl) ?_
  refine lv_lconst (v := 0) hx hb d_Mo_reckon_11 (by decide) ?_
  obtain ⟨M156, ⟨n152, f153, ha154, hi155, eM156⟩, hwp⟩ := hwp
  refine h_last hx hb hK hM hS ha154 rfl hi155 d_Mo_reckon_12 (fun H locs hM hS => ?_)
  rw [← eM156] at hM
  refine lv_aload_n hx hb d_Mo_reckon_13 rfl (lv_at hl 1 rfl) ?_
  obtain ⟨a157, ⟨fs158, he159, hv160⟩, hwp⟩ := hwp
  refine h_get (C := "BuckTablesModel") (T := Tc6) (N := 36) hx hb hts inc6 hown hK hM he159 rfl 32 (by decide) (hts _ kw_752) (fun _ h9 => h9) hv160 d_Mo_reckon_14 ?_
  refine lv_iload_n hx hb d_Mo_reckon_17 rfl (lv_at hl 0 rfl) ?_
  refine lv_iconst (v := 0) hx hb d_Mo_reckon_18 (by decide) ?_
  obtain ⟨M165, ⟨n161, f162, ha163, hi164, eM165⟩, hwp⟩ := hwp
  refine h_iast hx hb hK hM hS ha163 rfl hi164 d_Mo_reckon_19 (fun H locs hM hS => ?_)
  rw [← eM165] at hM
  refine lv_iload_n hx hb d_Mo_reckon_20 rfl (lv_at hl 0 rfl) ?_
  refine lv_iconst (v := 1) hx hb d_Mo_reckon_21 (by decide) ?_
  refine lv_isub hx hb d_Mo_reckon_22 ?_
  refine lv_topi (fun z166 ez166 => ?_)
  replace hwp := hwp z166 ez166
  refine lv_istore_n (lv' := [(3, .int z166), (2, .int r147), (0, .ref self), (1, .int p0)]) hx hb d_Mo_reckon_23 rfl hl (by decide) rfl (fun ls hl => ?_)
  obtain ⟨n167, hwp⟩ := hwp
  exact tMo_reckon_24 C post n167 self p0 r147 z166 M165 hwp H locs ls hM hS (lv_sub hl [2, 3, 1, 0] rfl)
set_option maxRecDepth 100000 in
set_option maxHeartbeats 4000000 in
theorem metMo_reckon (l : Launch) (D : va_G) (κ : Nat → ClassId) (sz : Nat) (self : Nat) (p0 : Int32) (M : Hp) (post : Hp → Prop) (hwp : wpMo_reckon self p0 M post) : Met l y_Mo_reckon ws_Mo_reckon rm_Mo_reckon (hPc D kCl (hTys κ) M sz [.ref self, .int p0]) (va_Qv post (hB D kCl (hTys κ) (hAx M sz)) (hAx M sz)) 0 0 (hAx M sz) := by
  refine Met.ofW (cc := prog_8_method_21_code) (maxL := 9) (ret := none) (by decide +kernel) rfl ?_
  intro p e s m args below meth c s₁ B hml hv
  obtain ⟨rfl, hsz, hE, hM0⟩ := hv
  have hts : ∀ w ∈ WG, w.before _ s = true := fun w h => atoms_spec (ws := ws_Mo_reckon) B.pre w (List.mem_cons_of_mem _ h)
  subst hsz
  have C : Cx_Mo_reckon p s m _ meth c D κ (hAx M s.heap.size) := ⟨B.exec, B.bytes, hml, B.returns, findClass_of_methodNamed B.named, hts, B.notSynchronized, hE, fun q h => Or.inr h⟩
  have hl := lv_entry ([.ref self, .int p0]) (n := 9) (Nat.le_of_ble_eq_true rfl)
  rw [lg_entry_eq]
  generalize (lg_sl ([.ref self, .int p0]) ++ List.replicate (9 - (lg_sl ([.ref self, .int p0])).length) Slot.unset).toArray = ls at hl ⊢
  exact eMo_reckon C post self p0 M hwp s.heap [] ls (hM0.self (sz := s.heap.size)) va_S.rf hl
abbrev rm_Mo_goOn : Room := { frames := 1, cells := 0, slots := 0, locals := 30 }
def Cx_Mo_goOn (p : Program) (s : State) (m : MethodId) (args : Array Value) (meth : Method) (c : Code) (D : va_G) (κ : Nat → ClassId) (A : Nat → Prop) : Prop := p.tables.exec = Jvm.exec ∧ c.code = prog_8_method_22_code ∧ c.maxLocals = 8 ∧ meth.sig.returnType = (some .int) ∧ s.vm.findClass "BuckTablesModel" = some m.cls ∧ (∀ w ∈ WG, w.before args s = true) ∧ meth.locks = false ∧ hEnv D kCl (hTys κ) A s ∧ (∀ q, s.heap.size ≤ q → A q)
def wMo_goOn_121 (post : Int32 → Hp → Prop) (k3 : Nat → Int32 → Int32 → Int32 → Int32 → Hp → Prop) (k12 : Nat → Int32 → Int32 → Int32 → Int32 → Int32 → Hp → Prop) (x0 : Nat) (x1 : Int32) (x2 : Int32) (x3 : Int32) (x4 : Int32) (x5 : Int32) (M : Hp) : Prop := (∀ z1 : Int32, z1 = x5 + 1 → (k12 x0 x1 x2 x3 x4 z1 M))
set_option maxRecDepth 100000 in
set_option maxHeartbeats 4000000 in
theorem tMo_goOn_121 {p : Program} {l : Launch} {e : Env} {s : State} {m : MethodId} {args : Array Value} {below : List Frame} {meth : Method} {c : Code} {D : va_G} {κ : Nat → ClassId} {A : Nat → Prop} (C : Cx_Mo_goOn p s m args meth c D κ A) (post : Int32 → Hp → Prop) (k3 : Nat → Int32 → Int32 → Int32 → Int32 → Hp → Prop) (hk3 : ∀ (x0 : Nat) (x1 : Int32) (x2 : Int32) (x3 : Int32) (x4 : Int32) (M : Hp), k3 x0 x1 x2 x3 x4 M → Y p l e rm_Mo_goOn s m args below meth c D kCl (hTys κ) A 8 0 0 (MQ below (va_Qi post (hB D kCl (hTys κ) A) A) args s 0 0 A) M 3 [(0, .ref x0), (1, .int x1), (2, .int x2), (3, .int x3), (4, .int x4)] []) (k12 : Nat → Int32 → Int32 → Int32 → Int32 → Int32 → Hp → Prop) (hk12 : ∀ (x0 : Nat) (x1 : Int32) (x2 : Int32) (x3 : Int32) (x4 : Int32) (x5 : Int32) (M : Hp), k12 x0 x1 x2 x3 x4 x5 M → Y p l e rm_Mo_goOn s m args below meth c D kCl (hTys κ) A 8 0 0 (MQ below (va_Qi post (hB D kCl (hTys κ) A) A) args s 0 0 A) M 12 [(0, .ref x0), (1, .int x1), (2, .int x2), (3, .int x3), (4, .int x4), (5, .int x5)] []) (x0 : Nat) (x1 : Int32) (x2 : Int32) (x3 : Int32) (x4 : Int32) (x5 : Int32) (M : Hp) (hwp : wMo_goOn_121 post k3 k12 x0 x1 x2 x3 x4 x5 M) : Y p l e rm_Mo_goOn s m args below meth c D kCl (hTys κ) A 8 0 0 (MQ below (va_Qi post (hB D kCl (hTys κ) A) A) args s 0 0 A) M 121 [(0, .ref x0), (1, .int x1), (2, .int x2), (3, .int x3), (4, .int x4), (5, .int x5)] [] := by
  obtain ⟨hx, hb, hml, hr, hown, hts, hlocks, hE, hA⟩ := id C
  have hK := hE.1
  intro H locs ls hM hS hl
  unfold wMo_goOn_121 at hwp
  obtain ⟨z1, ez1⟩ : ∃ y : Int32, y = x5 + 1 := ⟨_, rfl⟩
  replace hwp := hwp z1 ez1
  refine lv_iinc (v := z1) (lv' := [(5, .int z1), (0, .ref x0), (1, .int x1), (2, .int x2), (3, .int x3), (4, .int x4)]) hx hb d_Mo_goOn_121 hl (k := 5) rfl (by rw [ez1]; rfl) (by decide) rfl (fun ls hl => ?_)
  refine lv_goto (tgt := 12) hx hb d_Mo_goOn_124 (by decide) ?_
  exact hk12 x0 x1 x2 x3 x4 z1 M hwp H locs ls hM hS (lv_sub hl [1, 2, 3, 4, 5, 0] rfl)
def wMo_goOn_90 (post : Int32 → Hp → Prop) (k3 : Nat → Int32 → Int32 → Int32 → Int32 → Hp → Prop) (k12 : Nat → Int32 → Int32 → Int32 → Int32 → Int32 → Hp → Prop) (x0 : Nat) (x1 : Int32) (x2 : Int32) (x3 : Int32) (x4 : Int32) (x5 : Int32) (y0 : Int32) (M : Hp) : Prop := ((y0 = 0 → (wMo_goOn_121 post k3 k12 x0 x1 x2 x3 x4 x5 M)) ∧ (¬ y0 = 0 → (hob M x0 6 ∧ (wpMo_may x0 x1 x2 x4 x5 M (fun (r5 : Int32) (M3 : Hp) => ((r5 = 0 → (wMo_goOn_121 post k3 k12 x0 x1 x2 x3 x4 x5 M3)) ∧ (¬ r5 = 0 → (post (((8 : Int32) * (x4 - x2)) + x5) M3))))))))
set_option maxRecDepth 100000 in
set_option maxHeartbeats 4000000 in
theorem tMo_goOn_90 {p : Program} {l : Launch} {e : Env} {s : State} {m : MethodId} {args : Array Value} {below : List Frame} {meth : Method} {c : Code} {D : va_G} {κ : Nat → ClassId} {A : Nat → Prop} (C : Cx_Mo_goOn p s m args meth c D κ A) (post : Int32 → Hp → Prop) (k3 : Nat → Int32 → Int32 → Int32 → Int32 → Hp → Prop) (hk3 : ∀ (x0 : Nat) (x1 : Int32) (x2 : Int32) (x3 : Int32) (x4 : Int32) (M : Hp), k3 x0 x1 x2 x3 x4 M → Y p l e rm_Mo_goOn s m args below meth c D kCl (hTys κ) A 8 0 0 (MQ below (va_Qi post (hB D kCl (hTys κ) A) A) args s 0 0 A) M 3 [(0, .ref x0), (1, .int x1), (2, .int x2), (3, .int x3), (4, .int x4)] []) (k12 : Nat → Int32 → Int32 → Int32 → Int32 → Int32 → Hp → Prop) (hk12 : ∀ (x0 : Nat) (x1 : Int32) (x2 : Int32) (x3 : Int32) (x4 : Int32) (x5 : Int32) (M : Hp), k12 x0 x1 x2 x3 x4 x5 M → Y p l e rm_Mo_goOn s m args below meth c D kCl (hTys κ) A 8 0 0 (MQ below (va_Qi post (hB D kCl (hTys κ) A) A) args s 0 0 A) M 12 [(0, .ref x0), (1, .int x1), (2, .int x2), (3, .int x3), (4, .int x4), (5, .int x5)] []) (x0 : Nat) (x1 : Int32) (x2 : Int32) (x3 : Int32) (x4 : Int32) (x5 : Int32) (y0 : Int32) (M : Hp) (hwp : wMo_goOn_90 post k3 k12 x0 x1 x2 x3 x4 x5 y0 M) : Y p l e rm_Mo_goOn s m args below meth c D kCl (hTys κ) A 8 0 0 (MQ below (va_Qi post (hB D kCl (hTys κ) A) A) args s 0 0 A) M 90 [(0, .ref x0), (1, .int x1), (2, .int x2), (3, .int x3), (4, .int x4), (5, .int x5)] [.int y0] := by
  obtain ⟨hx, hb, hml, hr, hown, hts, hlocks, hE, hA⟩ := id C
  have hK := hE.1
  intro H locs ls hM hS hl
  unfold wMo_goOn_90 at hwp
  refine lv_istore (lv' := [(7, .int y0), (0, .ref x0), (1, .int x1), (2, .int x2), (3, .int x3), (4, .int x4), (5, .int x5)]) hx hb d_Mo_goOn_90 hl (by decide) rfl (fun ls hl => ?_)
  refine lv_iload hx hb d_Mo_goOn_92 (lv_at hl 0 rfl) ?_
  refine lv_if_eq (tgt := 121) hx hb d_Mo_goOn_94 (by decide) (fun c2 => ?_) (fun c2 => ?_)
  · replace hwp := hwp.1 c2
    exact tMo_goOn_121 C post k3 hk3 k12 hk12 x0 x1 x2 x3 x4 x5 M hwp H locs ls hM hS (lv_sub hl [1, 2, 3, 4, 5, 6] rfl)
  · replace hwp := hwp.2 c2
    refine lv_aload_n hx hb d_Mo_goOn_97 rfl (lv_at hl 1 rfl) ?_
    refine lv_iload_n hx hb d_Mo_goOn_98 rfl (lv_at hl 2 rfl) ?_
    refine lv_iload_n hx hb d_Mo_goOn_99 rfl (lv_at hl 3 rfl) ?_
    refine lv_iload hx hb d_Mo_goOn_100 (lv_at hl 5 rfl) ?_
    refine lv_iload hx hb d_Mo_goOn_102 (lv_at hl 6 rfl) ?_
    obtain ⟨ho4, hwp⟩ := hwp
    refine h_calli hM hS hA (va_runV (As := [.int x1, .int x2, .int x4, .int x5]) (rest := []) ⟨hx, hb, hml, hown, hts⟩ (metMo_may l D κ H.size x0 x1 x2 x4 x5 M _ hwp) (cwV 4 hts (gV kw_910 kw_912 kp_29 kw_8 kw_913) rfl rfl rfl (by decide +kernel) ⟨(Nat.le_of_ble_eq_true rfl), (Nat.le_of_ble_eq_true rfl)⟩) (h_preV hE hM hS ho4 (r := ("BuckTablesModel", Tc6, 36)) rfl) rfl rfl hl.1 rfl (lv_room (Nat.le_of_ble_eq_true rfl)) d_Mo_goOn_104 ⟨(Nat.le_of_ble_eq_true rfl), (Nat.le_of_ble_eq_true rfl)⟩) (fun r5 M3 H locs hwp hM hS => ?_)
    refine lv_if_eq (tgt := 121) hx hb d_Mo_goOn_107 (by decide) (fun c6 => ?_) (fun c6 => ?_)
    · replace hwp := hwp.1 c6
      exact tMo_goOn_121 C post k3 hk3 k12 hk12 x0 x1 x2 x3 x4 x5 M3 hwp H locs ls hM hS (lv_sub hl [1, 2, 3, 4, 5, 6] rfl)
    · replace hwp := hwp.2 c6
      refine lv_bipush (v := 8) hx hb d_Mo_goOn_110 (by decide) ?_
      refine lv_iload hx hb d_Mo_goOn_112 (lv_at hl 5 rfl) ?_
      refine lv_iload_n hx hb d_Mo_goOn_114 rfl (lv_at hl 3 rfl) ?_
      refine lv_isub hx hb d_Mo_goOn_115 ?_
      refine lv_imul hx hb d_Mo_goOn_116 ?_
      refine lv_iload hx hb d_Mo_goOn_117 (lv_at hl 6 rfl) ?_
      refine lv_iadd hx hb d_Mo_goOn_119 ?_
      exact W.iret (v := (((8 : Int32) * (x4 - x2)) + x5)) hx hb hr (fun t ht hW => ⟨⟨(((8 : Int32) * (x4 - x2)) + x5), M3, rfl, hwp, by show hw D kCl (hTys κ) A M3 t.heap; rw [ht]; exact hM⟩, hS.F ht⟩) hS.2.2 d_Mo_goOn_120
def wMo_goOn_89 (post : Int32 → Hp → Prop) (k3 : Nat → Int32 → Int32 → Int32 → Int32 → Hp → Prop) (k12 : Nat → Int32 → Int32 → Int32 → Int32 → Int32 → Hp → Prop) (x0 : Nat) (x1 : Int32) (x2 : Int32) (x3 : Int32) (x4 : Int32) (x5 : Int32) (M : Hp) : Prop := (wMo_goOn_90 post k3 k12 x0 x1 x2 x3 x4 x5 (0 : Int32) M)
set_option maxRecDepth 100000 in
set_option maxHeartbeats 4000000 in
theorem tMo_goOn_89 {p : Program} {l : Launch} {e : Env} {s : State} {m : MethodId} {args : Array Value} {below : List Frame} {meth : Method} {c : Code} {D : va_G} {κ : Nat → ClassId} {A : Nat → Prop} (C : Cx_Mo_goOn p s m args meth c D κ A) (post : Int32 → Hp → Prop) (k3 : Nat → Int32 → Int32 → Int32 → Int32 → Hp → Prop) (hk3 : ∀ (x0 : Nat) (x1 : Int32) (x2 : Int32) (x3 : Int32) (x4 : Int32) (M : Hp), k3 x0 x1 x2 x3 x4 M → Y p l e rm_Mo_goOn s m args below meth c D kCl (hTys κ) A 8 0 0 (MQ below (va_Qi post (hB D kCl (hTys κ) A) A) args s 0 0 A) M 3 [(0, .ref x0), (1, .int x1), (2, .int x2), (3, .int x3), (4, .int x4)] []) (k12 : Nat → Int32 → Int32 → Int32 → Int32 → Int32 → Hp → Prop) (hk12 : ∀ (x0 : Nat) (x1 : Int32) (x2 : Int32) (x3 : Int32) (x4 : Int32) (x5 : Int32) (M : Hp), k12 x0 x1 x2 x3 x4 x5 M → Y p l e rm_Mo_goOn s m args below meth c D kCl (hTys κ) A 8 0 0 (MQ below (va_Qi post (hB D kCl (hTys κ) A) A) args s 0 0 A) M 12 [(0, .ref x0), (1, .int x1), (2, .int x2), (3, .int x3), (4, .int x4), (5, .int x5)] []) (x0 : Nat) (x1 : Int32) (x2 : Int32) (x3 : Int32) (x4 : Int32) (x5 : Int32) (M : Hp) (hwp : wMo_goOn_89 post k3 k12 x0 x1 x2 x3 x4 x5 M) : Y p l e rm_Mo_goOn s m args below meth c D kCl (hTys κ) A 8 0 0 (MQ below (va_Qi post (hB D kCl (hTys κ) A) A) args s 0 0 A) M 89 [(0, .ref x0), (1, .int x1), (2, .int x2), (3, .int x3), (4, .int x4), (5, .int x5)] [] := by
  obtain ⟨hx, hb, hml, hr, hown, hts, hlocks, hE, hA⟩ := id C
  have hK := hE.1
  intro H locs ls hM hS hl
  unfold wMo_goOn_89 at hwp
  refine lv_iconst (v := 0) hx hb d_Mo_goOn_89 (by decide) ?_
  exact tMo_goOn_90 C post k3 hk3 k12 hk12 x0 x1 x2 x3 x4 x5 (0 : Int32) M hwp H locs ls hM hS (lv_sub hl [0, 1, 2, 3, 4, 5] rfl)
def wMo_goOn_12 (post : Int32 → Hp → Prop) (k3 : Nat → Int32 → Int32 → Int32 → Int32 → Hp → Prop) : Nat → Nat → Int32 → Int32 → Int32 → Int32 → Int32 → Hp → Prop
  | 0 => fun _ _ _ _ _ _ _ => False
  | n + 1 => fun x0 x1 x2 x3 x4 x5 M => (∃ v7 : Int32, fI M x0 6 14 v7 ∧ ((v7 ≤ x5 → (∀ z12 : Int32, z12 = x4 + (-1) → (k3 x0 x1 x2 x3 z12 M))) ∧ (¬ v7 ≤ x5 → (hob M x0 6 ∧ (wpMo_behind x0 x3 x4 M (fun (r15 : Int32) (M13 : Hp) => (∃ a16 : Nat, fA M13 x0 6 32 a16 ∧ (∃ v20 : Int32, aI M13 a16 r15 v20 ∧ (∃ a25 : Nat, fA M13 x0 6 32 a25 ∧ (∃ v29 : Int32, aI M13 a25 x2 v29 ∧ (((v20 + (1 : Int32)) = v29 → (∃ a35 : Nat, fA M13 x0 6 31 a35 ∧ (∃ v39 : Int64, aJ M13 a35 r15 v39 ∧ (hob M13 x0 6 ∧ (wpMo_worthOf x0 x1 (x4 - x2) x5 M13 (fun (r46 : Int64) (M44 : Hp) => (∃ a47 : Nat, fA M44 x0 6 23 a47 ∧ (∃ v51 : Int64, aJ M44 a47 x5 v51 ∧ (∃ a56 : Nat, fA M44 x0 6 31 a56 ∧ (∃ v60 : Int64, aJ M44 a56 x2 v60 ∧ ((((v39 + r46) - v51) = v60 → (wMo_goOn_90 post k3 (wMo_goOn_12 post k3 n) x0 x1 x2 x3 x4 x5 (1 : Int32) M44)) ∧ (¬ ((v39 + r46) - v51) = v60 → (wMo_goOn_89 post k3 (wMo_goOn_12 post k3 n) x0 x1 x2 x3 x4 x5 M44))))))))))))) ∧ (¬ (v20 + (1 : Int32)) = v29 → (wMo_goOn_89 post k3 (wMo_goOn_12 post k3 n) x0 x1 x2 x3 x4 x5 M13)))))))))))))
set_option maxRecDepth 100000 in
set_option maxHeartbeats 4000000 in
theorem tMo_goOn_12 {p : Program} {l : Launch} {e : Env} {s : State} {m : MethodId} {args : Array Value} {below : List Frame} {meth : Method} {c : Code} {D : va_G} {κ : Nat → ClassId} {A : Nat → Prop} (C : Cx_Mo_goOn p s m args meth c D κ A) (post : Int32 → Hp → Prop) (k3 : Nat → Int32 → Int32 → Int32 → Int32 → Hp → Prop) (hk3 : ∀ (x0 : Nat) (x1 : Int32) (x2 : Int32) (x3 : Int32) (x4 : Int32) (M : Hp), k3 x0 x1 x2 x3 x4 M → Y p l e rm_Mo_goOn s m args below meth c D kCl (hTys κ) A 8 0 0 (MQ below (va_Qi post (hB D kCl (hTys κ) A) A) args s 0 0 A) M 3 [(0, .ref x0), (1, .int x1), (2, .int x2), (3, .int x3), (4, .int x4)] []) : ∀ (n : Nat) (x0 : Nat) (x1 : Int32) (x2 : Int32) (x3 : Int32) (x4 : Int32) (x5 : Int32) (M : Hp), wMo_goOn_12 post k3 n x0 x1 x2 x3 x4 x5 M → Y p l e rm_Mo_goOn s m args below meth c D kCl (hTys κ) A 8 0 0 (MQ below (va_Qi post (hB D kCl (hTys κ) A) A) args s 0 0 A) M 12 [(0, .ref x0), (1, .int x1), (2, .int x2), (3, .int x3), (4, .int x4), (5, .int x5)] [] := by
  obtain ⟨hx, hb, hml, hr, hown, hts, hlocks, hE, hA⟩ := id C
  have hK := hE.1
  intro n
  induction n with
  | zero => intro x0 x1 x2 x3 x4 x5 M hwp; exact hwp.elim
  | succ n ih =>
    intro x0 x1 x2 x3 x4 x5 M hwp H locs ls hM hS hl
    unfold wMo_goOn_12 at hwp
    refine lv_iload hx hb d_Mo_goOn_12 (lv_at hl 5 rfl) ?_
    refine lv_aload_n hx hb d_Mo_goOn_14 rfl (lv_at hl 0 rfl) ?_
    obtain ⟨v7, ⟨fs8, he9, hv10⟩, hwp⟩ := hwp
    refine h_get (C := "BuckTablesModel") (T := Tc6) (N := 36) hx hb hts inc6 hown hK hM he9 rfl 14 (by decide) (hts _ kw_734) (fun _ h9 => h9) hv10 d_Mo_goOn_15 ?_
    refine lv_icmp_ge (tgt := 127) hx hb d_Mo_goOn_18 (by decide) (fun c11 => ?_) (fun c11 => ?_)
    · replace hwp := hwp.1 c11
      obtain ⟨z12, ez12⟩ : ∃ y : Int32, y = x4 + (-1) := ⟨_, rfl⟩
      replace hwp := hwp z12 ez12
      refine lv_iinc (v := z12) (lv' := [(4, .int z12), (0, .ref x0), (1, .int x1), (2, .int x2), (3, .int x3), (5, .int x5)]) hx hb d_Mo_goOn_127 hl (k := 4) rfl (by rw [ez12]; rfl) (by decide) rfl (fun ls hl => ?_)
      refine lv_goto (tgt := 3) hx hb d_Mo_goOn_130 (by decide) ?_
      exact hk3 x0 x1 x2 x3 z12 M hwp H locs ls hM hS (lv_sub hl [1, 2, 3, 4, 0] rfl)
    · replace hwp := hwp.2 c11
      refine lv_aload_n hx hb d_Mo_goOn_21 rfl (lv_at hl 0 rfl) ?_
      refine lv_iload_n hx hb d_Mo_goOn_22 rfl (lv_at hl 3 rfl) ?_
      refine lv_iload hx hb d_Mo_goOn_23 (lv_at hl 4 rfl) ?_
      obtain ⟨ho14, hwp⟩ := hwp
      refine h_calli hM hS hA (va_runV (As := [.int x3, .int x4]) (rest := []) ⟨hx, hb, hml, hown, hts⟩ (metMo_behind l D κ H.size x0 x3 x4 M _ hwp) (cwV 2 hts (gV kw_914 kw_916 kp_30 kw_8 kw_917) rfl rfl rfl (by decide +kernel) ⟨(Nat.le_of_ble_eq_true rfl), (Nat.le_of_ble_eq_true rfl)⟩) (h_preV hE hM hS ho14 (r := ("BuckTablesModel", Tc6, 36)) rfl) rfl rfl hl.1 rfl (lv_room (Nat.le_of_ble_eq_true rfl)) d_Mo_goOn_25 ⟨(Nat.le_of_ble_eq_true rfl), (Nat.le_of_ble_eq_true rfl)⟩) (fun r15 M13 H locs hwp hM hS => ?_)
      refine lv_istore (lv' := [(6, .int r15), (0, .ref x0), (1, .int x1), (2, .int x2), (3, .int x3), (4, .int x4), (5, .int x5)]) hx hb d_Mo_goOn_28 hl (by decide) rfl (fun ls hl => ?_)
      refine lv_aload_n hx hb d_Mo_goOn_30 rfl (lv_at hl 1 rfl) ?_
      obtain ⟨a16, ⟨fs17, he18, hv19⟩, hwp⟩ := hwp
      refine h_get (C := "BuckTablesModel") (T := Tc6) (N := 36) hx hb hts inc6 hown hK hM he18 rfl 32 (by decide) (hts _ kw_752) (fun _ h9 => h9) hv19 d_Mo_goOn_31 ?_
      refine lv_iload hx hb d_Mo_goOn_34 (lv_at hl 0 rfl) ?_
      obtain ⟨v20, ⟨n21, f22, ha23, hi24, ev20⟩, hwp⟩ := hwp
      refine h_iald hx hb hK hM ha23 rfl hi24 d_Mo_goOn_36 ?_
      rw [← ev20]
      refine lv_iconst (v := 1) hx hb d_Mo_goOn_37 (by decide) ?_
      refine lv_iadd hx hb d_Mo_goOn_38 ?_
      refine lv_aload_n hx hb d_Mo_goOn_39 rfl (lv_at hl 1 rfl) ?_
      obtain ⟨a25, ⟨fs26, he27, hv28⟩, hwp⟩ := hwp
      refine h_get (C := "BuckTablesModel") (T := Tc6) (N := 36) hx hb hts inc6 hown hK hM he27 rfl 32 (by decide) (hts _ kw_752) (fun _ h9 => h9) hv28 d_Mo_goOn_40 ?_
      refine lv_iload_n hx hb d_Mo_goOn_43 rfl (lv_at hl 3 rfl) ?_
      obtain ⟨v29, ⟨n30, f31, ha32, hi33, ev29⟩, hwp⟩ := hwp
      refine h_iald hx hb hK hM ha32 rfl hi33 d_Mo_goOn_44 ?_
      rw [← ev29]
      refine lv_icmp_ne (tgt := 89) hx hb d_Mo_goOn_45 (by decide) (fun c34 => ?_) (fun c34 => ?_)
      · replace hwp := hwp.2 c34
        exact tMo_goOn_89 C post k3 hk3 (wMo_goOn_12 post k3 n) ih x0 x1 x2 x3 x4 x5 M13 hwp H locs ls hM hS (lv_sub hl [1, 2, 3, 4, 5, 6] rfl)
      · replace hwp := hwp.1 c34
        refine lv_aload_n hx hb d_Mo_goOn_48 rfl (lv_at hl 1 rfl) ?_
        obtain ⟨a35, ⟨fs36, he37, hv38⟩, hwp⟩ := hwp
        refine h_get (C := "BuckTablesModel") (T := Tc6) (N := 36) hx hb hts inc6 hown hK hM he37 rfl 31 (by decide) (hts _ kw_751) (fun _ h9 => h9) hv38 d_Mo_goOn_49 ?_
        refine lv_iload hx hb d_Mo_goOn_52 (lv_at hl 0 rfl) ?_
        obtain ⟨v39, ⟨n40, f41, ha42, hi43, ev39⟩, hwp⟩ := hwp
        refine h_lald hx hb hK hM ha42 rfl hi43 d_Mo_goOn_54 ?_
        rw [← ev39]
        refine lv_aload_n hx hb d_Mo_goOn_55 rfl (lv_at hl 1 rfl) ?_
        refine lv_iload_n hx hb d_Mo_goOn_56 rfl (lv_at hl 2 rfl) ?_
        refine lv_iload hx hb d_Mo_goOn_57 (lv_at hl 5 rfl) ?_
        refine lv_iload_n hx hb d_Mo_goOn_59 rfl (lv_at hl 3 rfl) ?_
        refine lv_isub hx hb d_Mo_goOn_60 ?_
        refine lv_iload hx hb d_Mo_goOn_61 (lv_at hl 6 rfl) ?_
        obtain ⟨ho45, hwp⟩ := hwp
        refine h_calll hM hS hA (va_runV (As := [.int x1, .int (x4 - x2), .int x5]) (rest := [.long v39]) ⟨hx, hb, hml, hown, hts⟩ (metMo_worthOf l D κ H.size x0 x1 (x4 - x2) x5 M13 _ hwp) (cwV 3 hts (gV kw_918 kw_920 kp_31 kw_8 kw_921) rfl rfl rfl (by decide +kernel) ⟨(Nat.le_of_ble_eq_true rfl), (Nat.le_of_ble_eq_true rfl)⟩) (h_preV hE hM hS ho45 (r := ("BuckTablesModel", Tc6, 36)) rfl) rfl rfl hl.1 rfl (lv_room (Nat.le_of_ble_eq_true rfl)) d_Mo_goOn_63 ⟨(Nat.le_of_ble_eq_true rfl), (Nat.le_of_ble_eq_true rfl)⟩) (fun r46 M44 H locs hwp hM hS => ?_)
        refine lv_ladd hx hb d_Mo_goOn_66 ?_
        refine lv_aload_n hx hb d_Mo_goOn_67 rfl (lv_at hl 1 rfl) ?_
        obtain ⟨a47, ⟨fs48, he49, hv50⟩, hwp⟩ := hwp
        refine h_get (C := "BuckTablesModel") (T := Tc6) (N := 36) hx hb hts inc6 hown hK hM he49 rfl 23 (by decide) (hts _ kw_743) (fun _ h9 => h9) hv50 d_Mo_goOn_68 ?_
        refine lv_iload hx hb d_Mo_goOn_71 (lv_at hl 6 rfl) ?_
        obtain ⟨v51, ⟨n52, f53, ha54, hi55, ev51⟩, hwp⟩ := hwp
        refine h_lald hx hb hK hM ha54 rfl hi55 d_Mo_goOn_73 ?_
        rw [← ev51]
        refine lv_lsub hx hb d_Mo_goOn_74 ?_
        refine lv_aload_n hx hb d_Mo_goOn_75 rfl (lv_at hl 1 rfl) ?_
        obtain ⟨a56, ⟨fs57, he58, hv59⟩, hwp⟩ := hwp
        refine h_get (C := "BuckTablesModel") (T := Tc6) (N := 36) hx hb hts inc6 hown hK hM he58 rfl 31 (by decide) (hts _ kw_751) (fun _ h9 => h9) hv59 d_Mo_goOn_76 ?_
        refine lv_iload_n hx hb d_Mo_goOn_79 rfl (lv_at hl 3 rfl) ?_
        obtain ⟨v60, ⟨n61, f62, ha63, hi64, ev60⟩, hwp⟩ := hwp
        refine h_lald hx hb hK hM ha63 rfl hi64 d_Mo_goOn_80 ?_
        rw [← ev60]
        refine W.lcmp hx hb d_Mo_goOn_81 ?_
        refine lv_if_ne (tgt := 89) hx hb d_Mo_goOn_82 (by decide) (fun c65 => ?_) (fun c65 => ?_)
        · replace c65 := fun h9 => c65 ((lc_eq _ _).mpr h9)
          replace hwp := hwp.2 c65
          exact tMo_goOn_89 C post k3 hk3 (wMo_goOn_12 post k3 n) ih x0 x1 x2 x3 x4 x5 M44 hwp H locs ls hM hS (lv_sub hl [1, 2, 3, 4, 5, 6] rfl)
        · replace c65 := (lc_eq _ _).mp c65
          replace hwp := hwp.1 c65
          refine lv_iconst (v := 1) hx hb d_Mo_goOn_85 (by decide) ?_
          refine lv_goto (tgt := 90) hx hb d_Mo_goOn_86 (by decide) ?_
          exact tMo_goOn_90 C post k3 hk3 (wMo_goOn_12 post k3 n) ih x0 x1 x2 x3 x4 x5 (1 : Int32) M44 hwp H locs ls hM hS (lv_sub hl [1, 2, 3, 4, 5, 6] rfl)
def wMo_goOn_3 (post : Int32 → Hp → Prop)  : Nat → Nat → Int32 → Int32 → Int32 → Int32 → Hp → Prop
  | 0 => fun _ _ _ _ _ _ => False
  | n + 1 => fun x0 x1 x2 x3 x4 M => ((x4 ≤ x2 → (post (0 : Int32) M)) ∧ (¬ x4 ≤ x2 → (∃ n67 : Nat, wMo_goOn_12 post (wMo_goOn_3 post n) n67 x0 x1 x2 x3 x4 (0 : Int32) M)))
set_option maxRecDepth 100000 in
set_option maxHeartbeats 4000000 in
theorem tMo_goOn_3 {p : Program} {l : Launch} {e : Env} {s : State} {m : MethodId} {args : Array Value} {below : List Frame} {meth : Method} {c : Code} {D : va_G} {κ : Nat → ClassId} {A : Nat → Prop} (C : Cx_Mo_goOn p s m args meth c D κ A) (post : Int32 → Hp → Prop)  : ∀ (n : Nat) (x0 : Nat) (x1 : Int32) (x2 : Int32) (x3 : Int32) (x4 : Int32) (M : Hp), wMo_goOn_3 post n x0 x1 x2 x3 x4 M → Y p l e rm_Mo_goOn s m args below meth c D kCl (hTys κ) A 8 0 0 (MQ below (va_Qi post (hB D kCl (hTys κ) A) A) args s 0 0 A) M 3 [(0, .ref x0), (1, .int x1), (2, .int x2), (3, .int x3), (4, .int x4)] [] := by
  obtain ⟨hx, hb, hml, hr, hown, hts, hlocks, hE, hA⟩ := id C
  have hK := hE.1
  intro n
  induction n with
  | zero => intro x0 x1 x2 x3 x4 M hwp; exact hwp.elim
  | succ n ih =>
    intro x0 x1 x2 x3 x4 M hwp H locs ls hM hS hl
    unfold wMo_goOn_3 at hwp
    refine lv_iload hx hb d_Mo_goOn_3 (lv_at hl 4 rfl) ?_
    refine lv_iload_n hx hb d_Mo_goOn_5 rfl (lv_at hl 2 rfl) ?_
    refine lv_icmp_le (tgt := 133) hx hb d_Mo_goOn_6 (by decide) (fun c66 => ?_) (fun c66 => ?_)
    · replace hwp := hwp.1 c66
      refine lv_iconst (v := 0) hx hb d_Mo_goOn_133 (by decide) ?_
      exact W.iret (v := (0 : Int32)) hx hb hr (fun t ht hW => ⟨⟨(0 : Int32), M, rfl, hwp, by show hw D kCl (hTys κ) A M t.heap; rw [ht]; exact hM⟩, hS.F ht⟩) hS.2.2 d_Mo_goOn_134
    · replace hwp := hwp.2 c66
      refine lv_iconst (v := 0) hx hb d_Mo_goOn_9 (by decide) ?_
      refine lv_istore (lv' := [(5, .int (0 : Int32)), (0, .ref x0), (1, .int x1), (2, .int x2), (3, .int x3), (4, .int x4)]) hx hb d_Mo_goOn_10 hl (by decide) rfl (fun ls hl => ?_)
      obtain ⟨n67, hwp⟩ := hwp
      exact tMo_goOn_12 C post (wMo_goOn_3 post n) ih n67 x0 x1 x2 x3 x4 (0 : Int32) M hwp H locs ls hM hS (lv_sub hl [1, 2, 3, 4, 5, 0] rfl)
def wpMo_goOn (self : Nat) (p0 : Int32) (p1 : Int32) (p2 : Int32) (M : Hp) (post : Int32 → Hp → Prop) : Prop := (∃ n68 : Nat, wMo_goOn_3 post n68 self p0 p1 p2 p2 M)
set_option maxRecDepth 100000 in
set_option maxHeartbeats 4000000 in
theorem eMo_goOn {p : Program} {l : Launch} {e : Env} {s : State} {m : MethodId} {args : Array Value} {below : List Frame} {meth : Method} {c : Code} {D : va_G} {κ : Nat → ClassId} {A : Nat → Prop} (C : Cx_Mo_goOn p s m args meth c D κ A) (post : Int32 → Hp → Prop) (self : Nat) (p0 : Int32) (p1 : Int32) (p2 : Int32) (M : Hp) (hwp : wpMo_goOn self p0 p1 p2 M post) : Y p l e rm_Mo_goOn s m args below meth c D kCl (hTys κ) A 8 0 0 (MQ below (va_Qi post (hB D kCl (hTys κ) A) A) args s 0 0 A) M 0 [(0, .ref self), (1, .int p0), (2, .int p1), (3, .int p2)] [] := by
  obtain ⟨hx, hb, hml, hr, hown, hts, hlocks, hE, hA⟩ := id C
  have hK := hE.1
  intro H locs ls hM hS hl
  unfold wpMo_goOn at hwp
  refine lv_iload_n hx hb d_Mo_goOn_0 rfl (lv_at hl 3 rfl) ?_
  refine lv_istore (lv' := [(4, .int p2), (0, .ref self), (1, .int p0), (2, .int p1), (3, .int p2)]) hx hb d_Mo_goOn_1 hl (by decide) rfl (fun ls hl => ?_)
  obtain ⟨n68, hwp⟩ := hwp
  exact tMo_goOn_3 C post n68 self p0 p1 p2 p2 M hwp H locs ls hM hS (lv_sub hl [1, 2, 3, 4, 0] rfl)
set_option maxRecDepth 100000 in
set_option maxHeartbeats 4000000 in
theorem metMo_goOn (l : Launch) (D : va_G) (κ : Nat → ClassId) (sz : Nat) (self : Nat) (p0 : Int32) (p1 : Int32) (p2 : Int32) (M : Hp) (post : Int32 → Hp → Prop) (hwp : wpMo_goOn self p0 p1 p2 M post) : Met l y_Mo_goOn ws_Mo_goOn rm_Mo_goOn (hPc D kCl (hTys κ) M sz [.ref self, .int p0, .int p1, .int p2]) (va_Qi post (hB D kCl (hTys κ) (hAx M sz)) (hAx M sz)) 0 0 (hAx M sz) := by
  refine Met.ofW (cc := prog_8_method_22_code) (maxL := 8) (ret := (some .int)) (by decide +kernel) rfl ?_
  intro p e s m args below meth c s₁ B hml hv
  obtain ⟨rfl, hsz, hE, hM0⟩ := hv
  have hts : ∀ w ∈ WG, w.before _ s = true := fun w h => atoms_spec (ws := ws_Mo_goOn) B.pre w (List.mem_cons_of_mem _ h)
  subst hsz
  have C : Cx_Mo_goOn p s m _ meth c D κ (hAx M s.heap.size) := ⟨B.exec, B.bytes, hml, B.returns, findClass_of_methodNamed B.named, hts, B.notSynchronized, hE, fun q h => Or.inr h⟩
  have hl := lv_entry ([.ref self, .int p0, .int p1, .int p2]) (n := 8) (Nat.le_of_ble_eq_true rfl)
  rw [lg_entry_eq]
  generalize (lg_sl ([.ref self, .int p0, .int p1, .int p2]) ++ List.replicate (8 - (lg_sl ([.ref self, .int p0, .int p1, .int p2])).length) Slot.unset).toArray = ls at hl ⊢
  exact eMo_goOn C post self p0 p1 p2 M hwp s.heap [] ls (hM0.self (sz := s.heap.size)) va_S.rf hl
abbrev rm_Mo_mark : Room := { frames := 0, cells := 0, slots := 0, locals := 0 }
def Cx_Mo_mark (p : Program) (s : State) (m : MethodId) (args : Array Value) (meth : Method) (c : Code) (D : va_G) (κ : Nat → ClassId) (A : Nat → Prop) : Prop := p.tables.exec = Jvm.exec ∧ c.code = prog_8_method_23_code ∧ c.maxLocals = 6 ∧ meth.sig.returnType = none ∧ s.vm.findClass "BuckTablesModel" = some m.cls ∧ (∀ w ∈ WG, w.before args s = true) ∧ meth.locks = false ∧ hEnv D kCl (hTys κ) A s ∧ (∀ q, s.heap.size ≤ q → A q)
def wMo_mark_3 (post : Hp → Prop)  : Nat → Nat → Int32 → Int32 → Int32 → Int32 → Hp → Prop
  | 0 => fun _ _ _ _ _ _ => False
  | n + 1 => fun x0 x1 x3 x4 x5 M => ((x3 ≤ x5 → (post M)) ∧ (¬ x3 ≤ x5 → (∃ a2 : Nat, fA M x0 6 25 a2 ∧ (∃ M10 : Hp, sI M a2 (((81 : Int32) * x1) + x5) x4 M10 ∧ (∀ z11 : Int32, z11 = x5 + 1 → ((wMo_mark_3 post n) x0 x1 x3 x4 z11 M10))))))
set_option maxRecDepth 100000 in
set_option maxHeartbeats 4000000 in
theorem tMo_mark_3 {p : Program} {l : Launch} {e : Env} {s : State} {m : MethodId} {args : Array Value} {below : List Frame} {meth : Method} {c : Code} {D : va_G} {κ : Nat → ClassId} {A : Nat → Prop} (C : Cx_Mo_mark p s m args meth c D κ A) (post : Hp → Prop)  : ∀ (n : Nat) (x0 : Nat) (x1 : Int32) (x3 : Int32) (x4 : Int32) (x5 : Int32) (M : Hp), wMo_mark_3 post n x0 x1 x3 x4 x5 M → Y p l e rm_Mo_mark s m args below meth c D kCl (hTys κ) A 6 0 0 (MQ below (va_Qv post (hB D kCl (hTys κ) A) A) args s 0 0 A) M 3 [(0, .ref x0), (1, .int x1), (3, .int x3), (4, .int x4), (5, .int x5)] [] := by
  obtain ⟨hx, hb, hml, hr, hown, hts, hlocks, hE, hA⟩ := id C
  have hK := hE.1
  intro n
  induction n with
  | zero => intro x0 x1 x3 x4 x5 M hwp; exact hwp.elim
  | succ n ih =>
    intro x0 x1 x3 x4 x5 M hwp H locs ls hM hS hl
    unfold wMo_mark_3 at hwp
    refine lv_iload hx hb d_Mo_mark_3 (lv_at hl 4 rfl) ?_
    refine lv_iload_n hx hb d_Mo_mark_5 rfl (lv_at hl 2 rfl) ?_
    refine lv_icmp_ge (tgt := 29) hx hb d_Mo_mark_6 (by decide) (fun c1 => ?_) (fun c1 => ?_)
    · replace hwp := hwp.1 c1
      exact W.vret hx hb hr (fun t ht hW => ⟨⟨M, rfl, hwp, by show hw D kCl (hTys κ) A M t.heap; rw [ht]; exact hM⟩, hS.F ht⟩) hS.2.2 d_Mo_mark_29
    · replace hwp := hwp.2 c1
      refine lv_aload_n hx hb d_Mo_mark_9 rfl (lv_at hl 0 rfl) ?_
      obtain ⟨a2, ⟨fs3, he4, hv5⟩, hwp⟩ := hwp
      refine h_get (C := "BuckTablesModel") (T := Tc6) (N := 36) hx hb hts inc6 hown hK hM he4 rfl 25 (by decide) (hts _ kw_745) (fun _ h9 => h9) hv5 d_Mo_mark_10 ?_
      refine lv_bipush (v := 81) hx hb d_Mo_mark_13 (by decide) ?_
      refine lv_iload_n hx hb d_Mo_mark_15 rfl (lv_at hl 1 rfl) ?_
      refine lv_imul hx hb d_Mo_mark_16 ?_
      refine lv_iload hx hb d_Mo_mark_17 (lv_at hl 4 rfl) ?_
      refine lv_iadd hx hb d_Mo_mark_19 ?_
      refine lv_iload hx hb d_Mo_mark_20 (lv_at hl 3 rfl) ?_
      obtain ⟨M10, ⟨n6, f7, ha8, hi9, eM10⟩, hwp⟩ := hwp
      refine h_iast hx hb hK hM hS ha8 rfl hi9 d_Mo_mark_22 (fun H locs hM hS => ?_)
      rw [← eM10] at hM
      obtain ⟨z11, ez11⟩ : ∃ y : Int32, y = x5 + 1 := ⟨_, rfl⟩
      replace hwp := hwp z11 ez11
      refine lv_iinc (v := z11) (lv' := [(5, .int z11), (0, .ref x0), (1, .int x1), (3, .int x3), (4, .int x4)]) hx hb d_Mo_mark_23 hl (k := 4) rfl (by rw [ez11]; rfl) (by decide) rfl (fun ls hl => ?_)
      refine lv_goto (tgt := 3) hx hb d_Mo_mark_26 (by decide) ?_
      exact ih x0 x1 x3 x4 z11 M10 hwp H locs ls hM hS (lv_sub hl [1, 2, 3, 4, 0] rfl)
def wpMo_mark (self : Nat) (p0 : Int32) (p1 : Int32) (p2 : Int32) (p3 : Int32) (M : Hp) (post : Hp → Prop) : Prop := (∃ n12 : Nat, wMo_mark_3 post n12 self p0 p2 p3 p1 M)
set_option maxRecDepth 100000 in
set_option maxHeartbeats 4000000 in
theorem eMo_mark {p : Program} {l : Launch} {e : Env} {s : State} {m : MethodId} {args : Array Value} {below : List Frame} {meth : Method} {c : Code} {D : va_G} {κ : Nat → ClassId} {A : Nat → Prop} (C : Cx_Mo_mark p s m args meth c D κ A) (post : Hp → Prop) (self : Nat) (p0 : Int32) (p1 : Int32) (p2 : Int32) (p3 : Int32) (M : Hp) (hwp : wpMo_mark self p0 p1 p2 p3 M post) : Y p l e rm_Mo_mark s m args below meth c D kCl (hTys κ) A 6 0 0 (MQ below (va_Qv post (hB D kCl (hTys κ) A) A) args s 0 0 A) M 0 [(0, .ref self), (1, .int p0), (2, .int p1), (3, .int p2), (4, .int p3)] [] := by
  obtain ⟨hx, hb, hml, hr, hown, hts, hlocks, hE, hA⟩ := id C
  have hK := hE.1
  intro H locs ls hM hS hl
  unfold wpMo_mark at hwp
  refine lv_iload_n hx hb d_Mo_mark_0 rfl (lv_at hl 2 rfl) ?_
  refine lv_istore (lv' := [(5, .int p1), (0, .ref self), (1, .int p0), (2, .int p1), (3, .int p2), (4, .int p3)]) hx hb d_Mo_mark_1 hl (by decide) rfl (fun ls hl => ?_)
  obtain ⟨n12, hwp⟩ := hwp
  exact tMo_mark_3 C post n12 self p0 p2 p3 p1 M hwp H locs ls hM hS (lv_sub hl [1, 2, 4, 5, 0] rfl)
set_option maxRecDepth 100000 in
set_option maxHeartbeats 4000000 in
theorem metMo_mark (l : Launch) (D : va_G) (κ : Nat → ClassId) (sz : Nat) (self : Nat) (p0 : Int32) (p1 : Int32) (p2 : Int32) (p3 : Int32) (M : Hp) (post : Hp → Prop) (hwp : wpMo_mark self p0 p1 p2 p3 M post) : Met l y_Mo_mark ws_Mo_mark rm_Mo_mark (hPc D kCl (hTys κ) M sz [.ref self, .int p0, .int p1, .int p2, .int p3]) (va_Qv post (hB D kCl (hTys κ) (hAx M sz)) (hAx M sz)) 0 0 (hAx M sz) := by
  refine Met.ofW (cc := prog_8_method_23_code) (maxL := 6) (ret := none) (by decide +kernel) rfl ?_
  intro p e s m args below meth c s₁ B hml hv
  obtain ⟨rfl, hsz, hE, hM0⟩ := hv
  have hts : ∀ w ∈ WG, w.before _ s = true := fun w h => atoms_spec (ws := ws_Mo_mark) B.pre w (List.mem_cons_of_mem _ h)
  subst hsz
  have C : Cx_Mo_mark p s m _ meth c D κ (hAx M s.heap.size) := ⟨B.exec, B.bytes, hml, B.returns, findClass_of_methodNamed B.named, hts, B.notSynchronized, hE, fun q h => Or.inr h⟩
  have hl := lv_entry ([.ref self, .int p0, .int p1, .int p2, .int p3]) (n := 6) (Nat.le_of_ble_eq_true rfl)
  rw [lg_entry_eq]
  generalize (lg_sl ([.ref self, .int p0, .int p1, .int p2, .int p3]) ++ List.replicate (6 - (lg_sl ([.ref self, .int p0, .int p1, .int p2, .int p3])).length) Slot.unset).toArray = ls at hl ⊢
  exact eMo_mark C post self p0 p1 p2 p3 M hwp s.heap [] ls (hM0.self (sz := s.heap.size)) va_S.rf hl
