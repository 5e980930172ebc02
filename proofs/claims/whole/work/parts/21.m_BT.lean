abbrev rm_St_isTooBad : Room := { frames := 0, cells := 0, slots := 0, locals := 0 }
def Cx_St_isTooBad (p : Program) (s : State) (m : MethodId) (args : Array Value) (meth : Method) (c : Code) (D : va_G) (κ : Nat → ClassId) (A : Nat → Prop) : Prop := p.tables.exec = Jvm.exec ∧ c.code = prog_5_method_9_code ∧ c.maxLocals = 4 ∧ meth.sig.returnType = (some .boolean) ∧ s.vm.findClass "BuckTables$Stem" = some m.cls ∧ (∀ w ∈ WG, w.before args s = true) ∧ meth.locks = false ∧ hEnv D kCl (hTys κ) A s ∧ (∀ q, s.heap.size ≤ q → A q)
def wSt_isTooBad_35 (post : Int32 → Hp → Prop)   (y0 : Int32) (M : Hp) : Prop := ((y0 = 0 ∨ y0 = 1) ∧ post y0 M)
set_option maxRecDepth 100000 in
set_option maxHeartbeats 4000000 in
theorem tSt_isTooBad_35 {p : Program} {l : Launch} {e : Env} {s : State} {m : MethodId} {args : Array Value} {below : List Frame} {meth : Method} {c : Code} {D : va_G} {κ : Nat → ClassId} {A : Nat → Prop} (C : Cx_St_isTooBad p s m args meth c D κ A) (post : Int32 → Hp → Prop)   (y0 : Int32) (M : Hp) (hwp : wSt_isTooBad_35 post y0 M) : Y p l e rm_St_isTooBad s m args below meth c D kCl (hTys κ) A 4 0 0 (MQ below (va_Qi post (hB D kCl (hTys κ) A) A) args s 0 0 A) M 35 [] [.int y0] := by
  obtain ⟨hx, hb, hml, hr, hown, hts, hlocks, hE, hA⟩ := id C
  have hK := hE.1
  intro H locs ls hM hS hl
  unfold wSt_isTooBad_35 at hwp
  obtain ⟨hz1, hwp⟩ := hwp
  exact W.zret (v := y0) hx hb hr (by rcases hz1 with h | h <;> rw [h] <;> rfl) (fun t ht hW => ⟨⟨y0, M, rfl, hwp, by show hw D kCl (hTys κ) A M t.heap; rw [ht]; exact hM⟩, hS.F ht⟩) hS.2.2 d_St_isTooBad_35
def wSt_isTooBad_30 (post : Int32 → Hp → Prop)   (M : Hp) : Prop := (wSt_isTooBad_35 post (1 : Int32) M)
set_option maxRecDepth 100000 in
set_option maxHeartbeats 4000000 in
theorem tSt_isTooBad_30 {p : Program} {l : Launch} {e : Env} {s : State} {m : MethodId} {args : Array Value} {below : List Frame} {meth : Method} {c : Code} {D : va_G} {κ : Nat → ClassId} {A : Nat → Prop} (C : Cx_St_isTooBad p s m args meth c D κ A) (post : Int32 → Hp → Prop)   (M : Hp) (hwp : wSt_isTooBad_30 post  M) : Y p l e rm_St_isTooBad s m args below meth c D kCl (hTys κ) A 4 0 0 (MQ below (va_Qi post (hB D kCl (hTys κ) A) A) args s 0 0 A) M 30 [] [] := by
  obtain ⟨hx, hb, hml, hr, hown, hts, hlocks, hE, hA⟩ := id C
  have hK := hE.1
  intro H locs ls hM hS hl
  unfold wSt_isTooBad_30 at hwp
  refine lv_iconst (v := 1) hx hb d_St_isTooBad_30 (by decide) ?_
  refine lv_goto (tgt := 35) hx hb d_St_isTooBad_31 (by decide) ?_
  exact tSt_isTooBad_35 C post (1 : Int32) M hwp H locs ls hM hS (lv_sub hl [] rfl)
def wpSt_isTooBad (self : Nat) (p0 : Int32) (p1 : Nat) (p2 : Int32) (M : Hp) (post : Int32 → Hp → Prop) : Prop := (∃ a2 : Nat, fA M self 1 2 a2 ∧ (∃ v6 : Int32, aI M a2 p0 v6 ∧ (∃ v11 : Int32, fI M p1 2 5 v11 ∧ (((v6 - p2) < v11 → (wSt_isTooBad_30 post M)) ∧ (¬ (v6 - p2) < v11 → (∃ a16 : Nat, fA M self 1 3 a16 ∧ (∃ v20 : Int32, aI M a16 p0 v20 ∧ (∃ v25 : Int32, fI M p1 2 6 v25 ∧ (((v20 + p2) ≤ v25 → (wSt_isTooBad_35 post (0 : Int32) M)) ∧ (¬ (v20 + p2) ≤ v25 → (wSt_isTooBad_30 post M)))))))))))
set_option maxRecDepth 100000 in
set_option maxHeartbeats 4000000 in
theorem eSt_isTooBad {p : Program} {l : Launch} {e : Env} {s : State} {m : MethodId} {args : Array Value} {below : List Frame} {meth : Method} {c : Code} {D : va_G} {κ : Nat → ClassId} {A : Nat → Prop} (C : Cx_St_isTooBad p s m args meth c D κ A) (post : Int32 → Hp → Prop) (self : Nat) (p0 : Int32) (p1 : Nat) (p2 : Int32) (M : Hp) (hwp : wpSt_isTooBad self p0 p1 p2 M post) : Y p l e rm_St_isTooBad s m args below meth c D kCl (hTys κ) A 4 0 0 (MQ below (va_Qi post (hB D kCl (hTys κ) A) A) args s 0 0 A) M 0 [(0, .ref self), (1, .int p0), (2, .ref p1), (3, .int p2)] [] := by
  obtain ⟨hx, hb, hml, hr, hown, hts, hlocks, hE, hA⟩ := id C
  have hK := hE.1
  intro H locs ls hM hS hl
  unfold wpSt_isTooBad at hwp
  refine lv_aload_n hx hb d_St_isTooBad_0 rfl (lv_at hl 0 rfl) ?_
  obtain ⟨a2, ⟨fs3, he4, hv5⟩, hwp⟩ := hwp
  refine h_get (C := "BuckTables$Stem") (T := Tc1) (N := 12) hx hb hts inc1 hown hK hM he4 rfl 2 (by decide) (hts _ kw_112) (fun _ h9 => h9) hv5 d_St_isTooBad_1 ?_
  refine lv_iload_n hx hb d_St_isTooBad_4 rfl (lv_at hl 1 rfl) ?_
  obtain ⟨v6, ⟨n7, f8, ha9, hi10, ev6⟩, hwp⟩ := hwp
  refine h_iald hx hb hK hM ha9 rfl hi10 d_St_isTooBad_5 ?_
  rw [← ev6]
  refine lv_iload_n hx hb d_St_isTooBad_6 rfl (lv_at hl 3 rfl) ?_
  refine lv_isub hx hb d_St_isTooBad_7 ?_
  refine lv_aload_n hx hb d_St_isTooBad_8 rfl (lv_at hl 2 rfl) ?_
  obtain ⟨v11, ⟨fs12, he13, hv14⟩, hwp⟩ := hwp
  refine h_get (C := "BuckTables$Product") (T := Tc2) (N := 10) hx hb hts inc2 hown hK hM he13 rfl 5 (by decide) (hts _ kw_171) (fun _ h9 => h9) hv14 d_St_isTooBad_9 ?_
  refine lv_icmp_lt (tgt := 30) hx hb d_St_isTooBad_12 (by decide) (fun c15 => ?_) (fun c15 => ?_)
  · replace hwp := hwp.1 c15
    exact tSt_isTooBad_30 C post M hwp H locs ls hM hS (lv_sub hl [] rfl)
  · replace hwp := hwp.2 c15
    refine lv_aload_n hx hb d_St_isTooBad_15 rfl (lv_at hl 0 rfl) ?_
    obtain ⟨a16, ⟨fs17, he18, hv19⟩, hwp⟩ := hwp
    refine h_get (C := "BuckTables$Stem") (T := Tc1) (N := 12) hx hb hts inc1 hown hK hM he18 rfl 3 (by decide) (hts _ kw_113) (fun _ h9 => h9) hv19 d_St_isTooBad_16 ?_
    refine lv_iload_n hx hb d_St_isTooBad_19 rfl (lv_at hl 1 rfl) ?_
    obtain ⟨v20, ⟨n21, f22, ha23, hi24, ev20⟩, hwp⟩ := hwp
    refine h_iald hx hb hK hM ha23 rfl hi24 d_St_isTooBad_20 ?_
    rw [← ev20]
    refine lv_iload_n hx hb d_St_isTooBad_21 rfl (lv_at hl 3 rfl) ?_
    refine lv_iadd hx hb d_St_isTooBad_22 ?_
    refine lv_aload_n hx hb d_St_isTooBad_23 rfl (lv_at hl 2 rfl) ?_
    obtain ⟨v25, ⟨fs26, he27, hv28⟩, hwp⟩ := hwp
    refine h_get (C := "BuckTables$Product") (T := Tc2) (N := 10) hx hb hts inc2 hown hK hM he27 rfl 6 (by decide) (hts _ kw_173) (fun _ h9 => h9) hv28 d_St_isTooBad_24 ?_
    refine lv_icmp_le (tgt := 34) hx hb d_St_isTooBad_27 (by decide) (fun c29 => ?_) (fun c29 => ?_)
    · replace hwp := hwp.1 c29
      refine lv_iconst (v := 0) hx hb d_St_isTooBad_34 (by decide) ?_
      exact tSt_isTooBad_35 C post (0 : Int32) M hwp H locs ls hM hS (lv_sub hl [] rfl)
    · replace hwp := hwp.2 c29
      exact tSt_isTooBad_30 C post M hwp H locs ls hM hS (lv_sub hl [] rfl)
set_option maxRecDepth 100000 in
set_option maxHeartbeats 4000000 in
theorem metSt_isTooBad (l : Launch) (D : va_G) (κ : Nat → ClassId) (sz : Nat) (self : Nat) (p0 : Int32) (p1 : Nat) (p2 : Int32) (M : Hp) (post : Int32 → Hp → Prop) (hwp : wpSt_isTooBad self p0 p1 p2 M post) : Met l y_St_isTooBad ws_St_isTooBad rm_St_isTooBad (hPc D kCl (hTys κ) M sz [.ref self, .int p0, .ref p1, .int p2]) (va_Qi post (hB D kCl (hTys κ) (hAx M sz)) (hAx M sz)) 0 0 (hAx M sz) := by
  refine Met.ofW (cc := prog_5_method_9_code) (maxL := 4) (ret := (some .boolean)) (by decide +kernel) rfl ?_
  intro p e s m args below meth c s₁ B hml hv
  obtain ⟨rfl, hsz, hE, hM0⟩ := hv
  have hts : ∀ w ∈ WG, w.before _ s = true := fun w h => atoms_spec (ws := ws_St_isTooBad) B.pre w (List.mem_cons_of_mem _ h)
  subst hsz
  have C : Cx_St_isTooBad p s m _ meth c D κ (hAx M s.heap.size) := ⟨B.exec, B.bytes, hml, B.returns, findClass_of_methodNamed B.named, hts, B.notSynchronized, hE, fun q h => Or.inr h⟩
  have hl := lv_entry ([.ref self, .int p0, .ref p1, .int p2]) (n := 4) (Nat.le_of_ble_eq_true rfl)
  rw [lg_entry_eq]
  generalize (lg_sl ([.ref self, .int p0, .ref p1, .int p2]) ++ List.replicate (4 - (lg_sl ([.ref self, .int p0, .ref p1, .int p2])).length) Slot.unset).toArray = ls at hl ⊢
  exact eSt_isTooBad C post self p0 p1 p2 M hwp s.heap [] ls (hM0.self (sz := s.heap.size)) va_S.rf hl
abbrev rm_St_narrowByPoints : Room := { frames := 1, cells := 0, slots := 0, locals := 23 }
def Cx_St_narrowByPoints (p : Program) (s : State) (m : MethodId) (args : Array Value) (meth : Method) (c : Code) (D : va_G) (κ : Nat → ClassId) (A : Nat → Prop) : Prop := p.tables.exec = Jvm.exec ∧ c.code = prog_5_method_8_code ∧ c.maxLocals = 7 ∧ meth.sig.returnType = none ∧ s.vm.findClass "BuckTables$Stem" = some m.cls ∧ (∀ w ∈ WG, w.before args s = true) ∧ meth.locks = false ∧ hEnv D kCl (hTys κ) A s ∧ (∀ q, s.heap.size ≤ q → A q)
def wSt_narrowByPoints_134 (post : Hp → Prop) (k20 : Nat → Nat → Nat → Int32 → Int32 → Int32 → Int32 → Hp → Prop) (x0 : Nat) (x1 : Nat) (x2 : Nat) (x3 : Int32) (x4 : Int32) (x5 : Int32) (x6 : Int32) (M : Hp) : Prop := (∀ z1 : Int32, z1 = x6 + (-1) → (k20 x0 x1 x2 x3 x4 x5 z1 M))
set_option maxRecDepth 100000 in
set_option maxHeartbeats 4000000 in
theorem tSt_narrowByPoints_134 {p : Program} {l : Launch} {e : Env} {s : State} {m : MethodId} {args : Array Value} {below : List Frame} {meth : Method} {c : Code} {D : va_G} {κ : Nat → ClassId} {A : Nat → Prop} (C : Cx_St_narrowByPoints p s m args meth c D κ A) (post : Hp → Prop) (k20 : Nat → Nat → Nat → Int32 → Int32 → Int32 → Int32 → Hp → Prop) (hk20 : ∀ (x0 : Nat) (x1 : Nat) (x2 : Nat) (x3 : Int32) (x4 : Int32) (x5 : Int32) (x6 : Int32) (M : Hp), k20 x0 x1 x2 x3 x4 x5 x6 M → Y p l e rm_St_narrowByPoints s m args below meth c D kCl (hTys κ) A 7 0 0 (MQ below (va_Qv post (hB D kCl (hTys κ) A) A) args s 0 0 A) M 20 [(0, .ref x0), (1, .ref x1), (2, .ref x2), (3, .int x3), (4, .int x4), (5, .int x5), (6, .int x6)] []) (x0 : Nat) (x1 : Nat) (x2 : Nat) (x3 : Int32) (x4 : Int32) (x5 : Int32) (x6 : Int32) (M : Hp) (hwp : wSt_narrowByPoints_134 post k20 x0 x1 x2 x3 x4 x5 x6 M) : Y p l e rm_St_narrowByPoints s m args below meth c D kCl (hTys κ) A 7 0 0 (MQ below (va_Qv post (hB D kCl (hTys κ) A) A) args s 0 0 A) M 134 [(0, .ref x0), (1, .ref x1), (2, .ref x2), (3, .int x3), (4, .int x4), (5, .int x5), (6, .int x6)] [] := by
  obtain ⟨hx, hb, hml, hr, hown, hts, hlocks, hE, hA⟩ := id C
  have hK := hE.1
  intro H locs ls hM hS hl
  unfold wSt_narrowByPoints_134 at hwp
  obtain ⟨z1, ez1⟩ : ∃ y : Int32, y = x6 + (-1) := ⟨_, rfl⟩
  replace hwp := hwp z1 ez1
  refine lv_iinc (v := z1) (lv' := [(6, .int z1), (0, .ref x0), (1, .ref x1), (2, .ref x2), (3, .int x3), (4, .int x4), (5, .int x5)]) hx hb d_St_narrowByPoints_134 hl (k := 6) rfl (by rw [ez1]; rfl) (by decide) rfl (fun ls hl => ?_)
  refine lv_goto (tgt := 20) hx hb d_St_narrowByPoints_137 (by decide) ?_
  exact hk20 x0 x1 x2 x3 x4 x5 z1 M hwp H locs ls hM hS (lv_sub hl [1, 2, 3, 4, 5, 6, 0] rfl)
def wSt_narrowByPoints_77 (post : Hp → Prop) (k20 : Nat → Nat → Nat → Int32 → Int32 → Int32 → Int32 → Hp → Prop) (x0 : Nat) (x1 : Nat) (x2 : Nat) (x3 : Int32) (x4 : Int32) (x5 : Int32) (x6 : Int32) (M : Hp) : Prop := ((x5 = x4 → (∃ v32 : Int32, aI M x1 x6 v32 ∧ (∃ M41 : Hp, sI M x1 x6 (if x6 < v32 then x6 else v32) M41 ∧ (wSt_narrowByPoints_134 post k20 x0 x1 x2 x3 x4 x5 x6 M41)))) ∧ (¬ x5 = x4 → (∃ v3 : Int32, fI M x0 1 9 v3 ∧ ((v3 ≤ x5 → (wSt_narrowByPoints_134 post k20 x0 x1 x2 x3 x4 x5 x6 M)) ∧ (¬ v3 ≤ x5 → (∃ v8 : Int32, aI M x1 x6 v8 ∧ (∃ a13 : Nat, fA M x0 1 1 a13 ∧ (∃ v17 : Int32, aI M a13 (x5 - (1 : Int32)) v17 ∧ (∃ v22 : Int32, fI M x0 1 0 v22 ∧ (¬ v22 = 0 ∧ (∃ M31 : Hp, sI M x1 x6 (if (v17 / v22) < v8 then (v17 / v22) else v8) M31 ∧ (wSt_narrowByPoints_134 post k20 x0 x1 x2 x3 x4 x5 x6 M31))))))))))))
set_option maxRecDepth 100000 in
set_option maxHeartbeats 4000000 in
theorem tSt_narrowByPoints_77 {p : Program} {l : Launch} {e : Env} {s : State} {m : MethodId} {args : Array Value} {below : List Frame} {meth : Method} {c : Code} {D : va_G} {κ : Nat → ClassId} {A : Nat → Prop} (C : Cx_St_narrowByPoints p s m args meth c D κ A) (post : Hp → Prop) (k20 : Nat → Nat → Nat → Int32 → Int32 → Int32 → Int32 → Hp → Prop) (hk20 : ∀ (x0 : Nat) (x1 : Nat) (x2 : Nat) (x3 : Int32) (x4 : Int32) (x5 : Int32) (x6 : Int32) (M : Hp), k20 x0 x1 x2 x3 x4 x5 x6 M → Y p l e rm_St_narrowByPoints s m args below meth c D kCl (hTys κ) A 7 0 0 (MQ below (va_Qv post (hB D kCl (hTys κ) A) A) args s 0 0 A) M 20 [(0, .ref x0), (1, .ref x1), (2, .ref x2), (3, .int x3), (4, .int x4), (5, .int x5), (6, .int x6)] []) (x0 : Nat) (x1 : Nat) (x2 : Nat) (x3 : Int32) (x4 : Int32) (x5 : Int32) (x6 : Int32) (M : Hp) (hwp : wSt_narrowByPoints_77 post k20 x0 x1 x2 x3 x4 x5 x6 M) : Y p l e rm_St_narrowByPoints s m args below meth c D kCl (hTys κ) A 7 0 0 (MQ below (va_Qv post (hB D kCl (hTys κ) A) A) args s 0 0 A) M 77 [(0, .ref x0), (1, .ref x1), (2, .ref x2), (3, .int x3), (4, .int x4), (5, .int x5), (6, .int x6)] [] := by
  obtain ⟨hx, hb, hml, hr, hown, hts, hlocks, hE, hA⟩ := id C
  have hK := hE.1
  intro H locs ls hM hS hl
  unfold wSt_narrowByPoints_77 at hwp
  refine lv_iload hx hb d_St_narrowByPoints_77 (lv_at hl 5 rfl) ?_
  refine lv_iload hx hb d_St_narrowByPoints_79 (lv_at hl 4 rfl) ?_
  refine lv_icmp_ne (tgt := 100) hx hb d_St_narrowByPoints_81 (by decide) (fun c2 => ?_) (fun c2 => ?_)
  · replace hwp := hwp.2 c2
    refine lv_iload hx hb d_St_narrowByPoints_100 (lv_at hl 5 rfl) ?_
    refine lv_aload_n hx hb d_St_narrowByPoints_102 rfl (lv_at hl 0 rfl) ?_
    obtain ⟨v3, ⟨fs4, he5, hv6⟩, hwp⟩ := hwp
    refine h_get (C := "BuckTables$Stem") (T := Tc1) (N := 12) hx hb hts inc1 hown hK hM he5 rfl 9 (by decide) (hts _ kw_121) (fun _ h9 => h9) hv6 d_St_narrowByPoints_103 ?_
    refine lv_icmp_ge (tgt := 134) hx hb d_St_narrowByPoints_106 (by decide) (fun c7 => ?_) (fun c7 => ?_)
    · replace hwp := hwp.1 c7
      exact tSt_narrowByPoints_134 C post k20 hk20 x0 x1 x2 x3 x4 x5 x6 M hwp H locs ls hM hS (lv_sub hl [0, 1, 2, 3, 4, 5, 6] rfl)
    · replace hwp := hwp.2 c7
      refine lv_aload_n hx hb d_St_narrowByPoints_109 rfl (lv_at hl 1 rfl) ?_
      refine lv_iload hx hb d_St_narrowByPoints_110 (lv_at hl 6 rfl) ?_
      refine lv_aload_n hx hb d_St_narrowByPoints_112 rfl (lv_at hl 1 rfl) ?_
      refine lv_iload hx hb d_St_narrowByPoints_113 (lv_at hl 6 rfl) ?_
      obtain ⟨v8, ⟨n9, f10, ha11, hi12, ev8⟩, hwp⟩ := hwp
      refine h_iald hx hb hK hM ha11 rfl hi12 d_St_narrowByPoints_115 ?_
      rw [← ev8]
      refine lv_aload_n hx hb d_St_narrowByPoints_116 rfl (lv_at hl 0 rfl) ?_
      obtain ⟨a13, ⟨fs14, he15, hv16⟩, hwp⟩ := hwp
      refine h_get (C := "BuckTables$Stem") (T := Tc1) (N := 12) hx hb hts inc1 hown hK hM he15 rfl 1 (by decide) (hts _ kw_111) (fun _ h9 => h9) hv16 d_St_narrowByPoints_117 ?_
      refine lv_iload hx hb d_St_narrowByPoints_120 (lv_at hl 5 rfl) ?_
      refine lv_iconst (v := 1) hx hb d_St_narrowByPoints_122 (by decide) ?_
      refine lv_isub hx hb d_St_narrowByPoints_123 ?_
      obtain ⟨v17, ⟨n18, f19, ha20, hi21, ev17⟩, hwp⟩ := hwp
      refine h_iald hx hb hK hM ha20 rfl hi21 d_St_narrowByPoints_124 ?_
      rw [← ev17]
      refine lv_aload_n hx hb d_St_narrowByPoints_125 rfl (lv_at hl 0 rfl) ?_
      obtain ⟨v22, ⟨fs23, he24, hv25⟩, hwp⟩ := hwp
      refine h_get (C := "BuckTables$Stem") (T := Tc1) (N := 12) hx hb hts inc1 hown hK hM he24 rfl 0 (by decide) (hts _ kw_110) (fun _ h9 => h9) hv25 d_St_narrowByPoints_126 ?_
      obtain ⟨h26, hwp⟩ := hwp
      refine lv_idiv hx hb d_St_narrowByPoints_129 h26 ?_
      refine va_mmin hx hb (show c.maxLocals = ls.size by rw [hml, hl.1]) hown (hts _ kw_259) (hts _ kw_97) (hts _ kw_5) (hts _ kw_98) (Nat.le_of_ble_eq_true rfl) (Nat.le_of_ble_eq_true rfl) (Nat.le_of_ble_eq_true rfl) (Nat.le_of_ble_eq_true rfl) d_St_narrowByPoints_130 ?_
      obtain ⟨M31, ⟨n27, f28, ha29, hi30, eM31⟩, hwp⟩ := hwp
      refine h_iast hx hb hK hM hS ha29 rfl hi30 d_St_narrowByPoints_133 (fun H locs hM hS => ?_)
      rw [← eM31] at hM
      exact tSt_narrowByPoints_134 C post k20 hk20 x0 x1 x2 x3 x4 x5 x6 M31 hwp H locs ls hM hS (lv_sub hl [0, 1, 2, 3, 4, 5, 6] rfl)
  · replace hwp := hwp.1 c2
    refine lv_aload_n hx hb d_St_narrowByPoints_84 rfl (lv_at hl 1 rfl) ?_
    refine lv_iload hx hb d_St_narrowByPoints_85 (lv_at hl 6 rfl) ?_
    refine lv_aload_n hx hb d_St_narrowByPoints_87 rfl (lv_at hl 1 rfl) ?_
    refine lv_iload hx hb d_St_narrowByPoints_88 (lv_at hl 6 rfl) ?_
    obtain ⟨v32, ⟨n33, f34, ha35, hi36, ev32⟩, hwp⟩ := hwp
    refine h_iald hx hb hK hM ha35 rfl hi36 d_St_narrowByPoints_90 ?_
    rw [← ev32]
    refine lv_iload hx hb d_St_narrowByPoints_91 (lv_at hl 6 rfl) ?_
    refine va_mmin hx hb (show c.maxLocals = ls.size by rw [hml, hl.1]) hown (hts _ kw_259) (hts _ kw_97) (hts _ kw_5) (hts _ kw_98) (Nat.le_of_ble_eq_true rfl) (Nat.le_of_ble_eq_true rfl) (Nat.le_of_ble_eq_true rfl) (Nat.le_of_ble_eq_true rfl) d_St_narrowByPoints_93 ?_
    obtain ⟨M41, ⟨n37, f38, ha39, hi40, eM41⟩, hwp⟩ := hwp
    refine h_iast hx hb hK hM hS ha39 rfl hi40 d_St_narrowByPoints_96 (fun H locs hM hS => ?_)
    rw [← eM41] at hM
    refine lv_goto (tgt := 134) hx hb d_St_narrowByPoints_97 (by decide) ?_
    exact tSt_narrowByPoints_134 C post k20 hk20 x0 x1 x2 x3 x4 x5 x6 M41 hwp H locs ls hM hS (lv_sub hl [0, 1, 2, 3, 4, 5, 6] rfl)
def wSt_narrowByPoints_56 (post : Hp → Prop) (k20 : Nat → Nat → Nat → Int32 → Int32 → Int32 → Int32 → Hp → Prop) (k25 : Nat → Nat → Nat → Int32 → Int32 → Int32 → Int32 → Hp → Prop) (x0 : Nat) (x1 : Nat) (x2 : Nat) (x3 : Int32) (x4 : Int32) (x5 : Int32) (x6 : Int32) (M : Hp) : Prop := (∀ z42 : Int32, z42 = x4 + (-1) → (hob M x0 1 ∧ (wpSt_isTooBad x0 z42 x2 x3 M (fun (r45 : Int32) (M43 : Hp) => ((r45 = 0 → (k25 x0 x1 x2 x3 z42 x5 x6 M43)) ∧ (¬ r45 = 0 → (k25 x0 x1 x2 x3 z42 z42 x6 M43)))))))
set_option maxRecDepth 100000 in
set_option maxHeartbeats 4000000 in
theorem tSt_narrowByPoints_56 {p : Program} {l : Launch} {e : Env} {s : State} {m : MethodId} {args : Array Value} {below : List Frame} {meth : Method} {c : Code} {D : va_G} {κ : Nat → ClassId} {A : Nat → Prop} (C : Cx_St_narrowByPoints p s m args meth c D κ A) (post : Hp → Prop) (k20 : Nat → Nat → Nat → Int32 → Int32 → Int32 → Int32 → Hp → Prop) (hk20 : ∀ (x0 : Nat) (x1 : Nat) (x2 : Nat) (x3 : Int32) (x4 : Int32) (x5 : Int32) (x6 : Int32) (M : Hp), k20 x0 x1 x2 x3 x4 x5 x6 M → Y p l e rm_St_narrowByPoints s m args below meth c D kCl (hTys κ) A 7 0 0 (MQ below (va_Qv post (hB D kCl (hTys κ) A) A) args s 0 0 A) M 20 [(0, .ref x0), (1, .ref x1), (2, .ref x2), (3, .int x3), (4, .int x4), (5, .int x5), (6, .int x6)] []) (k25 : Nat → Nat → Nat → Int32 → Int32 → Int32 → Int32 → Hp → Prop) (hk25 : ∀ (x0 : Nat) (x1 : Nat) (x2 : Nat) (x3 : Int32) (x4 : Int32) (x5 : Int32) (x6 : Int32) (M : Hp), k25 x0 x1 x2 x3 x4 x5 x6 M → Y p l e rm_St_narrowByPoints s m args below meth c D kCl (hTys κ) A 7 0 0 (MQ below (va_Qv post (hB D kCl (hTys κ) A) A) args s 0 0 A) M 25 [(0, .ref x0), (1, .ref x1), (2, .ref x2), (3, .int x3), (4, .int x4), (5, .int x5), (6, .int x6)] []) (x0 : Nat) (x1 : Nat) (x2 : Nat) (x3 : Int32) (x4 : Int32) (x5 : Int32) (x6 : Int32) (M : Hp) (hwp : wSt_narrowByPoints_56 post k20 k25 x0 x1 x2 x3 x4 x5 x6 M) : Y p l e rm_St_narrowByPoints s m args below meth c D kCl (hTys κ) A 7 0 0 (MQ below (va_Qv post (hB D kCl (hTys κ) A) A) args s 0 0 A) M 56 [(0, .ref x0), (1, .ref x1), (2, .ref x2), (3, .int x3), (4, .int x4), (5, .int x5), (6, .int x6)] [] := by
  obtain ⟨hx, hb, hml, hr, hown, hts, hlocks, hE, hA⟩ := id C
  have hK := hE.1
  intro H locs ls hM hS hl
  unfold wSt_narrowByPoints_56 at hwp
  obtain ⟨z42, ez42⟩ : ∃ y : Int32, y = x4 + (-1) := ⟨_, rfl⟩
  replace hwp := hwp z42 ez42
  refine lv_iinc (v := z42) (lv' := [(4, .int z42), (0, .ref x0), (1, .ref x1), (2, .ref x2), (3, .int x3), (5, .int x5), (6, .int x6)]) hx hb d_St_narrowByPoints_56 hl (k := 4) rfl (by rw [ez42]; rfl) (by decide) rfl (fun ls hl => ?_)
  refine lv_aload_n hx hb d_St_narrowByPoints_59 rfl (lv_at hl 1 rfl) ?_
  refine lv_iload hx hb d_St_narrowByPoints_60 (lv_at hl 0 rfl) ?_
  refine lv_aload_n hx hb d_St_narrowByPoints_62 rfl (lv_at hl 3 rfl) ?_
  refine lv_iload_n hx hb d_St_narrowByPoints_63 rfl (lv_at hl 4 rfl) ?_
  obtain ⟨ho44, hwp⟩ := hwp
  refine h_calli hM hS hA (va_runV (As := [.int z42, .ref x2, .int x3]) (rest := []) ⟨hx, hb, hml, hown, hts⟩ (metSt_isTooBad l D κ H.size x0 z42 x2 x3 M _ hwp) (cwV 3 hts (gV kw_264 kw_266 kp_4 kw_6 kw_267) rfl rfl rfl (by decide +kernel) ⟨(Nat.le_of_ble_eq_true rfl), (Nat.le_of_ble_eq_true rfl)⟩) (h_preV hE hM hS ho44 (r := ("BuckTables$Stem", Tc1, 12)) rfl) rfl rfl hl.1 rfl (lv_room (Nat.le_of_ble_eq_true rfl)) d_St_narrowByPoints_64 ⟨(Nat.le_of_ble_eq_true rfl), (Nat.le_of_ble_eq_true rfl)⟩) (fun r45 M43 H locs hwp hM hS => ?_)
  refine lv_if_eq (tgt := 25) hx hb d_St_narrowByPoints_67 (by decide) (fun c46 => ?_) (fun c46 => ?_)
  · replace hwp := hwp.1 c46
    exact hk25 x0 x1 x2 x3 z42 x5 x6 M43 hwp H locs ls hM hS (lv_sub hl [1, 2, 3, 4, 0, 5, 6] rfl)
  · replace hwp := hwp.2 c46
    refine lv_iload hx hb d_St_narrowByPoints_70 (lv_at hl 0 rfl) ?_
    refine lv_istore (lv' := [(5, .int z42), (4, .int z42), (0, .ref x0), (1, .ref x1), (2, .ref x2), (3, .int x3), (6, .int x6)]) hx hb d_St_narrowByPoints_72 hl (by decide) rfl (fun ls hl => ?_)
    refine lv_goto (tgt := 25) hx hb d_St_narrowByPoints_74 (by decide) ?_
    exact hk25 x0 x1 x2 x3 z42 z42 x6 M43 hwp H locs ls hM hS (lv_sub hl [2, 3, 4, 5, 1, 0, 6] rfl)
def wSt_narrowByPoints_25 (post : Hp → Prop) (k20 : Nat → Nat → Nat → Int32 → Int32 → Int32 → Int32 → Hp → Prop) : Nat → Nat → Nat → Nat → Int32 → Int32 → Int32 → Int32 → Hp → Prop
  | 0 => fun _ _ _ _ _ _ _ _ => False
  | n + 1 => fun x0 x1 x2 x3 x4 x5 x6 M => ((x4 ≤ 0 → (wSt_narrowByPoints_77 post k20 x0 x1 x2 x3 x4 x5 x6 M)) ∧ (¬ x4 ≤ 0 → (∃ v48 : Int32, fI M x0 1 9 v48 ∧ ((x4 = v48 → (wSt_narrowByPoints_56 post k20 (wSt_narrowByPoints_25 post k20 n) x0 x1 x2 x3 x4 x5 x6 M)) ∧ (¬ x4 = v48 → (∃ a53 : Nat, fA M x0 1 1 a53 ∧ (∃ v57 : Int32, aI M a53 x4 v57 ∧ (∃ v62 : Int32, fI M x0 1 0 v62 ∧ ((v57 ≤ (x6 * v62) → (wSt_narrowByPoints_77 post k20 x0 x1 x2 x3 x4 x5 x6 M)) ∧ (¬ v57 ≤ (x6 * v62) → (wSt_narrowByPoints_56 post k20 (wSt_narrowByPoints_25 post k20 n) x0 x1 x2 x3 x4 x5 x6 M)))))))))))
set_option maxRecDepth 100000 in
set_option maxHeartbeats 4000000 in
theorem tSt_narrowByPoints_25 {p : Program} {l : Launch} {e : Env} {s : State} {m : MethodId} {args : Array Value} {below : List Frame} {meth : Method} {c : Code} {D : va_G} {κ : Nat → ClassId} {A : Nat → Prop} (C : Cx_St_narrowByPoints p s m args meth c D κ A) (post : Hp → Prop) (k20 : Nat → Nat → Nat → Int32 → Int32 → Int32 → Int32 → Hp → Prop) (hk20 : ∀ (x0 : Nat) (x1 : Nat) (x2 : Nat) (x3 : Int32) (x4 : Int32) (x5 : Int32) (x6 : Int32) (M : Hp), k20 x0 x1 x2 x3 x4 x5 x6 M → Y p l e rm_St_narrowByPoints s m args below meth c D kCl (hTys κ) A 7 0 0 (MQ below (va_Qv post (hB D kCl (hTys κ) A) A) args s 0 0 A) M 20 [(0, .ref x0), (1, .ref x1), (2, .ref x2), (3, .int x3), (4, .int x4), (5, .int x5), (6, .int x6)] []) : ∀ (n : Nat) (x0 : Nat) (x1 : Nat) (x2 : Nat) (x3 : Int32) (x4 : Int32) (x5 : Int32) (x6 : Int32) (M : Hp), wSt_narrowByPoints_25 post k20 n x0 x1 x2 x3 x4 x5 x6 M → Y p l e rm_St_narrowByPoints s m args below meth c D kCl (hTys κ) A 7 0 0 (MQ below (va_Qv post (hB D kCl (hTys κ) A) A) args s 0 0 A) M 25 [(0, .ref x0), (1, .ref x1), (2, .ref x2), (3, .int x3), (4, .int x4), (5, .int x5), (6, .int x6)] [] := by
  obtain ⟨hx, hb, hml, hr, hown, hts, hlocks, hE, hA⟩ := id C
  have hK := hE.1
  intro n
  induction n with
  | zero => intro x0 x1 x2 x3 x4 x5 x6 M hwp; exact hwp.elim
  | succ n ih =>
    intro x0 x1 x2 x3 x4 x5 x6 M hwp H locs ls hM hS hl
    unfold wSt_narrowByPoints_25 at hwp
    refine lv_iload hx hb d_St_narrowByPoints_25 (lv_at hl 4 rfl) ?_
    refine lv_if_le (tgt := 77) hx hb d_St_narrowByPoints_27 (by decide) (fun c47 => ?_) (fun c47 => ?_)
    · replace hwp := hwp.1 c47
      exact tSt_narrowByPoints_77 C post k20 hk20 x0 x1 x2 x3 x4 x5 x6 M hwp H locs ls hM hS (lv_sub hl [0, 1, 2, 3, 4, 5, 6] rfl)
    · replace hwp := hwp.2 c47
      refine lv_iload hx hb d_St_narrowByPoints_30 (lv_at hl 4 rfl) ?_
      refine lv_aload_n hx hb d_St_narrowByPoints_32 rfl (lv_at hl 0 rfl) ?_
      obtain ⟨v48, ⟨fs49, he50, hv51⟩, hwp⟩ := hwp
      refine h_get (C := "BuckTables$Stem") (T := Tc1) (N := 12) hx hb hts inc1 hown hK hM he50 rfl 9 (by decide) (hts _ kw_121) (fun _ h9 => h9) hv51 d_St_narrowByPoints_33 ?_
      refine lv_icmp_eq (tgt := 56) hx hb d_St_narrowByPoints_36 (by decide) (fun c52 => ?_) (fun c52 => ?_)
      · replace hwp := hwp.1 c52
        exact tSt_narrowByPoints_56 C post k20 hk20 (wSt_narrowByPoints_25 post k20 n) ih x0 x1 x2 x3 x4 x5 x6 M hwp H locs ls hM hS (lv_sub hl [0, 1, 2, 3, 4, 5, 6] rfl)
      · replace hwp := hwp.2 c52
        refine lv_aload_n hx hb d_St_narrowByPoints_39 rfl (lv_at hl 0 rfl) ?_
        obtain ⟨a53, ⟨fs54, he55, hv56⟩, hwp⟩ := hwp
        refine h_get (C := "BuckTables$Stem") (T := Tc1) (N := 12) hx hb hts inc1 hown hK hM he55 rfl 1 (by decide) (hts _ kw_111) (fun _ h9 => h9) hv56 d_St_narrowByPoints_40 ?_
        refine lv_iload hx hb d_St_narrowByPoints_43 (lv_at hl 4 rfl) ?_
        obtain ⟨v57, ⟨n58, f59, ha60, hi61, ev57⟩, hwp⟩ := hwp
        refine h_iald hx hb hK hM ha60 rfl hi61 d_St_narrowByPoints_45 ?_
        rw [← ev57]
        refine lv_iload hx hb d_St_narrowByPoints_46 (lv_at hl 6 rfl) ?_
        refine lv_aload_n hx hb d_St_narrowByPoints_48 rfl (lv_at hl 0 rfl) ?_
        obtain ⟨v62, ⟨fs63, he64, hv65⟩, hwp⟩ := hwp
        refine h_get (C := "BuckTables$Stem") (T := Tc1) (N := 12) hx hb hts inc1 hown hK hM he64 rfl 0 (by decide) (hts _ kw_110) (fun _ h9 => h9) hv65 d_St_narrowByPoints_49 ?_
        refine lv_imul hx hb d_St_narrowByPoints_52 ?_
        refine lv_icmp_le (tgt := 77) hx hb d_St_narrowByPoints_53 (by decide) (fun c66 => ?_) (fun c66 => ?_)
        · replace hwp := hwp.1 c66
          exact tSt_narrowByPoints_77 C post k20 hk20 x0 x1 x2 x3 x4 x5 x6 M hwp H locs ls hM hS (lv_sub hl [0, 1, 2, 3, 4, 5, 6] rfl)
        · replace hwp := hwp.2 c66
          exact tSt_narrowByPoints_56 C post k20 hk20 (wSt_narrowByPoints_25 post k20 n) ih x0 x1 x2 x3 x4 x5 x6 M hwp H locs ls hM hS (lv_sub hl [0, 1, 2, 3, 4, 5, 6] rfl)
def wSt_narrowByPoints_20 (post : Hp → Prop)  : Nat → Nat → Nat → Nat → Int32 → Int32 → Int32 → Int32 → Hp → Prop
  | 0 => fun _ _ _ _ _ _ _ _ => False
  | n + 1 => fun x0 x1 x2 x3 x4 x5 x6 M => ((x6 < 0 → (post M)) ∧ (¬ x6 < 0 → (∃ n68 : Nat, wSt_narrowByPoints_25 post (wSt_narrowByPoints_20 post n) n68 x0 x1 x2 x3 x4 x5 x6 M)))
set_option maxRecDepth 100000 in
set_option maxHeartbeats 4000000 in
theorem tSt_narrowByPoints_20 {p : Program} {l : Launch} {e : Env} {s : State} {m : MethodId} {args : Array Value} {below : List Frame} {meth : Method} {c : Code} {D : va_G} {κ : Nat → ClassId} {A : Nat → Prop} (C : Cx_St_narrowByPoints p s m args meth c D κ A) (post : Hp → Prop)  : ∀ (n : Nat) (x0 : Nat) (x1 : Nat) (x2 : Nat) (x3 : Int32) (x4 : Int32) (x5 : Int32) (x6 : Int32) (M : Hp), wSt_narrowByPoints_20 post n x0 x1 x2 x3 x4 x5 x6 M → Y p l e rm_St_narrowByPoints s m args below meth c D kCl (hTys κ) A 7 0 0 (MQ below (va_Qv post (hB D kCl (hTys κ) A) A) args s 0 0 A) M 20 [(0, .ref x0), (1, .ref x1), (2, .ref x2), (3, .int x3), (4, .int x4), (5, .int x5), (6, .int x6)] [] := by
  obtain ⟨hx, hb, hml, hr, hown, hts, hlocks, hE, hA⟩ := id C
  have hK := hE.1
  intro n
  induction n with
  | zero => intro x0 x1 x2 x3 x4 x5 x6 M hwp; exact hwp.elim
  | succ n ih =>
    intro x0 x1 x2 x3 x4 x5 x6 M hwp H locs ls hM hS hl
    unfold wSt_narrowByPoints_20 at hwp
    refine lv_iload hx hb d_St_narrowByPoints_20 (lv_at hl 6 rfl) ?_
    refine lv_if_lt (tgt := 140) hx hb d_St_narrowByPoints_22 (by decide) (fun c67 => ?_) (fun c67 => ?_)
    · replace hwp := hwp.1 c67
      exact W.vret hx hb hr (fun t ht hW => ⟨⟨M, rfl, hwp, by show hw D kCl (hTys κ) A M t.heap; rw [ht]; exact hM⟩, hS.F ht⟩) hS.2.2 d_St_narrowByPoints_140
    · replace hwp := hwp.2 c67
      obtain ⟨n68, hwp⟩ := hwp
      exact tSt_narrowByPoints_25 C post (wSt_narrowByPoints_20 post n) ih n68 x0 x1 x2 x3 x4 x5 x6 M hwp H locs ls hM hS (lv_sub hl [0, 1, 2, 3, 4, 5, 6] rfl)
def wpSt_narrowByPoints (self : Nat) (p0 : Nat) (p1 : Nat) (p2 : Int32) (M : Hp) (post : Hp → Prop) : Prop := (∃ v69 : Int32, fI M self 1 9 v69 ∧ (∃ v73 : Int32, fI M self 1 9 v73 ∧ (∃ v77 : Int32, fI M self 1 11 v77 ∧ (∀ z81 : Int32, z81 = (v77 - (1 : Int32)) → (∃ n82 : Nat, wSt_narrowByPoints_20 post n82 self p0 p1 p2 v69 v73 z81 M)))))
set_option maxRecDepth 100000 in
set_option maxHeartbeats 4000000 in
theorem eSt_narrowByPoints {p : Program} {l : Launch} {e : Env} {s : State} {m : MethodId} {args : Array Value} {below : List Frame} {meth : Method} {c : Code} {D : va_G} {κ : Nat → ClassId} {A : Nat → Prop} (C : Cx_St_narrowByPoints p s m args meth c D κ A) (post : Hp → Prop) (self : Nat) (p0 : Nat) (p1 : Nat) (p2 : Int32) (M : Hp) (hwp : wpSt_narrowByPoints self p0 p1 p2 M post) : Y p l e rm_St_narrowByPoints s m args below meth c D kCl (hTys κ) A 7 0 0 (MQ below (va_Qv post (hB D kCl (hTys κ) A) A) args s 0 0 A) M 0 [(0, .ref self), (1, .ref p0), (2, .ref p1), (3, .int p2)] [] := by
  obtain ⟨hx, hb, hml, hr, hown, hts, hlocks, hE, hA⟩ := id C
  have hK := hE.1
  intro H locs ls hM hS hl
  unfold wpSt_narrowByPoints at hwp
  refine lv_aload_n hx hb d_St_narrowByPoints_0 rfl (lv_at hl 0 rfl) ?_
  obtain ⟨v69, ⟨fs70, he71, hv72⟩, hwp⟩ := hwp
  refine h_get (C := "BuckTables$Stem") (T := Tc1) (N := 12) hx hb hts inc1 hown hK hM he71 rfl 9 (by decide) (hts _ kw_121) (fun _ h9 => h9) hv72 d_St_narrowByPoints_1 ?_
  refine lv_istore (lv' := [(4, .int v69), (0, .ref self), (1, .ref p0), (2, .ref p1), (3, .int p2)]) hx hb d_St_narrowByPoints_4 hl (by decide) rfl (fun ls hl => ?_)
  refine lv_aload_n hx hb d_St_narrowByPoints_6 rfl (lv_at hl 1 rfl) ?_
  obtain ⟨v73, ⟨fs74, he75, hv76⟩, hwp⟩ := hwp
  refine h_get (C := "BuckTables$Stem") (T := Tc1) (N := 12) hx hb hts inc1 hown hK hM he75 rfl 9 (by decide) (hts _ kw_121) (fun _ h9 => h9) hv76 d_St_narrowByPoints_7 ?_
  refine lv_istore (lv' := [(5, .int v73), (4, .int v69), (0, .ref self), (1, .ref p0), (2, .ref p1), (3, .int p2)]) hx hb d_St_narrowByPoints_10 hl (by decide) rfl (fun ls hl => ?_)
  refine lv_aload_n hx hb d_St_narrowByPoints_12 rfl (lv_at hl 2 rfl) ?_
  obtain ⟨v77, ⟨fs78, he79, hv80⟩, hwp⟩ := hwp
  refine h_get (C := "BuckTables$Stem") (T := Tc1) (N := 12) hx hb hts inc1 hown hK hM he79 rfl 11 (by decide) (hts _ kw_125) (fun _ h9 => h9) hv80 d_St_narrowByPoints_13 ?_
  refine lv_iconst (v := 1) hx hb d_St_narrowByPoints_16 (by decide) ?_
  refine lv_isub hx hb d_St_narrowByPoints_17 ?_
  refine lv_topi (fun z81 ez81 => ?_)
  replace hwp := hwp z81 ez81
  refine lv_istore (lv' := [(6, .int z81), (5, .int v73), (4, .int v69), (0, .ref self), (1, .ref p0), (2, .ref p1), (3, .int p2)]) hx hb d_St_narrowByPoints_18 hl (by decide) rfl (fun ls hl => ?_)
  obtain ⟨n82, hwp⟩ := hwp
  exact tSt_narrowByPoints_20 C post n82 self p0 p1 p2 v69 v73 z81 M hwp H locs ls hM hS (lv_sub hl [3, 4, 5, 6, 2, 1, 0] rfl)
set_option maxRecDepth 100000 in
set_option maxHeartbeats 4000000 in
theorem metSt_narrowByPoints (l : Launch) (D : va_G) (κ : Nat → ClassId) (sz : Nat) (self : Nat) (p0 : Nat) (p1 : Nat) (p2 : Int32) (M : Hp) (post : Hp → Prop) (hwp : wpSt_narrowByPoints self p0 p1 p2 M post) : Met l y_St_narrowByPoints ws_St_narrowByPoints rm_St_narrowByPoints (hPc D kCl (hTys κ) M sz [.ref self, .ref p0, .ref p1, .int p2]) (va_Qv post (hB D kCl (hTys κ) (hAx M sz)) (hAx M sz)) 0 0 (hAx M sz) := by
  refine Met.ofW (cc := prog_5_method_8_code) (maxL := 7) (ret := none) (by decide +kernel) rfl ?_
  intro p e s m args below meth c s₁ B hml hv
  obtain ⟨rfl, hsz, hE, hM0⟩ := hv
  have hts : ∀ w ∈ WG, w.before _ s = true := fun w h => atoms_spec (ws := ws_St_narrowByPoints) B.pre w (List.mem_cons_of_mem _ h)
  subst hsz
  have C : Cx_St_narrowByPoints p s m _ meth c D κ (hAx M s.heap.size) := ⟨B.exec, B.bytes, hml, B.returns, findClass_of_methodNamed B.named, hts, B.notSynchronized, hE, fun q h => Or.inr h⟩
  have hl := lv_entry ([.ref self, .ref p0, .ref p1, .int p2]) (n := 7) (Nat.le_of_ble_eq_true rfl)
  rw [lg_entry_eq]
  generalize (lg_sl ([.ref self, .ref p0, .ref p1, .int p2]) ++ List.replicate (7 - (lg_sl ([.ref self, .ref p0, .ref p1, .int p2])).length) Slot.unset).toArray = ls at hl ⊢
  exact eSt_narrowByPoints C post self p0 p1 p2 M hwp s.heap [] ls (hM0.self (sz := s.heap.size)) va_S.rf hl
abbrev rm_St_narrowByFaults : Room := { frames := 1, cells := 0, slots := 0, locals := 23 }
def Cx_St_narrowByFaults (p : Program) (s : State) (m : MethodId) (args : Array Value) (meth : Method) (c : Code) (D : va_G) (κ : Nat → ClassId) (A : Nat → Prop) : Prop := p.tables.exec = Jvm.exec ∧ c.code = prog_5_method_10_code ∧ c.maxLocals = 5 ∧ meth.sig.returnType = none ∧ s.vm.findClass "BuckTables$Stem" = some m.cls ∧ (∀ w ∈ WG, w.before args s = true) ∧ meth.locks = false ∧ hEnv D kCl (hTys κ) A s ∧ (∀ q, s.heap.size ≤ q → A q)
def wSt_narrowByFaults_80 (post : Hp → Prop) (k2 : Nat → Nat → Nat → Int32 → Hp → Prop) (x0 : Nat) (x1 : Nat) (x2 : Nat) (x3 : Int32) (M : Hp) : Prop := (∀ z1 : Int32, z1 = x3 + 1 → (k2 x0 x1 x2 z1 M))
set_option maxRecDepth 100000 in
set_option maxHeartbeats 4000000 in
theorem tSt_narrowByFaults_80 {p : Program} {l : Launch} {e : Env} {s : State} {m : MethodId} {args : Array Value} {below : List Frame} {meth : Method} {c : Code} {D : va_G} {κ : Nat → ClassId} {A : Nat → Prop} (C : Cx_St_narrowByFaults p s m args meth c D κ A) (post : Hp → Prop) (k2 : Nat → Nat → Nat → Int32 → Hp → Prop) (hk2 : ∀ (x0 : Nat) (x1 : Nat) (x2 : Nat) (x3 : Int32) (M : Hp), k2 x0 x1 x2 x3 M → Y p l e rm_St_narrowByFaults s m args below meth c D kCl (hTys κ) A 5 0 0 (MQ below (va_Qv post (hB D kCl (hTys κ) A) A) args s 0 0 A) M 2 [(0, .ref x0), (1, .ref x1), (2, .ref x2), (3, .int x3)] []) (x0 : Nat) (x1 : Nat) (x2 : Nat) (x3 : Int32) (M : Hp) (hwp : wSt_narrowByFaults_80 post k2 x0 x1 x2 x3 M) : Y p l e rm_St_narrowByFaults s m args below meth c D kCl (hTys κ) A 5 0 0 (MQ below (va_Qv post (hB D kCl (hTys κ) A) A) args s 0 0 A) M 80 [(0, .ref x0), (1, .ref x1), (2, .ref x2), (3, .int x3)] [] := by
  obtain ⟨hx, hb, hml, hr, hown, hts, hlocks, hE, hA⟩ := id C
  have hK := hE.1
  intro H locs ls hM hS hl
  unfold wSt_narrowByFaults_80 at hwp
  obtain ⟨z1, ez1⟩ : ∃ y : Int32, y = x3 + 1 := ⟨_, rfl⟩
  replace hwp := hwp z1 ez1
  refine lv_iinc (v := z1) (lv' := [(3, .int z1), (0, .ref x0), (1, .ref x1), (2, .ref x2)]) hx hb d_St_narrowByFaults_80 hl (k := 3) rfl (by rw [ez1]; rfl) (by decide) rfl (fun ls hl => ?_)
  refine lv_goto (tgt := 2) hx hb d_St_narrowByFaults_83 (by decide) ?_
  exact hk2 x0 x1 x2 z1 M hwp H locs ls hM hS (lv_sub hl [1, 2, 3, 0] rfl)
def wSt_narrowByFaults_27 (post : Hp → Prop) (k2 : Nat → Nat → Nat → Int32 → Hp → Prop) : Nat → Nat → Nat → Nat → Int32 → Int32 → Hp → Prop
  | 0 => fun _ _ _ _ _ _ => False
  | n + 1 => fun x0 x1 x2 x3 x4 M => (∃ v2 : Int32, fI M x0 1 11 v2 ∧ ((v2 ≤ x4 → (wSt_narrowByFaults_80 post k2 x0 x1 x2 x3 M)) ∧ (¬ v2 ≤ x4 → (∃ v7 : Int32, fI M x0 1 0 v7 ∧ (∃ a11 : Nat, fA M x0 1 5 a11 ∧ (∃ v15 : Int32, aI M a11 x3 v15 ∧ ((v15 ≤ (x4 * v7) → (wSt_narrowByFaults_80 post k2 x0 x1 x2 x3 M)) ∧ (¬ v15 ≤ (x4 * v7) → (∃ v21 : Int32, aI M x1 x4 v21 ∧ (∃ a26 : Nat, fA M x0 1 4 a26 ∧ (∃ v30 : Int32, aI M a26 x3 v30 ∧ (∃ v35 : Int32, fI M x0 1 0 v35 ∧ (¬ v35 = 0 ∧ (∃ M44 : Hp, sI M x1 x4 (if (v30 / v35) < v21 then (v30 / v35) else v21) M44 ∧ (∀ z45 : Int32, z45 = x4 + 1 → ((wSt_narrowByFaults_27 post k2 n) x0 x1 x2 x3 z45 M44))))))))))))))))
set_option maxRecDepth 100000 in
set_option maxHeartbeats 4000000 in
theorem tSt_narrowByFaults_27 {p : Program} {l : Launch} {e : Env} {s : State} {m : MethodId} {args : Array Value} {below : List Frame} {meth : Method} {c : Code} {D : va_G} {κ : Nat → ClassId} {A : Nat → Prop} (C : Cx_St_narrowByFaults p s m args meth c D κ A) (post : Hp → Prop) (k2 : Nat → Nat → Nat → Int32 → Hp → Prop) (hk2 : ∀ (x0 : Nat) (x1 : Nat) (x2 : Nat) (x3 : Int32) (M : Hp), k2 x0 x1 x2 x3 M → Y p l e rm_St_narrowByFaults s m args below meth c D kCl (hTys κ) A 5 0 0 (MQ below (va_Qv post (hB D kCl (hTys κ) A) A) args s 0 0 A) M 2 [(0, .ref x0), (1, .ref x1), (2, .ref x2), (3, .int x3)] []) : ∀ (n : Nat) (x0 : Nat) (x1 : Nat) (x2 : Nat) (x3 : Int32) (x4 : Int32) (M : Hp), wSt_narrowByFaults_27 post k2 n x0 x1 x2 x3 x4 M → Y p l e rm_St_narrowByFaults s m args below meth c D kCl (hTys κ) A 5 0 0 (MQ below (va_Qv post (hB D kCl (hTys κ) A) A) args s 0 0 A) M 27 [(0, .ref x0), (1, .ref x1), (2, .ref x2), (3, .int x3), (4, .int x4)] [] := by
  obtain ⟨hx, hb, hml, hr, hown, hts, hlocks, hE, hA⟩ := id C
  have hK := hE.1
  intro n
  induction n with
  | zero => intro x0 x1 x2 x3 x4 M hwp; exact hwp.elim
  | succ n ih =>
    intro x0 x1 x2 x3 x4 M hwp H locs ls hM hS hl
    unfold wSt_narrowByFaults_27 at hwp
    refine lv_iload hx hb d_St_narrowByFaults_27 (lv_at hl 4 rfl) ?_
    refine lv_aload_n hx hb d_St_narrowByFaults_29 rfl (lv_at hl 0 rfl) ?_
    obtain ⟨v2, ⟨fs3, he4, hv5⟩, hwp⟩ := hwp
    refine h_get (C := "BuckTables$Stem") (T := Tc1) (N := 12) hx hb hts inc1 hown hK hM he4 rfl 11 (by decide) (hts _ kw_125) (fun _ h9 => h9) hv5 d_St_narrowByFaults_30 ?_
    refine lv_icmp_ge (tgt := 80) hx hb d_St_narrowByFaults_33 (by decide) (fun c6 => ?_) (fun c6 => ?_)
    · replace hwp := hwp.1 c6
      exact tSt_narrowByFaults_80 C post k2 hk2 x0 x1 x2 x3 M hwp H locs ls hM hS (lv_sub hl [0, 1, 2, 3] rfl)
    · replace hwp := hwp.2 c6
      refine lv_iload hx hb d_St_narrowByFaults_36 (lv_at hl 4 rfl) ?_
      refine lv_aload_n hx hb d_St_narrowByFaults_38 rfl (lv_at hl 0 rfl) ?_
      obtain ⟨v7, ⟨fs8, he9, hv10⟩, hwp⟩ := hwp
      refine h_get (C := "BuckTables$Stem") (T := Tc1) (N := 12) hx hb hts inc1 hown hK hM he9 rfl 0 (by decide) (hts _ kw_110) (fun _ h9 => h9) hv10 d_St_narrowByFaults_39 ?_
      refine lv_imul hx hb d_St_narrowByFaults_42 ?_
      refine lv_aload_n hx hb d_St_narrowByFaults_43 rfl (lv_at hl 0 rfl) ?_
      obtain ⟨a11, ⟨fs12, he13, hv14⟩, hwp⟩ := hwp
      refine h_get (C := "BuckTables$Stem") (T := Tc1) (N := 12) hx hb hts inc1 hown hK hM he13 rfl 5 (by decide) (hts _ kw_115) (fun _ h9 => h9) hv14 d_St_narrowByFaults_44 ?_
      refine lv_iload_n hx hb d_St_narrowByFaults_47 rfl (lv_at hl 3 rfl) ?_
      obtain ⟨v15, ⟨n16, f17, ha18, hi19, ev15⟩, hwp⟩ := hwp
      refine h_iald hx hb hK hM ha18 rfl hi19 d_St_narrowByFaults_48 ?_
      rw [← ev15]
      refine lv_icmp_ge (tgt := 80) hx hb d_St_narrowByFaults_49 (by decide) (fun c20 => ?_) (fun c20 => ?_)
      · replace hwp := hwp.1 c20
        exact tSt_narrowByFaults_80 C post k2 hk2 x0 x1 x2 x3 M hwp H locs ls hM hS (lv_sub hl [0, 1, 2, 3] rfl)
      · replace hwp := hwp.2 c20
        refine lv_aload_n hx hb d_St_narrowByFaults_52 rfl (lv_at hl 1 rfl) ?_
        refine lv_iload hx hb d_St_narrowByFaults_53 (lv_at hl 4 rfl) ?_
        refine lv_aload_n hx hb d_St_narrowByFaults_55 rfl (lv_at hl 1 rfl) ?_
        refine lv_iload hx hb d_St_narrowByFaults_56 (lv_at hl 4 rfl) ?_
        obtain ⟨v21, ⟨n22, f23, ha24, hi25, ev21⟩, hwp⟩ := hwp
        refine h_iald hx hb hK hM ha24 rfl hi25 d_St_narrowByFaults_58 ?_
        rw [← ev21]
        refine lv_aload_n hx hb d_St_narrowByFaults_59 rfl (lv_at hl 0 rfl) ?_
        obtain ⟨a26, ⟨fs27, he28, hv29⟩, hwp⟩ := hwp
        refine h_get (C := "BuckTables$Stem") (T := Tc1) (N := 12) hx hb hts inc1 hown hK hM he28 rfl 4 (by decide) (hts _ kw_114) (fun _ h9 => h9) hv29 d_St_narrowByFaults_60 ?_
        refine lv_iload_n hx hb d_St_narrowByFaults_63 rfl (lv_at hl 3 rfl) ?_
        obtain ⟨v30, ⟨n31, f32, ha33, hi34, ev30⟩, hwp⟩ := hwp
        refine h_iald hx hb hK hM ha33 rfl hi34 d_St_narrowByFaults_64 ?_
        rw [← ev30]
        refine lv_aload_n hx hb d_St_narrowByFaults_65 rfl (lv_at hl 0 rfl) ?_
        obtain ⟨v35, ⟨fs36, he37, hv38⟩, hwp⟩ := hwp
        refine h_get (C := "BuckTables$Stem") (T := Tc1) (N := 12) hx hb hts inc1 hown hK hM he37 rfl 0 (by decide) (hts _ kw_110) (fun _ h9 => h9) hv38 d_St_narrowByFaults_66 ?_
        obtain ⟨h39, hwp⟩ := hwp
        refine lv_idiv hx hb d_St_narrowByFaults_69 h39 ?_
        refine va_mmin hx hb (show c.maxLocals = ls.size by rw [hml, hl.1]) hown (hts _ kw_259) (hts _ kw_97) (hts _ kw_5) (hts _ kw_98) (Nat.le_of_ble_eq_true rfl) (Nat.le_of_ble_eq_true rfl) (Nat.le_of_ble_eq_true rfl) (Nat.le_of_ble_eq_true rfl) d_St_narrowByFaults_70 ?_
        obtain ⟨M44, ⟨n40, f41, ha42, hi43, eM44⟩, hwp⟩ := hwp
        refine h_iast hx hb hK hM hS ha42 rfl hi43 d_St_narrowByFaults_73 (fun H locs hM hS => ?_)
        rw [← eM44] at hM
        obtain ⟨z45, ez45⟩ : ∃ y : Int32, y = x4 + 1 := ⟨_, rfl⟩
        replace hwp := hwp z45 ez45
        refine lv_iinc (v := z45) (lv' := [(4, .int z45), (0, .ref x0), (1, .ref x1), (2, .ref x2), (3, .int x3)]) hx hb d_St_narrowByFaults_74 hl (k := 4) rfl (by rw [ez45]; rfl) (by decide) rfl (fun ls hl => ?_)
        refine lv_goto (tgt := 27) hx hb d_St_narrowByFaults_77 (by decide) ?_
        exact ih x0 x1 x2 x3 z45 M44 hwp H locs ls hM hS (lv_sub hl [1, 2, 3, 4, 0] rfl)
def wSt_narrowByFaults_2 (post : Hp → Prop)  : Nat → Nat → Nat → Nat → Int32 → Hp → Prop
  | 0 => fun _ _ _ _ _ => False
  | n + 1 => fun x0 x1 x2 x3 M => (∃ v46 : Int32, fI M x0 1 10 v46 ∧ ((v46 ≤ x3 → (post M)) ∧ (¬ v46 ≤ x3 → (∃ a51 : Nat, fA M x2 2 1 a51 ∧ (∃ a55 : Nat, fA M x0 1 6 a55 ∧ (∃ v59 : Int32, aI M a55 x3 v59 ∧ (∃ v64 : Int32, aZ M a51 v59 v64 ∧ ((v64 = 0 → (wSt_narrowByFaults_80 post (wSt_narrowByFaults_2 post n) x0 x1 x2 x3 M)) ∧ (¬ v64 = 0 → (∃ n70 : Nat, wSt_narrowByFaults_27 post (wSt_narrowByFaults_2 post n) n70 x0 x1 x2 x3 (0 : Int32) M))))))))))
set_option maxRecDepth 100000 in
set_option maxHeartbeats 4000000 in
theorem tSt_narrowByFaults_2 {p : Program} {l : Launch} {e : Env} {s : State} {m : MethodId} {args : Array Value} {below : List Frame} {meth : Method} {c : Code} {D : va_G} {κ : Nat → ClassId} {A : Nat → Prop} (C : Cx_St_narrowByFaults p s m args meth c D κ A) (post : Hp → Prop)  : ∀ (n : Nat) (x0 : Nat) (x1 : Nat) (x2 : Nat) (x3 : Int32) (M : Hp), wSt_narrowByFaults_2 post n x0 x1 x2 x3 M → Y p l e rm_St_narrowByFaults s m args below meth c D kCl (hTys κ) A 5 0 0 (MQ below (va_Qv post (hB D kCl (hTys κ) A) A) args s 0 0 A) M 2 [(0, .ref x0), (1, .ref x1), (2, .ref x2), (3, .int x3)] [] := by
  obtain ⟨hx, hb, hml, hr, hown, hts, hlocks, hE, hA⟩ := id C
  have hK := hE.1
  intro n
  induction n with
  | zero => intro x0 x1 x2 x3 M hwp; exact hwp.elim
  | succ n ih =>
    intro x0 x1 x2 x3 M hwp H locs ls hM hS hl
    unfold wSt_narrowByFaults_2 at hwp
    refine lv_iload_n hx hb d_St_narrowByFaults_2 rfl (lv_at hl 3 rfl) ?_
    refine lv_aload_n hx hb d_St_narrowByFaults_3 rfl (lv_at hl 0 rfl) ?_
    obtain ⟨v46, ⟨fs47, he48, hv49⟩, hwp⟩ := hwp
    refine h_get (C := "BuckTables$Stem") (T := Tc1) (N := 12) hx hb hts inc1 hown hK hM he48 rfl 10 (by decide) (hts _ kw_123) (fun _ h9 => h9) hv49 d_St_narrowByFaults_4 ?_
    refine lv_icmp_ge (tgt := 86) hx hb d_St_narrowByFaults_7 (by decide) (fun c50 => ?_) (fun c50 => ?_)
    · replace hwp := hwp.1 c50
      exact W.vret hx hb hr (fun t ht hW => ⟨⟨M, rfl, hwp, by show hw D kCl (hTys κ) A M t.heap; rw [ht]; exact hM⟩, hS.F ht⟩) hS.2.2 d_St_narrowByFaults_86
    · replace hwp := hwp.2 c50
      refine lv_aload_n hx hb d_St_narrowByFaults_10 rfl (lv_at hl 2 rfl) ?_
      obtain ⟨a51, ⟨fs52, he53, hv54⟩, hwp⟩ := hwp
      refine h_get (C := "BuckTables$Product") (T := Tc2) (N := 10) hx hb hts inc2 hown hK hM he53 rfl 1 (by decide) (hts _ kw_162) (fun _ h9 => h9) hv54 d_St_narrowByFaults_11 ?_
      refine lv_aload_n hx hb d_St_narrowByFaults_14 rfl (lv_at hl 0 rfl) ?_
      obtain ⟨a55, ⟨fs56, he57, hv58⟩, hwp⟩ := hwp
      refine h_get (C := "BuckTables$Stem") (T := Tc1) (N := 12) hx hb hts inc1 hown hK hM he57 rfl 6 (by decide) (hts _ kw_116) (fun _ h9 => h9) hv58 d_St_narrowByFaults_15 ?_
      refine lv_iload_n hx hb d_St_narrowByFaults_18 rfl (lv_at hl 3 rfl) ?_
      obtain ⟨v59, ⟨n60, f61, ha62, hi63, ev59⟩, hwp⟩ := hwp
      refine h_iald hx hb hK hM ha62 rfl hi63 d_St_narrowByFaults_19 ?_
      rw [← ev59]
      obtain ⟨v64, ⟨n65, f66, ha67, hi68, ev64⟩, hwp⟩ := hwp
      refine h_zald hx hb hK hM ha67 rfl hi68 d_St_narrowByFaults_20 ?_
      rw [← ev64]
      refine lv_if_eq (tgt := 80) hx hb d_St_narrowByFaults_21 (by decide) (fun c69 => ?_) (fun c69 => ?_)
      · replace hwp := hwp.1 c69
        exact tSt_narrowByFaults_80 C post (wSt_narrowByFaults_2 post n) ih x0 x1 x2 x3 M hwp H locs ls hM hS (lv_sub hl [0, 1, 2, 3] rfl)
      · replace hwp := hwp.2 c69
        refine lv_iconst (v := 0) hx hb d_St_narrowByFaults_24 (by decide) ?_
        refine lv_istore (lv' := [(4, .int (0 : Int32)), (0, .ref x0), (1, .ref x1), (2, .ref x2), (3, .int x3)]) hx hb d_St_narrowByFaults_25 hl (by decide) rfl (fun ls hl => ?_)
        obtain ⟨n70, hwp⟩ := hwp
        exact tSt_narrowByFaults_27 C post (wSt_narrowByFaults_2 post n) ih n70 x0 x1 x2 x3 (0 : Int32) M hwp H locs ls hM hS (lv_sub hl [1, 2, 3, 4, 0] rfl)
def wpSt_narrowByFaults (self : Nat) (p0 : Nat) (p1 : Nat) (M : Hp) (post : Hp → Prop) : Prop := (∃ n71 : Nat, wSt_narrowByFaults_2 post n71 self p0 p1 (0 : Int32) M)
set_option maxRecDepth 100000 in
set_option maxHeartbeats 4000000 in
theorem eSt_narrowByFaults {p : Program} {l : Launch} {e : Env} {s : State} {m : MethodId} {args : Array Value} {below : List Frame} {meth : Method} {c : Code} {D : va_G} {κ : Nat → ClassId} {A : Nat → Prop} (C : Cx_St_narrowByFaults p s m args meth c D κ A) (post : Hp → Prop) (self : Nat) (p0 : Nat) (p1 : Nat) (M : Hp) (hwp : wpSt_narrowByFaults self p0 p1 M post) : Y p l e rm_St_narrowByFaults s m args below meth c D kCl (hTys κ) A 5 0 0 (MQ below (va_Qv post (hB D kCl (hTys κ) A) A) args s 0 0 A) M 0 [(0, .ref self), (1, .ref p0), (2, .ref p1)] [] := by
  obtain ⟨hx, hb, hml, hr, hown, hts, hlocks, hE, hA⟩ := id C
  have hK := hE.1
  intro H locs ls hM hS hl
  unfold wpSt_narrowByFaults at hwp
  refine lv_iconst (v := 0) hx hb d_St_narrowByFaults_0 (by decide) ?_
  refine lv_istore_n (lv' := [(3, .int (0 : Int32)), (0, .ref self), (1, .ref p0), (2, .ref p1)]) hx hb d_St_narrowByFaults_1 rfl hl (by decide) rfl (fun ls hl => ?_)
  obtain ⟨n71, hwp⟩ := hwp
  exact tSt_narrowByFaults_2 C post n71 self p0 p1 (0 : Int32) M hwp H locs ls hM hS (lv_sub hl [1, 2, 3, 0] rfl)
set_option maxRecDepth 100000 in
set_option maxHeartbeats 4000000 in
theorem metSt_narrowByFaults (l : Launch) (D : va_G) (κ : Nat → ClassId) (sz : Nat) (self : Nat) (p0 : Nat) (p1 : Nat) (M : Hp) (post : Hp → Prop) (hwp : wpSt_narrowByFaults self p0 p1 M post) : Met l y_St_narrowByFaults ws_St_narrowByFaults rm_St_narrowByFaults (hPc D kCl (hTys κ) M sz [.ref self, .ref p0, .ref p1]) (va_Qv post (hB D kCl (hTys κ) (hAx M sz)) (hAx M sz)) 0 0 (hAx M sz) := by
  refine Met.ofW (cc := prog_5_method_10_code) (maxL := 5) (ret := none) (by decide +kernel) rfl ?_
  intro p e s m args below meth c s₁ B hml hv
  obtain ⟨rfl, hsz, hE, hM0⟩ := hv
  have hts : ∀ w ∈ WG, w.before _ s = true := fun w h => atoms_spec (ws := ws_St_narrowByFaults) B.pre w (List.mem_cons_of_mem _ h)
  subst hsz
  have C : Cx_St_narrowByFaults p s m _ meth c D κ (hAx M s.heap.size) := ⟨B.exec, B.bytes, hml, B.returns, findClass_of_methodNamed B.named, hts, B.notSynchronized, hE, fun q h => Or.inr h⟩
  have hl := lv_entry ([.ref self, .ref p0, .ref p1]) (n := 5) (Nat.le_of_ble_eq_true rfl)
  rw [lg_entry_eq]
  generalize (lg_sl ([.ref self, .ref p0, .ref p1]) ++ List.replicate (5 - (lg_sl ([.ref self, .ref p0, .ref p1])).length) Slot.unset).toArray = ls at hl ⊢
  exact eSt_narrowByFaults C post self p0 p1 M hwp s.heap [] ls (hM0.self (sz := s.heap.size)) va_S.rf hl
abbrev rm_St_findReach : Room := { frames := 2, cells := 0, slots := 0, locals := 49 }
def Cx_St_findReach (p : Program) (s : State) (m : MethodId) (args : Array Value) (meth : Method) (c : Code) (D : va_G) (κ : Nat → ClassId) (A : Nat → Prop) : Prop := p.tables.exec = Jvm.exec ∧ c.code = prog_5_method_6_code ∧ c.maxLocals = 5 ∧ meth.sig.returnType = none ∧ s.vm.findClass "BuckTables$Stem" = some m.cls ∧ (∀ w ∈ WG, w.before args s = true) ∧ meth.locks = false ∧ hEnv D kCl (hTys κ) A s ∧ (∀ q, s.heap.size ≤ q → A q)
def wpSt_findReach (self : Nat) (p0 : Int32) (p1 : Nat) (p2 : Int32) (M : Hp) (post : Hp → Prop) : Prop := (∃ a1 : Nat, fA M self 1 8 a1 ∧ (∃ a5 : Nat, aA 6 M a1 p0 a5 ∧ (hob M self 1 ∧ (wpSt_reachByLengthAndCuts self a5 p1 M (fun (M11 : Hp) => (hob M11 self 1 ∧ (wpSt_narrowByPoints self a5 p1 p2 M11 (fun (M13 : Hp) => (hob M13 self 1 ∧ (wpSt_narrowByFaults self a5 p1 M13 (fun (M15 : Hp) => (post M15))))))))))))
set_option maxRecDepth 100000 in
set_option maxHeartbeats 4000000 in
theorem eSt_findReach {p : Program} {l : Launch} {e : Env} {s : State} {m : MethodId} {args : Array Value} {below : List Frame} {meth : Method} {c : Code} {D : va_G} {κ : Nat → ClassId} {A : Nat → Prop} (C : Cx_St_findReach p s m args meth c D κ A) (post : Hp → Prop) (self : Nat) (p0 : Int32) (p1 : Nat) (p2 : Int32) (M : Hp) (hwp : wpSt_findReach self p0 p1 p2 M post) : Y p l e rm_St_findReach s m args below meth c D kCl (hTys κ) A 5 0 0 (MQ below (va_Qv post (hB D kCl (hTys κ) A) A) args s 0 0 A) M 0 [(0, .ref self), (1, .int p0), (2, .ref p1), (3, .int p2)] [] := by
  obtain ⟨hx, hb, hml, hr, hown, hts, hlocks, hE, hA⟩ := id C
  have hK := hE.1
  intro H locs ls hM hS hl
  unfold wpSt_findReach at hwp
  refine lv_aload_n hx hb d_St_findReach_0 rfl (lv_at hl 0 rfl) ?_
  obtain ⟨a1, ⟨fs2, he3, hv4⟩, hwp⟩ := hwp
  refine h_get (C := "BuckTables$Stem") (T := Tc1) (N := 12) hx hb hts inc1 hown hK hM he3 rfl 8 (by decide) (hts _ kw_119) (fun _ h9 => h9) hv4 d_St_findReach_1 ?_
  refine lv_iload_n hx hb d_St_findReach_4 rfl (lv_at hl 1 rfl) ?_
  obtain ⟨a5, ⟨n6, f7, ha8, hi9, hy10⟩, hwp⟩ := hwp
  refine h_aalA hx hb hK hM ha8 rfl hi9 hy10 d_St_findReach_5 ?_
  refine lv_astore (lv' := [(4, .ref a5), (0, .ref self), (1, .int p0), (2, .ref p1), (3, .int p2)]) hx hb d_St_findReach_6 hl (by decide) rfl (fun ls hl => ?_)
  refine lv_aload_n hx hb d_St_findReach_8 rfl (lv_at hl 1 rfl) ?_
  refine lv_aload hx hb d_St_findReach_9 (lv_at hl 0 rfl) ?_
  refine lv_aload_n hx hb d_St_findReach_11 rfl (lv_at hl 3 rfl) ?_
  obtain ⟨ho12, hwp⟩ := hwp
  refine h_callv hM hS hA (va_runV (As := [.ref a5, .ref p1]) (rest := []) ⟨hx, hb, hml, hown, hts⟩ (metSt_reachByLengthAndCuts l D κ H.size self a5 p1 M _ hwp) (cwV 2 hts (gV kw_255 kw_257 kp_2 kw_6 kw_258) rfl rfl rfl (by decide +kernel) ⟨(Nat.le_of_ble_eq_true rfl), (Nat.le_of_ble_eq_true rfl)⟩) (h_preV hE hM hS ho12 (r := ("BuckTables$Stem", Tc1, 12)) rfl) rfl rfl hl.1 rfl (lv_room (Nat.le_of_ble_eq_true rfl)) d_St_findReach_12 ⟨(Nat.le_of_ble_eq_true rfl), (Nat.le_of_ble_eq_true rfl)⟩) (fun M11 H locs hwp hM hS => ?_)
  refine lv_aload_n hx hb d_St_findReach_15 rfl (lv_at hl 1 rfl) ?_
  refine lv_aload hx hb d_St_findReach_16 (lv_at hl 0 rfl) ?_
  refine lv_aload_n hx hb d_St_findReach_18 rfl (lv_at hl 3 rfl) ?_
  refine lv_iload_n hx hb d_St_findReach_19 rfl (lv_at hl 4 rfl) ?_
  obtain ⟨ho14, hwp⟩ := hwp
  refine h_callv hM hS hA (va_runV (As := [.ref a5, .ref p1, .int p2]) (rest := []) ⟨hx, hb, hml, hown, hts⟩ (metSt_narrowByPoints l D κ H.size self a5 p1 p2 M11 _ hwp) (cwV 3 hts (gV kw_260 kw_262 kp_3 kw_6 kw_263) rfl rfl rfl (by decide +kernel) ⟨(Nat.le_of_ble_eq_true rfl), (Nat.le_of_ble_eq_true rfl)⟩) (h_preV hE hM hS ho14 (r := ("BuckTables$Stem", Tc1, 12)) rfl) rfl rfl hl.1 rfl (lv_room (Nat.le_of_ble_eq_true rfl)) d_St_findReach_20 ⟨(Nat.le_of_ble_eq_true rfl), (Nat.le_of_ble_eq_true rfl)⟩) (fun M13 H locs hwp hM hS => ?_)
  refine lv_aload_n hx hb d_St_findReach_23 rfl (lv_at hl 1 rfl) ?_
  refine lv_aload hx hb d_St_findReach_24 (lv_at hl 0 rfl) ?_
  refine lv_aload_n hx hb d_St_findReach_26 rfl (lv_at hl 3 rfl) ?_
  obtain ⟨ho16, hwp⟩ := hwp
  refine h_callv hM hS hA (va_runV (As := [.ref a5, .ref p1]) (rest := []) ⟨hx, hb, hml, hown, hts⟩ (metSt_narrowByFaults l D κ H.size self a5 p1 M13 _ hwp) (cwV 2 hts (gV kw_268 kw_270 kp_5 kw_6 kw_271) rfl rfl rfl (by decide +kernel) ⟨(Nat.le_of_ble_eq_true rfl), (Nat.le_of_ble_eq_true rfl)⟩) (h_preV hE hM hS ho16 (r := ("BuckTables$Stem", Tc1, 12)) rfl) rfl rfl hl.1 rfl (lv_room (Nat.le_of_ble_eq_true rfl)) d_St_findReach_27 ⟨(Nat.le_of_ble_eq_true rfl), (Nat.le_of_ble_eq_true rfl)⟩) (fun M15 H locs hwp hM hS => ?_)
  exact W.vret hx hb hr (fun t ht hW => ⟨⟨M15, rfl, hwp, by show hw D kCl (hTys κ) A M15 t.heap; rw [ht]; exact hM⟩, hS.F ht⟩) hS.2.2 d_St_findReach_30
set_option maxRecDepth 100000 in
set_option maxHeartbeats 4000000 in
theorem metSt_findReach (l : Launch) (D : va_G) (κ : Nat → ClassId) (sz : Nat) (self : Nat) (p0 : Int32) (p1 : Nat) (p2 : Int32) (M : Hp) (post : Hp → Prop) (hwp : wpSt_findReach self p0 p1 p2 M post) : Met l y_St_findReach ws_St_findReach rm_St_findReach (hPc D kCl (hTys κ) M sz [.ref self, .int p0, .ref p1, .int p2]) (va_Qv post (hB D kCl (hTys κ) (hAx M sz)) (hAx M sz)) 0 0 (hAx M sz) := by
  refine Met.ofW (cc := prog_5_method_6_code) (maxL := 5) (ret := none) (by decide +kernel) rfl ?_
  intro p e s m args below meth c s₁ B hml hv
  obtain ⟨rfl, hsz, hE, hM0⟩ := hv
  have hts : ∀ w ∈ WG, w.before _ s = true := fun w h => atoms_spec (ws := ws_St_findReach) B.pre w (List.mem_cons_of_mem _ h)
  subst hsz
  have C : Cx_St_findReach p s m _ meth c D κ (hAx M s.heap.size) := ⟨B.exec, B.bytes, hml, B.returns, findClass_of_methodNamed B.named, hts, B.notSynchronized, hE, fun q h => Or.inr h⟩
  have hl := lv_entry ([.ref self, .int p0, .ref p1, .int p2]) (n := 5) (Nat.le_of_ble_eq_true rfl)
  rw [lg_entry_eq]
  generalize (lg_sl ([.ref self, .int p0, .ref p1, .int p2]) ++ List.replicate (5 - (lg_sl ([.ref self, .int p0, .ref p1, .int p2])).length) Slot.unset).toArray = ls at hl ⊢
  exact eSt_findReach C post self p0 p1 p2 M hwp s.heap [] ls (hM0.self (sz := s.heap.size)) va_S.rf hl
abbrev rm_BT_startPlans : Room := { frames := 3, cells := 0, slots := 0, locals := 73 }
def Cx_BT_startPlans (p : Program) (s : State) (m : MethodId) (args : Array Value) (meth : Method) (c : Code) (D : va_G) (κ : Nat → ClassId) (A : Nat → Prop) : Prop := p.tables.exec = Jvm.exec ∧ c.code = prog_1_method_31_code ∧ c.maxLocals = 3 ∧ meth.sig.returnType = none ∧ s.vm.findClass "BuckTables" = some m.cls ∧ (∀ w ∈ WG, w.before args s = true) ∧ meth.locks = false ∧ hEnv D kCl (hTys κ) A s ∧ (∀ q, s.heap.size ≤ q → A q)
def wBT_startPlans_38 (post : Hp → Prop) (k28 : Nat → Int32 → Hp → Prop) : Nat → Nat → Int32 → Int32 → Hp → Prop
  | 0 => fun _ _ _ _ => False
  | n + 1 => fun x0 x1 x2 M => (∃ v1 : Int32, fI M x0 0 4 v1 ∧ ((v1 ≤ x2 → (∀ z6 : Int32, z6 = x1 + 1 → (k28 x0 z6 M))) ∧ (¬ v1 ≤ x2 → (∃ a7 : Nat, fA M x0 0 0 a7 ∧ (∃ a11 : Nat, aA 3 M a7 x1 a11 ∧ (∃ a17 : Nat, fA M x0 0 1 a17 ∧ (∃ a21 : Nat, aA 4 M a17 x2 a21 ∧ (∃ v27 : Int32, fI M x0 0 5 v27 ∧ (hob M a11 1 ∧ (wpSt_findReach a11 x2 a21 v27 M (fun (M31 : Hp) => (∀ z33 : Int32, z33 = x2 + 1 → ((wBT_startPlans_38 post k28 n) x0 x1 z33 M31)))))))))))))
set_option maxRecDepth 100000 in
set_option maxHeartbeats 4000000 in
theorem tBT_startPlans_38 {p : Program} {l : Launch} {e : Env} {s : State} {m : MethodId} {args : Array Value} {below : List Frame} {meth : Method} {c : Code} {D : va_G} {κ : Nat → ClassId} {A : Nat → Prop} (C : Cx_BT_startPlans p s m args meth c D κ A) (post : Hp → Prop) (k28 : Nat → Int32 → Hp → Prop) (hk28 : ∀ (x0 : Nat) (x1 : Int32) (M : Hp), k28 x0 x1 M → Y p l e rm_BT_startPlans s m args below meth c D kCl (hTys κ) A 3 0 0 (MQ below (va_Qv post (hB D kCl (hTys κ) A) A) args s 0 0 A) M 28 [(0, .ref x0), (1, .int x1)] []) : ∀ (n : Nat) (x0 : Nat) (x1 : Int32) (x2 : Int32) (M : Hp), wBT_startPlans_38 post k28 n x0 x1 x2 M → Y p l e rm_BT_startPlans s m args below meth c D kCl (hTys κ) A 3 0 0 (MQ below (va_Qv post (hB D kCl (hTys κ) A) A) args s 0 0 A) M 38 [(0, .ref x0), (1, .int x1), (2, .int x2)] [] := by
  obtain ⟨hx, hb, hml, hr, hown, hts, hlocks, hE, hA⟩ := id C
  have hK := hE.1
  intro n
  induction n with
  | zero => intro x0 x1 x2 M hwp; exact hwp.elim
  | succ n ih =>
    intro x0 x1 x2 M hwp H locs ls hM hS hl
    unfold wBT_startPlans_38 at hwp
    refine lv_iload_n hx hb d_BT_startPlans_38 rfl (lv_at hl 2 rfl) ?_
    refine lv_aload_n hx hb d_BT_startPlans_39 rfl (lv_at hl 0 rfl) ?_
    obtain ⟨v1, ⟨fs2, he3, hv4⟩, hwp⟩ := hwp
    refine h_get (C := "BuckTables") (T := Tc0) (N := 12) hx hb hts inc0 hown hK hM he3 rfl 4 (by decide) (hts _ kw_206) (fun _ h9 => h9) hv4 d_BT_startPlans_40 ?_
    refine lv_icmp_ge (tgt := 72) hx hb d_BT_startPlans_43 (by decide) (fun c5 => ?_) (fun c5 => ?_)
    · replace hwp := hwp.1 c5
      obtain ⟨z6, ez6⟩ : ∃ y : Int32, y = x1 + 1 := ⟨_, rfl⟩
      replace hwp := hwp z6 ez6
      refine lv_iinc (v := z6) (lv' := [(1, .int z6), (0, .ref x0), (2, .int x2)]) hx hb d_BT_startPlans_72 hl (k := 1) rfl (by rw [ez6]; rfl) (by decide) rfl (fun ls hl => ?_)
      refine lv_goto (tgt := 28) hx hb d_BT_startPlans_75 (by decide) ?_
      exact hk28 x0 z6 M hwp H locs ls hM hS (lv_sub hl [1, 0] rfl)
    · replace hwp := hwp.2 c5
      refine lv_aload_n hx hb d_BT_startPlans_46 rfl (lv_at hl 0 rfl) ?_
      obtain ⟨a7, ⟨fs8, he9, hv10⟩, hwp⟩ := hwp
      refine h_get (C := "BuckTables") (T := Tc0) (N := 12) hx hb hts inc0 hown hK hM he9 rfl 0 (by decide) (hts _ kw_202) (fun _ h9 => h9) hv10 d_BT_startPlans_47 ?_
      refine lv_iload_n hx hb d_BT_startPlans_50 rfl (lv_at hl 1 rfl) ?_
      obtain ⟨a11, ⟨n12, f13, ha14, hi15, hy16⟩, hwp⟩ := hwp
      refine h_aald hx hb hK hM ha14 rfl hi15 hy16 d_BT_startPlans_51 ?_
      refine lv_iload_n hx hb d_BT_startPlans_52 rfl (lv_at hl 2 rfl) ?_
      refine lv_aload_n hx hb d_BT_startPlans_53 rfl (lv_at hl 0 rfl) ?_
      obtain ⟨a17, ⟨fs18, he19, hv20⟩, hwp⟩ := hwp
      refine h_get (C := "BuckTables") (T := Tc0) (N := 12) hx hb hts inc0 hown hK hM he19 rfl 1 (by decide) (hts _ kw_203) (fun _ h9 => h9) hv20 d_BT_startPlans_54 ?_
      refine lv_iload_n hx hb d_BT_startPlans_57 rfl (lv_at hl 2 rfl) ?_
      obtain ⟨a21, ⟨n22, f23, ha24, hi25, hy26⟩, hwp⟩ := hwp
      refine h_aald hx hb hK hM ha24 rfl hi25 hy26 d_BT_startPlans_58 ?_
      refine lv_aload_n hx hb d_BT_startPlans_59 rfl (lv_at hl 0 rfl) ?_
      obtain ⟨v27, ⟨fs28, he29, hv30⟩, hwp⟩ := hwp
      refine h_get (C := "BuckTables") (T := Tc0) (N := 12) hx hb hts inc0 hown hK hM he29 rfl 5 (by decide) (hts _ kw_207) (fun _ h9 => h9) hv30 d_BT_startPlans_60 ?_
      obtain ⟨ho32, hwp⟩ := hwp
      refine h_callv hM hS hA (va_runV (As := [.int x2, .ref a21, .int v27]) (rest := []) ⟨hx, hb, hml, hown, hts⟩ (metSt_findReach l D κ H.size a11 x2 a21 v27 M _ hwp) (cwV 3 hts (gV kw_251 kw_252 kw_253 kw_6 kw_254) rfl rfl rfl (by decide +kernel) ⟨(Nat.le_of_ble_eq_true rfl), (Nat.le_of_ble_eq_true rfl)⟩) (h_preV hE hM hS ho32 (r := ("BuckTables$Stem", Tc1, 12)) rfl) rfl rfl hl.1 rfl (lv_room (Nat.le_of_ble_eq_true rfl)) d_BT_startPlans_63 ⟨(Nat.le_of_ble_eq_true rfl), (Nat.le_of_ble_eq_true rfl)⟩) (fun M31 H locs hwp hM hS => ?_)
      obtain ⟨z33, ez33⟩ : ∃ y : Int32, y = x2 + 1 := ⟨_, rfl⟩
      replace hwp := hwp z33 ez33
      refine lv_iinc (v := z33) (lv' := [(2, .int z33), (0, .ref x0), (1, .int x1)]) hx hb d_BT_startPlans_66 hl (k := 2) rfl (by rw [ez33]; rfl) (by decide) rfl (fun ls hl => ?_)
      refine lv_goto (tgt := 38) hx hb d_BT_startPlans_69 (by decide) ?_
      exact ih x0 x1 z33 M31 hwp H locs ls hM hS (lv_sub hl [1, 2, 0] rfl)
def wBT_startPlans_28 (post : Hp → Prop)  : Nat → Nat → Int32 → Hp → Prop
  | 0 => fun _ _ _ => False
  | n + 1 => fun x0 x1 M => (∃ v34 : Int32, fI M x0 0 3 v34 ∧ ((v34 ≤ x1 → (post M)) ∧ (¬ v34 ≤ x1 → (∃ n39 : Nat, wBT_startPlans_38 post (wBT_startPlans_28 post n) n39 x0 x1 (0 : Int32) M))))
set_option maxRecDepth 100000 in
set_option maxHeartbeats 4000000 in
theorem tBT_startPlans_28 {p : Program} {l : Launch} {e : Env} {s : State} {m : MethodId} {args : Array Value} {below : List Frame} {meth : Method} {c : Code} {D : va_G} {κ : Nat → ClassId} {A : Nat → Prop} (C : Cx_BT_startPlans p s m args meth c D κ A) (post : Hp → Prop)  : ∀ (n : Nat) (x0 : Nat) (x1 : Int32) (M : Hp), wBT_startPlans_28 post n x0 x1 M → Y p l e rm_BT_startPlans s m args below meth c D kCl (hTys κ) A 3 0 0 (MQ below (va_Qv post (hB D kCl (hTys κ) A) A) args s 0 0 A) M 28 [(0, .ref x0), (1, .int x1)] [] := by
  obtain ⟨hx, hb, hml, hr, hown, hts, hlocks, hE, hA⟩ := id C
  have hK := hE.1
  intro n
  induction n with
  | zero => intro x0 x1 M hwp; exact hwp.elim
  | succ n ih =>
    intro x0 x1 M hwp H locs ls hM hS hl
    unfold wBT_startPlans_28 at hwp
    refine lv_iload_n hx hb d_BT_startPlans_28 rfl (lv_at hl 1 rfl) ?_
    refine lv_aload_n hx hb d_BT_startPlans_29 rfl (lv_at hl 0 rfl) ?_
    obtain ⟨v34, ⟨fs35, he36, hv37⟩, hwp⟩ := hwp
    refine h_get (C := "BuckTables") (T := Tc0) (N := 12) hx hb hts inc0 hown hK hM he36 rfl 3 (by decide) (hts _ kw_205) (fun _ h9 => h9) hv37 d_BT_startPlans_30 ?_
    refine lv_icmp_ge (tgt := 78) hx hb d_BT_startPlans_33 (by decide) (fun c38 => ?_) (fun c38 => ?_)
    · replace hwp := hwp.1 c38
      exact W.vret hx hb hr (fun t ht hW => ⟨⟨M, rfl, hwp, by show hw D kCl (hTys κ) A M t.heap; rw [ht]; exact hM⟩, hS.F ht⟩) hS.2.2 d_BT_startPlans_78
    · replace hwp := hwp.2 c38
      refine lv_iconst (v := 0) hx hb d_BT_startPlans_36 (by decide) ?_
      refine lv_istore_n (lv' := [(2, .int (0 : Int32)), (0, .ref x0), (1, .int x1)]) hx hb d_BT_startPlans_37 rfl hl (by decide) rfl (fun ls hl => ?_)
      obtain ⟨n39, hwp⟩ := hwp
      exact tBT_startPlans_38 C post (wBT_startPlans_28 post n) ih n39 x0 x1 (0 : Int32) M hwp H locs ls hM hS (lv_sub hl [1, 2, 0] rfl)
def wBT_startPlans_2 (post : Hp → Prop)  : Nat → Nat → Int32 → Hp → Prop
  | 0 => fun _ _ _ => False
  | n + 1 => fun x0 x1 M => (∃ v40 : Int32, fI M x0 0 4 v40 ∧ ((v40 ≤ x1 → (∃ n45 : Nat, wBT_startPlans_28 post n45 x0 (0 : Int32) M)) ∧ (¬ v40 ≤ x1 → (∃ a46 : Nat, fA M x0 0 1 a46 ∧ (∃ a50 : Nat, aA 4 M a46 x1 a50 ∧ (∃ M56 : Hp, pF M a50 2 9 (.long (0 : Int64)) M56 ∧ (∀ z60 : Int32, z60 = x1 + 1 → ((wBT_startPlans_2 post n) x0 z60 M56))))))))
set_option maxRecDepth 100000 in
set_option maxHeartbeats 4000000 in
theorem tBT_startPlans_2 {p : Program} {l : Launch} {e : Env} {s : State} {m : MethodId} {args : Array Value} {below : List Frame} {meth : Method} {c : Code} {D : va_G} {κ : Nat → ClassId} {A : Nat → Prop} (C : Cx_BT_startPlans p s m args meth c D κ A) (post : Hp → Prop)  : ∀ (n : Nat) (x0 : Nat) (x1 : Int32) (M : Hp), wBT_startPlans_2 post n x0 x1 M → Y p l e rm_BT_startPlans s m args below meth c D kCl (hTys κ) A 3 0 0 (MQ below (va_Qv post (hB D kCl (hTys κ) A) A) args s 0 0 A) M 2 [(0, .ref x0), (1, .int x1)] [] := by
  obtain ⟨hx, hb, hml, hr, hown, hts, hlocks, hE, hA⟩ := id C
  have hK := hE.1
  intro n
  induction n with
  | zero => intro x0 x1 M hwp; exact hwp.elim
  | succ n ih =>
    intro x0 x1 M hwp H locs ls hM hS hl
    unfold wBT_startPlans_2 at hwp
    refine lv_iload_n hx hb d_BT_startPlans_2 rfl (lv_at hl 1 rfl) ?_
    refine lv_aload_n hx hb d_BT_startPlans_3 rfl (lv_at hl 0 rfl) ?_
    obtain ⟨v40, ⟨fs41, he42, hv43⟩, hwp⟩ := hwp
    refine h_get (C := "BuckTables") (T := Tc0) (N := 12) hx hb hts inc0 hown hK hM he42 rfl 4 (by decide) (hts _ kw_206) (fun _ h9 => h9) hv43 d_BT_startPlans_4 ?_
    refine lv_icmp_ge (tgt := 26) hx hb d_BT_startPlans_7 (by decide) (fun c44 => ?_) (fun c44 => ?_)
    · replace hwp := hwp.1 c44
      refine lv_iconst (v := 0) hx hb d_BT_startPlans_26 (by decide) ?_
      refine lv_istore_n (lv' := [(1, .int (0 : Int32)), (0, .ref x0)]) hx hb d_BT_startPlans_27 rfl hl (by decide) rfl (fun ls hl => ?_)
      obtain ⟨n45, hwp⟩ := hwp
      exact tBT_startPlans_28 C post n45 x0 (0 : Int32) M hwp H locs ls hM hS (lv_sub hl [1, 0] rfl)
    · replace hwp := hwp.2 c44
      refine lv_aload_n hx hb d_BT_startPlans_10 rfl (lv_at hl 0 rfl) ?_
      obtain ⟨a46, ⟨fs47, he48, hv49⟩, hwp⟩ := hwp
      refine h_get (C := "BuckTables") (T := Tc0) (N := 12) hx hb hts inc0 hown hK hM he48 rfl 1 (by decide) (hts _ kw_203) (fun _ h9 => h9) hv49 d_BT_startPlans_11 ?_
      refine lv_iload_n hx hb d_BT_startPlans_14 rfl (lv_at hl 1 rfl) ?_
      obtain ⟨a50, ⟨n51, f52, ha53, hi54, hy55⟩, hwp⟩ := hwp
      refine h_aald hx hb hK hM ha53 rfl hi54 hy55 d_BT_startPlans_15 ?_
      refine lv_lconst (v := 0) hx hb d_BT_startPlans_16 (by decide) ?_
      obtain ⟨M56, ⟨fs57, he58, hl59, eM56⟩, hwp⟩ := hwp
      refine h_put (C := "BuckTables$Product") (T := Tc2) (N := 10) (v := .long (0 : Int64)) (ty := .long) hx hb hts inc2 tyc2 tyc2_ok nmc2 hown hK hM hS he58 rfl 9 (by decide) (hts _ kw_180) (fun _ h9 => h9) rfl (by decide +kernel) rfl rfl hl59 d_BT_startPlans_17 (fun H locs hM hS => ?_)
      rw [← eM56] at hM
      obtain ⟨z60, ez60⟩ : ∃ y : Int32, y = x1 + 1 := ⟨_, rfl⟩
      replace hwp := hwp z60 ez60
      refine lv_iinc (v := z60) (lv' := [(1, .int z60), (0, .ref x0)]) hx hb d_BT_startPlans_20 hl (k := 1) rfl (by rw [ez60]; rfl) (by decide) rfl (fun ls hl => ?_)
      refine lv_goto (tgt := 2) hx hb d_BT_startPlans_23 (by decide) ?_
      exact ih x0 z60 M56 hwp H locs ls hM hS (lv_sub hl [1, 0] rfl)
def wpBT_startPlans (self : Nat) (M : Hp) (post : Hp → Prop) : Prop := (∃ n61 : Nat, wBT_startPlans_2 post n61 self (0 : Int32) M)
set_option maxRecDepth 100000 in
set_option maxHeartbeats 4000000 in
theorem eBT_startPlans {p : Program} {l : Launch} {e : Env} {s : State} {m : MethodId} {args : Array Value} {below : List Frame} {meth : Method} {c : Code} {D : va_G} {κ : Nat → ClassId} {A : Nat → Prop} (C : Cx_BT_startPlans p s m args meth c D κ A) (post : Hp → Prop) (self : Nat) (M : Hp) (hwp : wpBT_startPlans self M post) : Y p l e rm_BT_startPlans s m args below meth c D kCl (hTys κ) A 3 0 0 (MQ below (va_Qv post (hB D kCl (hTys κ) A) A) args s 0 0 A) M 0 [(0, .ref self)] [] := by
  obtain ⟨hx, hb, hml, hr, hown, hts, hlocks, hE, hA⟩ := id C
  have hK := hE.1
  intro H locs ls hM hS hl
  unfold wpBT_startPlans at hwp
  refine lv_iconst (v := 0) hx hb d_BT_startPlans_0 (by decide) ?_
  refine lv_istore_n (lv' := [(1, .int (0 : Int32)), (0, .ref self)]) hx hb d_BT_startPlans_1 rfl hl (by decide) rfl (fun ls hl => ?_)
  obtain ⟨n61, hwp⟩ := hwp
  exact tBT_startPlans_2 C post n61 self (0 : Int32) M hwp H locs ls hM hS (lv_sub hl [1, 0] rfl)
set_option maxRecDepth 100000 in
set_option maxHeartbeats 4000000 in
theorem metBT_startPlans (l : Launch) (D : va_G) (κ : Nat → ClassId) (sz : Nat) (self : Nat) (M : Hp) (post : Hp → Prop) (hwp : wpBT_startPlans self M post) : Met l y_BT_startPlans ws_BT_startPlans rm_BT_startPlans (hPc D kCl (hTys κ) M sz [.ref self]) (va_Qv post (hB D kCl (hTys κ) (hAx M sz)) (hAx M sz)) 0 0 (hAx M sz) := by
  refine Met.ofW (cc := prog_1_method_31_code) (maxL := 3) (ret := none) (by decide +kernel) rfl ?_
  intro p e s m args below meth c s₁ B hml hv
  obtain ⟨rfl, hsz, hE, hM0⟩ := hv
  have hts : ∀ w ∈ WG, w.before _ s = true := fun w h => atoms_spec (ws := ws_BT_startPlans) B.pre w (List.mem_cons_of_mem _ h)
  subst hsz
  have C : Cx_BT_startPlans p s m _ meth c D κ (hAx M s.heap.size) := ⟨B.exec, B.bytes, hml, B.returns, findClass_of_methodNamed B.named, hts, B.notSynchronized, hE, fun q h => Or.inr h⟩
  have hl := lv_entry ([.ref self]) (n := 3) (Nat.le_of_ble_eq_true rfl)
  rw [lg_entry_eq]
  generalize (lg_sl ([.ref self]) ++ List.replicate (3 - (lg_sl ([.ref self])).length) Slot.unset).toArray = ls at hl ⊢
  exact eBT_startPlans C post self M hwp s.heap [] ls (hM0.self (sz := s.heap.size)) va_S.rf hl
