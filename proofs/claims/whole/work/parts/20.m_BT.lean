abbrev rm_BT_latestStem : Room := { frames := 0, cells := 0, slots := 0, locals := 0 }
def Cx_BT_latestStem (p : Program) (s : State) (m : MethodId) (args : Array Value) (meth : Method) (c : Code) (D : va_G) (κ : Nat → ClassId) (A : Nat → Prop) : Prop := p.tables.exec = Jvm.exec ∧ c.code = prog_1_method_22_code ∧ c.maxLocals = 1 ∧ meth.sig.returnType = (some (.object "BuckTables$Stem")) ∧ s.vm.findClass "BuckTables" = some m.cls ∧ (∀ w ∈ WG, w.before args s = true) ∧ meth.locks = false ∧ hEnv D kCl (hTys κ) A s ∧ (∀ q, s.heap.size ≤ q → A q)
def wpBT_latestStem (self : Nat) (M : Hp) (post : Nat → Hp → Prop) : Prop := (∃ a1 : Nat, fA M self 0 0 a1 ∧ (∃ v5 : Int32, fI M self 0 3 v5 ∧ (∃ a9 : Nat, aA 3 M a1 (v5 - (1 : Int32)) a9 ∧ (post a9 M))))
set_option maxRecDepth 100000 in
set_option maxHeartbeats 4000000 in
theorem eBT_latestStem {p : Program} {l : Launch} {e : Env} {s : State} {m : MethodId} {args : Array Value} {below : List Frame} {meth : Method} {c : Code} {D : va_G} {κ : Nat → ClassId} {A : Nat → Prop} (C : Cx_BT_latestStem p s m args meth c D κ A) (post : Nat → Hp → Prop) (self : Nat) (M : Hp) (hwp : wpBT_latestStem self M post) : Y p l e rm_BT_latestStem s m args below meth c D kCl (hTys κ) A 1 0 0 (MQ below (va_Qr (fun u : Nat × Hp => post u.1 u.2) (fun u a t => u.1 = a ∧ hB D kCl (hTys κ) A u.2 t) A) args s 0 0 A) M 0 [(0, .ref self)] [] := by
  obtain ⟨hx, hb, hml, hr, hown, hts, hlocks, hE, hA⟩ := id C
  have hK := hE.1
  intro H locs ls hM hS hl
  unfold wpBT_latestStem at hwp
  refine lv_aload_n hx hb d_BT_latestStem_0 rfl (lv_at hl 0 rfl) ?_
  obtain ⟨a1, ⟨fs2, he3, hv4⟩, hwp⟩ := hwp
  refine h_get (C := "BuckTables") (T := Tc0) (N := 12) hx hb hts inc0 hown hK hM he3 rfl 0 (by decide) (hts _ kw_202) (fun _ h9 => h9) hv4 d_BT_latestStem_1 ?_
  refine lv_aload_n hx hb d_BT_latestStem_4 rfl (lv_at hl 0 rfl) ?_
  obtain ⟨v5, ⟨fs6, he7, hv8⟩, hwp⟩ := hwp
  refine h_get (C := "BuckTables") (T := Tc0) (N := 12) hx hb hts inc0 hown hK hM he7 rfl 3 (by decide) (hts _ kw_205) (fun _ h9 => h9) hv8 d_BT_latestStem_5 ?_
  refine lv_iconst (v := 1) hx hb d_BT_latestStem_8 (by decide) ?_
  refine lv_isub hx hb d_BT_latestStem_9 ?_
  obtain ⟨a9, ⟨n10, f11, ha12, hi13, hy14⟩, hwp⟩ := hwp
  refine h_aald hx hb hK hM ha12 rfl hi13 hy14 d_BT_latestStem_10 ?_
  exact W.aret hx hb hr (Or.inl ⟨_, rfl⟩) (Or.inr ⟨_, rfl⟩) (fun t ht hW => ⟨⟨(a9, M), a9, rfl, hwp, rfl, by show hw D kCl (hTys κ) A M t.heap; rw [ht]; exact hM⟩, hS.F ht⟩) hS.2.2 d_BT_latestStem_11
set_option maxRecDepth 100000 in
set_option maxHeartbeats 4000000 in
theorem metBT_latestStem (l : Launch) (D : va_G) (κ : Nat → ClassId) (sz : Nat) (self : Nat) (M : Hp) (post : Nat → Hp → Prop) (hwp : wpBT_latestStem self M post) : Met l y_BT_latestStem ws_BT_latestStem rm_BT_latestStem (hPc D kCl (hTys κ) M sz [.ref self]) (va_Qr (fun u : Nat × Hp => post u.1 u.2) (fun u a t => u.1 = a ∧ hB D kCl (hTys κ) (hAx M sz) u.2 t) (hAx M sz)) 0 0 (hAx M sz) := by
  refine Met.ofW (cc := prog_1_method_22_code) (maxL := 1) (ret := (some (.object "BuckTables$Stem"))) (by decide +kernel) rfl ?_
  intro p e s m args below meth c s₁ B hml hv
  obtain ⟨rfl, hsz, hE, hM0⟩ := hv
  have hts : ∀ w ∈ WG, w.before _ s = true := fun w h => atoms_spec (ws := ws_BT_latestStem) B.pre w (List.mem_cons_of_mem _ h)
  subst hsz
  have C : Cx_BT_latestStem p s m _ meth c D κ (hAx M s.heap.size) := ⟨B.exec, B.bytes, hml, B.returns, findClass_of_methodNamed B.named, hts, B.notSynchronized, hE, fun q h => Or.inr h⟩
  have hl := lv_entry ([.ref self]) (n := 1) (Nat.le_of_ble_eq_true rfl)
  rw [lg_entry_eq]
  generalize (lg_sl ([.ref self]) ++ List.replicate (1 - (lg_sl ([.ref self])).length) Slot.unset).toArray = ls at hl ⊢
  exact eBT_latestStem C post self M hwp s.heap [] ls (hM0.self (sz := s.heap.size)) va_S.rf hl
abbrev rm_BT_isOutside : Room := { frames := 0, cells := 0, slots := 0, locals := 0 }
def Cx_BT_isOutside (p : Program) (s : State) (m : MethodId) (args : Array Value) (meth : Method) (c : Code) (D : va_G) (κ : Nat → ClassId) (A : Nat → Prop) : Prop := p.tables.exec = Jvm.exec ∧ c.code = prog_1_method_21_code ∧ c.maxLocals = 4 ∧ meth.sig.returnType = (some .boolean) ∧ s.vm.findClass "BuckTables" = some m.cls ∧ (∀ w ∈ WG, w.before args s = true) ∧ meth.locks = false ∧ hEnv D kCl (hTys κ) A s ∧ (∀ q, s.heap.size ≤ q → A q)
def wBT_isOutside_17 (post : Int32 → Hp → Prop)   (y0 : Int32) (M : Hp) : Prop := ((y0 = 0 ∨ y0 = 1) ∧ post y0 M)
set_option maxRecDepth 100000 in
set_option maxHeartbeats 4000000 in
theorem tBT_isOutside_17 {p : Program} {l : Launch} {e : Env} {s : State} {m : MethodId} {args : Array Value} {below : List Frame} {meth : Method} {c : Code} {D : va_G} {κ : Nat → ClassId} {A : Nat → Prop} (C : Cx_BT_isOutside p s m args meth c D κ A) (post : Int32 → Hp → Prop)   (y0 : Int32) (M : Hp) (hwp : wBT_isOutside_17 post y0 M) : Y p l e rm_BT_isOutside s m args below meth c D kCl (hTys κ) A 4 0 0 (MQ below (va_Qi post (hB D kCl (hTys κ) A) A) args s 0 0 A) M 17 [] [.int y0] := by
  obtain ⟨hx, hb, hml, hr, hown, hts, hlocks, hE, hA⟩ := id C
  have hK := hE.1
  intro H locs ls hM hS hl
  unfold wBT_isOutside_17 at hwp
  obtain ⟨hz1, hwp⟩ := hwp
  exact W.zret (v := y0) hx hb hr (by rcases hz1 with h | h <;> rw [h] <;> rfl) (fun t ht hW => ⟨⟨y0, M, rfl, hwp, by show hw D kCl (hTys κ) A M t.heap; rw [ht]; exact hM⟩, hS.F ht⟩) hS.2.2 d_BT_isOutside_17
def wBT_isOutside_12 (post : Int32 → Hp → Prop)   (M : Hp) : Prop := (wBT_isOutside_17 post (1 : Int32) M)
set_option maxRecDepth 100000 in
set_option maxHeartbeats 4000000 in
theorem tBT_isOutside_12 {p : Program} {l : Launch} {e : Env} {s : State} {m : MethodId} {args : Array Value} {below : List Frame} {meth : Method} {c : Code} {D : va_G} {κ : Nat → ClassId} {A : Nat → Prop} (C : Cx_BT_isOutside p s m args meth c D κ A) (post : Int32 → Hp → Prop)   (M : Hp) (hwp : wBT_isOutside_12 post  M) : Y p l e rm_BT_isOutside s m args below meth c D kCl (hTys κ) A 4 0 0 (MQ below (va_Qi post (hB D kCl (hTys κ) A) A) args s 0 0 A) M 12 [] [] := by
  obtain ⟨hx, hb, hml, hr, hown, hts, hlocks, hE, hA⟩ := id C
  have hK := hE.1
  intro H locs ls hM hS hl
  unfold wBT_isOutside_12 at hwp
  refine lv_iconst (v := 1) hx hb d_BT_isOutside_12 (by decide) ?_
  refine lv_goto (tgt := 17) hx hb d_BT_isOutside_13 (by decide) ?_
  exact tBT_isOutside_17 C post (1 : Int32) M hwp H locs ls hM hS (lv_sub hl [] rfl)
def wpBT_isOutside (p0 : Int64) (p1 : Int64) (M : Hp) (post : Int32 → Hp → Prop) : Prop := ((p0 < (0 : Int64) → (wBT_isOutside_12 post M)) ∧ (¬ p0 < (0 : Int64) → ((p0 ≤ p1 → (wBT_isOutside_17 post (0 : Int32) M)) ∧ (¬ p0 ≤ p1 → (wBT_isOutside_12 post M)))))
set_option maxRecDepth 100000 in
set_option maxHeartbeats 4000000 in
theorem eBT_isOutside {p : Program} {l : Launch} {e : Env} {s : State} {m : MethodId} {args : Array Value} {below : List Frame} {meth : Method} {c : Code} {D : va_G} {κ : Nat → ClassId} {A : Nat → Prop} (C : Cx_BT_isOutside p s m args meth c D κ A) (post : Int32 → Hp → Prop) (p0 : Int64) (p1 : Int64) (M : Hp) (hwp : wpBT_isOutside p0 p1 M post) : Y p l e rm_BT_isOutside s m args below meth c D kCl (hTys κ) A 4 0 0 (MQ below (va_Qi post (hB D kCl (hTys κ) A) A) args s 0 0 A) M 0 [(0, .long p0), (2, .long p1)] [] := by
  obtain ⟨hx, hb, hml, hr, hown, hts, hlocks, hE, hA⟩ := id C
  have hK := hE.1
  intro H locs ls hM hS hl
  unfold wpBT_isOutside at hwp
  refine lv_lload_n hx hb d_BT_isOutside_0 rfl (lv_at hl 0 rfl) ?_
  refine lv_lconst (v := 0) hx hb d_BT_isOutside_1 (by decide) ?_
  refine W.lcmp hx hb d_BT_isOutside_2 ?_
  refine lv_if_lt (tgt := 12) hx hb d_BT_isOutside_3 (by decide) (fun c2 => ?_) (fun c2 => ?_)
  · replace c2 := (lc_lt _ _).mp c2
    replace hwp := hwp.1 c2
    exact tBT_isOutside_12 C post M hwp H locs ls hM hS (lv_sub hl [] rfl)
  · replace c2 := fun h9 => c2 ((lc_lt _ _).mpr h9)
    replace hwp := hwp.2 c2
    refine lv_lload_n hx hb d_BT_isOutside_6 rfl (lv_at hl 0 rfl) ?_
    refine lv_lload_n hx hb d_BT_isOutside_7 rfl (lv_at hl 1 rfl) ?_
    refine W.lcmp hx hb d_BT_isOutside_8 ?_
    refine lv_if_le (tgt := 16) hx hb d_BT_isOutside_9 (by decide) (fun c3 => ?_) (fun c3 => ?_)
    · replace c3 := (lc_le _ _).mp c3
      replace hwp := hwp.1 c3
      refine lv_iconst (v := 0) hx hb d_BT_isOutside_16 (by decide) ?_
      exact tBT_isOutside_17 C post (0 : Int32) M hwp H locs ls hM hS (lv_sub hl [] rfl)
    · replace c3 := fun h9 => c3 ((lc_le _ _).mpr h9)
      replace hwp := hwp.2 c3
      exact tBT_isOutside_12 C post M hwp H locs ls hM hS (lv_sub hl [] rfl)
set_option maxRecDepth 100000 in
set_option maxHeartbeats 4000000 in
theorem metBT_isOutside (l : Launch) (D : va_G) (κ : Nat → ClassId) (sz : Nat) (p0 : Int64) (p1 : Int64) (M : Hp) (post : Int32 → Hp → Prop) (hwp : wpBT_isOutside p0 p1 M post) : Met l y_BT_isOutside ws_BT_isOutside rm_BT_isOutside (hPc D kCl (hTys κ) M sz [.long p0, .long p1]) (va_Qi post (hB D kCl (hTys κ) (hAx M sz)) (hAx M sz)) 0 0 (hAx M sz) := by
  refine Met.ofW (cc := prog_1_method_21_code) (maxL := 4) (ret := (some .boolean)) (by decide +kernel) rfl ?_
  intro p e s m args below meth c s₁ B hml hv
  obtain ⟨rfl, hsz, hE, hM0⟩ := hv
  have hts : ∀ w ∈ WG, w.before _ s = true := fun w h => atoms_spec (ws := ws_BT_isOutside) B.pre w (List.mem_cons_of_mem _ h)
  subst hsz
  have C : Cx_BT_isOutside p s m _ meth c D κ (hAx M s.heap.size) := ⟨B.exec, B.bytes, hml, B.returns, findClass_of_methodNamed B.named, hts, B.notSynchronized, hE, fun q h => Or.inr h⟩
  have hl := lv_entry ([.long p0, .long p1]) (n := 4) (Nat.le_of_ble_eq_true rfl)
  rw [lg_entry_eq]
  generalize (lg_sl ([.long p0, .long p1]) ++ List.replicate (4 - (lg_sl ([.long p0, .long p1])).length) Slot.unset).toArray = ls at hl ⊢
  exact eBT_isOutside C post p0 p1 M hwp s.heap [] ls (hM0.self (sz := s.heap.size)) va_S.rf hl
abbrev rm_St_takesPoint : Room := { frames := 0, cells := 0, slots := 0, locals := 0 }
def Cx_St_takesPoint (p : Program) (s : State) (m : MethodId) (args : Array Value) (meth : Method) (c : Code) (D : va_G) (κ : Nat → ClassId) (A : Nat → Prop) : Prop := p.tables.exec = Jvm.exec ∧ c.code = prog_5_method_2_code ∧ c.maxLocals = 3 ∧ meth.sig.returnType = (some .boolean) ∧ s.vm.findClass "BuckTables$Stem" = some m.cls ∧ (∀ w ∈ WG, w.before args s = true) ∧ meth.locks = false ∧ hEnv D kCl (hTys κ) A s ∧ (∀ q, s.heap.size ≤ q → A q)
def wSt_takesPoint_65 (post : Int32 → Hp → Prop)   (y0 : Int32) (M : Hp) : Prop := ((y0 = 0 ∨ y0 = 1) ∧ post y0 M)
set_option maxRecDepth 100000 in
set_option maxHeartbeats 4000000 in
theorem tSt_takesPoint_65 {p : Program} {l : Launch} {e : Env} {s : State} {m : MethodId} {args : Array Value} {below : List Frame} {meth : Method} {c : Code} {D : va_G} {κ : Nat → ClassId} {A : Nat → Prop} (C : Cx_St_takesPoint p s m args meth c D κ A) (post : Int32 → Hp → Prop)   (y0 : Int32) (M : Hp) (hwp : wSt_takesPoint_65 post y0 M) : Y p l e rm_St_takesPoint s m args below meth c D kCl (hTys κ) A 3 0 0 (MQ below (va_Qi post (hB D kCl (hTys κ) A) A) args s 0 0 A) M 65 [] [.int y0] := by
  obtain ⟨hx, hb, hml, hr, hown, hts, hlocks, hE, hA⟩ := id C
  have hK := hE.1
  intro H locs ls hM hS hl
  unfold wSt_takesPoint_65 at hwp
  obtain ⟨hz1, hwp⟩ := hwp
  exact W.zret (v := y0) hx hb hr (by rcases hz1 with h | h <;> rw [h] <;> rfl) (fun t ht hW => ⟨⟨y0, M, rfl, hwp, by show hw D kCl (hTys κ) A M t.heap; rw [ht]; exact hM⟩, hS.F ht⟩) hS.2.2 d_St_takesPoint_65
def wSt_takesPoint_64 (post : Int32 → Hp → Prop)   (M : Hp) : Prop := (wSt_takesPoint_65 post (0 : Int32) M)
set_option maxRecDepth 100000 in
set_option maxHeartbeats 4000000 in
theorem tSt_takesPoint_64 {p : Program} {l : Launch} {e : Env} {s : State} {m : MethodId} {args : Array Value} {below : List Frame} {meth : Method} {c : Code} {D : va_G} {κ : Nat → ClassId} {A : Nat → Prop} (C : Cx_St_takesPoint p s m args meth c D κ A) (post : Int32 → Hp → Prop)   (M : Hp) (hwp : wSt_takesPoint_64 post  M) : Y p l e rm_St_takesPoint s m args below meth c D kCl (hTys κ) A 3 0 0 (MQ below (va_Qi post (hB D kCl (hTys κ) A) A) args s 0 0 A) M 64 [] [] := by
  obtain ⟨hx, hb, hml, hr, hown, hts, hlocks, hE, hA⟩ := id C
  have hK := hE.1
  intro H locs ls hM hS hl
  unfold wSt_takesPoint_64 at hwp
  refine lv_iconst (v := 0) hx hb d_St_takesPoint_64 (by decide) ?_
  exact tSt_takesPoint_65 C post (0 : Int32) M hwp H locs ls hM hS (lv_sub hl [] rfl)
def wSt_takesPoint_29 (post : Int32 → Hp → Prop)   (y0 : Int32) (M : Hp) : Prop := ((y0 = 0 ∨ y0 = 1) ∧ post y0 M)
set_option maxRecDepth 100000 in
set_option maxHeartbeats 4000000 in
theorem tSt_takesPoint_29 {p : Program} {l : Launch} {e : Env} {s : State} {m : MethodId} {args : Array Value} {below : List Frame} {meth : Method} {c : Code} {D : va_G} {κ : Nat → ClassId} {A : Nat → Prop} (C : Cx_St_takesPoint p s m args meth c D κ A) (post : Int32 → Hp → Prop)   (y0 : Int32) (M : Hp) (hwp : wSt_takesPoint_29 post y0 M) : Y p l e rm_St_takesPoint s m args below meth c D kCl (hTys κ) A 3 0 0 (MQ below (va_Qi post (hB D kCl (hTys κ) A) A) args s 0 0 A) M 29 [] [.int y0] := by
  obtain ⟨hx, hb, hml, hr, hown, hts, hlocks, hE, hA⟩ := id C
  have hK := hE.1
  intro H locs ls hM hS hl
  unfold wSt_takesPoint_29 at hwp
  obtain ⟨hz2, hwp⟩ := hwp
  exact W.zret (v := y0) hx hb hr (by rcases hz2 with h | h <;> rw [h] <;> rfl) (fun t ht hW => ⟨⟨y0, M, rfl, hwp, by show hw D kCl (hTys κ) A M t.heap; rw [ht]; exact hM⟩, hS.F ht⟩) hS.2.2 d_St_takesPoint_29
def wpSt_takesPoint (self : Nat) (p0 : Int32) (p1 : Int32) (M : Hp) (post : Int32 → Hp → Prop) : Prop := (∃ v3 : Int32, fI M self 1 0 v3 ∧ (¬ v3 = 0 ∧ (((p0 / v3) ≤ (80 : Int32) → (∃ v9 : Int32, fI M self 1 9 v9 ∧ ((v9 = 0 → ((p0 = 0 → (wSt_takesPoint_29 post (1 : Int32) M)) ∧ (¬ p0 = 0 → (wSt_takesPoint_29 post (0 : Int32) M)))) ∧ (¬ v9 = 0 → (∃ a14 : Nat, fA M self 1 1 a14 ∧ (∃ v18 : Int32, fI M self 1 9 v18 ∧ (∃ v22 : Int32, aI M a14 (v18 - (1 : Int32)) v22 ∧ ((p0 ≤ v22 → (wSt_takesPoint_64 post M)) ∧ (¬ p0 ≤ v22 → (∃ a28 : Nat, fA M self 1 2 a28 ∧ (∃ v32 : Int32, fI M self 1 9 v32 ∧ (∃ v36 : Int32, aI M a28 (v32 - (1 : Int32)) v36 ∧ ((v36 < p1 → (wSt_takesPoint_64 post M)) ∧ (¬ v36 < p1 → (wSt_takesPoint_65 post (1 : Int32) M))))))))))))))) ∧ (¬ (p0 / v3) ≤ (80 : Int32) → (post (0 : Int32) M)))))
set_option maxRecDepth 100000 in
set_option maxHeartbeats 4000000 in
theorem eSt_takesPoint {p : Program} {l : Launch} {e : Env} {s : State} {m : MethodId} {args : Array Value} {below : List Frame} {meth : Method} {c : Code} {D : va_G} {κ : Nat → ClassId} {A : Nat → Prop} (C : Cx_St_takesPoint p s m args meth c D κ A) (post : Int32 → Hp → Prop) (self : Nat) (p0 : Int32) (p1 : Int32) (M : Hp) (hwp : wpSt_takesPoint self p0 p1 M post) : Y p l e rm_St_takesPoint s m args below meth c D kCl (hTys κ) A 3 0 0 (MQ below (va_Qi post (hB D kCl (hTys κ) A) A) args s 0 0 A) M 0 [(0, .ref self), (1, .int p0), (2, .int p1)] [] := by
  obtain ⟨hx, hb, hml, hr, hown, hts, hlocks, hE, hA⟩ := id C
  have hK := hE.1
  intro H locs ls hM hS hl
  unfold wpSt_takesPoint at hwp
  refine lv_iload_n hx hb d_St_takesPoint_0 rfl (lv_at hl 1 rfl) ?_
  refine lv_aload_n hx hb d_St_takesPoint_1 rfl (lv_at hl 0 rfl) ?_
  obtain ⟨v3, ⟨fs4, he5, hv6⟩, hwp⟩ := hwp
  refine h_get (C := "BuckTables$Stem") (T := Tc1) (N := 12) hx hb hts inc1 hown hK hM he5 rfl 0 (by decide) (hts _ kw_110) (fun _ h9 => h9) hv6 d_St_takesPoint_2 ?_
  obtain ⟨h7, hwp⟩ := hwp
  refine lv_idiv hx hb d_St_takesPoint_5 h7 ?_
  refine lv_bipush (v := 80) hx hb d_St_takesPoint_6 (by decide) ?_
  refine lv_icmp_le (tgt := 13) hx hb d_St_takesPoint_8 (by decide) (fun c8 => ?_) (fun c8 => ?_)
  · replace hwp := hwp.1 c8
    refine lv_aload_n hx hb d_St_takesPoint_13 rfl (lv_at hl 0 rfl) ?_
    obtain ⟨v9, ⟨fs10, he11, hv12⟩, hwp⟩ := hwp
    refine h_get (C := "BuckTables$Stem") (T := Tc1) (N := 12) hx hb hts inc1 hown hK hM he11 rfl 9 (by decide) (hts _ kw_121) (fun _ h9 => h9) hv12 d_St_takesPoint_14 ?_
    refine lv_if_ne (tgt := 30) hx hb d_St_takesPoint_17 (by decide) (fun c13 => ?_) (fun c13 => ?_)
    · replace hwp := hwp.2 c13
      refine lv_iload_n hx hb d_St_takesPoint_30 rfl (lv_at hl 1 rfl) ?_
      refine lv_aload_n hx hb d_St_takesPoint_31 rfl (lv_at hl 0 rfl) ?_
      obtain ⟨a14, ⟨fs15, he16, hv17⟩, hwp⟩ := hwp
      refine h_get (C := "BuckTables$Stem") (T := Tc1) (N := 12) hx hb hts inc1 hown hK hM he16 rfl 1 (by decide) (hts _ kw_111) (fun _ h9 => h9) hv17 d_St_takesPoint_32 ?_
      refine lv_aload_n hx hb d_St_takesPoint_35 rfl (lv_at hl 0 rfl) ?_
      obtain ⟨v18, ⟨fs19, he20, hv21⟩, hwp⟩ := hwp
      refine h_get (C := "BuckTables$Stem") (T := Tc1) (N := 12) hx hb hts inc1 hown hK hM he20 rfl 9 (by decide) (hts _ kw_121) (fun _ h9 => h9) hv21 d_St_takesPoint_36 ?_
      refine lv_iconst (v := 1) hx hb d_St_takesPoint_39 (by decide) ?_
      refine lv_isub hx hb d_St_takesPoint_40 ?_
      obtain ⟨v22, ⟨n23, f24, ha25, hi26, ev22⟩, hwp⟩ := hwp
      refine h_iald hx hb hK hM ha25 rfl hi26 d_St_takesPoint_41 ?_
      rw [← ev22]
      refine lv_icmp_le (tgt := 64) hx hb d_St_takesPoint_42 (by decide) (fun c27 => ?_) (fun c27 => ?_)
      · replace hwp := hwp.1 c27
        exact tSt_takesPoint_64 C post M hwp H locs ls hM hS (lv_sub hl [] rfl)
      · replace hwp := hwp.2 c27
        refine lv_iload_n hx hb d_St_takesPoint_45 rfl (lv_at hl 2 rfl) ?_
        refine lv_aload_n hx hb d_St_takesPoint_46 rfl (lv_at hl 0 rfl) ?_
        obtain ⟨a28, ⟨fs29, he30, hv31⟩, hwp⟩ := hwp
        refine h_get (C := "BuckTables$Stem") (T := Tc1) (N := 12) hx hb hts inc1 hown hK hM he30 rfl 2 (by decide) (hts _ kw_112) (fun _ h9 => h9) hv31 d_St_takesPoint_47 ?_
        refine lv_aload_n hx hb d_St_takesPoint_50 rfl (lv_at hl 0 rfl) ?_
        obtain ⟨v32, ⟨fs33, he34, hv35⟩, hwp⟩ := hwp
        refine h_get (C := "BuckTables$Stem") (T := Tc1) (N := 12) hx hb hts inc1 hown hK hM he34 rfl 9 (by decide) (hts _ kw_121) (fun _ h9 => h9) hv35 d_St_takesPoint_51 ?_
        refine lv_iconst (v := 1) hx hb d_St_takesPoint_54 (by decide) ?_
        refine lv_isub hx hb d_St_takesPoint_55 ?_
        obtain ⟨v36, ⟨n37, f38, ha39, hi40, ev36⟩, hwp⟩ := hwp
        refine h_iald hx hb hK hM ha39 rfl hi40 d_St_takesPoint_56 ?_
        rw [← ev36]
        refine lv_icmp_gt (tgt := 64) hx hb d_St_takesPoint_57 (by decide) (fun c41 => ?_) (fun c41 => ?_)
        · replace hwp := hwp.1 c41
          exact tSt_takesPoint_64 C post M hwp H locs ls hM hS (lv_sub hl [] rfl)
        · replace hwp := hwp.2 c41
          refine lv_iconst (v := 1) hx hb d_St_takesPoint_60 (by decide) ?_
          refine lv_goto (tgt := 65) hx hb d_St_takesPoint_61 (by decide) ?_
          exact tSt_takesPoint_65 C post (1 : Int32) M hwp H locs ls hM hS (lv_sub hl [] rfl)
    · replace hwp := hwp.1 c13
      refine lv_iload_n hx hb d_St_takesPoint_20 rfl (lv_at hl 1 rfl) ?_
      refine lv_if_ne (tgt := 28) hx hb d_St_takesPoint_21 (by decide) (fun c42 => ?_) (fun c42 => ?_)
      · replace hwp := hwp.2 c42
        refine lv_iconst (v := 0) hx hb d_St_takesPoint_28 (by decide) ?_
        exact tSt_takesPoint_29 C post (0 : Int32) M hwp H locs ls hM hS (lv_sub hl [] rfl)
      · replace hwp := hwp.1 c42
        refine lv_iconst (v := 1) hx hb d_St_takesPoint_24 (by decide) ?_
        refine lv_goto (tgt := 29) hx hb d_St_takesPoint_25 (by decide) ?_
        exact tSt_takesPoint_29 C post (1 : Int32) M hwp H locs ls hM hS (lv_sub hl [] rfl)
  · replace hwp := hwp.2 c8
    refine lv_iconst (v := 0) hx hb d_St_takesPoint_11 (by decide) ?_
    exact W.zret (v := (0 : Int32)) hx hb hr (by decide) (fun t ht hW => ⟨⟨(0 : Int32), M, rfl, hwp, by show hw D kCl (hTys κ) A M t.heap; rw [ht]; exact hM⟩, hS.F ht⟩) hS.2.2 d_St_takesPoint_12
set_option maxRecDepth 100000 in
set_option maxHeartbeats 4000000 in
theorem metSt_takesPoint (l : Launch) (D : va_G) (κ : Nat → ClassId) (sz : Nat) (self : Nat) (p0 : Int32) (p1 : Int32) (M : Hp) (post : Int32 → Hp → Prop) (hwp : wpSt_takesPoint self p0 p1 M post) : Met l y_St_takesPoint ws_St_takesPoint rm_St_takesPoint (hPc D kCl (hTys κ) M sz [.ref self, .int p0, .int p1]) (va_Qi post (hB D kCl (hTys κ) (hAx M sz)) (hAx M sz)) 0 0 (hAx M sz) := by
  refine Met.ofW (cc := prog_5_method_2_code) (maxL := 3) (ret := (some .boolean)) (by decide +kernel) rfl ?_
  intro p e s m args below meth c s₁ B hml hv
  obtain ⟨rfl, hsz, hE, hM0⟩ := hv
  have hts : ∀ w ∈ WG, w.before _ s = true := fun w h => atoms_spec (ws := ws_St_takesPoint) B.pre w (List.mem_cons_of_mem _ h)
  subst hsz
  have C : Cx_St_takesPoint p s m _ meth c D κ (hAx M s.heap.size) := ⟨B.exec, B.bytes, hml, B.returns, findClass_of_methodNamed B.named, hts, B.notSynchronized, hE, fun q h => Or.inr h⟩
  have hl := lv_entry ([.ref self, .int p0, .int p1]) (n := 3) (Nat.le_of_ble_eq_true rfl)
  rw [lg_entry_eq]
  generalize (lg_sl ([.ref self, .int p0, .int p1]) ++ List.replicate (3 - (lg_sl ([.ref self, .int p0, .int p1])).length) Slot.unset).toArray = ls at hl ⊢
  exact eSt_takesPoint C post self p0 p1 M hwp s.heap [] ls (hM0.self (sz := s.heap.size)) va_S.rf hl
abbrev rm_St_addPoint : Room := { frames := 0, cells := 0, slots := 0, locals := 0 }
def Cx_St_addPoint (p : Program) (s : State) (m : MethodId) (args : Array Value) (meth : Method) (c : Code) (D : va_G) (κ : Nat → ClassId) (A : Nat → Prop) : Prop := p.tables.exec = Jvm.exec ∧ c.code = prog_5_method_3_code ∧ c.maxLocals = 4 ∧ meth.sig.returnType = none ∧ s.vm.findClass "BuckTables$Stem" = some m.cls ∧ (∀ w ∈ WG, w.before args s = true) ∧ meth.locks = false ∧ hEnv D kCl (hTys κ) A s ∧ (∀ q, s.heap.size ≤ q → A q)
def wpSt_addPoint (self : Nat) (p0 : Int32) (p1 : Int32) (p2 : Int32) (M : Hp) (post : Hp → Prop) : Prop := (∃ a1 : Nat, fA M self 1 1 a1 ∧ (∃ v5 : Int32, fI M self 1 9 v5 ∧ (∃ M13 : Hp, sI M a1 v5 p0 M13 ∧ (∃ a14 : Nat, fA M13 self 1 2 a14 ∧ (∃ v18 : Int32, fI M13 self 1 9 v18 ∧ (∃ M26 : Hp, sI M13 a14 v18 p1 M26 ∧ (∃ a27 : Nat, fA M26 self 1 3 a27 ∧ (∃ v31 : Int32, fI M26 self 1 9 v31 ∧ (∃ M39 : Hp, sI M26 a27 v31 p2 M39 ∧ (∃ v40 : Int32, fI M39 self 1 9 v40 ∧ (∃ M44 : Hp, pF M39 self 1 9 (.int (v40 + (1 : Int32))) M44 ∧ (∃ v48 : Int32, fI M44 self 1 0 v48 ∧ (¬ v48 = 0 ∧ (∃ M53 : Hp, pF M44 self 1 11 (.int (p0 / v48)) M53 ∧ (post M53)))))))))))))))
set_option maxRecDepth 100000 in
set_option maxHeartbeats 4000000 in
theorem eSt_addPoint {p : Program} {l : Launch} {e : Env} {s : State} {m : MethodId} {args : Array Value} {below : List Frame} {meth : Method} {c : Code} {D : va_G} {κ : Nat → ClassId} {A : Nat → Prop} (C : Cx_St_addPoint p s m args meth c D κ A) (post : Hp → Prop) (self : Nat) (p0 : Int32) (p1 : Int32) (p2 : Int32) (M : Hp) (hwp : wpSt_addPoint self p0 p1 p2 M post) : Y p l e rm_St_addPoint s m args below meth c D kCl (hTys κ) A 4 0 0 (MQ below (va_Qv post (hB D kCl (hTys κ) A) A) args s 0 0 A) M 0 [(0, .ref self), (1, .int p0), (2, .int p1), (3, .int p2)] [] := by
  obtain ⟨hx, hb, hml, hr, hown, hts, hlocks, hE, hA⟩ := id C
  have hK := hE.1
  intro H locs ls hM hS hl
  unfold wpSt_addPoint at hwp
  refine lv_aload_n hx hb d_St_addPoint_0 rfl (lv_at hl 0 rfl) ?_
  obtain ⟨a1, ⟨fs2, he3, hv4⟩, hwp⟩ := hwp
  refine h_get (C := "BuckTables$Stem") (T := Tc1) (N := 12) hx hb hts inc1 hown hK hM he3 rfl 1 (by decide) (hts _ kw_111) (fun _ h9 => h9) hv4 d_St_addPoint_1 ?_
  refine lv_aload_n hx hb d_St_addPoint_4 rfl (lv_at hl 0 rfl) ?_
  obtain ⟨v5, ⟨fs6, he7, hv8⟩, hwp⟩ := hwp
  refine h_get (C := "BuckTables$Stem") (T := Tc1) (N := 12) hx hb hts inc1 hown hK hM he7 rfl 9 (by decide) (hts _ kw_121) (fun _ h9 => h9) hv8 d_St_addPoint_5 ?_
  refine lv_iload_n hx hb d_St_addPoint_8 rfl (lv_at hl 1 rfl) ?_
  obtain ⟨M13, ⟨n9, f10, ha11, hi12, eM13⟩, hwp⟩ := hwp
  refine h_iast hx hb hK hM hS ha11 rfl hi12 d_St_addPoint_9 (fun H locs hM hS => ?_)
  rw [← eM13] at hM
  refine lv_aload_n hx hb d_St_addPoint_10 rfl (lv_at hl 0 rfl) ?_
  obtain ⟨a14, ⟨fs15, he16, hv17⟩, hwp⟩ := hwp
  refine h_get (C := "BuckTables$Stem") (T := Tc1) (N := 12) hx hb hts inc1 hown hK hM he16 rfl 2 (by decide) (hts _ kw_112) (fun _ h9 => h9) hv17 d_St_addPoint_11 ?_
  refine lv_aload_n hx hb d_St_addPoint_14 rfl (lv_at hl 0 rfl) ?_
  obtain ⟨v18, ⟨fs19, he20, hv21⟩, hwp⟩ := hwp
  refine h_get (C := "BuckTables$Stem") (T := Tc1) (N := 12) hx hb hts inc1 hown hK hM he20 rfl 9 (by decide) (hts _ kw_121) (fun _ h9 => h9) hv21 d_St_addPoint_15 ?_
  refine lv_iload_n hx hb d_St_addPoint_18 rfl (lv_at hl 2 rfl) ?_
  obtain ⟨M26, ⟨n22, f23, ha24, hi25, eM26⟩, hwp⟩ := hwp
  refine h_iast hx hb hK hM hS ha24 rfl hi25 d_St_addPoint_19 (fun H locs hM hS => ?_)
  rw [← eM26] at hM
  refine lv_aload_n hx hb d_St_addPoint_20 rfl (lv_at hl 0 rfl) ?_
  obtain ⟨a27, ⟨fs28, he29, hv30⟩, hwp⟩ := hwp
  refine h_get (C := "BuckTables$Stem") (T := Tc1) (N := 12) hx hb hts inc1 hown hK hM he29 rfl 3 (by decide) (hts _ kw_113) (fun _ h9 => h9) hv30 d_St_addPoint_21 ?_
  refine lv_aload_n hx hb d_St_addPoint_24 rfl (lv_at hl 0 rfl) ?_
  obtain ⟨v31, ⟨fs32, he33, hv34⟩, hwp⟩ := hwp
  refine h_get (C := "BuckTables$Stem") (T := Tc1) (N := 12) hx hb hts inc1 hown hK hM he33 rfl 9 (by decide) (hts _ kw_121) (fun _ h9 => h9) hv34 d_St_addPoint_25 ?_
  refine lv_iload_n hx hb d_St_addPoint_28 rfl (lv_at hl 3 rfl) ?_
  obtain ⟨M39, ⟨n35, f36, ha37, hi38, eM39⟩, hwp⟩ := hwp
  refine h_iast hx hb hK hM hS ha37 rfl hi38 d_St_addPoint_29 (fun H locs hM hS => ?_)
  rw [← eM39] at hM
  refine lv_aload_n hx hb d_St_addPoint_30 rfl (lv_at hl 0 rfl) ?_
  refine lv_dup hx hb d_St_addPoint_31 rfl ?_
  obtain ⟨v40, ⟨fs41, he42, hv43⟩, hwp⟩ := hwp
  refine h_get (C := "BuckTables$Stem") (T := Tc1) (N := 12) hx hb hts inc1 hown hK hM he42 rfl 9 (by decide) (hts _ kw_121) (fun _ h9 => h9) hv43 d_St_addPoint_32 ?_
  refine lv_iconst (v := 1) hx hb d_St_addPoint_35 (by decide) ?_
  refine lv_iadd hx hb d_St_addPoint_36 ?_
  obtain ⟨M44, ⟨fs45, he46, hl47, eM44⟩, hwp⟩ := hwp
  refine h_put (C := "BuckTables$Stem") (T := Tc1) (N := 12) (v := .int (v40 + (1 : Int32))) (ty := .int) hx hb hts inc1 tyc1 tyc1_ok nmc1 hown hK hM hS he46 rfl 9 (by decide) (hts _ kw_121) (fun _ h9 => h9) rfl (by decide +kernel) rfl rfl hl47 d_St_addPoint_37 (fun H locs hM hS => ?_)
  rw [← eM44] at hM
  refine lv_aload_n hx hb d_St_addPoint_40 rfl (lv_at hl 0 rfl) ?_
  refine lv_iload_n hx hb d_St_addPoint_41 rfl (lv_at hl 1 rfl) ?_
  refine lv_aload_n hx hb d_St_addPoint_42 rfl (lv_at hl 0 rfl) ?_
  obtain ⟨v48, ⟨fs49, he50, hv51⟩, hwp⟩ := hwp
  refine h_get (C := "BuckTables$Stem") (T := Tc1) (N := 12) hx hb hts inc1 hown hK hM he50 rfl 0 (by decide) (hts _ kw_110) (fun _ h9 => h9) hv51 d_St_addPoint_43 ?_
  obtain ⟨h52, hwp⟩ := hwp
  refine lv_idiv hx hb d_St_addPoint_46 h52 ?_
  obtain ⟨M53, ⟨fs54, he55, hl56, eM53⟩, hwp⟩ := hwp
  refine h_put (C := "BuckTables$Stem") (T := Tc1) (N := 12) (v := .int (p0 / v48)) (ty := .int) hx hb hts inc1 tyc1 tyc1_ok nmc1 hown hK hM hS he55 rfl 11 (by decide) (hts _ kw_125) (fun _ h9 => h9) rfl (by decide +kernel) rfl rfl hl56 d_St_addPoint_47 (fun H locs hM hS => ?_)
  rw [← eM53] at hM
  exact W.vret hx hb hr (fun t ht hW => ⟨⟨M53, rfl, hwp, by show hw D kCl (hTys κ) A M53 t.heap; rw [ht]; exact hM⟩, hS.F ht⟩) hS.2.2 d_St_addPoint_50
set_option maxRecDepth 100000 in
set_option maxHeartbeats 4000000 in
theorem metSt_addPoint (l : Launch) (D : va_G) (κ : Nat → ClassId) (sz : Nat) (self : Nat) (p0 : Int32) (p1 : Int32) (p2 : Int32) (M : Hp) (post : Hp → Prop) (hwp : wpSt_addPoint self p0 p1 p2 M post) : Met l y_St_addPoint ws_St_addPoint rm_St_addPoint (hPc D kCl (hTys κ) M sz [.ref self, .int p0, .int p1, .int p2]) (va_Qv post (hB D kCl (hTys κ) (hAx M sz)) (hAx M sz)) 0 0 (hAx M sz) := by
  refine Met.ofW (cc := prog_5_method_3_code) (maxL := 4) (ret := none) (by decide +kernel) rfl ?_
  intro p e s m args below meth c s₁ B hml hv
  obtain ⟨rfl, hsz, hE, hM0⟩ := hv
  have hts : ∀ w ∈ WG, w.before _ s = true := fun w h => atoms_spec (ws := ws_St_addPoint) B.pre w (List.mem_cons_of_mem _ h)
  subst hsz
  have C : Cx_St_addPoint p s m _ meth c D κ (hAx M s.heap.size) := ⟨B.exec, B.bytes, hml, B.returns, findClass_of_methodNamed B.named, hts, B.notSynchronized, hE, fun q h => Or.inr h⟩
  have hl := lv_entry ([.ref self, .int p0, .int p1, .int p2]) (n := 4) (Nat.le_of_ble_eq_true rfl)
  rw [lg_entry_eq]
  generalize (lg_sl ([.ref self, .int p0, .int p1, .int p2]) ++ List.replicate (4 - (lg_sl ([.ref self, .int p0, .int p1, .int p2])).length) Slot.unset).toArray = ls at hl ⊢
  exact eSt_addPoint C post self p0 p1 p2 M hwp s.heap [] ls (hM0.self (sz := s.heap.size)) va_S.rf hl
abbrev rm_St_addFault : Room := { frames := 0, cells := 0, slots := 0, locals := 0 }
def Cx_St_addFault (p : Program) (s : State) (m : MethodId) (args : Array Value) (meth : Method) (c : Code) (D : va_G) (κ : Nat → ClassId) (A : Nat → Prop) : Prop := p.tables.exec = Jvm.exec ∧ c.code = prog_5_method_4_code ∧ c.maxLocals = 4 ∧ meth.sig.returnType = none ∧ s.vm.findClass "BuckTables$Stem" = some m.cls ∧ (∀ w ∈ WG, w.before args s = true) ∧ meth.locks = false ∧ hEnv D kCl (hTys κ) A s ∧ (∀ q, s.heap.size ≤ q → A q)
def wpSt_addFault (self : Nat) (p0 : Int32) (p1 : Int32) (p2 : Int32) (M : Hp) (post : Hp → Prop) : Prop := (∃ a1 : Nat, fA M self 1 4 a1 ∧ (∃ v5 : Int32, fI M self 1 10 v5 ∧ (∃ M13 : Hp, sI M a1 v5 p0 M13 ∧ (∃ a14 : Nat, fA M13 self 1 5 a14 ∧ (∃ v18 : Int32, fI M13 self 1 10 v18 ∧ (∃ M26 : Hp, sI M13 a14 v18 p1 M26 ∧ (∃ a27 : Nat, fA M26 self 1 6 a27 ∧ (∃ v31 : Int32, fI M26 self 1 10 v31 ∧ (∃ M39 : Hp, sI M26 a27 v31 p2 M39 ∧ (∃ v40 : Int32, fI M39 self 1 10 v40 ∧ (∃ M44 : Hp, pF M39 self 1 10 (.int (v40 + (1 : Int32))) M44 ∧ (post M44))))))))))))
set_option maxRecDepth 100000 in
set_option maxHeartbeats 4000000 in
theorem eSt_addFault {p : Program} {l : Launch} {e : Env} {s : State} {m : MethodId} {args : Array Value} {below : List Frame} {meth : Method} {c : Code} {D : va_G} {κ : Nat → ClassId} {A : Nat → Prop} (C : Cx_St_addFault p s m args meth c D κ A) (post : Hp → Prop) (self : Nat) (p0 : Int32) (p1 : Int32) (p2 : Int32) (M : Hp) (hwp : wpSt_addFault self p0 p1 p2 M post) : Y p l e rm_St_addFault s m args below meth c D kCl (hTys κ) A 4 0 0 (MQ below (va_Qv post (hB D kCl (hTys κ) A) A) args s 0 0 A) M 0 [(0, .ref self), (1, .int p0), (2, .int p1), (3, .int p2)] [] := by
  obtain ⟨hx, hb, hml, hr, hown, hts, hlocks, hE, hA⟩ := id C
  have hK := hE.1
  intro H locs ls hM hS hl
  unfold wpSt_addFault at hwp
  refine lv_aload_n hx hb d_St_addFault_0 rfl (lv_at hl 0 rfl) ?_
  obtain ⟨a1, ⟨fs2, he3, hv4⟩, hwp⟩ := hwp
  refine h_get (C := "BuckTables$Stem") (T := Tc1) (N := 12) hx hb hts inc1 hown hK hM he3 rfl 4 (by decide) (hts _ kw_114) (fun _ h9 => h9) hv4 d_St_addFault_1 ?_
  refine lv_aload_n hx hb d_St_addFault_4 rfl (lv_at hl 0 rfl) ?_
  obtain ⟨v5, ⟨fs6, he7, hv8⟩, hwp⟩ := hwp
  refine h_get (C := "BuckTables$Stem") (T := Tc1) (N := 12) hx hb hts inc1 hown hK hM he7 rfl 10 (by decide) (hts _ kw_123) (fun _ h9 => h9) hv8 d_St_addFault_5 ?_
  refine lv_iload_n hx hb d_St_addFault_8 rfl (lv_at hl 1 rfl) ?_
  obtain ⟨M13, ⟨n9, f10, ha11, hi12, eM13⟩, hwp⟩ := hwp
  refine h_iast hx hb hK hM hS ha11 rfl hi12 d_St_addFault_9 (fun H locs hM hS => ?_)
  rw [← eM13] at hM
  refine lv_aload_n hx hb d_St_addFault_10 rfl (lv_at hl 0 rfl) ?_
  obtain ⟨a14, ⟨fs15, he16, hv17⟩, hwp⟩ := hwp
  refine h_get (C := "BuckTables$Stem") (T := Tc1) (N := 12) hx hb hts inc1 hown hK hM he16 rfl 5 (by decide) (hts _ kw_115) (fun _ h9 => h9) hv17 d_St_addFault_11 ?_
  refine lv_aload_n hx hb d_St_addFault_14 rfl (lv_at hl 0 rfl) ?_
  obtain ⟨v18, ⟨fs19, he20, hv21⟩, hwp⟩ := hwp
  refine h_get (C := "BuckTables$Stem") (T := Tc1) (N := 12) hx hb hts inc1 hown hK hM he20 rfl 10 (by decide) (hts _ kw_123) (fun _ h9 => h9) hv21 d_St_addFault_15 ?_
  refine lv_iload_n hx hb d_St_addFault_18 rfl (lv_at hl 2 rfl) ?_
  obtain ⟨M26, ⟨n22, f23, ha24, hi25, eM26⟩, hwp⟩ := hwp
  refine h_iast hx hb hK hM hS ha24 rfl hi25 d_St_addFault_19 (fun H locs hM hS => ?_)
  rw [← eM26] at hM
  refine lv_aload_n hx hb d_St_addFault_20 rfl (lv_at hl 0 rfl) ?_
  obtain ⟨a27, ⟨fs28, he29, hv30⟩, hwp⟩ := hwp
  refine h_get (C := "BuckTables$Stem") (T := Tc1) (N := 12) hx hb hts inc1 hown hK hM he29 rfl 6 (by decide) (hts _ kw_116) (fun _ h9 => h9) hv30 d_St_addFault_21 ?_
  refine lv_aload_n hx hb d_St_addFault_24 rfl (lv_at hl 0 rfl) ?_
  obtain ⟨v31, ⟨fs32, he33, hv34⟩, hwp⟩ := hwp
  refine h_get (C := "BuckTables$Stem") (T := Tc1) (N := 12) hx hb hts inc1 hown hK hM he33 rfl 10 (by decide) (hts _ kw_123) (fun _ h9 => h9) hv34 d_St_addFault_25 ?_
  refine lv_iload_n hx hb d_St_addFault_28 rfl (lv_at hl 3 rfl) ?_
  obtain ⟨M39, ⟨n35, f36, ha37, hi38, eM39⟩, hwp⟩ := hwp
  refine h_iast hx hb hK hM hS ha37 rfl hi38 d_St_addFault_29 (fun H locs hM hS => ?_)
  rw [← eM39] at hM
  refine lv_aload_n hx hb d_St_addFault_30 rfl (lv_at hl 0 rfl) ?_
  refine lv_dup hx hb d_St_addFault_31 rfl ?_
  obtain ⟨v40, ⟨fs41, he42, hv43⟩, hwp⟩ := hwp
  refine h_get (C := "BuckTables$Stem") (T := Tc1) (N := 12) hx hb hts inc1 hown hK hM he42 rfl 10 (by decide) (hts _ kw_123) (fun _ h9 => h9) hv43 d_St_addFault_32 ?_
  refine lv_iconst (v := 1) hx hb d_St_addFault_35 (by decide) ?_
  refine lv_iadd hx hb d_St_addFault_36 ?_
  obtain ⟨M44, ⟨fs45, he46, hl47, eM44⟩, hwp⟩ := hwp
  refine h_put (C := "BuckTables$Stem") (T := Tc1) (N := 12) (v := .int (v40 + (1 : Int32))) (ty := .int) hx hb hts inc1 tyc1 tyc1_ok nmc1 hown hK hM hS he46 rfl 10 (by decide) (hts _ kw_123) (fun _ h9 => h9) rfl (by decide +kernel) rfl rfl hl47 d_St_addFault_37 (fun H locs hM hS => ?_)
  rw [← eM44] at hM
  exact W.vret hx hb hr (fun t ht hW => ⟨⟨M44, rfl, hwp, by show hw D kCl (hTys κ) A M44 t.heap; rw [ht]; exact hM⟩, hS.F ht⟩) hS.2.2 d_St_addFault_40
set_option maxRecDepth 100000 in
set_option maxHeartbeats 4000000 in
theorem metSt_addFault (l : Launch) (D : va_G) (κ : Nat → ClassId) (sz : Nat) (self : Nat) (p0 : Int32) (p1 : Int32) (p2 : Int32) (M : Hp) (post : Hp → Prop) (hwp : wpSt_addFault self p0 p1 p2 M post) : Met l y_St_addFault ws_St_addFault rm_St_addFault (hPc D kCl (hTys κ) M sz [.ref self, .int p0, .int p1, .int p2]) (va_Qv post (hB D kCl (hTys κ) (hAx M sz)) (hAx M sz)) 0 0 (hAx M sz) := by
  refine Met.ofW (cc := prog_5_method_4_code) (maxL := 4) (ret := none) (by decide +kernel) rfl ?_
  intro p e s m args below meth c s₁ B hml hv
  obtain ⟨rfl, hsz, hE, hM0⟩ := hv
  have hts : ∀ w ∈ WG, w.before _ s = true := fun w h => atoms_spec (ws := ws_St_addFault) B.pre w (List.mem_cons_of_mem _ h)
  subst hsz
  have C : Cx_St_addFault p s m _ meth c D κ (hAx M s.heap.size) := ⟨B.exec, B.bytes, hml, B.returns, findClass_of_methodNamed B.named, hts, B.notSynchronized, hE, fun q h => Or.inr h⟩
  have hl := lv_entry ([.ref self, .int p0, .int p1, .int p2]) (n := 4) (Nat.le_of_ble_eq_true rfl)
  rw [lg_entry_eq]
  generalize (lg_sl ([.ref self, .int p0, .int p1, .int p2]) ++ List.replicate (4 - (lg_sl ([.ref self, .int p0, .int p1, .int p2])).length) Slot.unset).toArray = ls at hl ⊢
  exact eSt_addFault C post self p0 p1 p2 M hwp s.heap [] ls (hM0.self (sz := s.heap.size)) va_S.rf hl
abbrev rm_Pr_tell : Room := { frames := 0, cells := 0, slots := 0, locals := 0 }
def Cx_Pr_tell (p : Program) (s : State) (m : MethodId) (args : Array Value) (meth : Method) (c : Code) (D : va_G) (κ : Nat → ClassId) (A : Nat → Prop) : Prop := p.tables.exec = Jvm.exec ∧ c.code = prog_4_method_2_code ∧ c.maxLocals = 7 ∧ meth.sig.returnType = none ∧ s.vm.findClass "BuckTables$Product" = some m.cls ∧ (∀ w ∈ WG, w.before args s = true) ∧ meth.locks = false ∧ hEnv D kCl (hTys κ) A s ∧ (∀ q, s.heap.size ≤ q → A q)
def wpPr_tell (self : Nat) (p0 : Int32) (p1 : Int32) (p2 : Int32) (p3 : Int32) (p4 : Int64) (M : Hp) (post : Hp → Prop) : Prop := (∃ v1 : Int32, fI M self 2 0 v1 ∧ (∃ v5 : Int32, fI M self 2 0 v5 ∧ (¬ v5 = 0 ∧ (∃ M10 : Hp, pF M self 2 3 (.int (((p0 + v1) - (1 : Int32)) / v5)) M10 ∧ (∃ v14 : Int32, fI M10 self 2 0 v14 ∧ (¬ v14 = 0 ∧ (∃ M19 : Hp, pF M10 self 2 4 (.int (p1 / v14)) M19 ∧ (∃ M23 : Hp, pF M19 self 2 5 (.int p2) M23 ∧ (∃ M27 : Hp, pF M23 self 2 6 (.int p3) M27 ∧ (∃ M31 : Hp, pF M27 self 2 7 (.long p4) M31 ∧ (post M31)))))))))))
set_option maxRecDepth 100000 in
set_option maxHeartbeats 4000000 in
theorem ePr_tell {p : Program} {l : Launch} {e : Env} {s : State} {m : MethodId} {args : Array Value} {below : List Frame} {meth : Method} {c : Code} {D : va_G} {κ : Nat → ClassId} {A : Nat → Prop} (C : Cx_Pr_tell p s m args meth c D κ A) (post : Hp → Prop) (self : Nat) (p0 : Int32) (p1 : Int32) (p2 : Int32) (p3 : Int32) (p4 : Int64) (M : Hp) (hwp : wpPr_tell self p0 p1 p2 p3 p4 M post) : Y p l e rm_Pr_tell s m args below meth c D kCl (hTys κ) A 7 0 0 (MQ below (va_Qv post (hB D kCl (hTys κ) A) A) args s 0 0 A) M 0 [(0, .ref self), (1, .int p0), (2, .int p1), (3, .int p2), (4, .int p3), (5, .long p4)] [] := by
  obtain ⟨hx, hb, hml, hr, hown, hts, hlocks, hE, hA⟩ := id C
  have hK := hE.1
  intro H locs ls hM hS hl
  unfold wpPr_tell at hwp
  refine lv_aload_n hx hb d_Pr_tell_0 rfl (lv_at hl 0 rfl) ?_
  refine lv_iload_n hx hb d_Pr_tell_1 rfl (lv_at hl 1 rfl) ?_
  refine lv_aload_n hx hb d_Pr_tell_2 rfl (lv_at hl 0 rfl) ?_
  obtain ⟨v1, ⟨fs2, he3, hv4⟩, hwp⟩ := hwp
  refine h_get (C := "BuckTables$Product") (T := Tc2) (N := 10) hx hb hts inc2 hown hK hM he3 rfl 0 (by decide) (hts _ kw_159) (fun _ h9 => h9) hv4 d_Pr_tell_3 ?_
  refine lv_iadd hx hb d_Pr_tell_6 ?_
  refine lv_iconst (v := 1) hx hb d_Pr_tell_7 (by decide) ?_
  refine lv_isub hx hb d_Pr_tell_8 ?_
  refine lv_aload_n hx hb d_Pr_tell_9 rfl (lv_at hl 0 rfl) ?_
  obtain ⟨v5, ⟨fs6, he7, hv8⟩, hwp⟩ := hwp
  refine h_get (C := "BuckTables$Product") (T := Tc2) (N := 10) hx hb hts inc2 hown hK hM he7 rfl 0 (by decide) (hts _ kw_159) (fun _ h9 => h9) hv8 d_Pr_tell_10 ?_
  obtain ⟨h9, hwp⟩ := hwp
  refine lv_idiv hx hb d_Pr_tell_13 h9 ?_
  obtain ⟨M10, ⟨fs11, he12, hl13, eM10⟩, hwp⟩ := hwp
  refine h_put (C := "BuckTables$Product") (T := Tc2) (N := 10) (v := .int (((p0 + v1) - (1 : Int32)) / v5)) (ty := .int) hx hb hts inc2 tyc2 tyc2_ok nmc2 hown hK hM hS he12 rfl 3 (by decide) (hts _ kw_166) (fun _ h9 => h9) rfl (by decide +kernel) rfl rfl hl13 d_Pr_tell_14 (fun H locs hM hS => ?_)
  rw [← eM10] at hM
  refine lv_aload_n hx hb d_Pr_tell_17 rfl (lv_at hl 0 rfl) ?_
  refine lv_iload_n hx hb d_Pr_tell_18 rfl (lv_at hl 2 rfl) ?_
  refine lv_aload_n hx hb d_Pr_tell_19 rfl (lv_at hl 0 rfl) ?_
  obtain ⟨v14, ⟨fs15, he16, hv17⟩, hwp⟩ := hwp
  refine h_get (C := "BuckTables$Product") (T := Tc2) (N := 10) hx hb hts inc2 hown hK hM he16 rfl 0 (by decide) (hts _ kw_159) (fun _ h9 => h9) hv17 d_Pr_tell_20 ?_
  obtain ⟨h18, hwp⟩ := hwp
  refine lv_idiv hx hb d_Pr_tell_23 h18 ?_
  obtain ⟨M19, ⟨fs20, he21, hl22, eM19⟩, hwp⟩ := hwp
  refine h_put (C := "BuckTables$Product") (T := Tc2) (N := 10) (v := .int (p1 / v14)) (ty := .int) hx hb hts inc2 tyc2 tyc2_ok nmc2 hown hK hM hS he21 rfl 4 (by decide) (hts _ kw_168) (fun _ h9 => h9) rfl (by decide +kernel) rfl rfl hl22 d_Pr_tell_24 (fun H locs hM hS => ?_)
  rw [← eM19] at hM
  refine lv_aload_n hx hb d_Pr_tell_27 rfl (lv_at hl 0 rfl) ?_
  refine lv_iload_n hx hb d_Pr_tell_28 rfl (lv_at hl 3 rfl) ?_
  obtain ⟨M23, ⟨fs24, he25, hl26, eM23⟩, hwp⟩ := hwp
  refine h_put (C := "BuckTables$Product") (T := Tc2) (N := 10) (v := .int p2) (ty := .int) hx hb hts inc2 tyc2 tyc2_ok nmc2 hown hK hM hS he25 rfl 5 (by decide) (hts _ kw_170) (fun _ h9 => h9) rfl (by decide +kernel) rfl rfl hl26 d_Pr_tell_29 (fun H locs hM hS => ?_)
  rw [← eM23] at hM
  refine lv_aload_n hx hb d_Pr_tell_32 rfl (lv_at hl 0 rfl) ?_
  refine lv_iload hx hb d_Pr_tell_33 (lv_at hl 4 rfl) ?_
  obtain ⟨M27, ⟨fs28, he29, hl30, eM27⟩, hwp⟩ := hwp
  refine h_put (C := "BuckTables$Product") (T := Tc2) (N := 10) (v := .int p3) (ty := .int) hx hb hts inc2 tyc2 tyc2_ok nmc2 hown hK hM hS he29 rfl 6 (by decide) (hts _ kw_172) (fun _ h9 => h9) rfl (by decide +kernel) rfl rfl hl30 d_Pr_tell_35 (fun H locs hM hS => ?_)
  rw [← eM27] at hM
  refine lv_aload_n hx hb d_Pr_tell_38 rfl (lv_at hl 0 rfl) ?_
  refine lv_lload hx hb d_Pr_tell_39 (lv_at hl 5 rfl) ?_
  obtain ⟨M31, ⟨fs32, he33, hl34, eM31⟩, hwp⟩ := hwp
  refine h_put (C := "BuckTables$Product") (T := Tc2) (N := 10) (v := .long p4) (ty := .long) hx hb hts inc2 tyc2 tyc2_ok nmc2 hown hK hM hS he33 rfl 7 (by decide) (hts _ kw_174) (fun _ h9 => h9) rfl (by decide +kernel) rfl rfl hl34 d_Pr_tell_41 (fun H locs hM hS => ?_)
  rw [← eM31] at hM
  exact W.vret hx hb hr (fun t ht hW => ⟨⟨M31, rfl, hwp, by show hw D kCl (hTys κ) A M31 t.heap; rw [ht]; exact hM⟩, hS.F ht⟩) hS.2.2 d_Pr_tell_44
set_option maxRecDepth 100000 in
set_option maxHeartbeats 4000000 in
theorem metPr_tell (l : Launch) (D : va_G) (κ : Nat → ClassId) (sz : Nat) (self : Nat) (p0 : Int32) (p1 : Int32) (p2 : Int32) (p3 : Int32) (p4 : Int64) (M : Hp) (post : Hp → Prop) (hwp : wpPr_tell self p0 p1 p2 p3 p4 M post) : Met l y_Pr_tell ws_Pr_tell rm_Pr_tell (hPc D kCl (hTys κ) M sz [.ref self, .int p0, .int p1, .int p2, .int p3, .long p4]) (va_Qv post (hB D kCl (hTys κ) (hAx M sz)) (hAx M sz)) 0 0 (hAx M sz) := by
  refine Met.ofW (cc := prog_4_method_2_code) (maxL := 7) (ret := none) (by decide +kernel) rfl ?_
  intro p e s m args below meth c s₁ B hml hv
  obtain ⟨rfl, hsz, hE, hM0⟩ := hv
  have hts : ∀ w ∈ WG, w.before _ s = true := fun w h => atoms_spec (ws := ws_Pr_tell) B.pre w (List.mem_cons_of_mem _ h)
  subst hsz
  have C : Cx_Pr_tell p s m _ meth c D κ (hAx M s.heap.size) := ⟨B.exec, B.bytes, hml, B.returns, findClass_of_methodNamed B.named, hts, B.notSynchronized, hE, fun q h => Or.inr h⟩
  have hl := lv_entry ([.ref self, .int p0, .int p1, .int p2, .int p3, .long p4]) (n := 7) (Nat.le_of_ble_eq_true rfl)
  rw [lg_entry_eq]
  generalize (lg_sl ([.ref self, .int p0, .int p1, .int p2, .int p3, .long p4]) ++ List.replicate (7 - (lg_sl ([.ref self, .int p0, .int p1, .int p2, .int p3, .long p4])).length) Slot.unset).toArray = ls at hl ⊢
  exact ePr_tell C post self p0 p1 p2 p3 p4 M hwp s.heap [] ls (hM0.self (sz := s.heap.size)) va_S.rf hl
abbrev rm_St_endAt : Room := { frames := 0, cells := 0, slots := 0, locals := 0 }
def Cx_St_endAt (p : Program) (s : State) (m : MethodId) (args : Array Value) (meth : Method) (c : Code) (D : va_G) (κ : Nat → ClassId) (A : Nat → Prop) : Prop := p.tables.exec = Jvm.exec ∧ c.code = prog_5_method_5_code ∧ c.maxLocals = 3 ∧ meth.sig.returnType = (some .int) ∧ s.vm.findClass "BuckTables$Stem" = some m.cls ∧ (∀ w ∈ WG, w.before args s = true) ∧ meth.locks = false ∧ hEnv D kCl (hTys κ) A s ∧ (∀ q, s.heap.size ≤ q → A q)
def wSt_endAt_46 (post : Int32 → Hp → Prop)   (y0 : Int32) (M : Hp) : Prop := (post y0 M)
set_option maxRecDepth 100000 in
set_option maxHeartbeats 4000000 in
theorem tSt_endAt_46 {p : Program} {l : Launch} {e : Env} {s : State} {m : MethodId} {args : Array Value} {below : List Frame} {meth : Method} {c : Code} {D : va_G} {κ : Nat → ClassId} {A : Nat → Prop} (C : Cx_St_endAt p s m args meth c D κ A) (post : Int32 → Hp → Prop)   (y0 : Int32) (M : Hp) (hwp : wSt_endAt_46 post y0 M) : Y p l e rm_St_endAt s m args below meth c D kCl (hTys κ) A 3 0 0 (MQ below (va_Qi post (hB D kCl (hTys κ) A) A) args s 0 0 A) M 46 [] [.int y0] := by
  obtain ⟨hx, hb, hml, hr, hown, hts, hlocks, hE, hA⟩ := id C
  have hK := hE.1
  intro H locs ls hM hS hl
  unfold wSt_endAt_46 at hwp
  exact W.iret (v := y0) hx hb hr (fun t ht hW => ⟨⟨y0, M, rfl, hwp, by show hw D kCl (hTys κ) A M t.heap; rw [ht]; exact hM⟩, hS.F ht⟩) hS.2.2 d_St_endAt_46
def wSt_endAt_31 (post : Int32 → Hp → Prop)  (x0 : Nat) (x1 : Int32) (y0 : Int32) (M : Hp) : Prop := ((y0 = 0 → (wSt_endAt_46 post (-1 : Int32) M)) ∧ (¬ y0 = 0 → (∃ v2 : Int32, fI M x0 1 0 v2 ∧ (¬ v2 = 0 ∧ (wSt_endAt_46 post (x1 / v2) M)))))
set_option maxRecDepth 100000 in
set_option maxHeartbeats 4000000 in
theorem tSt_endAt_31 {p : Program} {l : Launch} {e : Env} {s : State} {m : MethodId} {args : Array Value} {below : List Frame} {meth : Method} {c : Code} {D : va_G} {κ : Nat → ClassId} {A : Nat → Prop} (C : Cx_St_endAt p s m args meth c D κ A) (post : Int32 → Hp → Prop)  (x0 : Nat) (x1 : Int32) (y0 : Int32) (M : Hp) (hwp : wSt_endAt_31 post x0 x1 y0 M) : Y p l e rm_St_endAt s m args below meth c D kCl (hTys κ) A 3 0 0 (MQ below (va_Qi post (hB D kCl (hTys κ) A) A) args s 0 0 A) M 31 [(0, .ref x0), (1, .int x1)] [.int y0] := by
  obtain ⟨hx, hb, hml, hr, hown, hts, hlocks, hE, hA⟩ := id C
  have hK := hE.1
  intro H locs ls hM hS hl
  unfold wSt_endAt_31 at hwp
  refine lv_istore_n (lv' := [(2, .int y0), (0, .ref x0), (1, .int x1)]) hx hb d_St_endAt_31 rfl hl (by decide) rfl (fun ls hl => ?_)
  refine lv_iload_n hx hb d_St_endAt_32 rfl (lv_at hl 0 rfl) ?_
  refine lv_if_eq (tgt := 45) hx hb d_St_endAt_33 (by decide) (fun c1 => ?_) (fun c1 => ?_)
  · replace hwp := hwp.1 c1
    refine lv_iconst (v := -1) hx hb d_St_endAt_45 (by decide) ?_
    exact tSt_endAt_46 C post (-1 : Int32) M hwp H locs ls hM hS (lv_sub hl [] rfl)
  · replace hwp := hwp.2 c1
    refine lv_iload_n hx hb d_St_endAt_36 rfl (lv_at hl 2 rfl) ?_
    refine lv_aload_n hx hb d_St_endAt_37 rfl (lv_at hl 1 rfl) ?_
    obtain ⟨v2, ⟨fs3, he4, hv5⟩, hwp⟩ := hwp
    refine h_get (C := "BuckTables$Stem") (T := Tc1) (N := 12) hx hb hts inc1 hown hK hM he4 rfl 0 (by decide) (hts _ kw_110) (fun _ h9 => h9) hv5 d_St_endAt_38 ?_
    obtain ⟨h6, hwp⟩ := hwp
    refine lv_idiv hx hb d_St_endAt_41 h6 ?_
    refine lv_goto (tgt := 46) hx hb d_St_endAt_42 (by decide) ?_
    exact tSt_endAt_46 C post (x1 / v2) M hwp H locs ls hM hS (lv_sub hl [] rfl)
def wSt_endAt_30 (post : Int32 → Hp → Prop)  (x0 : Nat) (x1 : Int32) (M : Hp) : Prop := (wSt_endAt_31 post x0 x1 (0 : Int32) M)
set_option maxRecDepth 100000 in
set_option maxHeartbeats 4000000 in
theorem tSt_endAt_30 {p : Program} {l : Launch} {e : Env} {s : State} {m : MethodId} {args : Array Value} {below : List Frame} {meth : Method} {c : Code} {D : va_G} {κ : Nat → ClassId} {A : Nat → Prop} (C : Cx_St_endAt p s m args meth c D κ A) (post : Int32 → Hp → Prop)  (x0 : Nat) (x1 : Int32) (M : Hp) (hwp : wSt_endAt_30 post x0 x1 M) : Y p l e rm_St_endAt s m args below meth c D kCl (hTys κ) A 3 0 0 (MQ below (va_Qi post (hB D kCl (hTys κ) A) A) args s 0 0 A) M 30 [(0, .ref x0), (1, .int x1)] [] := by
  obtain ⟨hx, hb, hml, hr, hown, hts, hlocks, hE, hA⟩ := id C
  have hK := hE.1
  intro H locs ls hM hS hl
  unfold wSt_endAt_30 at hwp
  refine lv_iconst (v := 0) hx hb d_St_endAt_30 (by decide) ?_
  exact tSt_endAt_31 C post x0 x1 (0 : Int32) M hwp H locs ls hM hS (lv_sub hl [0, 1] rfl)
def wpSt_endAt (self : Nat) (p0 : Int32) (M : Hp) (post : Int32 → Hp → Prop) : Prop := ((p0 ≤ 0 → (wSt_endAt_30 post self p0 M)) ∧ (¬ p0 ≤ 0 → (∃ v8 : Int32, fI M self 1 0 v8 ∧ (¬ v8 = 0 ∧ (((p0 - p0 / v8 * v8) = 0 → (∃ v14 : Int32, fI M self 1 0 v14 ∧ (¬ v14 = 0 ∧ (∃ v19 : Int32, fI M self 1 11 v19 ∧ ((v19 < (p0 / v14) → (wSt_endAt_30 post self p0 M)) ∧ (¬ v19 < (p0 / v14) → (wSt_endAt_31 post self p0 (1 : Int32) M))))))) ∧ (¬ (p0 - p0 / v8 * v8) = 0 → (wSt_endAt_30 post self p0 M)))))))
set_option maxRecDepth 100000 in
set_option maxHeartbeats 4000000 in
theorem eSt_endAt {p : Program} {l : Launch} {e : Env} {s : State} {m : MethodId} {args : Array Value} {below : List Frame} {meth : Method} {c : Code} {D : va_G} {κ : Nat → ClassId} {A : Nat → Prop} (C : Cx_St_endAt p s m args meth c D κ A) (post : Int32 → Hp → Prop) (self : Nat) (p0 : Int32) (M : Hp) (hwp : wpSt_endAt self p0 M post) : Y p l e rm_St_endAt s m args below meth c D kCl (hTys κ) A 3 0 0 (MQ below (va_Qi post (hB D kCl (hTys κ) A) A) args s 0 0 A) M 0 [(0, .ref self), (1, .int p0)] [] := by
  obtain ⟨hx, hb, hml, hr, hown, hts, hlocks, hE, hA⟩ := id C
  have hK := hE.1
  intro H locs ls hM hS hl
  unfold wpSt_endAt at hwp
  refine lv_iload_n hx hb d_St_endAt_0 rfl (lv_at hl 1 rfl) ?_
  refine lv_if_le (tgt := 30) hx hb d_St_endAt_1 (by decide) (fun c7 => ?_) (fun c7 => ?_)
  · replace hwp := hwp.1 c7
    exact tSt_endAt_30 C post self p0 M hwp H locs ls hM hS (lv_sub hl [0, 1] rfl)
  · replace hwp := hwp.2 c7
    refine lv_iload_n hx hb d_St_endAt_4 rfl (lv_at hl 1 rfl) ?_
    refine lv_aload_n hx hb d_St_endAt_5 rfl (lv_at hl 0 rfl) ?_
    obtain ⟨v8, ⟨fs9, he10, hv11⟩, hwp⟩ := hwp
    refine h_get (C := "BuckTables$Stem") (T := Tc1) (N := 12) hx hb hts inc1 hown hK hM he10 rfl 0 (by decide) (hts _ kw_110) (fun _ h9 => h9) hv11 d_St_endAt_6 ?_
    obtain ⟨h12, hwp⟩ := hwp
    refine lv_irem hx hb d_St_endAt_9 h12 ?_
    refine lv_if_ne (tgt := 30) hx hb d_St_endAt_10 (by decide) (fun c13 => ?_) (fun c13 => ?_)
    · replace hwp := hwp.2 c13
      exact tSt_endAt_30 C post self p0 M hwp H locs ls hM hS (lv_sub hl [0, 1] rfl)
    · replace hwp := hwp.1 c13
      refine lv_iload_n hx hb d_St_endAt_13 rfl (lv_at hl 1 rfl) ?_
      refine lv_aload_n hx hb d_St_endAt_14 rfl (lv_at hl 0 rfl) ?_
      obtain ⟨v14, ⟨fs15, he16, hv17⟩, hwp⟩ := hwp
      refine h_get (C := "BuckTables$Stem") (T := Tc1) (N := 12) hx hb hts inc1 hown hK hM he16 rfl 0 (by decide) (hts _ kw_110) (fun _ h9 => h9) hv17 d_St_endAt_15 ?_
      obtain ⟨h18, hwp⟩ := hwp
      refine lv_idiv hx hb d_St_endAt_18 h18 ?_
      refine lv_aload_n hx hb d_St_endAt_19 rfl (lv_at hl 0 rfl) ?_
      obtain ⟨v19, ⟨fs20, he21, hv22⟩, hwp⟩ := hwp
      refine h_get (C := "BuckTables$Stem") (T := Tc1) (N := 12) hx hb hts inc1 hown hK hM he21 rfl 11 (by decide) (hts _ kw_125) (fun _ h9 => h9) hv22 d_St_endAt_20 ?_
      refine lv_icmp_gt (tgt := 30) hx hb d_St_endAt_23 (by decide) (fun c23 => ?_) (fun c23 => ?_)
      · replace hwp := hwp.1 c23
        exact tSt_endAt_30 C post self p0 M hwp H locs ls hM hS (lv_sub hl [0, 1] rfl)
      · replace hwp := hwp.2 c23
        refine lv_iconst (v := 1) hx hb d_St_endAt_26 (by decide) ?_
        refine lv_goto (tgt := 31) hx hb d_St_endAt_27 (by decide) ?_
        exact tSt_endAt_31 C post self p0 (1 : Int32) M hwp H locs ls hM hS (lv_sub hl [0, 1] rfl)
set_option maxRecDepth 100000 in
set_option maxHeartbeats 4000000 in
theorem metSt_endAt (l : Launch) (D : va_G) (κ : Nat → ClassId) (sz : Nat) (self : Nat) (p0 : Int32) (M : Hp) (post : Int32 → Hp → Prop) (hwp : wpSt_endAt self p0 M post) : Met l y_St_endAt ws_St_endAt rm_St_endAt (hPc D kCl (hTys κ) M sz [.ref self, .int p0]) (va_Qi post (hB D kCl (hTys κ) (hAx M sz)) (hAx M sz)) 0 0 (hAx M sz) := by
  refine Met.ofW (cc := prog_5_method_5_code) (maxL := 3) (ret := (some .int)) (by decide +kernel) rfl ?_
  intro p e s m args below meth c s₁ B hml hv
  obtain ⟨rfl, hsz, hE, hM0⟩ := hv
  have hts : ∀ w ∈ WG, w.before _ s = true := fun w h => atoms_spec (ws := ws_St_endAt) B.pre w (List.mem_cons_of_mem _ h)
  subst hsz
  have C : Cx_St_endAt p s m _ meth c D κ (hAx M s.heap.size) := ⟨B.exec, B.bytes, hml, B.returns, findClass_of_methodNamed B.named, hts, B.notSynchronized, hE, fun q h => Or.inr h⟩
  have hl := lv_entry ([.ref self, .int p0]) (n := 3) (Nat.le_of_ble_eq_true rfl)
  rw [lg_entry_eq]
  generalize (lg_sl ([.ref self, .int p0]) ++ List.replicate (3 - (lg_sl ([.ref self, .int p0])).length) Slot.unset).toArray = ls at hl ⊢
  exact eSt_endAt C post self p0 M hwp s.heap [] ls (hM0.self (sz := s.heap.size)) va_S.rf hl
abbrev rm_BT_forceLatest : Room := { frames := 1, cells := 0, slots := 0, locals := 22 }
def Cx_BT_forceLatest (p : Program) (s : State) (m : MethodId) (args : Array Value) (meth : Method) (c : Code) (D : va_G) (κ : Nat → ClassId) (A : Nat → Prop) : Prop := p.tables.exec = Jvm.exec ∧ c.code = prog_1_method_27_code ∧ c.maxLocals = 4 ∧ meth.sig.returnType = (some .boolean) ∧ s.vm.findClass "BuckTables" = some m.cls ∧ (∀ w ∈ WG, w.before args s = true) ∧ meth.locks = false ∧ hEnv D kCl (hTys κ) A s ∧ (∀ q, s.heap.size ≤ q → A q)
def wBT_forceLatest_25 (post : Int32 → Hp → Prop)   (M : Hp) : Prop := (post (0 : Int32) M)
set_option maxRecDepth 100000 in
set_option maxHeartbeats 4000000 in
theorem tBT_forceLatest_25 {p : Program} {l : Launch} {e : Env} {s : State} {m : MethodId} {args : Array Value} {below : List Frame} {meth : Method} {c : Code} {D : va_G} {κ : Nat → ClassId} {A : Nat → Prop} (C : Cx_BT_forceLatest p s m args meth c D κ A) (post : Int32 → Hp → Prop)   (M : Hp) (hwp : wBT_forceLatest_25 post  M) : Y p l e rm_BT_forceLatest s m args below meth c D kCl (hTys κ) A 4 0 0 (MQ below (va_Qi post (hB D kCl (hTys κ) A) A) args s 0 0 A) M 25 [] [] := by
  obtain ⟨hx, hb, hml, hr, hown, hts, hlocks, hE, hA⟩ := id C
  have hK := hE.1
  intro H locs ls hM hS hl
  unfold wBT_forceLatest_25 at hwp
  refine lv_iconst (v := 0) hx hb d_BT_forceLatest_25 (by decide) ?_
  exact W.zret (v := (0 : Int32)) hx hb hr (by decide) (fun t ht hW => ⟨⟨(0 : Int32), M, rfl, hwp, by show hw D kCl (hTys κ) A M t.heap; rw [ht]; exact hM⟩, hS.F ht⟩) hS.2.2 d_BT_forceLatest_26
def wpBT_forceLatest (self : Nat) (p0 : Int32) (M : Hp) (post : Int32 → Hp → Prop) : Prop := (hob M self 0 ∧ (wpBT_latestStem self M (fun (a3 : Nat) (M1 : Hp) => (hob M1 a3 1 ∧ (wpSt_endAt a3 p0 M1 (fun (r6 : Int32) (M4 : Hp) => ((r6 = (-1 : Int32) → (wBT_forceLatest_25 post M4)) ∧ (¬ r6 = (-1 : Int32) → (∃ a8 : Nat, fA M4 a3 1 7 a8 ∧ (∃ v12 : Int32, aZ M4 a8 r6 v12 ∧ ((v12 = 0 → (∃ a18 : Nat, fA M4 a3 1 7 a18 ∧ (∃ M26 : Hp, sZ M4 a18 r6 (1 : Int32) M26 ∧ (post (1 : Int32) M26)))) ∧ (¬ v12 = 0 → (wBT_forceLatest_25 post M4)))))))))))))
set_option maxRecDepth 100000 in
set_option maxHeartbeats 4000000 in
theorem eBT_forceLatest {p : Program} {l : Launch} {e : Env} {s : State} {m : MethodId} {args : Array Value} {below : List Frame} {meth : Method} {c : Code} {D : va_G} {κ : Nat → ClassId} {A : Nat → Prop} (C : Cx_BT_forceLatest p s m args meth c D κ A) (post : Int32 → Hp → Prop) (self : Nat) (p0 : Int32) (M : Hp) (hwp : wpBT_forceLatest self p0 M post) : Y p l e rm_BT_forceLatest s m args below meth c D kCl (hTys κ) A 4 0 0 (MQ below (va_Qi post (hB D kCl (hTys κ) A) A) args s 0 0 A) M 0 [(0, .ref self), (1, .int p0)] [] := by
  obtain ⟨hx, hb, hml, hr, hown, hts, hlocks, hE, hA⟩ := id C
  have hK := hE.1
  intro H locs ls hM hS hl
  unfold wpBT_forceLatest at hwp
  refine lv_aload_n hx hb d_BT_forceLatest_0 rfl (lv_at hl 0 rfl) ?_
  obtain ⟨ho2, hwp⟩ := hwp
  refine h_callr hM hS hA (va_runV (As := []) (rest := []) ⟨hx, hb, hml, hown, hts⟩ (metBT_latestStem l D κ H.size self M _ hwp) (cwV 0 hts (gV kw_344 kw_346 kp_8 kw_1 kw_347) rfl rfl rfl (by decide +kernel) ⟨(Nat.le_of_ble_eq_true rfl), (Nat.le_of_ble_eq_true rfl)⟩) (h_preV hE hM hS ho2 (r := ("BuckTables", Tc0, 12)) rfl) rfl rfl hl.1 rfl (lv_room (Nat.le_of_ble_eq_true rfl)) d_BT_forceLatest_1 ⟨(Nat.le_of_ble_eq_true rfl), (Nat.le_of_ble_eq_true rfl)⟩) (fun a3 M1 H locs hwp hM hS => ?_)
  refine lv_astore_n (lv' := [(2, .ref a3), (0, .ref self), (1, .int p0)]) hx hb d_BT_forceLatest_4 rfl hl (by decide) rfl (fun ls hl => ?_)
  refine lv_aload_n hx hb d_BT_forceLatest_5 rfl (lv_at hl 0 rfl) ?_
  refine lv_iload_n hx hb d_BT_forceLatest_6 rfl (lv_at hl 2 rfl) ?_
  obtain ⟨ho5, hwp⟩ := hwp
  refine h_calli hM hS hA (va_runV (As := [.int p0]) (rest := []) ⟨hx, hb, hml, hown, hts⟩ (metSt_endAt l D κ H.size a3 p0 M1 _ hwp) (cwV 1 hts (gV kw_523 kw_524 kw_525 kw_6 kw_526) rfl rfl rfl (by decide +kernel) ⟨(Nat.le_of_ble_eq_true rfl), (Nat.le_of_ble_eq_true rfl)⟩) (h_preV hE hM hS ho5 (r := ("BuckTables$Stem", Tc1, 12)) rfl) rfl rfl hl.1 rfl (lv_room (Nat.le_of_ble_eq_true rfl)) d_BT_forceLatest_7 ⟨(Nat.le_of_ble_eq_true rfl), (Nat.le_of_ble_eq_true rfl)⟩) (fun r6 M4 H locs hwp hM hS => ?_)
  refine lv_istore_n (lv' := [(3, .int r6), (2, .ref a3), (0, .ref self), (1, .int p0)]) hx hb d_BT_forceLatest_10 rfl hl (by decide) rfl (fun ls hl => ?_)
  refine lv_iload_n hx hb d_BT_forceLatest_11 rfl (lv_at hl 0 rfl) ?_
  refine lv_iconst (v := -1) hx hb d_BT_forceLatest_12 (by decide) ?_
  refine lv_icmp_eq (tgt := 25) hx hb d_BT_forceLatest_13 (by decide) (fun c7 => ?_) (fun c7 => ?_)
  · replace hwp := hwp.1 c7
    exact tBT_forceLatest_25 C post M4 hwp H locs ls hM hS (lv_sub hl [] rfl)
  · replace hwp := hwp.2 c7
    refine lv_aload_n hx hb d_BT_forceLatest_16 rfl (lv_at hl 1 rfl) ?_
    obtain ⟨a8, ⟨fs9, he10, hv11⟩, hwp⟩ := hwp
    refine h_get (C := "BuckTables$Stem") (T := Tc1) (N := 12) hx hb hts inc1 hown hK hM he10 rfl 7 (by decide) (hts _ kw_118) (fun _ h9 => h9) hv11 d_BT_forceLatest_17 ?_
    refine lv_iload_n hx hb d_BT_forceLatest_20 rfl (lv_at hl 0 rfl) ?_
    obtain ⟨v12, ⟨n13, f14, ha15, hi16, ev12⟩, hwp⟩ := hwp
    refine h_zald hx hb hK hM ha15 rfl hi16 d_BT_forceLatest_21 ?_
    rw [← ev12]
    refine lv_if_eq (tgt := 27) hx hb d_BT_forceLatest_22 (by decide) (fun c17 => ?_) (fun c17 => ?_)
    · replace hwp := hwp.1 c17
      refine lv_aload_n hx hb d_BT_forceLatest_27 rfl (lv_at hl 1 rfl) ?_
      obtain ⟨a18, ⟨fs19, he20, hv21⟩, hwp⟩ := hwp
      refine h_get (C := "BuckTables$Stem") (T := Tc1) (N := 12) hx hb hts inc1 hown hK hM he20 rfl 7 (by decide) (hts _ kw_118) (fun _ h9 => h9) hv21 d_BT_forceLatest_28 ?_
      refine lv_iload_n hx hb d_BT_forceLatest_31 rfl (lv_at hl 0 rfl) ?_
      refine lv_iconst (v := 1) hx hb d_BT_forceLatest_32 (by decide) ?_
      obtain ⟨M26, ⟨n22, f23, ha24, hi25, eM26⟩, hwp⟩ := hwp
      refine h_zast hx hb hK hM hS ha24 rfl hi25 d_BT_forceLatest_33 (fun H locs hM hS => ?_)
      rw [← eM26] at hM
      refine lv_iconst (v := 1) hx hb d_BT_forceLatest_34 (by decide) ?_
      exact W.zret (v := (1 : Int32)) hx hb hr (by decide) (fun t ht hW => ⟨⟨(1 : Int32), M26, rfl, hwp, by show hw D kCl (hTys κ) A M26 t.heap; rw [ht]; exact hM⟩, hS.F ht⟩) hS.2.2 d_BT_forceLatest_35
    · replace hwp := hwp.2 c17
      exact tBT_forceLatest_25 C post M4 hwp H locs ls hM hS (lv_sub hl [] rfl)
set_option maxRecDepth 100000 in
set_option maxHeartbeats 4000000 in
theorem metBT_forceLatest (l : Launch) (D : va_G) (κ : Nat → ClassId) (sz : Nat) (self : Nat) (p0 : Int32) (M : Hp) (post : Int32 → Hp → Prop) (hwp : wpBT_forceLatest self p0 M post) : Met l y_BT_forceLatest ws_BT_forceLatest rm_BT_forceLatest (hPc D kCl (hTys κ) M sz [.ref self, .int p0]) (va_Qi post (hB D kCl (hTys κ) (hAx M sz)) (hAx M sz)) 0 0 (hAx M sz) := by
  refine Met.ofW (cc := prog_1_method_27_code) (maxL := 4) (ret := (some .boolean)) (by decide +kernel) rfl ?_
  intro p e s m args below meth c s₁ B hml hv
  obtain ⟨rfl, hsz, hE, hM0⟩ := hv
  have hts : ∀ w ∈ WG, w.before _ s = true := fun w h => atoms_spec (ws := ws_BT_forceLatest) B.pre w (List.mem_cons_of_mem _ h)
  subst hsz
  have C : Cx_BT_forceLatest p s m _ meth c D κ (hAx M s.heap.size) := ⟨B.exec, B.bytes, hml, B.returns, findClass_of_methodNamed B.named, hts, B.notSynchronized, hE, fun q h => Or.inr h⟩
  have hl := lv_entry ([.ref self, .int p0]) (n := 4) (Nat.le_of_ble_eq_true rfl)
  rw [lg_entry_eq]
  generalize (lg_sl ([.ref self, .int p0]) ++ List.replicate (4 - (lg_sl ([.ref self, .int p0])).length) Slot.unset).toArray = ls at hl ⊢
  exact eBT_forceLatest C post self p0 M hwp s.heap [] ls (hM0.self (sz := s.heap.size)) va_S.rf hl
abbrev rm_St_reachByLengthAndCuts : Room := { frames := 1, cells := 0, slots := 0, locals := 23 }
def Cx_St_reachByLengthAndCuts (p : Program) (s : State) (m : MethodId) (args : Array Value) (meth : Method) (c : Code) (D : va_G) (κ : Nat → ClassId) (A : Nat → Prop) : Prop := p.tables.exec = Jvm.exec ∧ c.code = prog_5_method_7_code ∧ c.maxLocals = 5 ∧ meth.sig.returnType = none ∧ s.vm.findClass "BuckTables$Stem" = some m.cls ∧ (∀ w ∈ WG, w.before args s = true) ∧ meth.locks = false ∧ hEnv D kCl (hTys κ) A s ∧ (∀ q, s.heap.size ≤ q → A q)
def wSt_reachByLengthAndCuts_35 (post : Hp → Prop) (k13 : Nat → Nat → Nat → Int32 → Int32 → Hp → Prop) (x0 : Nat) (x1 : Nat) (x2 : Nat) (x3 : Int32) (x4 : Int32) (M : Hp) : Prop := (∃ v1 : Int32, fI M x2 2 4 v1 ∧ (∃ M9 : Hp, sI M x1 x4 (if (x4 + v1) < x3 then (x4 + v1) else x3) M9 ∧ (∀ z10 : Int32, z10 = x4 + (-1) → (k13 x0 x1 x2 x3 z10 M9))))
set_option maxRecDepth 100000 in
set_option maxHeartbeats 4000000 in
theorem tSt_reachByLengthAndCuts_35 {p : Program} {l : Launch} {e : Env} {s : State} {m : MethodId} {args : Array Value} {below : List Frame} {meth : Method} {c : Code} {D : va_G} {κ : Nat → ClassId} {A : Nat → Prop} (C : Cx_St_reachByLengthAndCuts p s m args meth c D κ A) (post : Hp → Prop) (k13 : Nat → Nat → Nat → Int32 → Int32 → Hp → Prop) (hk13 : ∀ (x0 : Nat) (x1 : Nat) (x2 : Nat) (x3 : Int32) (x4 : Int32) (M : Hp), k13 x0 x1 x2 x3 x4 M → Y p l e rm_St_reachByLengthAndCuts s m args below meth c D kCl (hTys κ) A 5 0 0 (MQ below (va_Qv post (hB D kCl (hTys κ) A) A) args s 0 0 A) M 13 [(0, .ref x0), (1, .ref x1), (2, .ref x2), (3, .int x3), (4, .int x4)] []) (x0 : Nat) (x1 : Nat) (x2 : Nat) (x3 : Int32) (x4 : Int32) (M : Hp) (hwp : wSt_reachByLengthAndCuts_35 post k13 x0 x1 x2 x3 x4 M) : Y p l e rm_St_reachByLengthAndCuts s m args below meth c D kCl (hTys κ) A 5 0 0 (MQ below (va_Qv post (hB D kCl (hTys κ) A) A) args s 0 0 A) M 35 [(0, .ref x0), (1, .ref x1), (2, .ref x2), (3, .int x3), (4, .int x4)] [] := by
  obtain ⟨hx, hb, hml, hr, hown, hts, hlocks, hE, hA⟩ := id C
  have hK := hE.1
  intro H locs ls hM hS hl
  unfold wSt_reachByLengthAndCuts_35 at hwp
  refine lv_aload_n hx hb d_St_reachByLengthAndCuts_35 rfl (lv_at hl 1 rfl) ?_
  refine lv_iload hx hb d_St_reachByLengthAndCuts_36 (lv_at hl 4 rfl) ?_
  refine lv_iload_n hx hb d_St_reachByLengthAndCuts_38 rfl (lv_at hl 3 rfl) ?_
  refine lv_iload hx hb d_St_reachByLengthAndCuts_39 (lv_at hl 4 rfl) ?_
  refine lv_aload_n hx hb d_St_reachByLengthAndCuts_41 rfl (lv_at hl 2 rfl) ?_
  obtain ⟨v1, ⟨fs2, he3, hv4⟩, hwp⟩ := hwp
  refine h_get (C := "BuckTables$Product") (T := Tc2) (N := 10) hx hb hts inc2 hown hK hM he3 rfl 4 (by decide) (hts _ kw_169) (fun _ h9 => h9) hv4 d_St_reachByLengthAndCuts_42 ?_
  refine lv_iadd hx hb d_St_reachByLengthAndCuts_45 ?_
  refine va_mmin hx hb (show c.maxLocals = ls.size by rw [hml, hl.1]) hown (hts _ kw_259) (hts _ kw_97) (hts _ kw_5) (hts _ kw_98) (Nat.le_of_ble_eq_true rfl) (Nat.le_of_ble_eq_true rfl) (Nat.le_of_ble_eq_true rfl) (Nat.le_of_ble_eq_true rfl) d_St_reachByLengthAndCuts_46 ?_
  obtain ⟨M9, ⟨n5, f6, ha7, hi8, eM9⟩, hwp⟩ := hwp
  refine h_iast hx hb hK hM hS ha7 rfl hi8 d_St_reachByLengthAndCuts_49 (fun H locs hM hS => ?_)
  rw [← eM9] at hM
  obtain ⟨z10, ez10⟩ : ∃ y : Int32, y = x4 + (-1) := ⟨_, rfl⟩
  replace hwp := hwp z10 ez10
  refine lv_iinc (v := z10) (lv' := [(4, .int z10), (0, .ref x0), (1, .ref x1), (2, .ref x2), (3, .int x3)]) hx hb d_St_reachByLengthAndCuts_50 hl (k := 4) rfl (by rw [ez10]; rfl) (by decide) rfl (fun ls hl => ?_)
  refine lv_goto (tgt := 13) hx hb d_St_reachByLengthAndCuts_53 (by decide) ?_
  exact hk13 x0 x1 x2 x3 z10 M9 hwp H locs ls hM hS (lv_sub hl [1, 2, 3, 4, 0] rfl)
def wSt_reachByLengthAndCuts_13 (post : Hp → Prop)  : Nat → Nat → Nat → Nat → Int32 → Int32 → Hp → Prop
  | 0 => fun _ _ _ _ _ _ => False
  | n + 1 => fun x0 x1 x2 x3 x4 M => ((x4 < 0 → (post M)) ∧ (¬ x4 < 0 → (∃ a12 : Nat, fA M x0 1 7 a12 ∧ (∃ v16 : Int32, aZ M a12 (x4 + (1 : Int32)) v16 ∧ ((v16 = 0 → (wSt_reachByLengthAndCuts_35 post (wSt_reachByLengthAndCuts_13 post n) x0 x1 x2 x3 x4 M)) ∧ (¬ v16 = 0 → (∀ z22 : Int32, z22 = (x4 + (1 : Int32)) → (wSt_reachByLengthAndCuts_35 post (wSt_reachByLengthAndCuts_13 post n) x0 x1 x2 z22 x4 M))))))))
set_option maxRecDepth 100000 in
set_option maxHeartbeats 4000000 in
theorem tSt_reachByLengthAndCuts_13 {p : Program} {l : Launch} {e : Env} {s : State} {m : MethodId} {args : Array Value} {below : List Frame} {meth : Method} {c : Code} {D : va_G} {κ : Nat → ClassId} {A : Nat → Prop} (C : Cx_St_reachByLengthAndCuts p s m args meth c D κ A) (post : Hp → Prop)  : ∀ (n : Nat) (x0 : Nat) (x1 : Nat) (x2 : Nat) (x3 : Int32) (x4 : Int32) (M : Hp), wSt_reachByLengthAndCuts_13 post n x0 x1 x2 x3 x4 M → Y p l e rm_St_reachByLengthAndCuts s m args below meth c D kCl (hTys κ) A 5 0 0 (MQ below (va_Qv post (hB D kCl (hTys κ) A) A) args s 0 0 A) M 13 [(0, .ref x0), (1, .ref x1), (2, .ref x2), (3, .int x3), (4, .int x4)] [] := by
  obtain ⟨hx, hb, hml, hr, hown, hts, hlocks, hE, hA⟩ := id C
  have hK := hE.1
  intro n
  induction n with
  | zero => intro x0 x1 x2 x3 x4 M hwp; exact hwp.elim
  | succ n ih =>
    intro x0 x1 x2 x3 x4 M hwp H locs ls hM hS hl
    unfold wSt_reachByLengthAndCuts_13 at hwp
    refine lv_iload hx hb d_St_reachByLengthAndCuts_13 (lv_at hl 4 rfl) ?_
    refine lv_if_lt (tgt := 56) hx hb d_St_reachByLengthAndCuts_15 (by decide) (fun c11 => ?_) (fun c11 => ?_)
    · replace hwp := hwp.1 c11
      exact W.vret hx hb hr (fun t ht hW => ⟨⟨M, rfl, hwp, by show hw D kCl (hTys κ) A M t.heap; rw [ht]; exact hM⟩, hS.F ht⟩) hS.2.2 d_St_reachByLengthAndCuts_56
    · replace hwp := hwp.2 c11
      refine lv_aload_n hx hb d_St_reachByLengthAndCuts_18 rfl (lv_at hl 0 rfl) ?_
      obtain ⟨a12, ⟨fs13, he14, hv15⟩, hwp⟩ := hwp
      refine h_get (C := "BuckTables$Stem") (T := Tc1) (N := 12) hx hb hts inc1 hown hK hM he14 rfl 7 (by decide) (hts _ kw_117) (fun _ h9 => h9) hv15 d_St_reachByLengthAndCuts_19 ?_
      refine lv_iload hx hb d_St_reachByLengthAndCuts_22 (lv_at hl 4 rfl) ?_
      refine lv_iconst (v := 1) hx hb d_St_reachByLengthAndCuts_24 (by decide) ?_
      refine lv_iadd hx hb d_St_reachByLengthAndCuts_25 ?_
      obtain ⟨v16, ⟨n17, f18, ha19, hi20, ev16⟩, hwp⟩ := hwp
      refine h_zald hx hb hK hM ha19 rfl hi20 d_St_reachByLengthAndCuts_26 ?_
      rw [← ev16]
      refine lv_if_eq (tgt := 35) hx hb d_St_reachByLengthAndCuts_27 (by decide) (fun c21 => ?_) (fun c21 => ?_)
      · replace hwp := hwp.1 c21
        exact tSt_reachByLengthAndCuts_35 C post (wSt_reachByLengthAndCuts_13 post n) ih x0 x1 x2 x3 x4 M hwp H locs ls hM hS (lv_sub hl [0, 1, 2, 3, 4] rfl)
      · replace hwp := hwp.2 c21
        refine lv_iload hx hb d_St_reachByLengthAndCuts_30 (lv_at hl 4 rfl) ?_
        refine lv_iconst (v := 1) hx hb d_St_reachByLengthAndCuts_32 (by decide) ?_
        refine lv_iadd hx hb d_St_reachByLengthAndCuts_33 ?_
        refine lv_topi (fun z22 ez22 => ?_)
        replace hwp := hwp z22 ez22
        refine lv_istore_n (lv' := [(3, .int z22), (0, .ref x0), (1, .ref x1), (2, .ref x2), (4, .int x4)]) hx hb d_St_reachByLengthAndCuts_34 rfl hl (by decide) rfl (fun ls hl => ?_)
        exact tSt_reachByLengthAndCuts_35 C post (wSt_reachByLengthAndCuts_13 post n) ih x0 x1 x2 z22 x4 M hwp H locs ls hM hS (lv_sub hl [1, 2, 3, 0, 4] rfl)
def wpSt_reachByLengthAndCuts (self : Nat) (p0 : Nat) (p1 : Nat) (M : Hp) (post : Hp → Prop) : Prop := (∃ v23 : Int32, fI M self 1 11 v23 ∧ (∃ v27 : Int32, fI M self 1 11 v27 ∧ (∀ z31 : Int32, z31 = (v27 - (1 : Int32)) → (∃ n32 : Nat, wSt_reachByLengthAndCuts_13 post n32 self p0 p1 v23 z31 M))))
set_option maxRecDepth 100000 in
set_option maxHeartbeats 4000000 in
theorem eSt_reachByLengthAndCuts {p : Program} {l : Launch} {e : Env} {s : State} {m : MethodId} {args : Array Value} {below : List Frame} {meth : Method} {c : Code} {D : va_G} {κ : Nat → ClassId} {A : Nat → Prop} (C : Cx_St_reachByLengthAndCuts p s m args meth c D κ A) (post : Hp → Prop) (self : Nat) (p0 : Nat) (p1 : Nat) (M : Hp) (hwp : wpSt_reachByLengthAndCuts self p0 p1 M post) : Y p l e rm_St_reachByLengthAndCuts s m args below meth c D kCl (hTys κ) A 5 0 0 (MQ below (va_Qv post (hB D kCl (hTys κ) A) A) args s 0 0 A) M 0 [(0, .ref self), (1, .ref p0), (2, .ref p1)] [] := by
  obtain ⟨hx, hb, hml, hr, hown, hts, hlocks, hE, hA⟩ := id C
  have hK := hE.1
  intro H locs ls hM hS hl
  unfold wpSt_reachByLengthAndCuts at hwp
  refine lv_aload_n hx hb d_St_reachByLengthAndCuts_0 rfl (lv_at hl 0 rfl) ?_
  obtain ⟨v23, ⟨fs24, he25, hv26⟩, hwp⟩ := hwp
  refine h_get (C := "BuckTables$Stem") (T := Tc1) (N := 12) hx hb hts inc1 hown hK hM he25 rfl 11 (by decide) (hts _ kw_125) (fun _ h9 => h9) hv26 d_St_reachByLengthAndCuts_1 ?_
  refine lv_istore_n (lv' := [(3, .int v23), (0, .ref self), (1, .ref p0), (2, .ref p1)]) hx hb d_St_reachByLengthAndCuts_4 rfl hl (by decide) rfl (fun ls hl => ?_)
  refine lv_aload_n hx hb d_St_reachByLengthAndCuts_5 rfl (lv_at hl 1 rfl) ?_
  obtain ⟨v27, ⟨fs28, he29, hv30⟩, hwp⟩ := hwp
  refine h_get (C := "BuckTables$Stem") (T := Tc1) (N := 12) hx hb hts inc1 hown hK hM he29 rfl 11 (by decide) (hts _ kw_125) (fun _ h9 => h9) hv30 d_St_reachByLengthAndCuts_6 ?_
  refine lv_iconst (v := 1) hx hb d_St_reachByLengthAndCuts_9 (by decide) ?_
  refine lv_isub hx hb d_St_reachByLengthAndCuts_10 ?_
  refine lv_topi (fun z31 ez31 => ?_)
  replace hwp := hwp z31 ez31
  refine lv_istore (lv' := [(4, .int z31), (3, .int v23), (0, .ref self), (1, .ref p0), (2, .ref p1)]) hx hb d_St_reachByLengthAndCuts_11 hl (by decide) rfl (fun ls hl => ?_)
  obtain ⟨n32, hwp⟩ := hwp
  exact tSt_reachByLengthAndCuts_13 C post n32 self p0 p1 v23 z31 M hwp H locs ls hM hS (lv_sub hl [2, 3, 4, 1, 0] rfl)
set_option maxRecDepth 100000 in
set_option maxHeartbeats 4000000 in
theorem metSt_reachByLengthAndCuts (l : Launch) (D : va_G) (κ : Nat → ClassId) (sz : Nat) (self : Nat) (p0 : Nat) (p1 : Nat) (M : Hp) (post : Hp → Prop) (hwp : wpSt_reachByLengthAndCuts self p0 p1 M post) : Met l y_St_reachByLengthAndCuts ws_St_reachByLengthAndCuts rm_St_reachByLengthAndCuts (hPc D kCl (hTys κ) M sz [.ref self, .ref p0, .ref p1]) (va_Qv post (hB D kCl (hTys κ) (hAx M sz)) (hAx M sz)) 0 0 (hAx M sz) := by
  refine Met.ofW (cc := prog_5_method_7_code) (maxL := 5) (ret := none) (by decide +kernel) rfl ?_
  intro p e s m args below meth c s₁ B hml hv
  obtain ⟨rfl, hsz, hE, hM0⟩ := hv
  have hts : ∀ w ∈ WG, w.before _ s = true := fun w h => atoms_spec (ws := ws_St_reachByLengthAndCuts) B.pre w (List.mem_cons_of_mem _ h)
  subst hsz
  have C : Cx_St_reachByLengthAndCuts p s m _ meth c D κ (hAx M s.heap.size) := ⟨B.exec, B.bytes, hml, B.returns, findClass_of_methodNamed B.named, hts, B.notSynchronized, hE, fun q h => Or.inr h⟩
  have hl := lv_entry ([.ref self, .ref p0, .ref p1]) (n := 5) (Nat.le_of_ble_eq_true rfl)
  rw [lg_entry_eq]
  generalize (lg_sl ([.ref self, .ref p0, .ref p1]) ++ List.replicate (5 - (lg_sl ([.ref self, .ref p0, .ref p1])).length) Slot.unset).toArray = ls at hl ⊢
  exact eSt_reachByLengthAndCuts C post self p0 p1 M hwp s.heap [] ls (hM0.self (sz := s.heap.size)) va_S.rf hl
