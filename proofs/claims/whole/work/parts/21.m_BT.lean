abbrev rm_BT_latestStem : Room := { frames := 0, cells := 0, slots := 0, locals := 0 }
def Cx_BT_latestStem (p : Program) (s : State) (m : MethodId) (args : Array Value) (meth : Method) (c : Code) (D : va_G) (κ : Nat → ClassId) (A : Nat → Prop) : Prop := p.tables.exec = Jvm.exec ∧ c.code = prog_1_method_22_code ∧ c.maxLocals = 1 ∧ meth.sig.returnType = (some (.object "BuckTables$Stem")) ∧ s.vm.findClass "BuckTables" = some m.cls ∧ (∀ w ∈ WG, w.before args s = true) ∧ meth.locks = false ∧ hEnv D kCl (hTys κ) A s ∧ (∀ q, s.heap.size ≤ q → A q)
def wpBT_latestStem (self : Nat) (M : Hp) (post : Nat → Hp → Prop) : Prop := (∃ a1 : Nat, fA M self 0 0 a1 ∧ (∃ v5 : Int32, fI M self 0 3 v5 ∧ (∃ a9 : Nat, aA 3 M a1 (v5 - (1 : Int32)) a9 ∧ (post a9 M))))
set_option maxRecDepth 100000 in
set_option maxHeartbeats 4000000 in
theorem eBT_latestStem {p : Program} {l : Launch} {e : Env} {s : State} {m : MethodId} {args : Array Value} {below : List Frame} {meth : Method} {c : Code} {D : va_G} {κ : Nat → ClassId} {A : Nat → Prop} (C : Cx_BT_latestStem p s m args meth c D κ A) (post : Nat → Hp → Prop) (self : Nat) (M : Hp) (hwp : wpBT_latestStem self M post) : Y p l e rm_BT_latestStem s m args below meth c D kCl (hTys κ) A 1 0 0 (MQ below (va_Qr (fun u : Nat × Hp => post u.1 u.2) (fun u a t => u.1 = a ∧ hB D kCl (hTys κ) A u.2 t) A) args s 0 0 A) M 0 [(0, .ref self)] [] := by
  obtain ⟨hx, hb, hml, hr, hown, hts, hlocks, hE, hA⟩ := id C
  have hK := hE.1
  intro H locs ls hM hS hl
  unfold wpBT_latestStem at hwp
  refine lv_aload_n hx hb d_BT_latestStem_0 rfl (lv_at hl 0 rfl) ?_
  obtain ⟨a1, ⟨fs2, he3, hv4⟩, hwp⟩ := hwp
  refine h_get (C := "BuckTables") (T := Tc0) (N := 12) hx hb hts inc0 hown hK hM he3 rfl 0 (by decide) (hts _ kw_202) (fun _ h9 => h9) hv4 d_BT_latestStem_1 ?_
  refine lv_aload_n hx hb d_BT_latestStem_4 rfl (lv_at hl 0 rfl) ?_
  obtain ⟨v5, ⟨fs6, he7, hv8⟩, hwp⟩ := hwp
  refine h_get (C := "BuckTables") (T := Tc0) (N := 12) hx hb hts inc0 hown hK hM he7 rfl 3 (by decide) (hts _ kw_205) (fun _ h9 => h9) hv8 d_BT_latestStem_5 ?_
  refine lv_iconst (v := 1) hx hb d_BT_latestStem_8 (by decide) ?_
  refine lv_isub hx hb d_BT_latestStem_9 ?_
  obtain ⟨a9, ⟨n10, f11, ha12, hi13, hy14⟩, hwp⟩ := hwp
  refine h_aald hx hb hK hM ha12 rfl hi13 hy14 d_BT_latestStem_10 ?_
  exact W.aret hx hb hr (Or.inl ⟨_, rfl⟩) (Or.inr ⟨_, rfl⟩) (fun t ht hW => ⟨⟨(a9, M), a9, rfl, hwp, rfl, by show hw D kCl (hTys κ) A M t.heap; rw [ht]; exact hM⟩, hS.F ht⟩) hS.2.2 d_BT_latestStem_11
set_option maxRecDepth 100000 in
set_option maxHeartbeats 4000000 in
theorem metBT_latestStem (l : Launch) (D : va_G) (κ : Nat → ClassId) (sz : Nat) (self : Nat) (M : Hp) (post : Nat → Hp → Prop) (hwp : wpBT_latestStem self M post) : Met l y_BT_latestStem ws_BT_latestStem rm_BT_latestStem (hPc D kCl (hTys κ) M sz [.ref self]) (va_Qr (fun u : Nat × Hp => post u.1 u.2) (fun u a t => u.1 = a ∧ hB D kCl (hTys κ) (hAx M sz) u.2 t) (hAx M sz)) 0 0 (hAx M sz) := by
  refine Met.ofW (cc := prog_1_method_22_code) (maxL := 1) (ret := (some (.object "BuckTables$Stem"))) (by decide +kernel) rfl ?_
  intro p e s m args below meth c s₁ B hml hv
  obtain ⟨rfl, hsz, hE, hM0⟩ := hv
  have hts : ∀ w ∈ WG, w.before _ s = true := fun w h => atoms_spec (ws := ws_BT_latestStem) B.pre w (List.mem_cons_of_mem _ h)
  subst hsz
  have C : Cx_BT_latestStem p s m _ meth c D κ (hAx M s.heap.size) := ⟨B.exec, B.bytes, hml, B.returns, findClass_of_methodNamed B.named, hts, B.notSynchronized, hE, fun q h => Or.inr h⟩
  have hl := lv_entry ([.ref self]) (n := 1) (Nat.le_of_ble_eq_true rfl)
  rw [lg_entry_eq]
  generalize (lg_sl ([.ref self]) ++ List.replicate (1 - (lg_sl ([.ref self])).length) Slot.unset).toArray = ls at hl ⊢
  exact eBT_latestStem C post self M hwp s.heap [] ls (hM0.self (sz := s.heap.size)) va_S.rf hl
abbrev rm_BT_isOutside : Room := { frames := 0, cells := 0, slots := 0, locals := 0 }
def Cx_BT_isOutside (p : Program) (s : State) (m : MethodId) (args : Array Value) (meth : Method) (c : Code) (D : va_G) (κ : Nat → ClassId) (A : Nat → Prop) : Prop := p.tables.exec = Jvm.exec ∧ c.code = prog_1_method_21_code ∧ c.maxLocals = 4 ∧ meth.sig.returnType = (some .boolean) ∧ s.vm.findClass "BuckTables" = some m.cls ∧ (∀ w ∈ WG, w.before args s = true) ∧ meth.locks = false ∧ hEnv D kCl (hTys κ) A s ∧ (∀ q, s.heap.size ≤ q → A q)
def wBT_isOutside_17 (post : Int32 → Hp → Prop)   (y0 : Int32) (M : Hp) : Prop := ((y0 = 0 ∨ y0 = 1) ∧ post y0 M)
set_option maxRecDepth 100000 in
set_option maxHeartbeats 4000000 in
theorem tBT_isOutside_17 {p : Program} {l : Launch} {e : Env} {s : State} {m : MethodId} {args : Array Value} {below : List Frame} {meth : Method} {c : Code} {D : va_G} {κ : Nat → ClassId} {A : Nat → Prop} (C : Cx_BT_isOutside p s m args meth c D κ A) (post : Int32 → Hp → Prop)   (y0 : Int32) (M : Hp) (hwp : wBT_isOutside_17 post y0 M) : Y p l e rm_BT_isOutside s m args below meth c D kCl (hTys κ) A 4 0 0 (MQ below (va_Qi post (hB D kCl (hTys κ) A) A) args s 0 0 A) M 17 [] [.int y0] := by
  obtain ⟨hx, hb, hml, hr, hown, hts, hlocks, hE, hA⟩ := id C
  have hK := hE.1
  intro H locs ls hM hS hl
  unfold wBT_isOutside_17 at hwp
  obtain ⟨hz1, hwp⟩ := hwp
  exact W.zret (v := y0) hx hb hr (by rcases hz1 with h | h <;> rw [h] <;> rfl) (fun t ht hW => ⟨⟨y0, M, rfl, hwp, by show hw D kCl (hTys κ) A M t.heap; rw [ht]; exact hM⟩, hS.F ht⟩) hS.2.2 d_BT_isOutside_17
def wBT_isOutside_12 (post : Int32 → Hp → Prop)   (M : Hp) : Prop := (wBT_isOutside_17 post (1 : Int32) M)
set_option maxRecDepth 100000 in
set_option maxHeartbeats 4000000 in
theorem tBT_isOutside_12 {p : Program} {l : Launch} {e : Env} {s : State} {m : MethodId} {args : Array Value} {below : List Frame} {meth : Method} {c : Code} {D : va_G} {κ : Nat → ClassId} {A : Nat → Prop} (C : Cx_BT_isOutside p s m args meth c D κ A) (post : Int32 → Hp → Prop)   (M : Hp) (hwp : wBT_isOutside_12 post  M) : Y p l e rm_BT_isOutside s m args below meth c D kCl (hTys κ) A 4 0 0 (MQ below (va_Qi post (hB D kCl (hTys κ) A) A) args s 0 0 A) M 12 [] [] := by
  obtain ⟨hx, hb, hml, hr, hown, hts, hlocks, hE, hA⟩ := id C
  have hK := hE.1
  intro H locs ls hM hS hl
  unfold wBT_isOutside_12 at hwp
  refine lv_iconst (v := 1) hx hb d_BT_isOutside_12 (by decide) ?_
  refine lv_goto (tgt := 17) hx hb d_BT_isOutside_13 (by decide) ?_
  exact tBT_isOutside_17 C post (1 : Int32) M hwp H locs ls hM hS (lv_sub hl [] rfl)
def wpBT_isOutside (p0 : Int64) (p1 : Int64) (M : Hp) (post : Int32 → Hp → Prop) : Prop := ((p0 < (0 : Int64) → (wBT_isOutside_12 post M)) ∧ (¬ p0 < (0 : Int64) → ((p0 ≤ p1 → (wBT_isOutside_17 post (0 : Int32) M)) ∧ (¬ p0 ≤ p1 → (wBT_isOutside_12 post M)))))
set_option maxRecDepth 100000 in
set_option maxHeartbeats 4000000 in
theorem eBT_isOutside {p : Program} {l : Launch} {e : Env} {s : State} {m : MethodId} {args : Array Value} {below : List Frame} {meth : Method} {c : Code} {D : va_G} {κ : Nat → ClassId} {A : Nat → Prop} (C : Cx_BT_isOutside p s m args meth c D κ A) (post : Int32 → Hp → Prop) (p0 : Int64) (p1 : Int64) (M : Hp) (hwp : wpBT_isOutside p0 p1 M post) : Y p l e rm_BT_isOutside s m args below meth c D kCl (hTys κ) A 4 0 0 (MQ below (va_Qi post (hB D kCl (hTys κ) A) A) args s 0 0 A) M 0 [(0, .long p0), (2, .long p1)] [] := by
  obtain ⟨hx, hb, hml, hr, hown, hts, hlocks, hE, hA⟩ := id C
  have hK := hE.1
  intro H locs ls hM hS hl
  unfold wpBT_isOutside at hwp
  refine lv_lload_n hx hb d_BT_isOutside_0 rfl (lv_at hl 0 rfl) ?_
  refine lv_lconst (v := 0) hx hb d_BT_isOutside_1 (by decide) ?_
  refine W.lcmp hx hb d_BT_isOutside_2 ?_
  refine lv_if_lt (tgt := 12) hx hb d_BT_isOutside_3 (by decide) (fun c2 => ?_) (fun c2 => ?_)
  · replace c2 := (lc_lt _ _).mp c2
    replace hwp := hwp.1 c2
    exact tBT_isOutside_12 C post M hwp H locs ls hM hS (lv_sub hl [] rfl)
  · replace c2 := fun h9 => c2 ((lc_lt _ _).mpr h9)
    replace hwp := hwp.2 c2
    refine lv_lload_n hx hb d_BT_isOutside_6 rfl (lv_at hl 0 rfl) ?_
    refine lv_lload_n hx hb d_BT_isOutside_7 rfl (lv_at hl 1 rfl) ?_
    refine W.lcmp hx hb d_BT_isOutside_8 ?_
    refine lv_if_le (tgt := 16) hx hb d_BT_isOutside_9 (by decide) (fun c3 => ?_) (fun c3 => ?_)
    · replace c3 := (lc_le _ _).mp c3
      replace hwp := hwp.1 c3
      refine lv_iconst (v := 0) hx hb d_BT_isOutside_16 (by decide) ?_
      exact tBT_isOutside_17 C post (0 : Int32) M hwp H locs ls hM hS (lv_sub hl [] rfl)
    · replace c3 := fun h9 => c3 ((lc_le _ _).mpr h9)
      replace hwp := hwp.2 c3
      exact tBT_isOutside_12 C post M hwp H locs ls hM hS (lv_sub hl [] rfl)
set_option maxRecDepth 100000 in
set_option maxHeartbeats 4000000 in
theorem metBT_isOutside (l : Launch) (D : va_G) (κ : Nat → ClassId) (sz : Nat) (p0 : Int64) (p1 : Int64) (M : Hp) (post : Int32 → Hp → Prop) (hwp : wpBT_isOutside p0 p1 M post) : Met l y_BT_isOutside ws_BT_isOutside rm_BT_isOutside (hPc D kCl (hTys κ) M sz [.long p0, .long p1]) (va_Qi post (hB D kCl (hTys κ) (hAx M sz)) (hAx M sz)) 0 0 (hAx M sz) := by
  refine Met.ofW (cc := prog_1_method_21_code) (maxL := 4) (ret := (some .boolean)) (by decide +kernel) rfl ?_
  intro p e s m args below meth c s₁ B hml hv
  obtain ⟨rfl, hsz, hE, hM0⟩ := hv
  have hts : ∀ w ∈ WG, w.before _ s = true := fun w h => atoms_spec (ws := ws_BT_isOutside) B.pre w (List.mem_cons_of_mem _ h)
  subst hsz
  have C : Cx_BT_isOutside p s m _ meth c D κ (hAx M s.heap.size) := ⟨B.exec, B.bytes, hml, B.returns, findClass_of_methodNamed B.named, hts, B.notSynchronized, hE, fun q h => Or.inr h⟩
  have hl := lv_entry ([.long p0, .long p1]) (n := 4) (Nat.le_of_ble_eq_true rfl)
  rw [lg_entry_eq]
  generalize (lg_sl ([.long p0, .long p1]) ++ List.replicate (4 - (lg_sl ([.long p0, .long p1])).length) Slot.unset).toArray = ls at hl ⊢
  exact eBT_isOutside C post p0 p1 M hwp s.heap [] ls (hM0.self (sz := s.heap.size)) va_S.rf hl
abbrev rm_St_takesPoint : Room := { frames := 0, cells := 0, slots := 0, locals := 0 }
def Cx_St_takesPoint (p : Program) (s : State) (m : MethodId) (args : Array Value) (meth : Method) (c : Code) (D : va_G) (κ : Nat → ClassId) (A : Nat → Prop) : Prop := p.tables.exec = Jvm.exec ∧ c.code = prog_5_method_2_code ∧ c.maxLocals = 3 ∧ meth.sig.returnType = (some .boolean) ∧ s.vm.findClass "BuckTables$Stem" = some m.cls ∧ (∀ w ∈ WG, w.before args s = true) ∧ meth.locks = false ∧ hEnv D kCl (hTys κ) A s ∧ (∀ q, s.heap.size ≤ q → A q)
def wSt_takesPoint_65 (post : Int32 → Hp → Prop)   (y0 : Int32) (M : Hp) : Prop := ((y0 = 0 ∨ y0 = 1) ∧ post y0 M)
set_option maxRecDepth 100000 in
set_option maxHeartbeats 4000000 in
theorem tSt_takesPoint_65 {p : Program} {l : Launch} {e : Env} {s : State} {m : MethodId} {args : Array Value} {below : List Frame} {meth : Method} {c : Code} {D : va_G} {κ : Nat → ClassId} {A : Nat → Prop} (C : Cx_St_takesPoint p s m args meth c D κ A) (post : Int32 → Hp → Prop)   (y0 : Int32) (M : Hp) (hwp : wSt_takesPoint_65 post y0 M) : Y p l e rm_St_takesPoint s m args below meth c D kCl (hTys κ) A 3 0 0 (MQ below (va_Qi post (hB D kCl (hTys κ) A) A) args s 0 0 A) M 65 [] [.int y0] := by
  obtain ⟨hx, hb, hml, hr, hown, hts, hlocks, hE, hA⟩ := id C
  have hK := hE.1
  intro H locs ls hM hS hl
  unfold wSt_takesPoint_65 at hwp
  obtain ⟨hz1, hwp⟩ := hwp
  exact W.zret (v := y0) hx hb hr (by rcases hz1 with h | h <;> rw [h] <;> rfl) (fun t ht hW => ⟨⟨y0, M, rfl, hwp, by show hw D kCl (hTys κ) A M t.heap; rw [ht]; exact hM⟩, hS.F ht⟩) hS.2.2 d_St_takesPoint_65
def wSt_takesPoint_64 (post : Int32 → Hp → Prop)   (M : Hp) : Prop := (wSt_takesPoint_65 post (0 : Int32) M)
set_option maxRecDepth 100000 in
set_option maxHeartbeats 4000000 in
theorem tSt_takesPoint_64 {p : Program} {l : Launch} {e : Env} {s : State} {m : MethodId} {args : Array Value} {below : List Frame} {meth : Method} {c : Code} {D : va_G} {κ : Nat → ClassId} {A : Nat → Prop} (C : Cx_St_takesPoint p s m args meth c D κ A) (post : Int32 → Hp → Prop)   (M : Hp) (hwp : wSt_takesPoint_64 post  M) : Y p l e rm_St_takesPoint s m args below meth c D kCl (hTys κ) A 3 0 0 (MQ below (va_Qi post (hB D kCl (hTys κ) A) A) args s 0 0 A) M 64 [] [] := by
  obtain ⟨hx, hb, hml, hr, hown, hts, hlocks, hE, hA⟩ := id C
  have hK := hE.1
  intro H locs ls hM hS hl
  unfold wSt_takesPoint_64 at hwp
  refine lv_iconst (v := 0) hx hb d_St_takesPoint_64 (by decide) ?_
  exact tSt_takesPoint_65 C post (0 : Int32) M hwp H locs ls hM hS (lv_sub hl [] rfl)
def wSt_takesPoint_29 (post : Int32 → Hp → Prop)   (y0 : Int32) (M : Hp) : Prop := ((y0 = 0 ∨ y0 = 1) ∧ post y0 M)
set_option maxRecDepth 100000 in
set_option maxHeartbeats 4000000 in
theorem tSt_takesPoint_29 {p : Program} {l : Launch} {e : Env} {s : State} {m : MethodId} {args : Array Value} {below : List Frame} {meth : Method} {c : Code} {D : va_G} {κ : Nat → ClassId} {A : Nat → Prop} (C : Cx_St_takesPoint p s m args meth c D κ A) (post : Int32 → Hp → Prop)   (y0 : Int32) (M : Hp) (hwp : wSt_takesPoint_29 post y0 M) : Y p l e rm_St_takesPoint s m args below meth c D kCl (hTys κ) A 3 0 0 (MQ below (va_Qi post (hB D kCl (hTys κ) A) A) args s 0 0 A) M 29 [] [.int y0] := by
  obtain ⟨hx, hb, hml, hr, hown, hts, hlocks, hE, hA⟩ := id C
  have hK := hE.1
  intro H locs ls hM hS hl
  unfold wSt_takesPoint_29 at hwp
  obtain ⟨hz2, hwp⟩ := hwp
  exact W.zret (v := y0) hx hb hr (by rcases hz2 with h | h <;> rw [h] <;> rfl) (fun t ht hW => ⟨⟨y0, M, rfl, hwp, by show hw D kCl (hTys κ) A M t.heap; rw [ht]; exact hM⟩, hS.F ht⟩) hS.2.2 d_St_takesPoint_29
def wpSt_takesPoint (self : Nat) (p0 : Int32) (p1 : Int32) (M : Hp) (post : Int32 → Hp → Prop) : Prop := (∃ v3 : Int32, fI M self 1 0 v3 ∧ (¬ v3 = 0 ∧ (((p0 / v3) ≤ (80 : Int32) → (∃ v9 : Int32, fI M self 1 9 v9 ∧ ((v9 = 0 → ((p0 = 0 → (wSt_takesPoint_29 post (1 : Int32) M)) ∧ (¬ p0 = 0 → (wSt_takesPoint_29 post (0 : Int32) M)))) ∧ (¬ v9 = 0 → (∃ a14 : Nat, fA M self 1 1 a14 ∧ (∃ v18 : Int32, fI M self 1 9 v18 ∧ (∃ v22 : Int32, aI M a14 (v18 - (1 : Int32)) v22 ∧ ((p0 ≤ v22 → (wSt_takesPoint_64 post M)) ∧ (¬ p0 ≤ v22 → (∃ a28 : Nat, fA M self 1 2 a28 ∧ (∃ v32 : Int32, fI M self 1 9 v32 ∧ (∃ v36 : Int32, aI M a28 (v32 - (1 : Int32)) v36 ∧ ((v36 < p1 → (wSt_takesPoint_64 post M)) ∧ (¬ v36 < p1 → (wSt_takesPoint_65 post (1 : Int32) M))))))))))))))) ∧ (¬ (p0 / v3) ≤ (80 : Int32) → (post (0 : Int32) M)))))
set_option maxRecDepth 100000 in
set_option maxHeartbeats 4000000 in
theorem eSt_takesPoint {p : Program} {l : Launch} {e : Env} {s : State} {m : MethodId} {args : Array Value} {below : List Frame} {meth : Method} {c : Code} {D : va_G} {κ : Nat → ClassId} {A : Nat → Prop} (C : Cx_St_takesPoint p s m args meth c D κ A) (post : Int32 → Hp → Prop) (self : Nat) (p0 : Int32) (p1 : Int32) (M : Hp) (hwp : wpSt_takesPoint self p0 p1 M post) : Y p l e rm_St_takesPoint s m args below meth c D kCl (hTys κ) A 3 0 0 (MQ below (va_Qi post (hB D kCl (hTys κ) A) A) args s 0 0 A) M 0 [(0, .ref self), (1, .int p0), (2, .int p1)] [] := by
  obtain ⟨hx, hb, hml, hr, hown, hts, hlocks, hE, hA⟩ := id C
  have hK := hE.1
  intro H locs ls hM hS hl
  unfold wpSt_takesPoint at hwp
  refine lv_iload_n hx hb d_St_takesPoint_0 rfl (lv_at hl 1 rfl) ?_
  refine lv_aload_n hx hb d_St_takesPoint_1 rfl (lv_at hl 0 rfl) ?_
  obtain ⟨v3, ⟨fs4, he5, hv6⟩, hwp⟩ := hwp
  refine h_get (C := "BuckTables$Stem") (T := Tc1) (N := 12) hx hb hts inc1 hown hK hM he5 rfl 0 (by decide) (hts _ kw_110) (fun _ h9 => h9) hv6 d_St_takesPoint_2 ?_
  obtain ⟨h7, hwp⟩ := hwp
  refine lv_idiv hx hb d_St_takesPoint_5 h7 ?_
  refine lv_bipush (v := 80) hx hb d_St_takesPoint_6 (by decide) ?_
  refine lv_icmp_le (tgt := 13) hx hb d_St_takesPoint_8 (by decide) (fun c8 => ?_) (fun c8 => ?_)
  · replace hwp := hwp.1 c8
    refine lv_aload_n hx hb d_St_takesPoint_13 rfl (lv_at hl 0 rfl) ?_
    obtain ⟨v9, ⟨fs10, he11, hv12⟩, hwp⟩ := hwp
    refine h_get (C := "BuckTables$Stem") (T := Tc1) (N := 12) hx hb hts inc1 hown hK hM he11 rfl 9 (by decide) (hts _ kw_121) (fun _ h9 => h9) hv12 d_St_takesPoint_14 ?_
    refine lv_if_ne (tgt := 30) hx hb d_St_takesPoint_17 (by decide) (fun c13 => ?_) (fun c13 => ?_)
    · replace hwp := hwp.2 c13
      refine lv_iload_n hx hb d_St_takesPoint_30 rfl (lv_at hl 1 rfl) ?_
      refine lv_aload_n hx hb d_St_takesPoint_31 rfl (lv_at hl 0 rfl) ?_
      obtain ⟨a14, ⟨fs15, he16, hv17⟩, hwp⟩ := hwp
      refine h_get (C := "BuckTables$Stem") (T := Tc1) (N := 12) hx hb hts inc1 hown hK hM he16 rfl 1 (by decide) (hts _ kw_111) (fun _ h9 => h9) hv17 d_St_takesPoint_32 ?_
      refine lv_aload_n hx hb d_St_takesPoint_35 rfl (lv_at hl 0 rfl) ?_
      obtain ⟨v18, ⟨fs19, he20, hv21⟩, hwp⟩ := hwp
      refine h_get (C := "BuckTables$Stem") (T := Tc1) (N := 12) hx hb hts inc1 hown hK hM he20 rfl 9 (by decide) (hts _ kw_121) (fun _ h9 => h9) hv21 d_St_takesPoint_36 ?_
      refine lv_iconst (v := 1) hx hb d_St_takesPoint_39 (by decide) ?_
      refine lv_isub hx hb d_St_takesPoint_40 ?_
      obtain ⟨v22, ⟨n23, f24, ha25, hi26, ev22⟩, hwp⟩ := hwp
      refine h_iald hx hb hK hM ha25 rfl hi26 d_St_takesPoint_41 ?_
      rw [← ev22]
      refine lv_icmp_le (tgt := 64) hx hb d_St_takesPoint_42 (by decide) (fun c27 => ?_) (fun c27 => ?_)
      · replace hwp := hwp.1 c27
        exact tSt_takesPoint_64 C post M hwp H locs ls hM hS (lv_sub hl [] rfl)
      · replace hwp := hwp.2 c27
        refine lv_iload_n hx hb d_St_takesPoint_45 rfl (lv_at hl 2 rfl) ?_
        refine lv_aload_n hx hb d_St_takesPoint_46 rfl (lv_at hl 0 rfl) ?_
        obtain ⟨a28, ⟨fs29, he30, hv31⟩, hwp⟩ := hwp
        refine h_get (C := "BuckTables$Stem") (T := Tc1) (N := 12) hx hb hts inc1 hown hK hM he30 rfl 2 (by decide) (hts _ kw_112) (fun _ h9 => h9) hv31 d_St_takesPoint_47 ?_
        refine lv_aload_n hx hb d_St_takesPoint_50 rfl (lv_at hl 0 rfl) ?_
        obtain ⟨v32, ⟨fs33, he34, hv35⟩, hwp⟩ := hwp
        refine h_get (C := "BuckTables$Stem") (T := Tc1) (N := 12) hx hb hts inc1 hown hK hM he34 rfl 9 (by decide) (hts _ kw_121) (fun _ h9 => h9) hv35 d_St_takesPoint_51 ?_
        refine lv_iconst (v := 1) hx hb d_St_takesPoint_54 (by decide) ?_
        refine lv_isub hx hb d_St_takesPoint_55 ?_
        obtain ⟨v36, ⟨n37, f38, ha39, hi40, ev36⟩, hwp⟩ := hwp
        refine h_iald hx hb hK hM ha39 rfl hi40 d_St_takesPoint_56 ?_
        rw [← ev36]
        refine lv_icmp_gt (tgt := 64) hx hb d_St_takesPoint_57 (by decide) (fun c41 => ?_) (fun c41 => ?_)
        · replace hwp := hwp.1 c41
          exact tSt_takesPoint_64 C post M hwp H locs ls hM hS (lv_sub hl [] rfl)
        · replace hwp := hwp.2 c41
          refine lv_iconst (v := 1) hx hb d_St_takesPoint_60 (by decide) ?_
          refine lv_goto (tgt := 65) hx hb d_St_takesPoint_61 (by decide) ?_
          exact tSt_takesPoint_65 C post (1 : Int32) M hwp H locs ls hM hS (lv_sub hl [] rfl)
    · replace hwp := hwp.1 c13
      refine lv_iload_n hx hb d_St_takesPoint_20 rfl (lv_at hl 1 rfl) ?_
      refine lv_if_ne (tgt := 28) hx hb d_St_takesPoint_21 (by decide) (fun c42 => ?_) (fun c42 => ?_)
      · replace hwp := hwp.2 c42
        refine lv_iconst (v := 0) hx hb d_St_takesPoint_28 (by decide) ?_
        exact tSt_takesPoint_29 C post (0 : Int32) M hwp H locs ls hM hS (lv_sub hl [] rfl)
      · replace hwp := hwp.1 c42
        refine lv_iconst (v := 1) hx hb d_St_takesPoint_24 (by decide) ?_
        refine lv_goto (tgt := 29) hx hb d_St_takesPoint_25 (by decide) ?_
        exact tSt_takesPoint_29 C post (1 : Int32) M hwp H locs ls hM hS (lv_sub hl [] rfl)
  · replace hwp := hwp.2 c8
    refine lv_iconst (v := 0) hx hb d_St_takesPoint_11 (by decide) ?_
    exact W.zret (v := (0 : Int32)) hx hb hr (by decide) (fun t ht hW => ⟨⟨(0 : Int32), M, rfl, hwp, by show hw D kCl (hTys κ) A M t.heap; rw [ht]; exact hM⟩, hS.F ht⟩) hS.2.2 d_St_takesPoint_12
set_option maxRecDepth 100000 in
set_option maxHeartbeats 4000000 in
theorem metSt_takesPoint (l : Launch) (D : va_G) (κ : Nat → ClassId) (sz : Nat) (self : Nat) (p0 : Int32) (p1 : Int32) (M : Hp) (post : Int32 → Hp → Prop) (hwp : wpSt_takesPoint self p0 p1 M post) : Met l y_St_takesPoint ws_St_takesPoint rm_St_takesPoint (hPc D kCl (hTys κ) M sz [.ref self, .int p0, .int p1]) (va_Qi post (hB D kCl (hTys κ) (hAx M sz)) (hAx M sz)) 0 0 (hAx M sz) := by
  refine Met.ofW (cc := prog_5_method_2_code) (maxL := 3) (ret := (some .boolean)) (by decide +kernel) rfl ?_
  intro p e s m args below meth c s₁ B hml hv
  obtain ⟨rfl, hsz, hE, hM0⟩ := hv
  have hts : ∀ w ∈ WG, w.before _ s = true := fun w h => atoms_spec (ws := ws_St_takesPoint) B.pre w (List.mem_cons_of_mem _ h)
  subst hsz
  have C : Cx_St_takesPoint p s m _ meth c D κ (hAx M s.heap.size) := ⟨B.exec, B.bytes, hml, B.returns, findClass_of_methodNamed B.named, hts, B.notSynchronized, hE, fun q h => Or.inr h⟩
  have hl := lv_entry ([.ref self, .int p0, .int p1]) (n := 3) (Nat.le_of_ble_eq_true rfl)
  rw [lg_entry_eq]
  generalize (lg_sl ([.ref self, .int p0, .int p1]) ++ List.replicate (3 - (lg_sl ([.ref self, .int p0, .int p1])).length) Slot.unset).toArray = ls at hl ⊢
  exact eSt_takesPoint C post self p0 p1 M hwp s.heap [] ls (hM0.self (sz := s.heap.size)) va_S.rf hl
abbrev rm_St_addPoint : Room := { frames := 0, cells := 0, slots := 0, locals := 0 }
def Cx_St_addPoint (p : Program) (s : State) (m : MethodId) (args : Array Value) (meth : Method) (c : Code) (D : va_G) (κ : Nat → ClassId) (A : Nat → Prop) : Prop := p.tables.exec = Jvm.exec ∧ c.code = prog_5_method_3_code ∧ c.maxLocals = 4 ∧ meth.sig.returnType = none ∧ s.vm.findClass "BuckTables$Stem" = some m.cls ∧ (∀ w ∈ WG, w.before args s = true) ∧ meth.locks = false ∧ hEnv D kCl (hTys κ) A s ∧ (∀ q, s.heap.size ≤ q → A q)
def wpSt_addPoint (self : Nat) (p0 : Int32) (p1 : Int32) (p2 : Int32) (M : Hp) (post : Hp → Prop) : Prop := (∃ a1 : Nat, fA M self 1 1 a1 ∧ (∃ v5 : Int32, fI M self 1 9 v5 ∧ (∃ M13 : Hp, sI M a1 v5 p0 M13 ∧ (∃ a14 : Nat, fA M13 self 1 2 a14 ∧ (∃ v18 : Int32, fI M13 self 1 9 v18 ∧ (∃ M26 : Hp, sI M13 a14 v18 p1 M26 ∧ (∃ a27 : Nat, fA M26 self 1 3 a27 ∧ (∃ v31 : Int32, fI M26 self 1 9 v31 ∧ (∃ M39 : Hp, sI M26 a27 v31 p2 M39 ∧ (∃ v40 : Int32, fI M39 self 1 9 v40 ∧ (∃ M44 : Hp, pF M39 self 1 9 (.int (v40 + (1 : Int32))) M44 ∧ (∃ v48 : Int32, fI M44 self 1 0 v48 ∧ (¬ v48 = 0 ∧ (∃ M53 : Hp, pF M44 self 1 11 (.int (p0 / v48)) M53 ∧ (post M53)))))))))))))))
set_option maxRecDepth 100000 in
set_option maxHeartbeats 4000000 in
theorem eSt_addPoint {p : Program} {l : Launch} {e : Env} {s : State} {m : MethodId} {args : Array Value} {below : List Frame} {meth : Method} {c : Code} {D : va_G} {κ : Nat → ClassId} {A : Nat → Prop} (C : Cx_St_addPoint p s m args meth c D κ A) (post : Hp → Prop) (self : Nat) (p0 : Int32) (p1 : Int32) (p2 : Int32) (M : Hp) (hwp : wpSt_addPoint self p0 p1 p2 M post) : Y p l e rm_St_addPoint s m args below meth c D kCl (hTys κ) A 4 0 0 (MQ below (va_Qv post (hB D kCl (hTys κ) A) A) args s 0 0 A) M 0 [(0, .ref self), (1, .int p0), (2, .int p1), (3, .int p2)] [] := by
  obtain ⟨hx, hb, hml, hr, hown, hts, hlocks, hE, hA⟩ := id C
  have hK := hE.1
  intro H locs ls hM hS hl
  unfold wpSt_addPoint at hwp
  refine lv_aload_n hx hb d_St_addPoint_0 rfl (lv_at hl 0 rfl) ?_
  obtain ⟨a1, ⟨fs2, he3, hv4⟩, hwp⟩ := hwp
  refine h_get (C := "BuckTables$Stem") (T := Tc1) (N := 12) hx hb hts inc1 hown hK hM he3 rfl 1 (by decide) (hts _ kw_111) (fun _ h9 => h9) hv4 d_St_addPoint_1 ?_
  refine lv_aload_n hx hb d_St_addPoint_4 rfl (lv_at hl 0 rfl) ?_
  obtain ⟨v5, ⟨fs6, he7, hv8⟩, hwp⟩ := hwp
  refine h_get (C := "BuckTables$Stem") (T := Tc1) (N := 12) hx hb hts inc1 hown hK hM he7 rfl 9 (by decide) (hts _ kw_121) (fun _ h9 => h9) hv8 d_St_addPoint_5 ?_
  refine lv_iload_n hx hb d_St_addPoint_8 rfl (lv_at hl 1 rfl) ?_
  obtain ⟨M13, ⟨n9, f10, ha11, hi12, eM13⟩, hwp⟩ := hwp
  refine h_iast hx hb hK hM hS ha11 rfl hi12 d_St_addPoint_9 (fun H locs hM hS => ?_)
  rw [← eM13] at hM
  refine lv_aload_n hx hb d_St_addPoint_10 rfl (lv_at hl 0 rfl) ?_
  obtain ⟨a14, ⟨fs15, he16, hv17⟩, hwp⟩ := hwp
  refine h_get (C := "BuckTables$Stem") (T := Tc1) (N := 12) hx hb hts inc1 hown hK hM he16 rfl 2 (by decide) (hts _ kw_112) (fun _ h9 => h9) hv17 d_St_addPoint_11 ?_
  refine lv_aload_n hx hb d_St_addPoint_14 rfl (lv_at hl 0 rfl) ?_
  obtain ⟨v18, ⟨fs19, he20, hv21⟩, hwp⟩ := hwp
  refine h_get (C := "BuckTables$Stem") (T := Tc1) (N := 12) hx hb hts inc1 hown hK hM he20 rfl 9 (by decide) (hts _ kw_121) (fun _ h9 => h9) hv21 d_St_addPoint_15 ?_
  refine lv_iload_n hx hb d_St_addPoint_18 rfl (lv_at hl 2 rfl) ?_
  obtain ⟨M26, ⟨n22, f23, ha24, hi25, eM26⟩, hwp⟩ := hwp
  refine h_iast hx hb hK hM hS ha24 rfl hi25 d_St_addPoint_19 (fun H locs hM hS => ?_)
  rw [← eM26] at hM
  refine lv_aload_n hx hb d_St_addPoint_20 rfl (lv_at hl 0 rfl) ?_
  obtain ⟨a27, ⟨fs28, he29, hv30⟩, hwp⟩ := hwp
  refine h_get (C := "BuckTables$Stem") (T := Tc1) (N := 12) hx hb hts inc1 hown hK hM he29 rfl 3 (by decide) (hts _ kw_113) (fun _ h9 => h9) hv30 d_St_addPoint_21 ?_
  refine lv_aload_n hx hb d_St_addPoint_24 rfl (lv_at hl 0 rfl) ?_
  obtain ⟨v31, ⟨fs32, he33, hv34⟩, hwp⟩ := hwp
  refine h_get (C := "BuckTables$Stem") (T := Tc1) (N := 12) hx hb hts inc1 hown hK hM he33 rfl 9 (by decide) (hts _ kw_121) (fun _ h9 => h9) hv34 d_St_addPoint_25 ?_
  refine lv_iload_n hx hb d_St_addPoint_28 rfl (lv_at hl 3 rfl) ?_
  obtain ⟨M39, ⟨n35, f36, ha37, hi38, eM39⟩, hwp⟩ := hwp
  refine h_iast hx hb hK hM hS ha37 rfl hi38 d_St_addPoint_29 (fun H locs hM hS => ?_)
  rw [← eM39] at hM
  refine lv_aload_n hx hb d_St_addPoint_30 rfl (lv_at hl 0 rfl) ?_
  refine lv_dup hx hb d_St_addPoint_31 rfl ?_
  obtain ⟨v40, ⟨fs41, he42, hv43⟩, hwp⟩ := hwp
  refine h_get (C := "BuckTables$Stem") (T := Tc1) (N := 12) hx hb hts inc1 hown hK hM he42 rfl 9 (by decide) (hts _ kw_121) (fun _ h9 => h9) hv43 d_St_addPoint_32 ?_
  refine lv_iconst (v := 1) hx hb d_St_addPoint_35 (by decide) ?_
  refine lv_iadd hx hb d_St_addPoint_36 ?_
  obtain ⟨M44, ⟨fs45, he46, hl47, eM44⟩, hwp⟩ := hwp
  refine h_put (C := "BuckTables$Stem") (T := Tc1) (N := 12) (v := .int (v40 + (1 : Int32))) (ty := .int) hx hb hts inc1 tyc1 tyc1_ok nmc1 hown hK hM hS he46 rfl 9 (by decide) (hts _ kw_121) (fun _ h9 => h9) rfl (by decide +kernel) rfl rfl hl47 d_St_addPoint_37 (fun H locs hM hS => ?_)
  rw [← eM44] at hM
  refine lv_aload_n hx hb d_St_addPoint_40 rfl (lv_at hl 0 rfl) ?_
  refine lv_iload_n hx hb d_St_addPoint_41 rfl (lv_at hl 1 rfl) ?_
  refine lv_aload_n hx hb d_St_addPoint_42 rfl (lv_at hl 0 rfl) ?_
  obtain ⟨v48, ⟨fs49, he50, hv51⟩, hwp⟩ := hwp
  refine h_get (C := "BuckTables$Stem") (T := Tc1) (N := 12) hx hb hts inc1 hown hK hM he50 rfl 0 (by decide) (hts _ kw_110) (fun _ h9 => h9) hv51 d_St_addPoint_43 ?_
  obtain ⟨h52, hwp⟩ := hwp
  refine lv_idiv hx hb d_St_addPoint_46 h52 ?_
  obtain ⟨M53, ⟨fs54, he55, hl56, eM53⟩, hwp⟩ := hwp
  refine h_put (C := "BuckTables$Stem") (T := Tc1) (N := 12) (v := .int (p0 / v48)) (ty := .int) hx hb hts inc1 tyc1 tyc1_ok nmc1 hown hK hM hS he55 rfl 11 (by decide) (hts _ kw_125) (fun _ h9 => h9) rfl (by decide +kernel) rfl rfl hl56 d_St_addPoint_47 (fun H locs hM hS => ?_)
  rw [← eM53] at hM
  exact W.vret hx hb hr (fun t ht hW => ⟨⟨M53, rfl, hwp, by show hw D kCl (hTys κ) A M53 t.heap; rw [ht]; exact hM⟩, hS.F ht⟩) hS.2.2 d_St_addPoint_50
set_option maxRecDepth 100000 in
set_option maxHeartbeats 4000000 in
theorem metSt_addPoint (l : Launch) (D : va_G) (κ : Nat → ClassId) (sz : Nat) (self : Nat) (p0 : Int32) (p1 : Int32) (p2 : Int32) (M : Hp) (post : Hp → Prop) (hwp : wpSt_addPoint self p0 p1 p2 M post) : Met l y_St_addPoint ws_St_addPoint rm_St_addPoint (hPc D kCl (hTys κ) M sz [.ref self, .int p0, .int p1, .int p2]) (va_Qv post (hB D kCl (hTys κ) (hAx M sz)) (hAx M sz)) 0 0 (hAx M sz) := by
  refine Met.ofW (cc := prog_5_method_3_code) (maxL := 4) (ret := none) (by decide +kernel) rfl ?_
  intro p e s m args below meth c s₁ B hml hv
  obtain ⟨rfl, hsz, hE, hM0⟩ := hv
  have hts : ∀ w ∈ WG, w.before _ s = true := fun w h => atoms_spec (ws := ws_St_addPoint) B.pre w (List.mem_cons_of_mem _ h)
  subst hsz
  have C : Cx_St_addPoint p s m _ meth c D κ (hAx M s.heap.size) := ⟨B.exec, B.bytes, hml, B.returns, findClass_of_methodNamed B.named, hts, B.notSynchronized, hE, fun q h => Or.inr h⟩
  have hl := lv_entry ([.ref self, .int p0, .int p1, .int p2]) (n := 4) (Nat.le_of_ble_eq_true rfl)
  rw [lg_entry_eq]
  generalize (lg_sl ([.ref self, .int p0, .int p1, .int p2]) ++ List.replicate (4 - (lg_sl ([.ref self, .int p0, .int p1, .int p2])).length) Slot.unset).toArray = ls at hl ⊢
  exact eSt_addPoint C post self p0 p1 p2 M hwp s.heap [] ls (hM0.self (sz := s.heap.size)) va_S.rf hl
abbrev rm_BT_stem : Room := { frames := 6, cells := 1, slots := 6, locals := 90 }
def Cx_BT_stem (p : Program) (s : State) (m : MethodId) (args : Array Value) (meth : Method) (c : Code) (D : va_G) (κ : Nat → ClassId) (A : Nat → Prop) : Prop := p.tables.exec = Jvm.exec ∧ c.code = prog_1_method_2_code ∧ c.maxLocals = 5 ∧ meth.sig.returnType = (some .boolean) ∧ s.vm.findClass "BuckTables" = some m.cls ∧ (∀ w ∈ WG, w.before args s = true) ∧ meth.locks = false ∧ hEnv D kCl (hTys κ) A s ∧ (∀ q, s.heap.size ≤ q → A q) ∧ c.exceptionTable.isEmpty = true
def wBT_stem_59 (post : Int32 → Hp → Prop) (px : String → Hp → Prop)   (M : Hp) : Prop := (px "java/lang/IllegalArgumentException" M)
set_option maxRecDepth 100000 in
set_option maxHeartbeats 4000000 in
theorem tBT_stem_59 {p : Program} {l : Launch} {e : Env} {s : State} {m : MethodId} {args : Array Value} {below : List Frame} {meth : Method} {c : Code} {D : va_G} {κ : Nat → ClassId} {A : Nat → Prop} (C : Cx_BT_stem p s m args meth c D κ A) (hst : l.stackTraces = false) (post : Int32 → Hp → Prop) (px : String → Hp → Prop)   (M : Hp) (hwp : wBT_stem_59 post px  M) : Y p l e rm_BT_stem s m args below meth c D kCl (hTys κ) A 5 0 0 (xMQ below (va_Qi post (hB D kCl (hTys κ) A) A) D kCl (hTys κ) A px args s 1 6) M 59 [] [] := by
  obtain ⟨hx, hb, hml, hr, hown, hts, hlocks, hE, hA, hnoex⟩ := id C
  have hK := hE.1
  intro H locs ls hM hS hl
  unfold wBT_stem_59 at hwp
  exact x_throw (own := "BuckTables") (cls := "java/lang/IllegalArgumentException") (text := "at, top or sweep is out of its range") (names := ["java/lang/RuntimeException", "java/lang/Exception"]) (ik := 98) (is := 100) (ic := 102) hx hb hst hown (by decide +kernel) (by decide +kernel) hE.2 hS hM xin_BT_98_102 (List.mem_append_right _ (List.mem_of_getElem? (i := 430) (by decide +kernel))) (by rw [hml]; exact hl.1) d_BT_stem_59 d_BT_stem_62 d_BT_stem_63 d_BT_stem_65 d_BT_stem_68 (x_empty hnoex) (Nat.le_of_ble_eq_true rfl) (Nat.le_of_ble_eq_true rfl) (Nat.le_of_ble_eq_true rfl) (Nat.le_of_ble_eq_true rfl) hlocks hwp (Nat.le_of_ble_eq_true rfl) (Nat.le_of_ble_eq_true rfl)
def wpBT_stem (self : Nat) (p0 : Int32) (p1 : Int32) (p2 : Int32) (M : Hp) (post : Int32 → Hp → Prop) (px : String → Hp → Prop) : Prop := (hob M self 0 ∧ (wpBT_latestStem self M (fun (a3 : Nat) (M1 : Hp) => (∃ v4 : Int32, fI M1 a3 1 9 v4 ∧ ((v4 < (60 : Int32) → (wpBT_isOutside (p0.toInt64) (10000000 : Int64) M1 (fun (r10 : Int32) (M9 : Hp) => ((r10 = 0 → (wpBT_isOutside (p1.toInt64) (100000 : Int64) M9 (fun (r13 : Int32) (M12 : Hp) => ((r13 = 0 → (wpBT_isOutside (p2.toInt64) (100000 : Int64) M12 (fun (r16 : Int32) (M15 : Hp) => ((r16 = 0 → (hob M15 a3 1 ∧ (wpSt_takesPoint a3 p0 p1 M15 (fun (r20 : Int32) (M18 : Hp) => ((r20 = 0 → (post (0 : Int32) M18)) ∧ (¬ r20 = 0 → (hob M18 a3 1 ∧ (wpSt_addPoint a3 p0 p1 p2 M18 (fun (M22 : Hp) => (∃ M24 : Hp, pF M22 self 0 9 (.int (0 : Int32)) M24 ∧ (post (1 : Int32) M24))))))))))) ∧ (¬ r16 = 0 → (wBT_stem_59 post px M15)))))) ∧ (¬ r13 = 0 → (wBT_stem_59 post px M12)))))) ∧ (¬ r10 = 0 → (wBT_stem_59 post px M9)))))) ∧ (¬ v4 < (60 : Int32) → (px "java/lang/IllegalStateException" M1)))))))
set_option maxRecDepth 100000 in
set_option maxHeartbeats 4000000 in
theorem eBT_stem {p : Program} {l : Launch} {e : Env} {s : State} {m : MethodId} {args : Array Value} {below : List Frame} {meth : Method} {c : Code} {D : va_G} {κ : Nat → ClassId} {A : Nat → Prop} (C : Cx_BT_stem p s m args meth c D κ A) (hst : l.stackTraces = false) (post : Int32 → Hp → Prop) (px : String → Hp → Prop) (self : Nat) (p0 : Int32) (p1 : Int32) (p2 : Int32) (M : Hp) (hwp : wpBT_stem self p0 p1 p2 M post px) : Y p l e rm_BT_stem s m args below meth c D kCl (hTys κ) A 5 0 0 (xMQ below (va_Qi post (hB D kCl (hTys κ) A) A) D kCl (hTys κ) A px args s 1 6) M 0 [(0, .ref self), (1, .int p0), (2, .int p1), (3, .int p2)] [] := by
  obtain ⟨hx, hb, hml, hr, hown, hts, hlocks, hE, hA, hnoex⟩ := id C
  have hK := hE.1
  intro H locs ls hM hS hl
  unfold wpBT_stem at hwp
  refine lv_aload_n hx hb d_BT_stem_0 rfl (lv_at hl 0 rfl) ?_
  obtain ⟨ho2, hwp⟩ := hwp
  refine h_callr hM hS hA (va_runV (As := []) (rest := []) ⟨hx, hb, hml, hown, hts⟩ (metBT_latestStem l D κ H.size self M _ hwp) (cwV 0 hts (gV kw_344 kw_346 kp_8 kw_1 kw_347) rfl rfl rfl (by decide +kernel) ⟨(Nat.le_of_ble_eq_true rfl), (Nat.le_of_ble_eq_true rfl)⟩) (h_preV hE hM hS ho2 (r := ("BuckTables", Tc0, 12)) rfl) rfl rfl hl.1 rfl (lv_room (Nat.le_of_ble_eq_true rfl)) d_BT_stem_1 ⟨(Nat.le_of_ble_eq_true rfl), (Nat.le_of_ble_eq_true rfl)⟩) (fun a3 M1 H locs hwp hM hS => ?_)
  refine lv_astore (lv' := [(4, .ref a3), (0, .ref self), (1, .int p0), (2, .int p1), (3, .int p2)]) hx hb d_BT_stem_4 hl (by decide) rfl (fun ls hl => ?_)
  refine lv_aload hx hb d_BT_stem_6 (lv_at hl 0 rfl) ?_
  obtain ⟨v4, ⟨fs5, he6, hv7⟩, hwp⟩ := hwp
  refine h_get (C := "BuckTables$Stem") (T := Tc1) (N := 12) hx hb hts inc1 hown hK hM he6 rfl 9 (by decide) (hts _ kw_122) (fun _ h9 => h9) hv7 d_BT_stem_8 ?_
  refine lv_bipush (v := 60) hx hb d_BT_stem_11 (by decide) ?_
  refine lv_icmp_lt (tgt := 26) hx hb d_BT_stem_13 (by decide) (fun c8 => ?_) (fun c8 => ?_)
  · replace hwp := hwp.1 c8
    refine lv_iload_n hx hb d_BT_stem_26 rfl (lv_at hl 2 rfl) ?_
    refine lv_i2l hx hb d_BT_stem_27 rfl ?_
    refine lv_ldc2 (v := (10000000)) hx hb hown (hts _ kw_416) d_BT_stem_28 ?_
    refine h_calli hM hS hA (va_runS (As := [.long (p0.toInt64), .long (10000000 : Int64)]) (rest := []) ⟨hx, hb, hml, hown, hts⟩ (metBT_isOutside l D κ H.size (p0.toInt64) (10000000 : Int64) M1 _ hwp) (cwS 2 hts (gS kw_417 kw_418 kw_1 kw_419) rfl rfl rfl (by decide +kernel) ⟨(Nat.le_of_ble_eq_true rfl), (Nat.le_of_ble_eq_true rfl)⟩) (h_preS hE hM hS) rfl rfl hl.1 rfl (lv_room (Nat.le_of_ble_eq_true rfl)) d_BT_stem_31 ⟨(Nat.le_of_ble_eq_true rfl), (Nat.le_of_ble_eq_true rfl)⟩) (fun r10 M9 H locs hwp hM hS => ?_)
    refine lv_if_ne (tgt := 59) hx hb d_BT_stem_34 (by decide) (fun c11 => ?_) (fun c11 => ?_)
    · replace hwp := hwp.2 c11
      exact tBT_stem_59 C hst post px M9 hwp H locs ls hM hS (lv_sub hl [] rfl)
    · replace hwp := hwp.1 c11
      refine lv_iload_n hx hb d_BT_stem_37 rfl (lv_at hl 3 rfl) ?_
      refine lv_i2l hx hb d_BT_stem_38 rfl ?_
      refine lv_ldc2 (v := (100000)) hx hb hown (hts _ kw_420) d_BT_stem_39 ?_
      refine h_calli hM hS hA (va_runS (As := [.long (p1.toInt64), .long (100000 : Int64)]) (rest := []) ⟨hx, hb, hml, hown, hts⟩ (metBT_isOutside l D κ H.size (p1.toInt64) (100000 : Int64) M9 _ hwp) (cwS 2 hts (gS kw_417 kw_418 kw_1 kw_419) rfl rfl rfl (by decide +kernel) ⟨(Nat.le_of_ble_eq_true rfl), (Nat.le_of_ble_eq_true rfl)⟩) (h_preS hE hM hS) rfl rfl hl.1 rfl (lv_room (Nat.le_of_ble_eq_true rfl)) d_BT_stem_42 ⟨(Nat.le_of_ble_eq_true rfl), (Nat.le_of_ble_eq_true rfl)⟩) (fun r13 M12 H locs hwp hM hS => ?_)
      refine lv_if_ne (tgt := 59) hx hb d_BT_stem_45 (by decide) (fun c14 => ?_) (fun c14 => ?_)
      · replace hwp := hwp.2 c14
        exact tBT_stem_59 C hst post px M12 hwp H locs ls hM hS (lv_sub hl [] rfl)
      · replace hwp := hwp.1 c14
        refine lv_iload_n hx hb d_BT_stem_48 rfl (lv_at hl 4 rfl) ?_
        refine lv_i2l hx hb d_BT_stem_49 rfl ?_
        refine lv_ldc2 (v := (100000)) hx hb hown (hts _ kw_420) d_BT_stem_50 ?_
        refine h_calli hM hS hA (va_runS (As := [.long (p2.toInt64), .long (100000 : Int64)]) (rest := []) ⟨hx, hb, hml, hown, hts⟩ (metBT_isOutside l D κ H.size (p2.toInt64) (100000 : Int64) M12 _ hwp) (cwS 2 hts (gS kw_417 kw_418 kw_1 kw_419) rfl rfl rfl (by decide +kernel) ⟨(Nat.le_of_ble_eq_true rfl), (Nat.le_of_ble_eq_true rfl)⟩) (h_preS hE hM hS) rfl rfl hl.1 rfl (lv_room (Nat.le_of_ble_eq_true rfl)) d_BT_stem_53 ⟨(Nat.le_of_ble_eq_true rfl), (Nat.le_of_ble_eq_true rfl)⟩) (fun r16 M15 H locs hwp hM hS => ?_)
        refine lv_if_eq (tgt := 69) hx hb d_BT_stem_56 (by decide) (fun c17 => ?_) (fun c17 => ?_)
        · replace hwp := hwp.1 c17
          refine lv_aload hx hb d_BT_stem_69 (lv_at hl 0 rfl) ?_
          refine lv_iload_n hx hb d_BT_stem_71 rfl (lv_at hl 2 rfl) ?_
          refine lv_iload_n hx hb d_BT_stem_72 rfl (lv_at hl 3 rfl) ?_
          obtain ⟨ho19, hwp⟩ := hwp
          refine h_calli hM hS hA (va_runV (As := [.int p0, .int p1]) (rest := []) ⟨hx, hb, hml, hown, hts⟩ (metSt_takesPoint l D κ H.size a3 p0 p1 M15 _ hwp) (cwV 2 hts (gV kw_437 kw_438 kw_439 kw_6 kw_440) rfl rfl rfl (by decide +kernel) ⟨(Nat.le_of_ble_eq_true rfl), (Nat.le_of_ble_eq_true rfl)⟩) (h_preV hE hM hS ho19 (r := ("BuckTables$Stem", Tc1, 12)) rfl) rfl rfl hl.1 rfl (lv_room (Nat.le_of_ble_eq_true rfl)) d_BT_stem_73 ⟨(Nat.le_of_ble_eq_true rfl), (Nat.le_of_ble_eq_true rfl)⟩) (fun r20 M18 H locs hwp hM hS => ?_)
          refine lv_if_ne (tgt := 81) hx hb d_BT_stem_76 (by decide) (fun c21 => ?_) (fun c21 => ?_)
          · replace hwp := hwp.2 c21
            refine lv_aload hx hb d_BT_stem_81 (lv_at hl 0 rfl) ?_
            refine lv_iload_n hx hb d_BT_stem_83 rfl (lv_at hl 2 rfl) ?_
            refine lv_iload_n hx hb d_BT_stem_84 rfl (lv_at hl 3 rfl) ?_
            refine lv_iload_n hx hb d_BT_stem_85 rfl (lv_at hl 4 rfl) ?_
            obtain ⟨ho23, hwp⟩ := hwp
            refine h_callv hM hS hA (va_runV (As := [.int p0, .int p1, .int p2]) (rest := []) ⟨hx, hb, hml, hown, hts⟩ (metSt_addPoint l D κ H.size a3 p0 p1 p2 M18 _ hwp) (cwV 3 hts (gV kw_441 kw_442 kw_443 kw_6 kw_444) rfl rfl rfl (by decide +kernel) ⟨(Nat.le_of_ble_eq_true rfl), (Nat.le_of_ble_eq_true rfl)⟩) (h_preV hE hM hS ho23 (r := ("BuckTables$Stem", Tc1, 12)) rfl) rfl rfl hl.1 rfl (lv_room (Nat.le_of_ble_eq_true rfl)) d_BT_stem_86 ⟨(Nat.le_of_ble_eq_true rfl), (Nat.le_of_ble_eq_true rfl)⟩) (fun M22 H locs hwp hM hS => ?_)
            refine lv_aload_n hx hb d_BT_stem_89 rfl (lv_at hl 1 rfl) ?_
            refine lv_iconst (v := 0) hx hb d_BT_stem_90 (by decide) ?_
            obtain ⟨M24, ⟨fs25, he26, hl27, eM24⟩, hwp⟩ := hwp
            refine h_put (C := "BuckTables") (T := Tc0) (N := 12) (v := .int (0 : Int32)) (ty := .boolean) hx hb hts inc0 tyc0 tyc0_ok nmc0 hown hK hM hS he26 rfl 9 (by decide) (hts _ kw_211) (fun _ h9 => h9) rfl (by decide +kernel) (by decide) (by decide) hl27 d_BT_stem_91 (fun H locs hM hS => ?_)
            rw [← eM24] at hM
            refine lv_iconst (v := 1) hx hb d_BT_stem_94 (by decide) ?_
            refine W.widen (k := 1) (n := 6) (by omega) (by omega) ?_
            exact x_ret (W.zret (v := (1 : Int32)) hx hb hr (by decide) (fun t ht hW => ⟨⟨(1 : Int32), M24, rfl, hwp, by show hw D kCl (hTys κ) A M24 t.heap; rw [ht]; exact hM⟩, hS.F ht⟩) hS.2.2 d_BT_stem_95)
          · replace hwp := hwp.1 c21
            refine lv_iconst (v := 0) hx hb d_BT_stem_79 (by decide) ?_
            refine W.widen (k := 1) (n := 6) (by omega) (by omega) ?_
            exact x_ret (W.zret (v := (0 : Int32)) hx hb hr (by decide) (fun t ht hW => ⟨⟨(0 : Int32), M18, rfl, hwp, by show hw D kCl (hTys κ) A M18 t.heap; rw [ht]; exact hM⟩, hS.F ht⟩) hS.2.2 d_BT_stem_80)
        · replace hwp := hwp.2 c17
          exact tBT_stem_59 C hst post px M15 hwp H locs ls hM hS (lv_sub hl [] rfl)
  · replace hwp := hwp.2 c8
    exact x_throw (own := "BuckTables") (cls := "java/lang/IllegalStateException") (text := "there are 60 points") (names := ["java/lang/RuntimeException", "java/lang/Exception"]) (ik := 83) (is := 85) (ic := 87) hx hb hst hown (by decide +kernel) (by decide +kernel) hE.2 hS hM xin_BT_83_87 (List.mem_append_right _ (List.mem_of_getElem? (i := 389) (by decide +kernel))) (by rw [hml]; exact hl.1) d_BT_stem_16 d_BT_stem_19 d_BT_stem_20 d_BT_stem_22 d_BT_stem_25 (x_empty hnoex) (Nat.le_of_ble_eq_true rfl) (Nat.le_of_ble_eq_true rfl) (Nat.le_of_ble_eq_true rfl) (Nat.le_of_ble_eq_true rfl) hlocks hwp (Nat.le_of_ble_eq_true rfl) (Nat.le_of_ble_eq_true rfl)
set_option maxRecDepth 100000 in
set_option maxHeartbeats 4000000 in
theorem metBT_stem (l : Launch) (hst : l.stackTraces = false) (D : va_G) (κ : Nat → ClassId) (sz : Nat) (self : Nat) (p0 : Int32) (p1 : Int32) (p2 : Int32) (M : Hp) (post : Int32 → Hp → Prop) (px : String → Hp → Prop) (hwp : wpBT_stem self p0 p1 p2 M post px) : xMet l y_BT_stem ws_BT_stem rm_BT_stem (hPc D kCl (hTys κ) M sz [.ref self, .int p0, .int p1, .int p2]) (va_Qi post (hB D kCl (hTys κ) (hAx M sz)) (hAx M sz)) D kCl (hTys κ) (hAx M sz) px 1 6 := by
  refine xMet.ofW (cc := prog_1_method_2_code) (maxL := 5) (ret := (some .boolean)) (by decide +kernel) rfl ?_
  intro p e s m args below meth c s₁ B hml hv
  obtain ⟨rfl, hsz, hE, hM0⟩ := hv
  have hts : ∀ w ∈ WG, w.before _ s = true := fun w h => atoms_spec (ws := ws_BT_stem) B.pre w (List.mem_cons_of_mem _ h)
  subst hsz
  have C : Cx_BT_stem p s m _ meth c D κ (hAx M s.heap.size) := ⟨B.exec, B.bytes, hml, B.returns, findClass_of_methodNamed B.named, hts, B.notSynchronized, hE, fun q h => Or.inr h, B.noHandlers (atoms_spec (ws := ws_BT_stem) B.pre _ List.mem_cons_self)⟩
  have hl := lv_entry ([.ref self, .int p0, .int p1, .int p2]) (n := 5) (Nat.le_of_ble_eq_true rfl)
  rw [lg_entry_eq]
  generalize (lg_sl ([.ref self, .int p0, .int p1, .int p2]) ++ List.replicate (5 - (lg_sl ([.ref self, .int p0, .int p1, .int p2])).length) Slot.unset).toArray = ls at hl ⊢
  exact eBT_stem C hst post px self p0 p1 p2 M hwp s.heap [] ls (hM0.self (sz := s.heap.size)) va_S.rf hl
abbrev rm_St_addFault : Room := { frames := 0, cells := 0, slots := 0, locals := 0 }
def Cx_St_addFault (p : Program) (s : State) (m : MethodId) (args : Array Value) (meth : Method) (c : Code) (D : va_G) (κ : Nat → ClassId) (A : Nat → Prop) : Prop := p.tables.exec = Jvm.exec ∧ c.code = prog_5_method_4_code ∧ c.maxLocals = 4 ∧ meth.sig.returnType = none ∧ s.vm.findClass "BuckTables$Stem" = some m.cls ∧ (∀ w ∈ WG, w.before args s = true) ∧ meth.locks = false ∧ hEnv D kCl (hTys κ) A s ∧ (∀ q, s.heap.size ≤ q → A q)
def wpSt_addFault (self : Nat) (p0 : Int32) (p1 : Int32) (p2 : Int32) (M : Hp) (post : Hp → Prop) : Prop := (∃ a1 : Nat, fA M self 1 4 a1 ∧ (∃ v5 : Int32, fI M self 1 10 v5 ∧ (∃ M13 : Hp, sI M a1 v5 p0 M13 ∧ (∃ a14 : Nat, fA M13 self 1 5 a14 ∧ (∃ v18 : Int32, fI M13 self 1 10 v18 ∧ (∃ M26 : Hp, sI M13 a14 v18 p1 M26 ∧ (∃ a27 : Nat, fA M26 self 1 6 a27 ∧ (∃ v31 : Int32, fI M26 self 1 10 v31 ∧ (∃ M39 : Hp, sI M26 a27 v31 p2 M39 ∧ (∃ v40 : Int32, fI M39 self 1 10 v40 ∧ (∃ M44 : Hp, pF M39 self 1 10 (.int (v40 + (1 : Int32))) M44 ∧ (post M44))))))))))))
set_option maxRecDepth 100000 in
set_option maxHeartbeats 4000000 in
theorem eSt_addFault {p : Program} {l : Launch} {e : Env} {s : State} {m : MethodId} {args : Array Value} {below : List Frame} {meth : Method} {c : Code} {D : va_G} {κ : Nat → ClassId} {A : Nat → Prop} (C : Cx_St_addFault p s m args meth c D κ A) (post : Hp → Prop) (self : Nat) (p0 : Int32) (p1 : Int32) (p2 : Int32) (M : Hp) (hwp : wpSt_addFault self p0 p1 p2 M post) : Y p l e rm_St_addFault s m args below meth c D kCl (hTys κ) A 4 0 0 (MQ below (va_Qv post (hB D kCl (hTys κ) A) A) args s 0 0 A) M 0 [(0, .ref self), (1, .int p0), (2, .int p1), (3, .int p2)] [] := by
  obtain ⟨hx, hb, hml, hr, hown, hts, hlocks, hE, hA⟩ := id C
  have hK := hE.1
  intro H locs ls hM hS hl
  unfold wpSt_addFault at hwp
  refine lv_aload_n hx hb d_St_addFault_0 rfl (lv_at hl 0 rfl) ?_
  obtain ⟨a1, ⟨fs2, he3, hv4⟩, hwp⟩ := hwp
  refine h_get (C := "BuckTables$Stem") (T := Tc1) (N := 12) hx hb hts inc1 hown hK hM he3 rfl 4 (by decide) (hts _ kw_114) (fun _ h9 => h9) hv4 d_St_addFault_1 ?_
  refine lv_aload_n hx hb d_St_addFault_4 rfl (lv_at hl 0 rfl) ?_
  obtain ⟨v5, ⟨fs6, he7, hv8⟩, hwp⟩ := hwp
  refine h_get (C := "BuckTables$Stem") (T := Tc1) (N := 12) hx hb hts inc1 hown hK hM he7 rfl 10 (by decide) (hts _ kw_123) (fun _ h9 => h9) hv8 d_St_addFault_5 ?_
  refine lv_iload_n hx hb d_St_addFault_8 rfl (lv_at hl 1 rfl) ?_
  obtain ⟨M13, ⟨n9, f10, ha11, hi12, eM13⟩, hwp⟩ := hwp
  refine h_iast hx hb hK hM hS ha11 rfl hi12 d_St_addFault_9 (fun H locs hM hS => ?_)
  rw [← eM13] at hM
  refine lv_aload_n hx hb d_St_addFault_10 rfl (lv_at hl 0 rfl) ?_
  obtain ⟨a14, ⟨fs15, he16, hv17⟩, hwp⟩ := hwp
  refine h_get (C := "BuckTables$Stem") (T := Tc1) (N := 12) hx hb hts inc1 hown hK hM he16 rfl 5 (by decide) (hts _ kw_115) (fun _ h9 => h9) hv17 d_St_addFault_11 ?_
  refine lv_aload_n hx hb d_St_addFault_14 rfl (lv_at hl 0 rfl) ?_
  obtain ⟨v18, ⟨fs19, he20, hv21⟩, hwp⟩ := hwp
  refine h_get (C := "BuckTables$Stem") (T := Tc1) (N := 12) hx hb hts inc1 hown hK hM he20 rfl 10 (by decide) (hts _ kw_123) (fun _ h9 => h9) hv21 d_St_addFault_15 ?_
  refine lv_iload_n hx hb d_St_addFault_18 rfl (lv_at hl 2 rfl) ?_
  obtain ⟨M26, ⟨n22, f23, ha24, hi25, eM26⟩, hwp⟩ := hwp
  refine h_iast hx hb hK hM hS ha24 rfl hi25 d_St_addFault_19 (fun H locs hM hS => ?_)
  rw [← eM26] at hM
  refine lv_aload_n hx hb d_St_addFault_20 rfl (lv_at hl 0 rfl) ?_
  obtain ⟨a27, ⟨fs28, he29, hv30⟩, hwp⟩ := hwp
  refine h_get (C := "BuckTables$Stem") (T := Tc1) (N := 12) hx hb hts inc1 hown hK hM he29 rfl 6 (by decide) (hts _ kw_116) (fun _ h9 => h9) hv30 d_St_addFault_21 ?_
  refine lv_aload_n hx hb d_St_addFault_24 rfl (lv_at hl 0 rfl) ?_
  obtain ⟨v31, ⟨fs32, he33, hv34⟩, hwp⟩ := hwp
  refine h_get (C := "BuckTables$Stem") (T := Tc1) (N := 12) hx hb hts inc1 hown hK hM he33 rfl 10 (by decide) (hts _ kw_123) (fun _ h9 => h9) hv34 d_St_addFault_25 ?_
  refine lv_iload_n hx hb d_St_addFault_28 rfl (lv_at hl 3 rfl) ?_
  obtain ⟨M39, ⟨n35, f36, ha37, hi38, eM39⟩, hwp⟩ := hwp
  refine h_iast hx hb hK hM hS ha37 rfl hi38 d_St_addFault_29 (fun H locs hM hS => ?_)
  rw [← eM39] at hM
  refine lv_aload_n hx hb d_St_addFault_30 rfl (lv_at hl 0 rfl) ?_
  refine lv_dup hx hb d_St_addFault_31 rfl ?_
  obtain ⟨v40, ⟨fs41, he42, hv43⟩, hwp⟩ := hwp
  refine h_get (C := "BuckTables$Stem") (T := Tc1) (N := 12) hx hb hts inc1 hown hK hM he42 rfl 10 (by decide) (hts _ kw_123) (fun _ h9 => h9) hv43 d_St_addFault_32 ?_
  refine lv_iconst (v := 1) hx hb d_St_addFault_35 (by decide) ?_
  refine lv_iadd hx hb d_St_addFault_36 ?_
  obtain ⟨M44, ⟨fs45, he46, hl47, eM44⟩, hwp⟩ := hwp
  refine h_put (C := "BuckTables$Stem") (T := Tc1) (N := 12) (v := .int (v40 + (1 : Int32))) (ty := .int) hx hb hts inc1 tyc1 tyc1_ok nmc1 hown hK hM hS he46 rfl 10 (by decide) (hts _ kw_123) (fun _ h9 => h9) rfl (by decide +kernel) rfl rfl hl47 d_St_addFault_37 (fun H locs hM hS => ?_)
  rw [← eM44] at hM
  exact W.vret hx hb hr (fun t ht hW => ⟨⟨M44, rfl, hwp, by show hw D kCl (hTys κ) A M44 t.heap; rw [ht]; exact hM⟩, hS.F ht⟩) hS.2.2 d_St_addFault_40
set_option maxRecDepth 100000 in
set_option maxHeartbeats 4000000 in
theorem metSt_addFault (l : Launch) (D : va_G) (κ : Nat → ClassId) (sz : Nat) (self : Nat) (p0 : Int32) (p1 : Int32) (p2 : Int32) (M : Hp) (post : Hp → Prop) (hwp : wpSt_addFault self p0 p1 p2 M post) : Met l y_St_addFault ws_St_addFault rm_St_addFault (hPc D kCl (hTys κ) M sz [.ref self, .int p0, .int p1, .int p2]) (va_Qv post (hB D kCl (hTys κ) (hAx M sz)) (hAx M sz)) 0 0 (hAx M sz) := by
  refine Met.ofW (cc := prog_5_method_4_code) (maxL := 4) (ret := none) (by decide +kernel) rfl ?_
  intro p e s m args below meth c s₁ B hml hv
  obtain ⟨rfl, hsz, hE, hM0⟩ := hv
  have hts : ∀ w ∈ WG, w.before _ s = true := fun w h => atoms_spec (ws := ws_St_addFault) B.pre w (List.mem_cons_of_mem _ h)
  subst hsz
  have C : Cx_St_addFault p s m _ meth c D κ (hAx M s.heap.size) := ⟨B.exec, B.bytes, hml, B.returns, findClass_of_methodNamed B.named, hts, B.notSynchronized, hE, fun q h => Or.inr h⟩
  have hl := lv_entry ([.ref self, .int p0, .int p1, .int p2]) (n := 4) (Nat.le_of_ble_eq_true rfl)
  rw [lg_entry_eq]
  generalize (lg_sl ([.ref self, .int p0, .int p1, .int p2]) ++ List.replicate (4 - (lg_sl ([.ref self, .int p0, .int p1, .int p2])).length) Slot.unset).toArray = ls at hl ⊢
  exact eSt_addFault C post self p0 p1 p2 M hwp s.heap [] ls (hM0.self (sz := s.heap.size)) va_S.rf hl
abbrev rm_BT_fault : Room := { frames := 6, cells := 1, slots := 6, locals := 90 }
def Cx_BT_fault (p : Program) (s : State) (m : MethodId) (args : Array Value) (meth : Method) (c : Code) (D : va_G) (κ : Nat → ClassId) (A : Nat → Prop) : Prop := p.tables.exec = Jvm.exec ∧ c.code = prog_1_method_3_code ∧ c.maxLocals = 5 ∧ meth.sig.returnType = (some .boolean) ∧ s.vm.findClass "BuckTables" = some m.cls ∧ (∀ w ∈ WG, w.before args s = true) ∧ meth.locks = false ∧ hEnv D kCl (hTys κ) A s ∧ (∀ q, s.heap.size ≤ q → A q) ∧ c.exceptionTable.isEmpty = true
def wBT_fault_59 (post : Int32 → Hp → Prop) (px : String → Hp → Prop)   (M : Hp) : Prop := (px "java/lang/IllegalArgumentException" M)
set_option maxRecDepth 100000 in
set_option maxHeartbeats 4000000 in
theorem tBT_fault_59 {p : Program} {l : Launch} {e : Env} {s : State} {m : MethodId} {args : Array Value} {below : List Frame} {meth : Method} {c : Code} {D : va_G} {κ : Nat → ClassId} {A : Nat → Prop} (C : Cx_BT_fault p s m args meth c D κ A) (hst : l.stackTraces = false) (post : Int32 → Hp → Prop) (px : String → Hp → Prop)   (M : Hp) (hwp : wBT_fault_59 post px  M) : Y p l e rm_BT_fault s m args below meth c D kCl (hTys κ) A 5 0 0 (xMQ below (va_Qi post (hB D kCl (hTys κ) A) A) D kCl (hTys κ) A px args s 1 6) M 59 [] [] := by
  obtain ⟨hx, hb, hml, hr, hown, hts, hlocks, hE, hA, hnoex⟩ := id C
  have hK := hE.1
  intro H locs ls hM hS hl
  unfold wBT_fault_59 at hwp
  exact x_throw (own := "BuckTables") (cls := "java/lang/IllegalArgumentException") (text := "from, to or kind is out of its range") (names := ["java/lang/RuntimeException", "java/lang/Exception"]) (ik := 98) (is := 118) (ic := 102) hx hb hst hown (by decide +kernel) (by decide +kernel) hE.2 hS hM xin_BT_98_102 (List.mem_append_right _ (List.mem_of_getElem? (i := 454) (by decide +kernel))) (by rw [hml]; exact hl.1) d_BT_fault_59 d_BT_fault_62 d_BT_fault_63 d_BT_fault_65 d_BT_fault_68 (x_empty hnoex) (Nat.le_of_ble_eq_true rfl) (Nat.le_of_ble_eq_true rfl) (Nat.le_of_ble_eq_true rfl) (Nat.le_of_ble_eq_true rfl) hlocks hwp (Nat.le_of_ble_eq_true rfl) (Nat.le_of_ble_eq_true rfl)
def wpBT_fault (self : Nat) (p0 : Int32) (p1 : Int32) (p2 : Int32) (M : Hp) (post : Int32 → Hp → Prop) (px : String → Hp → Prop) : Prop := (hob M self 0 ∧ (wpBT_latestStem self M (fun (a3 : Nat) (M1 : Hp) => (∃ v4 : Int32, fI M1 a3 1 10 v4 ∧ ((v4 < (20 : Int32) → (wpBT_isOutside (p0.toInt64) (10000000 : Int64) M1 (fun (r10 : Int32) (M9 : Hp) => ((r10 = 0 → (wpBT_isOutside (p1.toInt64) (10000000 : Int64) M9 (fun (r13 : Int32) (M12 : Hp) => ((r13 = 0 → (wpBT_isOutside (p2.toInt64) (7 : Int64) M12 (fun (r16 : Int32) (M15 : Hp) => ((r16 = 0 → ((p0 < p1 → (hob M15 a3 1 ∧ (wpSt_addFault a3 p0 p1 p2 M15 (fun (M19 : Hp) => (∃ M21 : Hp, pF M19 self 0 9 (.int (0 : Int32)) M21 ∧ (post (1 : Int32) M21)))))) ∧ (¬ p0 < p1 → (post (0 : Int32) M15)))) ∧ (¬ r16 = 0 → (wBT_fault_59 post px M15)))))) ∧ (¬ r13 = 0 → (wBT_fault_59 post px M12)))))) ∧ (¬ r10 = 0 → (wBT_fault_59 post px M9)))))) ∧ (¬ v4 < (20 : Int32) → (px "java/lang/IllegalStateException" M1)))))))
set_option maxRecDepth 100000 in
set_option maxHeartbeats 4000000 in
theorem eBT_fault {p : Program} {l : Launch} {e : Env} {s : State} {m : MethodId} {args : Array Value} {below : List Frame} {meth : Method} {c : Code} {D : va_G} {κ : Nat → ClassId} {A : Nat → Prop} (C : Cx_BT_fault p s m args meth c D κ A) (hst : l.stackTraces = false) (post : Int32 → Hp → Prop) (px : String → Hp → Prop) (self : Nat) (p0 : Int32) (p1 : Int32) (p2 : Int32) (M : Hp) (hwp : wpBT_fault self p0 p1 p2 M post px) : Y p l e rm_BT_fault s m args below meth c D kCl (hTys κ) A 5 0 0 (xMQ below (va_Qi post (hB D kCl (hTys κ) A) A) D kCl (hTys κ) A px args s 1 6) M 0 [(0, .ref self), (1, .int p0), (2, .int p1), (3, .int p2)] [] := by
  obtain ⟨hx, hb, hml, hr, hown, hts, hlocks, hE, hA, hnoex⟩ := id C
  have hK := hE.1
  intro H locs ls hM hS hl
  unfold wpBT_fault at hwp
  refine lv_aload_n hx hb d_BT_fault_0 rfl (lv_at hl 0 rfl) ?_
  obtain ⟨ho2, hwp⟩ := hwp
  refine h_callr hM hS hA (va_runV (As := []) (rest := []) ⟨hx, hb, hml, hown, hts⟩ (metBT_latestStem l D κ H.size self M _ hwp) (cwV 0 hts (gV kw_344 kw_346 kp_8 kw_1 kw_347) rfl rfl rfl (by decide +kernel) ⟨(Nat.le_of_ble_eq_true rfl), (Nat.le_of_ble_eq_true rfl)⟩) (h_preV hE hM hS ho2 (r := ("BuckTables", Tc0, 12)) rfl) rfl rfl hl.1 rfl (lv_room (Nat.le_of_ble_eq_true rfl)) d_BT_fault_1 ⟨(Nat.le_of_ble_eq_true rfl), (Nat.le_of_ble_eq_true rfl)⟩) (fun a3 M1 H locs hwp hM hS => ?_)
  refine lv_astore (lv' := [(4, .ref a3), (0, .ref self), (1, .int p0), (2, .int p1), (3, .int p2)]) hx hb d_BT_fault_4 hl (by decide) rfl (fun ls hl => ?_)
  refine lv_aload hx hb d_BT_fault_6 (lv_at hl 0 rfl) ?_
  obtain ⟨v4, ⟨fs5, he6, hv7⟩, hwp⟩ := hwp
  refine h_get (C := "BuckTables$Stem") (T := Tc1) (N := 12) hx hb hts inc1 hown hK hM he6 rfl 10 (by decide) (hts _ kw_124) (fun _ h9 => h9) hv7 d_BT_fault_8 ?_
  refine lv_bipush (v := 20) hx hb d_BT_fault_11 (by decide) ?_
  refine lv_icmp_lt (tgt := 26) hx hb d_BT_fault_13 (by decide) (fun c8 => ?_) (fun c8 => ?_)
  · replace hwp := hwp.1 c8
    refine lv_iload_n hx hb d_BT_fault_26 rfl (lv_at hl 2 rfl) ?_
    refine lv_i2l hx hb d_BT_fault_27 rfl ?_
    refine lv_ldc2 (v := (10000000)) hx hb hown (hts _ kw_416) d_BT_fault_28 ?_
    refine h_calli hM hS hA (va_runS (As := [.long (p0.toInt64), .long (10000000 : Int64)]) (rest := []) ⟨hx, hb, hml, hown, hts⟩ (metBT_isOutside l D κ H.size (p0.toInt64) (10000000 : Int64) M1 _ hwp) (cwS 2 hts (gS kw_417 kw_418 kw_1 kw_419) rfl rfl rfl (by decide +kernel) ⟨(Nat.le_of_ble_eq_true rfl), (Nat.le_of_ble_eq_true rfl)⟩) (h_preS hE hM hS) rfl rfl hl.1 rfl (lv_room (Nat.le_of_ble_eq_true rfl)) d_BT_fault_31 ⟨(Nat.le_of_ble_eq_true rfl), (Nat.le_of_ble_eq_true rfl)⟩) (fun r10 M9 H locs hwp hM hS => ?_)
    refine lv_if_ne (tgt := 59) hx hb d_BT_fault_34 (by decide) (fun c11 => ?_) (fun c11 => ?_)
    · replace hwp := hwp.2 c11
      exact tBT_fault_59 C hst post px M9 hwp H locs ls hM hS (lv_sub hl [] rfl)
    · replace hwp := hwp.1 c11
      refine lv_iload_n hx hb d_BT_fault_37 rfl (lv_at hl 3 rfl) ?_
      refine lv_i2l hx hb d_BT_fault_38 rfl ?_
      refine lv_ldc2 (v := (10000000)) hx hb hown (hts _ kw_416) d_BT_fault_39 ?_
      refine h_calli hM hS hA (va_runS (As := [.long (p1.toInt64), .long (10000000 : Int64)]) (rest := []) ⟨hx, hb, hml, hown, hts⟩ (metBT_isOutside l D κ H.size (p1.toInt64) (10000000 : Int64) M9 _ hwp) (cwS 2 hts (gS kw_417 kw_418 kw_1 kw_419) rfl rfl rfl (by decide +kernel) ⟨(Nat.le_of_ble_eq_true rfl), (Nat.le_of_ble_eq_true rfl)⟩) (h_preS hE hM hS) rfl rfl hl.1 rfl (lv_room (Nat.le_of_ble_eq_true rfl)) d_BT_fault_42 ⟨(Nat.le_of_ble_eq_true rfl), (Nat.le_of_ble_eq_true rfl)⟩) (fun r13 M12 H locs hwp hM hS => ?_)
      refine lv_if_ne (tgt := 59) hx hb d_BT_fault_45 (by decide) (fun c14 => ?_) (fun c14 => ?_)
      · replace hwp := hwp.2 c14
        exact tBT_fault_59 C hst post px M12 hwp H locs ls hM hS (lv_sub hl [] rfl)
      · replace hwp := hwp.1 c14
        refine lv_iload_n hx hb d_BT_fault_48 rfl (lv_at hl 4 rfl) ?_
        refine lv_i2l hx hb d_BT_fault_49 rfl ?_
        refine lv_ldc2 (v := (7)) hx hb hown (hts _ kw_453) d_BT_fault_50 ?_
        refine h_calli hM hS hA (va_runS (As := [.long (p2.toInt64), .long (7 : Int64)]) (rest := []) ⟨hx, hb, hml, hown, hts⟩ (metBT_isOutside l D κ H.size (p2.toInt64) (7 : Int64) M12 _ hwp) (cwS 2 hts (gS kw_417 kw_418 kw_1 kw_419) rfl rfl rfl (by decide +kernel) ⟨(Nat.le_of_ble_eq_true rfl), (Nat.le_of_ble_eq_true rfl)⟩) (h_preS hE hM hS) rfl rfl hl.1 rfl (lv_room (Nat.le_of_ble_eq_true rfl)) d_BT_fault_53 ⟨(Nat.le_of_ble_eq_true rfl), (Nat.le_of_ble_eq_true rfl)⟩) (fun r16 M15 H locs hwp hM hS => ?_)
        refine lv_if_eq (tgt := 69) hx hb d_BT_fault_56 (by decide) (fun c17 => ?_) (fun c17 => ?_)
        · replace hwp := hwp.1 c17
          refine lv_iload_n hx hb d_BT_fault_69 rfl (lv_at hl 3 rfl) ?_
          refine lv_iload_n hx hb d_BT_fault_70 rfl (lv_at hl 2 rfl) ?_
          refine lv_icmp_gt (tgt := 76) hx hb d_BT_fault_71 (by decide) (fun c18 => ?_) (fun c18 => ?_)
          · replace hwp := hwp.1 c18
            refine lv_aload hx hb d_BT_fault_76 (lv_at hl 0 rfl) ?_
            refine lv_iload_n hx hb d_BT_fault_78 rfl (lv_at hl 2 rfl) ?_
            refine lv_iload_n hx hb d_BT_fault_79 rfl (lv_at hl 3 rfl) ?_
            refine lv_iload_n hx hb d_BT_fault_80 rfl (lv_at hl 4 rfl) ?_
            obtain ⟨ho20, hwp⟩ := hwp
            refine h_callv hM hS hA (va_runV (As := [.int p0, .int p1, .int p2]) (rest := []) ⟨hx, hb, hml, hown, hts⟩ (metSt_addFault l D κ H.size a3 p0 p1 p2 M15 _ hwp) (cwV 3 hts (gV kw_455 kw_456 kw_457 kw_6 kw_458) rfl rfl rfl (by decide +kernel) ⟨(Nat.le_of_ble_eq_true rfl), (Nat.le_of_ble_eq_true rfl)⟩) (h_preV hE hM hS ho20 (r := ("BuckTables$Stem", Tc1, 12)) rfl) rfl rfl hl.1 rfl (lv_room (Nat.le_of_ble_eq_true rfl)) d_BT_fault_81 ⟨(Nat.le_of_ble_eq_true rfl), (Nat.le_of_ble_eq_true rfl)⟩) (fun M19 H locs hwp hM hS => ?_)
            refine lv_aload_n hx hb d_BT_fault_84 rfl (lv_at hl 1 rfl) ?_
            refine lv_iconst (v := 0) hx hb d_BT_fault_85 (by decide) ?_
            obtain ⟨M21, ⟨fs22, he23, hl24, eM21⟩, hwp⟩ := hwp
            refine h_put (C := "BuckTables") (T := Tc0) (N := 12) (v := .int (0 : Int32)) (ty := .boolean) hx hb hts inc0 tyc0 tyc0_ok nmc0 hown hK hM hS he23 rfl 9 (by decide) (hts _ kw_211) (fun _ h9 => h9) rfl (by decide +kernel) (by decide) (by decide) hl24 d_BT_fault_86 (fun H locs hM hS => ?_)
            rw [← eM21] at hM
            refine lv_iconst (v := 1) hx hb d_BT_fault_89 (by decide) ?_
            refine W.widen (k := 1) (n := 6) (by omega) (by omega) ?_
            exact x_ret (W.zret (v := (1 : Int32)) hx hb hr (by decide) (fun t ht hW => ⟨⟨(1 : Int32), M21, rfl, hwp, by show hw D kCl (hTys κ) A M21 t.heap; rw [ht]; exact hM⟩, hS.F ht⟩) hS.2.2 d_BT_fault_90)
          · replace hwp := hwp.2 c18
            refine lv_iconst (v := 0) hx hb d_BT_fault_74 (by decide) ?_
            refine W.widen (k := 1) (n := 6) (by omega) (by omega) ?_
            exact x_ret (W.zret (v := (0 : Int32)) hx hb hr (by decide) (fun t ht hW => ⟨⟨(0 : Int32), M15, rfl, hwp, by show hw D kCl (hTys κ) A M15 t.heap; rw [ht]; exact hM⟩, hS.F ht⟩) hS.2.2 d_BT_fault_75)
        · replace hwp := hwp.2 c17
          exact tBT_fault_59 C hst post px M15 hwp H locs ls hM hS (lv_sub hl [] rfl)
  · replace hwp := hwp.2 c8
    exact x_throw (own := "BuckTables") (cls := "java/lang/IllegalStateException") (text := "there are 20 faults") (names := ["java/lang/RuntimeException", "java/lang/Exception"]) (ik := 83) (is := 114) (ic := 87) hx hb hst hown (by decide +kernel) (by decide +kernel) hE.2 hS hM xin_BT_83_87 (List.mem_append_right _ (List.mem_of_getElem? (i := 452) (by decide +kernel))) (by rw [hml]; exact hl.1) d_BT_fault_16 d_BT_fault_19 d_BT_fault_20 d_BT_fault_22 d_BT_fault_25 (x_empty hnoex) (Nat.le_of_ble_eq_true rfl) (Nat.le_of_ble_eq_true rfl) (Nat.le_of_ble_eq_true rfl) (Nat.le_of_ble_eq_true rfl) hlocks hwp (Nat.le_of_ble_eq_true rfl) (Nat.le_of_ble_eq_true rfl)
set_option maxRecDepth 100000 in
set_option maxHeartbeats 4000000 in
theorem metBT_fault (l : Launch) (hst : l.stackTraces = false) (D : va_G) (κ : Nat → ClassId) (sz : Nat) (self : Nat) (p0 : Int32) (p1 : Int32) (p2 : Int32) (M : Hp) (post : Int32 → Hp → Prop) (px : String → Hp → Prop) (hwp : wpBT_fault self p0 p1 p2 M post px) : xMet l y_BT_fault ws_BT_fault rm_BT_fault (hPc D kCl (hTys κ) M sz [.ref self, .int p0, .int p1, .int p2]) (va_Qi post (hB D kCl (hTys κ) (hAx M sz)) (hAx M sz)) D kCl (hTys κ) (hAx M sz) px 1 6 := by
  refine xMet.ofW (cc := prog_1_method_3_code) (maxL := 5) (ret := (some .boolean)) (by decide +kernel) rfl ?_
  intro p e s m args below meth c s₁ B hml hv
  obtain ⟨rfl, hsz, hE, hM0⟩ := hv
  have hts : ∀ w ∈ WG, w.before _ s = true := fun w h => atoms_spec (ws := ws_BT_fault) B.pre w (List.mem_cons_of_mem _ h)
  subst hsz
  have C : Cx_BT_fault p s m _ meth c D κ (hAx M s.heap.size) := ⟨B.exec, B.bytes, hml, B.returns, findClass_of_methodNamed B.named, hts, B.notSynchronized, hE, fun q h => Or.inr h, B.noHandlers (atoms_spec (ws := ws_BT_fault) B.pre _ List.mem_cons_self)⟩
  have hl := lv_entry ([.ref self, .int p0, .int p1, .int p2]) (n := 5) (Nat.le_of_ble_eq_true rfl)
  rw [lg_entry_eq]
  generalize (lg_sl ([.ref self, .int p0, .int p1, .int p2]) ++ List.replicate (5 - (lg_sl ([.ref self, .int p0, .int p1, .int p2])).length) Slot.unset).toArray = ls at hl ⊢
  exact eBT_fault C hst post px self p0 p1 p2 M hwp s.heap [] ls (hM0.self (sz := s.heap.size)) va_S.rf hl
