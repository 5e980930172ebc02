abbrev rm_Ma_floorMod : Room := { frames := 0, cells := 0, slots := 0, locals := 0 }
def Cx_Ma_floorMod (p : Program) (s : State) (m : MethodId) (args : Array Value) (meth : Method) (c : Code) (D : va_G) (κ : Nat → ClassId) (A : Nat → Prop) : Prop := p.tables.exec = Jvm.exec ∧ c.code = prog_13_method_52_code ∧ c.maxLocals = 6 ∧ meth.sig.returnType = (some .long) ∧ s.vm.findClass "java/lang/Math" = some m.cls ∧ (∀ w ∈ WG, w.before args s = true) ∧ meth.locks = false ∧ va_K D kCl (hTys κ) s ∧ (∀ q, s.heap.size ≤ q → A q)
def wMa_floorMod_25 (post : Int64 → Hp → Prop)  (x4 : Int64) (M : Hp) : Prop := (post x4 M)
set_option maxRecDepth 100000 in
set_option maxHeartbeats 4000000 in
theorem tMa_floorMod_25 {p : Program} {l : Launch} {e : Env} {s : State} {m : MethodId} {args : Array Value} {below : List Frame} {meth : Method} {c : Code} {D : va_G} {κ : Nat → ClassId} {A : Nat → Prop} (C : Cx_Ma_floorMod p s m args meth c D κ A) (post : Int64 → Hp → Prop)  (x4 : Int64) (M : Hp) (hwp : wMa_floorMod_25 post x4 M) : Y p l e rm_Ma_floorMod s m args below meth c D kCl (hTys κ) A 6 0 0 (MQ below (va_Ql post (hB D kCl (hTys κ) A) A) args s 0 0 A) M 25 [(4, .long x4)] [] := by
  obtain ⟨hx, hb, hml, hr, hown, hts, hlocks, hK, hA⟩ := id C
  intro H locs ls hM hS hl
  unfold wMa_floorMod_25 at hwp
  refine lv_lload hx hb d_Ma_floorMod_25 (lv_at hl 0 rfl) ?_
  exact W.lret (v := x4) hx hb hr (fun t ht hW => ⟨⟨x4, M, rfl, hwp, by show hw D kCl (hTys κ) A M t.heap; rw [ht]; exact hM⟩, hS.F ht⟩) hS.2.2 d_Ma_floorMod_27
def wpMa_floorMod (p0 : Int64) (p1 : Int64) (M : Hp) (post : Int64 → Hp → Prop) : Prop := (¬ p1 = 0 ∧ (∀ z2 : Int64, z2 = (p0 - p0 / p1 * p1) → (((0 : Int64) ≤ (p0 ^^^ p1) → (wMa_floorMod_25 post z2 M)) ∧ (¬ (0 : Int64) ≤ (p0 ^^^ p1) → ((z2 = (0 : Int64) → (wMa_floorMod_25 post z2 M)) ∧ (¬ z2 = (0 : Int64) → (post (z2 + p1) M)))))))
set_option maxRecDepth 100000 in
set_option maxHeartbeats 4000000 in
theorem eMa_floorMod {p : Program} {l : Launch} {e : Env} {s : State} {m : MethodId} {args : Array Value} {below : List Frame} {meth : Method} {c : Code} {D : va_G} {κ : Nat → ClassId} {A : Nat → Prop} (C : Cx_Ma_floorMod p s m args meth c D κ A) (post : Int64 → Hp → Prop) (p0 : Int64) (p1 : Int64) (M : Hp) (hwp : wpMa_floorMod p0 p1 M post) : Y p l e rm_Ma_floorMod s m args below meth c D kCl (hTys κ) A 6 0 0 (MQ below (va_Ql post (hB D kCl (hTys κ) A) A) args s 0 0 A) M 0 [(0, .long p0), (2, .long p1)] [] := by
  obtain ⟨hx, hb, hml, hr, hown, hts, hlocks, hK, hA⟩ := id C
  intro H locs ls hM hS hl
  unfold wpMa_floorMod at hwp
  refine lv_lload_n hx hb d_Ma_floorMod_0 rfl (lv_at hl 0 rfl) ?_
  refine lv_lload_n hx hb d_Ma_floorMod_1 rfl (lv_at hl 1 rfl) ?_
  obtain ⟨h1, hwp⟩ := hwp
  refine lv_lrem hx hb d_Ma_floorMod_2 h1 ?_
  refine lv_topl (fun z2 ez2 => ?_)
  replace hwp := hwp z2 ez2
  refine lv_lstore (lv' := [(4, .long z2), (0, .long p0), (2, .long p1)]) hx hb d_Ma_floorMod_3 hl (by decide) rfl (fun ls hl => ?_)
  refine lv_lload_n hx hb d_Ma_floorMod_5 rfl (lv_at hl 1 rfl) ?_
  refine lv_lload_n hx hb d_Ma_floorMod_6 rfl (lv_at hl 2 rfl) ?_
  refine lv_lxor hx hb d_Ma_floorMod_7 ?_
  refine lv_lconst (v := 0) hx hb d_Ma_floorMod_8 (by decide) ?_
  refine W.lcmp hx hb d_Ma_floorMod_9 ?_
  refine lv_if_ge (tgt := 25) hx hb d_Ma_floorMod_10 (by decide) (fun c3 => ?_) (fun c3 => ?_)
  · replace c3 := (lc_ge _ _).mp c3
    replace hwp := hwp.1 c3
    exact tMa_floorMod_25 C post z2 M hwp H locs ls hM hS (lv_sub hl [0] rfl)
  · replace c3 := fun h9 => c3 ((lc_ge _ _).mpr h9)
    replace hwp := hwp.2 c3
    refine lv_lload hx hb d_Ma_floorMod_13 (lv_at hl 0 rfl) ?_
    refine lv_lconst (v := 0) hx hb d_Ma_floorMod_15 (by decide) ?_
    refine W.lcmp hx hb d_Ma_floorMod_16 ?_
    refine lv_if_eq (tgt := 25) hx hb d_Ma_floorMod_17 (by decide) (fun c4 => ?_) (fun c4 => ?_)
    · replace c4 := (lc_eq _ _).mp c4
      replace hwp := hwp.1 c4
      exact tMa_floorMod_25 C post z2 M hwp H locs ls hM hS (lv_sub hl [0] rfl)
    · replace c4 := fun h9 => c4 ((lc_eq _ _).mpr h9)
      replace hwp := hwp.2 c4
      refine lv_lload hx hb d_Ma_floorMod_20 (lv_at hl 0 rfl) ?_
      refine lv_lload_n hx hb d_Ma_floorMod_22 rfl (lv_at hl 2 rfl) ?_
      refine lv_ladd hx hb d_Ma_floorMod_23 ?_
      exact W.lret (v := (z2 + p1)) hx hb hr (fun t ht hW => ⟨⟨(z2 + p1), M, rfl, hwp, by show hw D kCl (hTys κ) A M t.heap; rw [ht]; exact hM⟩, hS.F ht⟩) hS.2.2 d_Ma_floorMod_24
set_option maxRecDepth 100000 in
set_option maxHeartbeats 4000000 in
theorem metMa_floorMod (l : Launch) (D : va_G) (κ : Nat → ClassId) (sz : Nat) (p0 : Int64) (p1 : Int64) (M : Hp) (post : Int64 → Hp → Prop) (hwp : wpMa_floorMod p0 p1 M post) : Met l y_Ma_floorMod ws_Ma_floorMod rm_Ma_floorMod (hPc D kCl (hTys κ) M sz [.long p0, .long p1]) (va_Ql post (hB D kCl (hTys κ) (hAx M sz)) (hAx M sz)) 0 0 (hAx M sz) := by
  refine Met.ofW (cc := prog_13_method_52_code) (maxL := 6) (ret := (some .long)) (by decide) rfl ?_
  intro p e s m args below meth c s₁ B hml hv
  obtain ⟨rfl, hsz, hK, hM0⟩ := hv
  have hts : ∀ w ∈ WG, w.before _ s = true := fun w h => atoms_spec (ws := ws_Ma_floorMod) B.pre w (List.mem_cons_of_mem _ h)
  subst hsz
  have C : Cx_Ma_floorMod p s m _ meth c D κ (hAx M s.heap.size) := ⟨B.exec, B.bytes, hml, B.returns, findClass_of_methodNamed B.named, hts, B.notSynchronized, hK, fun q h => Or.inr h⟩
  have hl := lv_entry ([.long p0, .long p1]) (n := 6) (Nat.le_of_ble_eq_true rfl)
  rw [lg_entry_eq]
  generalize (lg_sl ([.long p0, .long p1]) ++ List.replicate (6 - (lg_sl ([.long p0, .long p1])).length) Slot.unset).toArray = ls at hl ⊢
  exact eMa_floorMod C post p0 p1 M hwp s.heap [] ls (hM0.self (sz := s.heap.size)) va_S.rf hl
abbrev rm_Ma_floorDiv : Room := { frames := 0, cells := 0, slots := 0, locals := 0 }
def Cx_Ma_floorDiv (p : Program) (s : State) (m : MethodId) (args : Array Value) (meth : Method) (c : Code) (D : va_G) (κ : Nat → ClassId) (A : Nat → Prop) : Prop := p.tables.exec = Jvm.exec ∧ c.code = prog_13_method_49_code ∧ c.maxLocals = 6 ∧ meth.sig.returnType = (some .long) ∧ s.vm.findClass "java/lang/Math" = some m.cls ∧ (∀ w ∈ WG, w.before args s = true) ∧ meth.locks = false ∧ va_K D kCl (hTys κ) s ∧ (∀ q, s.heap.size ≤ q → A q)
def wMa_floorDiv_27 (post : Int64 → Hp → Prop)  (x4 : Int64) (M : Hp) : Prop := (post x4 M)
set_option maxRecDepth 100000 in
set_option maxHeartbeats 4000000 in
theorem tMa_floorDiv_27 {p : Program} {l : Launch} {e : Env} {s : State} {m : MethodId} {args : Array Value} {below : List Frame} {meth : Method} {c : Code} {D : va_G} {κ : Nat → ClassId} {A : Nat → Prop} (C : Cx_Ma_floorDiv p s m args meth c D κ A) (post : Int64 → Hp → Prop)  (x4 : Int64) (M : Hp) (hwp : wMa_floorDiv_27 post x4 M) : Y p l e rm_Ma_floorDiv s m args below meth c D kCl (hTys κ) A 6 0 0 (MQ below (va_Ql post (hB D kCl (hTys κ) A) A) args s 0 0 A) M 27 [(4, .long x4)] [] := by
  obtain ⟨hx, hb, hml, hr, hown, hts, hlocks, hK, hA⟩ := id C
  intro H locs ls hM hS hl
  unfold wMa_floorDiv_27 at hwp
  refine lv_lload hx hb d_Ma_floorDiv_27 (lv_at hl 0 rfl) ?_
  exact W.lret (v := x4) hx hb hr (fun t ht hW => ⟨⟨x4, M, rfl, hwp, by show hw D kCl (hTys κ) A M t.heap; rw [ht]; exact hM⟩, hS.F ht⟩) hS.2.2 d_Ma_floorDiv_29
def wpMa_floorDiv (p0 : Int64) (p1 : Int64) (M : Hp) (post : Int64 → Hp → Prop) : Prop := (¬ p1 = 0 ∧ (∀ z2 : Int64, z2 = (p0 / p1) → (((0 : Int64) ≤ (p0 ^^^ p1) → (wMa_floorDiv_27 post z2 M)) ∧ (¬ (0 : Int64) ≤ (p0 ^^^ p1) → (((z2 * p1) = p0 → (wMa_floorDiv_27 post z2 M)) ∧ (¬ (z2 * p1) = p0 → (post (z2 - (1 : Int64)) M)))))))
set_option maxRecDepth 100000 in
set_option maxHeartbeats 4000000 in
theorem eMa_floorDiv {p : Program} {l : Launch} {e : Env} {s : State} {m : MethodId} {args : Array Value} {below : List Frame} {meth : Method} {c : Code} {D : va_G} {κ : Nat → ClassId} {A : Nat → Prop} (C : Cx_Ma_floorDiv p s m args meth c D κ A) (post : Int64 → Hp → Prop) (p0 : Int64) (p1 : Int64) (M : Hp) (hwp : wpMa_floorDiv p0 p1 M post) : Y p l e rm_Ma_floorDiv s m args below meth c D kCl (hTys κ) A 6 0 0 (MQ below (va_Ql post (hB D kCl (hTys κ) A) A) args s 0 0 A) M 0 [(0, .long p0), (2, .long p1)] [] := by
  obtain ⟨hx, hb, hml, hr, hown, hts, hlocks, hK, hA⟩ := id C
  intro H locs ls hM hS hl
  unfold wpMa_floorDiv at hwp
  refine lv_lload_n hx hb d_Ma_floorDiv_0 rfl (lv_at hl 0 rfl) ?_
  refine lv_lload_n hx hb d_Ma_floorDiv_1 rfl (lv_at hl 1 rfl) ?_
  obtain ⟨h1, hwp⟩ := hwp
  refine lv_ldiv hx hb d_Ma_floorDiv_2 h1 ?_
  refine lv_topl (fun z2 ez2 => ?_)
  replace hwp := hwp z2 ez2
  refine lv_lstore (lv' := [(4, .long z2), (0, .long p0), (2, .long p1)]) hx hb d_Ma_floorDiv_3 hl (by decide) rfl (fun ls hl => ?_)
  refine lv_lload_n hx hb d_Ma_floorDiv_5 rfl (lv_at hl 1 rfl) ?_
  refine lv_lload_n hx hb d_Ma_floorDiv_6 rfl (lv_at hl 2 rfl) ?_
  refine lv_lxor hx hb d_Ma_floorDiv_7 ?_
  refine lv_lconst (v := 0) hx hb d_Ma_floorDiv_8 (by decide) ?_
  refine W.lcmp hx hb d_Ma_floorDiv_9 ?_
  refine lv_if_ge (tgt := 27) hx hb d_Ma_floorDiv_10 (by decide) (fun c3 => ?_) (fun c3 => ?_)
  · replace c3 := (lc_ge _ _).mp c3
    replace hwp := hwp.1 c3
    exact tMa_floorDiv_27 C post z2 M hwp H locs ls hM hS (lv_sub hl [0] rfl)
  · replace c3 := fun h9 => c3 ((lc_ge _ _).mpr h9)
    replace hwp := hwp.2 c3
    refine lv_lload hx hb d_Ma_floorDiv_13 (lv_at hl 0 rfl) ?_
    refine lv_lload_n hx hb d_Ma_floorDiv_15 rfl (lv_at hl 2 rfl) ?_
    refine lv_lmul hx hb d_Ma_floorDiv_16 ?_
    refine lv_lload_n hx hb d_Ma_floorDiv_17 rfl (lv_at hl 1 rfl) ?_
    refine W.lcmp hx hb d_Ma_floorDiv_18 ?_
    refine lv_if_eq (tgt := 27) hx hb d_Ma_floorDiv_19 (by decide) (fun c4 => ?_) (fun c4 => ?_)
    · replace c4 := (lc_eq _ _).mp c4
      replace hwp := hwp.1 c4
      exact tMa_floorDiv_27 C post z2 M hwp H locs ls hM hS (lv_sub hl [0] rfl)
    · replace c4 := fun h9 => c4 ((lc_eq _ _).mpr h9)
      replace hwp := hwp.2 c4
      refine lv_lload hx hb d_Ma_floorDiv_22 (lv_at hl 0 rfl) ?_
      refine lv_lconst (v := 1) hx hb d_Ma_floorDiv_24 (by decide) ?_
      refine lv_lsub hx hb d_Ma_floorDiv_25 ?_
      exact W.lret (v := (z2 - (1 : Int64))) hx hb hr (fun t ht hW => ⟨⟨(z2 - (1 : Int64)), M, rfl, hwp, by show hw D kCl (hTys κ) A M t.heap; rw [ht]; exact hM⟩, hS.F ht⟩) hS.2.2 d_Ma_floorDiv_26
set_option maxRecDepth 100000 in
set_option maxHeartbeats 4000000 in
theorem metMa_floorDiv (l : Launch) (D : va_G) (κ : Nat → ClassId) (sz : Nat) (p0 : Int64) (p1 : Int64) (M : Hp) (post : Int64 → Hp → Prop) (hwp : wpMa_floorDiv p0 p1 M post) : Met l y_Ma_floorDiv ws_Ma_floorDiv rm_Ma_floorDiv (hPc D kCl (hTys κ) M sz [.long p0, .long p1]) (va_Ql post (hB D kCl (hTys κ) (hAx M sz)) (hAx M sz)) 0 0 (hAx M sz) := by
  refine Met.ofW (cc := prog_13_method_49_code) (maxL := 6) (ret := (some .long)) (by decide) rfl ?_
  intro p e s m args below meth c s₁ B hml hv
  obtain ⟨rfl, hsz, hK, hM0⟩ := hv
  have hts : ∀ w ∈ WG, w.before _ s = true := fun w h => atoms_spec (ws := ws_Ma_floorDiv) B.pre w (List.mem_cons_of_mem _ h)
  subst hsz
  have C : Cx_Ma_floorDiv p s m _ meth c D κ (hAx M s.heap.size) := ⟨B.exec, B.bytes, hml, B.returns, findClass_of_methodNamed B.named, hts, B.notSynchronized, hK, fun q h => Or.inr h⟩
  have hl := lv_entry ([.long p0, .long p1]) (n := 6) (Nat.le_of_ble_eq_true rfl)
  rw [lg_entry_eq]
  generalize (lg_sl ([.long p0, .long p1]) ++ List.replicate (6 - (lg_sl ([.long p0, .long p1])).length) Slot.unset).toArray = ls at hl ⊢
  exact eMa_floorDiv C post p0 p1 M hwp s.heap [] ls (hM0.self (sz := s.heap.size)) va_S.rf hl
