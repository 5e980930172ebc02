abbrev rm_Mo_worth : Room := { frames := 2, cells := 0, slots := 0, locals := 48 }
def Cx_Mo_worth (p : Program) (s : State) (m : MethodId) (args : Array Value) (meth : Method) (c : Code) (D : va_G) (κ : Nat → ClassId) (A : Nat → Prop) : Prop := p.tables.exec = Jvm.exec ∧ c.code = prog_8_method_38_code ∧ c.maxLocals = 1 ∧ meth.sig.returnType = (some .long) ∧ s.vm.findClass "BuckTablesModel" = some m.cls ∧ (∀ w ∈ WG, w.before args s = true) ∧ meth.locks = false ∧ hEnv D kCl (hTys κ) A s ∧ (∀ q, s.heap.size ≤ q → A q)
def wMo_worth_15 (post : Int64 → Hp → Prop)   (y0 : Int64) (M : Hp) : Prop := (post y0 M)
set_option maxRecDepth 100000 in
set_option maxHeartbeats 4000000 in
theorem tMo_worth_15 {p : Program} {l : Launch} {e : Env} {s : State} {m : MethodId} {args : Array Value} {below : List Frame} {meth : Method} {c : Code} {D : va_G} {κ : Nat → ClassId} {A : Nat → Prop} (C : Cx_Mo_worth p s m args meth c D κ A) (post : Int64 → Hp → Prop)   (y0 : Int64) (M : Hp) (hwp : wMo_worth_15 post y0 M) : Y p l e rm_Mo_worth s m args below meth c D kCl (hTys κ) A 1 0 0 (MQ below (va_Ql post (hB D kCl (hTys κ) A) A) args s 0 0 A) M 15 [] [.long y0] := by
  obtain ⟨hx, hb, hml, hr, hown, hts, hlocks, hE, hA⟩ := id C
  have hK := hE.1
  intro H locs ls hM hS hl
  unfold wMo_worth_15 at hwp
  exact W.lret (v := y0) hx hb hr (fun t ht hW => ⟨⟨y0, M, rfl, hwp, by show hw D kCl (hTys κ) A M t.heap; rw [ht]; exact hM⟩, hS.F ht⟩) hS.2.2 d_Mo_worth_15
def wpMo_worth (self : Nat) (M : Hp) (post : Int64 → Hp → Prop) : Prop := (hob M self 6 ∧ (wpMo_none self M (fun (r3 : Int32) (M1 : Hp) => ((r3 = 0 → (hob M1 self 6 ∧ (wpMo_trueWorth self M1 (fun (r7 : Int64) (M5 : Hp) => (wMo_worth_15 post r7 M5))))) ∧ (¬ r3 = 0 → (wMo_worth_15 post (0 : Int64) M1))))))
set_option maxRecDepth 100000 in
set_option maxHeartbeats 4000000 in
theorem eMo_worth {p : Program} {l : Launch} {e : Env} {s : State} {m : MethodId} {args : Array Value} {below : List Frame} {meth : Method} {c : Code} {D : va_G} {κ : Nat → ClassId} {A : Nat → Prop} (C : Cx_Mo_worth p s m args meth c D κ A) (post : Int64 → Hp → Prop) (self : Nat) (M : Hp) (hwp : wpMo_worth self M post) : Y p l e rm_Mo_worth s m args below meth c D kCl (hTys κ) A 1 0 0 (MQ below (va_Ql post (hB D kCl (hTys κ) A) A) args s 0 0 A) M 0 [(0, .ref self)] [] := by
  obtain ⟨hx, hb, hml, hr, hown, hts, hlocks, hE, hA⟩ := id C
  have hK := hE.1
  intro H locs ls hM hS hl
  unfold wpMo_worth at hwp
  refine lv_aload_n hx hb d_Mo_worth_0 rfl (lv_at hl 0 rfl) ?_
  obtain ⟨ho2, hwp⟩ := hwp
  refine h_calli hM hS hA (va_runV (As := []) (rest := []) ⟨hx, hb, hml, hown, hts⟩ (metMo_none l D κ H.size self M _ hwp) (cwV 0 hts (gV kw_979 kw_981 kp_44 kw_8 kw_982) rfl rfl rfl (by decide +kernel) ⟨(Nat.le_of_ble_eq_true rfl), (Nat.le_of_ble_eq_true rfl)⟩) (h_preV hE hM hS ho2 (r := ("BuckTablesModel", Tc6, 36)) rfl) rfl rfl hl.1 rfl (lv_room (Nat.le_of_ble_eq_true rfl)) d_Mo_worth_1 ⟨(Nat.le_of_ble_eq_true rfl), (Nat.le_of_ble_eq_true rfl)⟩) (fun r3 M1 H locs hwp hM hS => ?_)
  refine lv_if_eq (tgt := 11) hx hb d_Mo_worth_4 (by decide) (fun c4 => ?_) (fun c4 => ?_)
  · replace hwp := hwp.1 c4
    refine lv_aload_n hx hb d_Mo_worth_11 rfl (lv_at hl 0 rfl) ?_
    obtain ⟨ho6, hwp⟩ := hwp
    refine h_calll hM hS hA (va_runV (As := []) (rest := []) ⟨hx, hb, hml, hown, hts⟩ (metMo_trueWorth l D κ H.size self M1 _ hwp) (cwV 0 hts (gV kw_955 kw_957 kp_39 kw_8 kw_958) rfl rfl rfl (by decide +kernel) ⟨(Nat.le_of_ble_eq_true rfl), (Nat.le_of_ble_eq_true rfl)⟩) (h_preV hE hM hS ho6 (r := ("BuckTablesModel", Tc6, 36)) rfl) rfl rfl hl.1 rfl (lv_room (Nat.le_of_ble_eq_true rfl)) d_Mo_worth_12 ⟨(Nat.le_of_ble_eq_true rfl), (Nat.le_of_ble_eq_true rfl)⟩) (fun r7 M5 H locs hwp hM hS => ?_)
    exact tMo_worth_15 C post r7 M5 hwp H locs ls hM hS (lv_sub hl [] rfl)
  · replace hwp := hwp.2 c4
    refine lv_lconst (v := 0) hx hb d_Mo_worth_7 (by decide) ?_
    refine lv_goto (tgt := 15) hx hb d_Mo_worth_8 (by decide) ?_
    exact tMo_worth_15 C post (0 : Int64) M1 hwp H locs ls hM hS (lv_sub hl [] rfl)
set_option maxRecDepth 100000 in
set_option maxHeartbeats 4000000 in
theorem metMo_worth (l : Launch) (D : va_G) (κ : Nat → ClassId) (sz : Nat) (self : Nat) (M : Hp) (post : Int64 → Hp → Prop) (hwp : wpMo_worth self M post) : Met l y_Mo_worth ws_Mo_worth rm_Mo_worth (hPc D kCl (hTys κ) M sz [.ref self]) (va_Ql post (hB D kCl (hTys κ) (hAx M sz)) (hAx M sz)) 0 0 (hAx M sz) := by
  refine Met.ofW (cc := prog_8_method_38_code) (maxL := 1) (ret := (some .long)) (by decide +kernel) rfl ?_
  intro p e s m args below meth c s₁ B hml hv
  obtain ⟨rfl, hsz, hE, hM0⟩ := hv
  have hts : ∀ w ∈ WG, w.before _ s = true := fun w h => atoms_spec (ws := ws_Mo_worth) B.pre w (List.mem_cons_of_mem _ h)
  subst hsz
  have C : Cx_Mo_worth p s m _ meth c D κ (hAx M s.heap.size) := ⟨B.exec, B.bytes, hml, B.returns, findClass_of_methodNamed B.named, hts, B.notSynchronized, hE, fun q h => Or.inr h⟩
  have hl := lv_entry ([.ref self]) (n := 1) (Nat.le_of_ble_eq_true rfl)
  rw [lg_entry_eq]
  generalize (lg_sl ([.ref self]) ++ List.replicate (1 - (lg_sl ([.ref self])).length) Slot.unset).toArray = ls at hl ⊢
  exact eMo_worth C post self M hwp s.heap [] ls (hM0.self (sz := s.heap.size)) va_S.rf hl
abbrev rm_Mo_logAt : Room := { frames := 1, cells := 0, slots := 0, locals := 21 }
def Cx_Mo_logAt (p : Program) (s : State) (m : MethodId) (args : Array Value) (meth : Method) (c : Code) (D : va_G) (κ : Nat → ClassId) (A : Nat → Prop) : Prop := p.tables.exec = Jvm.exec ∧ c.code = prog_8_method_39_code ∧ c.maxLocals = 6 ∧ meth.sig.returnType = (some .int) ∧ s.vm.findClass "BuckTablesModel" = some m.cls ∧ (∀ w ∈ WG, w.before args s = true) ∧ meth.locks = false ∧ hEnv D kCl (hTys κ) A s ∧ (∀ q, s.heap.size ≤ q → A q)
def wMo_logAt_83 (post : Int32 → Hp → Prop) (k7 : Nat → Int32 → Int32 → Int32 → Int32 → Hp → Prop) (x0 : Nat) (x1 : Int32) (x3 : Int32) (x4 : Int32) (y0 : Int32) (M : Hp) : Prop := (∀ z1 : Int32, z1 = x4 + 1 → (k7 x0 x1 y0 x3 z1 M))
set_option maxRecDepth 100000 in
set_option maxHeartbeats 4000000 in
theorem tMo_logAt_83 {p : Program} {l : Launch} {e : Env} {s : State} {m : MethodId} {args : Array Value} {below : List Frame} {meth : Method} {c : Code} {D : va_G} {κ : Nat → ClassId} {A : Nat → Prop} (C : Cx_Mo_logAt p s m args meth c D κ A) (post : Int32 → Hp → Prop) (k7 : Nat → Int32 → Int32 → Int32 → Int32 → Hp → Prop) (hk7 : ∀ (x0 : Nat) (x1 : Int32) (x2 : Int32) (x3 : Int32) (x4 : Int32) (M : Hp), k7 x0 x1 x2 x3 x4 M → Y p l e rm_Mo_logAt s m args below meth c D kCl (hTys κ) A 6 0 0 (MQ below (va_Qi post (hB D kCl (hTys κ) A) A) args s 0 0 A) M 7 [(0, .ref x0), (1, .int x1), (2, .int x2), (3, .int x3), (4, .int x4)] []) (x0 : Nat) (x1 : Int32) (x3 : Int32) (x4 : Int32) (y0 : Int32) (M : Hp) (hwp : wMo_logAt_83 post k7 x0 x1 x3 x4 y0 M) : Y p l e rm_Mo_logAt s m args below meth c D kCl (hTys κ) A 6 0 0 (MQ below (va_Qi post (hB D kCl (hTys κ) A) A) args s 0 0 A) M 83 [(0, .ref x0), (1, .int x1), (3, .int x3), (4, .int x4)] [.int y0] := by
  obtain ⟨hx, hb, hml, hr, hown, hts, hlocks, hE, hA⟩ := id C
  have hK := hE.1
  intro H locs ls hM hS hl
  unfold wMo_logAt_83 at hwp
  refine lv_istore_n (lv' := [(2, .int y0), (0, .ref x0), (1, .int x1), (3, .int x3), (4, .int x4)]) hx hb d_Mo_logAt_83 rfl hl (by decide) rfl (fun ls hl => ?_)
  obtain ⟨z1, ez1⟩ : ∃ y : Int32, y = x4 + 1 := ⟨_, rfl⟩
  replace hwp := hwp z1 ez1
  refine lv_iinc (v := z1) (lv' := [(4, .int z1), (2, .int y0), (0, .ref x0), (1, .int x1), (3, .int x3)]) hx hb d_Mo_logAt_84 hl (k := 4) rfl (by rw [ez1]; rfl) (by decide) rfl (fun ls hl => ?_)
  refine lv_goto (tgt := 7) hx hb d_Mo_logAt_87 (by decide) ?_
  exact hk7 x0 x1 y0 x3 z1 M hwp H locs ls hM hS (lv_sub hl [2, 3, 1, 4, 0] rfl)
def wMo_logAt_70 (post : Int32 → Hp → Prop) (k7 : Nat → Int32 → Int32 → Int32 → Int32 → Hp → Prop) (x0 : Nat) (x1 : Int32) (x2 : Int32) (x4 : Int32) (x5 : Int32) (y0 : Int32) (M : Hp) : Prop := ((x5 = 0 → (wMo_logAt_83 post k7 x0 x1 y0 x4 x2 M)) ∧ (¬ x5 = 0 → (wMo_logAt_83 post k7 x0 x1 y0 x4 (x2 + (1 : Int32)) M)))
set_option maxRecDepth 100000 in
set_option maxHeartbeats 4000000 in
theorem tMo_logAt_70 {p : Program} {l : Launch} {e : Env} {s : State} {m : MethodId} {args : Array Value} {below : List Frame} {meth : Method} {c : Code} {D : va_G} {κ : Nat → ClassId} {A : Nat → Prop} (C : Cx_Mo_logAt p s m args meth c D κ A) (post : Int32 → Hp → Prop) (k7 : Nat → Int32 → Int32 → Int32 → Int32 → Hp → Prop) (hk7 : ∀ (x0 : Nat) (x1 : Int32) (x2 : Int32) (x3 : Int32) (x4 : Int32) (M : Hp), k7 x0 x1 x2 x3 x4 M → Y p l e rm_Mo_logAt s m args below meth c D kCl (hTys κ) A 6 0 0 (MQ below (va_Qi post (hB D kCl (hTys κ) A) A) args s 0 0 A) M 7 [(0, .ref x0), (1, .int x1), (2, .int x2), (3, .int x3), (4, .int x4)] []) (x0 : Nat) (x1 : Int32) (x2 : Int32) (x4 : Int32) (x5 : Int32) (y0 : Int32) (M : Hp) (hwp : wMo_logAt_70 post k7 x0 x1 x2 x4 x5 y0 M) : Y p l e rm_Mo_logAt s m args below meth c D kCl (hTys κ) A 6 0 0 (MQ below (va_Qi post (hB D kCl (hTys κ) A) A) args s 0 0 A) M 70 [(0, .ref x0), (1, .int x1), (2, .int x2), (4, .int x4), (5, .int x5)] [.int y0] := by
  obtain ⟨hx, hb, hml, hr, hown, hts, hlocks, hE, hA⟩ := id C
  have hK := hE.1
  intro H locs ls hM hS hl
  unfold wMo_logAt_70 at hwp
  refine lv_istore_n (lv' := [(3, .int y0), (0, .ref x0), (1, .int x1), (2, .int x2), (4, .int x4), (5, .int x5)]) hx hb d_Mo_logAt_70 rfl hl (by decide) rfl (fun ls hl => ?_)
  refine lv_iload hx hb d_Mo_logAt_71 (lv_at hl 5 rfl) ?_
  refine lv_if_eq (tgt := 82) hx hb d_Mo_logAt_73 (by decide) (fun c2 => ?_) (fun c2 => ?_)
  · replace hwp := hwp.1 c2
    refine lv_iload_n hx hb d_Mo_logAt_82 rfl (lv_at hl 3 rfl) ?_
    exact tMo_logAt_83 C post k7 hk7 x0 x1 y0 x4 x2 M hwp H locs ls hM hS (lv_sub hl [1, 2, 0, 4] rfl)
  · replace hwp := hwp.2 c2
    refine lv_iload_n hx hb d_Mo_logAt_76 rfl (lv_at hl 3 rfl) ?_
    refine lv_iconst (v := 1) hx hb d_Mo_logAt_77 (by decide) ?_
    refine lv_iadd hx hb d_Mo_logAt_78 ?_
    refine lv_goto (tgt := 83) hx hb d_Mo_logAt_79 (by decide) ?_
    exact tMo_logAt_83 C post k7 hk7 x0 x1 y0 x4 (x2 + (1 : Int32)) M hwp H locs ls hM hS (lv_sub hl [1, 2, 0, 4] rfl)
def wMo_logAt_69 (post : Int32 → Hp → Prop) (k7 : Nat → Int32 → Int32 → Int32 → Int32 → Hp → Prop) (x0 : Nat) (x1 : Int32) (x2 : Int32) (x3 : Int32) (x4 : Int32) (x5 : Int32) (M : Hp) : Prop := (wMo_logAt_70 post k7 x0 x1 x2 x4 x5 x3 M)
set_option maxRecDepth 100000 in
set_option maxHeartbeats 4000000 in
theorem tMo_logAt_69 {p : Program} {l : Launch} {e : Env} {s : State} {m : MethodId} {args : Array Value} {below : List Frame} {meth : Method} {c : Code} {D : va_G} {κ : Nat → ClassId} {A : Nat → Prop} (C : Cx_Mo_logAt p s m args meth c D κ A) (post : Int32 → Hp → Prop) (k7 : Nat → Int32 → Int32 → Int32 → Int32 → Hp → Prop) (hk7 : ∀ (x0 : Nat) (x1 : Int32) (x2 : Int32) (x3 : Int32) (x4 : Int32) (M : Hp), k7 x0 x1 x2 x3 x4 M → Y p l e rm_Mo_logAt s m args below meth c D kCl (hTys κ) A 6 0 0 (MQ below (va_Qi post (hB D kCl (hTys κ) A) A) args s 0 0 A) M 7 [(0, .ref x0), (1, .int x1), (2, .int x2), (3, .int x3), (4, .int x4)] []) (x0 : Nat) (x1 : Int32) (x2 : Int32) (x3 : Int32) (x4 : Int32) (x5 : Int32) (M : Hp) (hwp : wMo_logAt_69 post k7 x0 x1 x2 x3 x4 x5 M) : Y p l e rm_Mo_logAt s m args below meth c D kCl (hTys κ) A 6 0 0 (MQ below (va_Qi post (hB D kCl (hTys κ) A) A) args s 0 0 A) M 69 [(0, .ref x0), (1, .int x1), (2, .int x2), (3, .int x3), (4, .int x4), (5, .int x5)] [] := by
  obtain ⟨hx, hb, hml, hr, hown, hts, hlocks, hE, hA⟩ := id C
  have hK := hE.1
  intro H locs ls hM hS hl
  unfold wMo_logAt_69 at hwp
  refine lv_iload_n hx hb d_Mo_logAt_69 rfl (lv_at hl 3 rfl) ?_
  exact tMo_logAt_70 C post k7 hk7 x0 x1 x2 x4 x5 x3 M hwp H locs ls hM hS (lv_sub hl [0, 1, 2, 4, 5] rfl)
def wMo_logAt_52 (post : Int32 → Hp → Prop) (k7 : Nat → Int32 → Int32 → Int32 → Int32 → Hp → Prop) (x0 : Nat) (x1 : Int32) (x2 : Int32) (x3 : Int32) (x4 : Int32) (y0 : Int32) (M : Hp) : Prop := ((y0 = 0 → (wMo_logAt_69 post k7 x0 x1 x2 x3 x4 y0 M)) ∧ (¬ y0 = 0 → ((x2 = x1 → (wMo_logAt_70 post k7 x0 x1 x2 x4 y0 x4 M)) ∧ (¬ x2 = x1 → (wMo_logAt_69 post k7 x0 x1 x2 x3 x4 y0 M)))))
set_option maxRecDepth 100000 in
set_option maxHeartbeats 4000000 in
theorem tMo_logAt_52 {p : Program} {l : Launch} {e : Env} {s : State} {m : MethodId} {args : Array Value} {below : List Frame} {meth : Method} {c : Code} {D : va_G} {κ : Nat → ClassId} {A : Nat → Prop} (C : Cx_Mo_logAt p s m args meth c D κ A) (post : Int32 → Hp → Prop) (k7 : Nat → Int32 → Int32 → Int32 → Int32 → Hp → Prop) (hk7 : ∀ (x0 : Nat) (x1 : Int32) (x2 : Int32) (x3 : Int32) (x4 : Int32) (M : Hp), k7 x0 x1 x2 x3 x4 M → Y p l e rm_Mo_logAt s m args below meth c D kCl (hTys κ) A 6 0 0 (MQ below (va_Qi post (hB D kCl (hTys κ) A) A) args s 0 0 A) M 7 [(0, .ref x0), (1, .int x1), (2, .int x2), (3, .int x3), (4, .int x4)] []) (x0 : Nat) (x1 : Int32) (x2 : Int32) (x3 : Int32) (x4 : Int32) (y0 : Int32) (M : Hp) (hwp : wMo_logAt_52 post k7 x0 x1 x2 x3 x4 y0 M) : Y p l e rm_Mo_logAt s m args below meth c D kCl (hTys κ) A 6 0 0 (MQ below (va_Qi post (hB D kCl (hTys κ) A) A) args s 0 0 A) M 52 [(0, .ref x0), (1, .int x1), (2, .int x2), (3, .int x3), (4, .int x4)] [.int y0] := by
  obtain ⟨hx, hb, hml, hr, hown, hts, hlocks, hE, hA⟩ := id C
  have hK := hE.1
  intro H locs ls hM hS hl
  unfold wMo_logAt_52 at hwp
  refine lv_istore (lv' := [(5, .int y0), (0, .ref x0), (1, .int x1), (2, .int x2), (3, .int x3), (4, .int x4)]) hx hb d_Mo_logAt_52 hl (by decide) rfl (fun ls hl => ?_)
  refine lv_iload hx hb d_Mo_logAt_54 (lv_at hl 0 rfl) ?_
  refine lv_if_eq (tgt := 69) hx hb d_Mo_logAt_56 (by decide) (fun c3 => ?_) (fun c3 => ?_)
  · replace hwp := hwp.1 c3
    exact tMo_logAt_69 C post k7 hk7 x0 x1 x2 x3 x4 y0 M hwp H locs ls hM hS (lv_sub hl [1, 2, 3, 4, 5, 0] rfl)
  · replace hwp := hwp.2 c3
    refine lv_iload_n hx hb d_Mo_logAt_59 rfl (lv_at hl 3 rfl) ?_
    refine lv_iload_n hx hb d_Mo_logAt_60 rfl (lv_at hl 2 rfl) ?_
    refine lv_icmp_ne (tgt := 69) hx hb d_Mo_logAt_61 (by decide) (fun c4 => ?_) (fun c4 => ?_)
    · replace hwp := hwp.2 c4
      exact tMo_logAt_69 C post k7 hk7 x0 x1 x2 x3 x4 y0 M hwp H locs ls hM hS (lv_sub hl [1, 2, 3, 4, 5, 0] rfl)
    · replace hwp := hwp.1 c4
      refine lv_iload hx hb d_Mo_logAt_64 (lv_at hl 5 rfl) ?_
      refine lv_goto (tgt := 70) hx hb d_Mo_logAt_66 (by decide) ?_
      exact tMo_logAt_70 C post k7 hk7 x0 x1 x2 x4 y0 x4 M hwp H locs ls hM hS (lv_sub hl [1, 2, 3, 5, 0] rfl)
def wMo_logAt_51 (post : Int32 → Hp → Prop) (k7 : Nat → Int32 → Int32 → Int32 → Int32 → Hp → Prop) (x0 : Nat) (x1 : Int32) (x2 : Int32) (x3 : Int32) (x4 : Int32) (M : Hp) : Prop := (wMo_logAt_52 post k7 x0 x1 x2 x3 x4 (0 : Int32) M)
set_option maxRecDepth 100000 in
set_option maxHeartbeats 4000000 in
theorem tMo_logAt_51 {p : Program} {l : Launch} {e : Env} {s : State} {m : MethodId} {args : Array Value} {below : List Frame} {meth : Method} {c : Code} {D : va_G} {κ : Nat → ClassId} {A : Nat → Prop} (C : Cx_Mo_logAt p s m args meth c D κ A) (post : Int32 → Hp → Prop) (k7 : Nat → Int32 → Int32 → Int32 → Int32 → Hp → Prop) (hk7 : ∀ (x0 : Nat) (x1 : Int32) (x2 : Int32) (x3 : Int32) (x4 : Int32) (M : Hp), k7 x0 x1 x2 x3 x4 M → Y p l e rm_Mo_logAt s m args below meth c D kCl (hTys κ) A 6 0 0 (MQ below (va_Qi post (hB D kCl (hTys κ) A) A) args s 0 0 A) M 7 [(0, .ref x0), (1, .int x1), (2, .int x2), (3, .int x3), (4, .int x4)] []) (x0 : Nat) (x1 : Int32) (x2 : Int32) (x3 : Int32) (x4 : Int32) (M : Hp) (hwp : wMo_logAt_51 post k7 x0 x1 x2 x3 x4 M) : Y p l e rm_Mo_logAt s m args below meth c D kCl (hTys κ) A 6 0 0 (MQ below (va_Qi post (hB D kCl (hTys κ) A) A) args s 0 0 A) M 51 [(0, .ref x0), (1, .int x1), (2, .int x2), (3, .int x3), (4, .int x4)] [] := by
  obtain ⟨hx, hb, hml, hr, hown, hts, hlocks, hE, hA⟩ := id C
  have hK := hE.1
  intro H locs ls hM hS hl
  unfold wMo_logAt_51 at hwp
  refine lv_iconst (v := 0) hx hb d_Mo_logAt_51 (by decide) ?_
  exact tMo_logAt_52 C post k7 hk7 x0 x1 x2 x3 x4 (0 : Int32) M hwp H locs ls hM hS (lv_sub hl [0, 1, 2, 3, 4] rfl)
def wMo_logAt_7 (post : Int32 → Hp → Prop)  : Nat → Nat → Int32 → Int32 → Int32 → Int32 → Hp → Prop
  | 0 => fun _ _ _ _ _ _ => False
  | n + 1 => fun x0 x1 x2 x3 x4 M => (∃ v5 : Int32, fI M x0 6 4 v5 ∧ ((((81 : Int32) * v5) ≤ x4 → (post x3 M)) ∧ (¬ ((81 : Int32) * v5) ≤ x4 → (hob M x0 6 ∧ (wpMo_stepsOf x0 (x4 / (81 : Int32)) M (fun (r12 : Int32) (M10 : Hp) => ((r12 ≤ (x4 - x4 / (81 : Int32) * (81 : Int32)) → (wMo_logAt_51 post (wMo_logAt_7 post n) x0 x1 x2 x3 x4 M10)) ∧ (¬ r12 ≤ (x4 - x4 / (81 : Int32) * (81 : Int32)) → (∃ a14 : Nat, fA M10 x0 6 25 a14 ∧ (∃ v18 : Int32, aI M10 a14 x4 v18 ∧ ((v18 = (1 : Int32) → (wMo_logAt_52 post (wMo_logAt_7 post n) x0 x1 x2 x3 x4 (1 : Int32) M10)) ∧ (¬ v18 = (1 : Int32) → (wMo_logAt_51 post (wMo_logAt_7 post n) x0 x1 x2 x3 x4 M10)))))))))))))
set_option maxRecDepth 100000 in
set_option maxHeartbeats 4000000 in
theorem tMo_logAt_7 {p : Program} {l : Launch} {e : Env} {s : State} {m : MethodId} {args : Array Value} {below : List Frame} {meth : Method} {c : Code} {D : va_G} {κ : Nat → ClassId} {A : Nat → Prop} (C : Cx_Mo_logAt p s m args meth c D κ A) (post : Int32 → Hp → Prop)  : ∀ (n : Nat) (x0 : Nat) (x1 : Int32) (x2 : Int32) (x3 : Int32) (x4 : Int32) (M : Hp), wMo_logAt_7 post n x0 x1 x2 x3 x4 M → Y p l e rm_Mo_logAt s m args below meth c D kCl (hTys κ) A 6 0 0 (MQ below (va_Qi post (hB D kCl (hTys κ) A) A) args s 0 0 A) M 7 [(0, .ref x0), (1, .int x1), (2, .int x2), (3, .int x3), (4, .int x4)] [] := by
  obtain ⟨hx, hb, hml, hr, hown, hts, hlocks, hE, hA⟩ := id C
  have hK := hE.1
  intro n
  induction n with
  | zero => intro x0 x1 x2 x3 x4 M hwp; exact hwp.elim
  | succ n ih =>
    intro x0 x1 x2 x3 x4 M hwp H locs ls hM hS hl
    unfold wMo_logAt_7 at hwp
    refine lv_iload hx hb d_Mo_logAt_7 (lv_at hl 4 rfl) ?_
    refine lv_bipush (v := 81) hx hb d_Mo_logAt_9 (by decide) ?_
    refine lv_aload_n hx hb d_Mo_logAt_11 rfl (lv_at hl 0 rfl) ?_
    obtain ⟨v5, ⟨fs6, he7, hv8⟩, hwp⟩ := hwp
    refine h_get (C := "BuckTablesModel") (T := Tc6) (N := 36) hx hb hts inc6 hown hK hM he7 rfl 4 (by decide) (hts _ kw_724) (fun _ h9 => h9) hv8 d_Mo_logAt_12 ?_
    refine lv_imul hx hb d_Mo_logAt_15 ?_
    refine lv_icmp_ge (tgt := 90) hx hb d_Mo_logAt_16 (by decide) (fun c9 => ?_) (fun c9 => ?_)
    · replace hwp := hwp.1 c9
      refine lv_iload_n hx hb d_Mo_logAt_90 rfl (lv_at hl 3 rfl) ?_
      exact W.iret (v := x3) hx hb hr (fun t ht hW => ⟨⟨x3, M, rfl, hwp, by show hw D kCl (hTys κ) A M t.heap; rw [ht]; exact hM⟩, hS.F ht⟩) hS.2.2 d_Mo_logAt_91
    · replace hwp := hwp.2 c9
      refine lv_iload hx hb d_Mo_logAt_19 (lv_at hl 4 rfl) ?_
      refine lv_bipush (v := 81) hx hb d_Mo_logAt_21 (by decide) ?_
      refine lv_irem hx hb d_Mo_logAt_23 (by decide) ?_
      refine lv_aload_n hx hb d_Mo_logAt_24 rfl (lv_at hl 0 rfl) ?_
      refine lv_iload hx hb d_Mo_logAt_25 (lv_at hl 4 rfl) ?_
      refine lv_bipush (v := 81) hx hb d_Mo_logAt_27 (by decide) ?_
      refine lv_idiv hx hb d_Mo_logAt_29 (by decide) ?_
      obtain ⟨ho11, hwp⟩ := hwp
      refine h_calli hM hS hA (va_runV (As := [.int (x4 / (81 : Int32))]) (rest := [.int (x4 - x4 / (81 : Int32) * (81 : Int32))]) ⟨hx, hb, hml, hown, hts⟩ (metMo_stepsOf l D κ H.size x0 (x4 / (81 : Int32)) M _ hwp) (cwV 1 hts (gV kw_875 kw_877 kp_26 kw_8 kw_878) rfl rfl rfl (by decide +kernel) ⟨(Nat.le_of_ble_eq_true rfl), (Nat.le_of_ble_eq_true rfl)⟩) (h_preV hE hM hS ho11 (r := ("BuckTablesModel", Tc6, 36)) rfl) rfl rfl hl.1 rfl (lv_room (Nat.le_of_ble_eq_true rfl)) d_Mo_logAt_30 ⟨(Nat.le_of_ble_eq_true rfl), (Nat.le_of_ble_eq_true rfl)⟩) (fun r12 M10 H locs hwp hM hS => ?_)
      refine lv_icmp_ge (tgt := 51) hx hb d_Mo_logAt_33 (by decide) (fun c13 => ?_) (fun c13 => ?_)
      · replace hwp := hwp.1 c13
        exact tMo_logAt_51 C post (wMo_logAt_7 post n) ih x0 x1 x2 x3 x4 M10 hwp H locs ls hM hS (lv_sub hl [0, 1, 2, 3, 4] rfl)
      · replace hwp := hwp.2 c13
        refine lv_aload_n hx hb d_Mo_logAt_36 rfl (lv_at hl 0 rfl) ?_
        obtain ⟨a14, ⟨fs15, he16, hv17⟩, hwp⟩ := hwp
        refine h_get (C := "BuckTablesModel") (T := Tc6) (N := 36) hx hb hts inc6 hown hK hM he16 rfl 25 (by decide) (hts _ kw_745) (fun _ h9 => h9) hv17 d_Mo_logAt_37 ?_
        refine lv_iload hx hb d_Mo_logAt_40 (lv_at hl 4 rfl) ?_
        obtain ⟨v18, ⟨n19, f20, ha21, hi22, ev18⟩, hwp⟩ := hwp
        refine h_iald hx hb hK hM ha21 rfl hi22 d_Mo_logAt_42 ?_
        rw [← ev18]
        refine lv_iconst (v := 1) hx hb d_Mo_logAt_43 (by decide) ?_
        refine lv_icmp_ne (tgt := 51) hx hb d_Mo_logAt_44 (by decide) (fun c23 => ?_) (fun c23 => ?_)
        · replace hwp := hwp.2 c23
          exact tMo_logAt_51 C post (wMo_logAt_7 post n) ih x0 x1 x2 x3 x4 M10 hwp H locs ls hM hS (lv_sub hl [0, 1, 2, 3, 4] rfl)
        · replace hwp := hwp.1 c23
          refine lv_iconst (v := 1) hx hb d_Mo_logAt_47 (by decide) ?_
          refine lv_goto (tgt := 52) hx hb d_Mo_logAt_48 (by decide) ?_
          exact tMo_logAt_52 C post (wMo_logAt_7 post n) ih x0 x1 x2 x3 x4 (1 : Int32) M10 hwp H locs ls hM hS (lv_sub hl [0, 1, 2, 3, 4] rfl)
def wpMo_logAt (self : Nat) (p0 : Int32) (M : Hp) (post : Int32 → Hp → Prop) : Prop := (∃ n24 : Nat, wMo_logAt_7 post n24 self p0 (0 : Int32) (-1 : Int32) (0 : Int32) M)
set_option maxRecDepth 100000 in
set_option maxHeartbeats 4000000 in
theorem eMo_logAt {p : Program} {l : Launch} {e : Env} {s : State} {m : MethodId} {args : Array Value} {below : List Frame} {meth : Method} {c : Code} {D : va_G} {κ : Nat → ClassId} {A : Nat → Prop} (C : Cx_Mo_logAt p s m args meth c D κ A) (post : Int32 → Hp → Prop) (self : Nat) (p0 : Int32) (M : Hp) (hwp : wpMo_logAt self p0 M post) : Y p l e rm_Mo_logAt s m args below meth c D kCl (hTys κ) A 6 0 0 (MQ below (va_Qi post (hB D kCl (hTys κ) A) A) args s 0 0 A) M 0 [(0, .ref self), (1, .int p0)] [] := by
  obtain ⟨hx, hb, hml, hr, hown, hts, hlocks, hE, hA⟩ := id C
  have hK := hE.1
  intro H locs ls hM hS hl
  unfold wpMo_logAt at hwp
  refine lv_iconst (v := 0) hx hb d_Mo_logAt_0 (by decide) ?_
  refine lv_istore_n (lv' := [(2, .int (0 : Int32)), (0, .ref self), (1, .int p0)]) hx hb d_Mo_logAt_1 rfl hl (by decide) rfl (fun ls hl => ?_)
  refine lv_iconst (v := -1) hx hb d_Mo_logAt_2 (by decide) ?_
  refine lv_istore_n (lv' := [(3, .int (-1 : Int32)), (2, .int (0 : Int32)), (0, .ref self), (1, .int p0)]) hx hb d_Mo_logAt_3 rfl hl (by decide) rfl (fun ls hl => ?_)
  refine lv_iconst (v := 0) hx hb d_Mo_logAt_4 (by decide) ?_
  refine lv_istore (lv' := [(4, .int (0 : Int32)), (3, .int (-1 : Int32)), (2, .int (0 : Int32)), (0, .ref self), (1, .int p0)]) hx hb d_Mo_logAt_5 hl (by decide) rfl (fun ls hl => ?_)
  obtain ⟨n24, hwp⟩ := hwp
  exact tMo_logAt_7 C post n24 self p0 (0 : Int32) (-1 : Int32) (0 : Int32) M hwp H locs ls hM hS (lv_sub hl [3, 4, 2, 1, 0] rfl)
set_option maxRecDepth 100000 in
set_option maxHeartbeats 4000000 in
theorem metMo_logAt (l : Launch) (D : va_G) (κ : Nat → ClassId) (sz : Nat) (self : Nat) (p0 : Int32) (M : Hp) (post : Int32 → Hp → Prop) (hwp : wpMo_logAt self p0 M post) : Met l y_Mo_logAt ws_Mo_logAt rm_Mo_logAt (hPc D kCl (hTys κ) M sz [.ref self, .int p0]) (va_Qi post (hB D kCl (hTys κ) (hAx M sz)) (hAx M sz)) 0 0 (hAx M sz) := by
  refine Met.ofW (cc := prog_8_method_39_code) (maxL := 6) (ret := (some .int)) (by decide +kernel) rfl ?_
  intro p e s m args below meth c s₁ B hml hv
  obtain ⟨rfl, hsz, hE, hM0⟩ := hv
  have hts : ∀ w ∈ WG, w.before _ s = true := fun w h => atoms_spec (ws := ws_Mo_logAt) B.pre w (List.mem_cons_of_mem _ h)
  subst hsz
  have C : Cx_Mo_logAt p s m _ meth c D κ (hAx M s.heap.size) := ⟨B.exec, B.bytes, hml, B.returns, findClass_of_methodNamed B.named, hts, B.notSynchronized, hE, fun q h => Or.inr h⟩
  have hl := lv_entry ([.ref self, .int p0]) (n := 6) (Nat.le_of_ble_eq_true rfl)
  rw [lg_entry_eq]
  generalize (lg_sl ([.ref self, .int p0]) ++ List.replicate (6 - (lg_sl ([.ref self, .int p0])).length) Slot.unset).toArray = ls at hl ⊢
  exact eMo_logAt C post self p0 M hwp s.heap [] ls (hM0.self (sz := s.heap.size)) va_S.rf hl
abbrev rm_Mo_log : Room := { frames := 3, cells := 0, slots := 0, locals := 67 }
def Cx_Mo_log (p : Program) (s : State) (m : MethodId) (args : Array Value) (meth : Method) (c : Code) (D : va_G) (κ : Nat → ClassId) (A : Nat → Prop) : Prop := p.tables.exec = Jvm.exec ∧ c.code = prog_8_method_40_code ∧ c.maxLocals = 5 ∧ meth.sig.returnType = (some .int) ∧ s.vm.findClass "BuckTablesModel" = some m.cls ∧ (∀ w ∈ WG, w.before args s = true) ∧ meth.locks = false ∧ hEnv D kCl (hTys κ) A s ∧ (∀ q, s.heap.size ≤ q → A q)
def wMo_log_160 (post : Int32 → Hp → Prop)   (y0 : Int32) (M : Hp) : Prop := (post y0 M)
set_option maxRecDepth 100000 in
set_option maxHeartbeats 4000000 in
theorem tMo_log_160 {p : Program} {l : Launch} {e : Env} {s : State} {m : MethodId} {args : Array Value} {below : List Frame} {meth : Method} {c : Code} {D : va_G} {κ : Nat → ClassId} {A : Nat → Prop} (C : Cx_Mo_log p s m args meth c D κ A) (post : Int32 → Hp → Prop)   (y0 : Int32) (M : Hp) (hwp : wMo_log_160 post y0 M) : Y p l e rm_Mo_log s m args below meth c D kCl (hTys κ) A 5 0 0 (MQ below (va_Qi post (hB D kCl (hTys κ) A) A) args s 0 0 A) M 160 [] [.int y0] := by
  obtain ⟨hx, hb, hml, hr, hown, hts, hlocks, hE, hA⟩ := id C
  have hK := hE.1
  intro H locs ls hM hS hl
  unfold wMo_log_160 at hwp
  exact W.iret (v := y0) hx hb hr (fun t ht hW => ⟨⟨y0, M, rfl, hwp, by show hw D kCl (hTys κ) A M t.heap; rw [ht]; exact hM⟩, hS.F ht⟩) hS.2.2 d_Mo_log_160
def wMo_log_73 (post : Int32 → Hp → Prop)   (y0 : Int32) (M : Hp) : Prop := (post y0 M)
set_option maxRecDepth 100000 in
set_option maxHeartbeats 4000000 in
theorem tMo_log_73 {p : Program} {l : Launch} {e : Env} {s : State} {m : MethodId} {args : Array Value} {below : List Frame} {meth : Method} {c : Code} {D : va_G} {κ : Nat → ClassId} {A : Nat → Prop} (C : Cx_Mo_log p s m args meth c D κ A) (post : Int32 → Hp → Prop)   (y0 : Int32) (M : Hp) (hwp : wMo_log_73 post y0 M) : Y p l e rm_Mo_log s m args below meth c D kCl (hTys κ) A 5 0 0 (MQ below (va_Qi post (hB D kCl (hTys κ) A) A) args s 0 0 A) M 73 [] [.int y0] := by
  obtain ⟨hx, hb, hml, hr, hown, hts, hlocks, hE, hA⟩ := id C
  have hK := hE.1
  intro H locs ls hM hS hl
  unfold wMo_log_73 at hwp
  exact W.iret (v := y0) hx hb hr (fun t ht hW => ⟨⟨y0, M, rfl, hwp, by show hw D kCl (hTys κ) A M t.heap; rw [ht]; exact hM⟩, hS.F ht⟩) hS.2.2 d_Mo_log_73
def wMo_log_61 (post : Int32 → Hp → Prop)  (x0 : Nat) (x3 : Int32) (M : Hp) : Prop := (∃ v1 : Int32, fI M x0 6 0 v1 ∧ ((v1 ≤ 0 → (wMo_log_73 post x3 M)) ∧ (¬ v1 ≤ 0 → (wMo_log_73 post (0 : Int32) M))))
set_option maxRecDepth 100000 in
set_option maxHeartbeats 4000000 in
theorem tMo_log_61 {p : Program} {l : Launch} {e : Env} {s : State} {m : MethodId} {args : Array Value} {below : List Frame} {meth : Method} {c : Code} {D : va_G} {κ : Nat → ClassId} {A : Nat → Prop} (C : Cx_Mo_log p s m args meth c D κ A) (post : Int32 → Hp → Prop)  (x0 : Nat) (x3 : Int32) (M : Hp) (hwp : wMo_log_61 post x0 x3 M) : Y p l e rm_Mo_log s m args below meth c D kCl (hTys κ) A 5 0 0 (MQ below (va_Qi post (hB D kCl (hTys κ) A) A) args s 0 0 A) M 61 [(0, .ref x0), (3, .int x3)] [] := by
  obtain ⟨hx, hb, hml, hr, hown, hts, hlocks, hE, hA⟩ := id C
  have hK := hE.1
  intro H locs ls hM hS hl
  unfold wMo_log_61 at hwp
  refine lv_aload_n hx hb d_Mo_log_61 rfl (lv_at hl 0 rfl) ?_
  obtain ⟨v1, ⟨fs2, he3, hv4⟩, hwp⟩ := hwp
  refine h_get (C := "BuckTablesModel") (T := Tc6) (N := 36) hx hb hts inc6 hown hK hM he3 rfl 0 (by decide) (hts _ kw_720) (fun _ h9 => h9) hv4 d_Mo_log_62 ?_
  refine lv_if_le (tgt := 72) hx hb d_Mo_log_65 (by decide) (fun c5 => ?_) (fun c5 => ?_)
  · replace hwp := hwp.1 c5
    refine lv_iload_n hx hb d_Mo_log_72 rfl (lv_at hl 1 rfl) ?_
    exact tMo_log_73 C post x3 M hwp H locs ls hM hS (lv_sub hl [] rfl)
  · replace hwp := hwp.2 c5
    refine lv_iconst (v := 0) hx hb d_Mo_log_68 (by decide) ?_
    refine lv_goto (tgt := 73) hx hb d_Mo_log_69 (by decide) ?_
    exact tMo_log_73 C post (0 : Int32) M hwp H locs ls hM hS (lv_sub hl [] rfl)
def wMo_log_46 (post : Int32 → Hp → Prop)  (x0 : Nat) (x1 : Int32) (x2 : Int32) (x3 : Int32) (y0 : Int32) (y1 : Nat) (M : Hp) : Prop := (∃ M6 : Hp, pF M y1 6 0 (.int y0) M6 ∧ (∃ v10 : Int32, fI M6 x0 6 0 v10 ∧ ((0 < v10 → (wMo_log_61 post x0 x3 M6)) ∧ (¬ 0 < v10 → ((x1 = (-1 : Int32) → (wMo_log_61 post x0 x3 M6)) ∧ (¬ x1 = (-1 : Int32) → (hob M6 x0 6 ∧ (wpMo_logAt x0 x1 M6 (fun (r18 : Int32) (M16 : Hp) => ((x2 = 0 → (wMo_log_160 post (r18 / (81 : Int32)) M16)) ∧ (¬ x2 = 0 → ((x2 = (1 : Int32) → (wMo_log_160 post (r18 - r18 / (81 : Int32) * (81 : Int32)) M16)) ∧ (¬ x2 = (1 : Int32) → ((x2 = (2 : Int32) → (∃ a53 : Nat, fA M16 x0 6 26 a53 ∧ (∃ v57 : Int32, aI M16 a53 r18 v57 ∧ (wMo_log_160 post v57 M16)))) ∧ (¬ x2 = (2 : Int32) → ((x2 = (3 : Int32) → (∃ a44 : Nat, fA M16 x0 6 27 a44 ∧ (∃ v48 : Int32, aI M16 a44 r18 v48 ∧ (wMo_log_160 post v48 M16)))) ∧ (¬ x2 = (3 : Int32) → (∃ a23 : Nat, fA M16 x0 6 26 a23 ∧ (∃ v27 : Int32, aI M16 a23 r18 v27 ∧ (∃ a32 : Nat, fA M16 x0 6 27 a32 ∧ (∃ v36 : Int32, aI M16 a32 r18 v36 ∧ (hob M16 x0 6 ∧ (wpMo_worthOf x0 (r18 / (81 : Int32)) v27 v36 M16 (fun (r43 : Int64) (M41 : Hp) => (wMo_log_160 post (r43.toInt32) M41)))))))))))))))))))))))))
set_option maxRecDepth 100000 in
set_option maxHeartbeats 4000000 in
theorem tMo_log_46 {p : Program} {l : Launch} {e : Env} {s : State} {m : MethodId} {args : Array Value} {below : List Frame} {meth : Method} {c : Code} {D : va_G} {κ : Nat → ClassId} {A : Nat → Prop} (C : Cx_Mo_log p s m args meth c D κ A) (post : Int32 → Hp → Prop)  (x0 : Nat) (x1 : Int32) (x2 : Int32) (x3 : Int32) (y0 : Int32) (y1 : Nat) (M : Hp) (hwp : wMo_log_46 post x0 x1 x2 x3 y0 y1 M) : Y p l e rm_Mo_log s m args below meth c D kCl (hTys κ) A 5 0 0 (MQ below (va_Qi post (hB D kCl (hTys κ) A) A) args s 0 0 A) M 46 [(0, .ref x0), (1, .int x1), (2, .int x2), (3, .int x3)] [.int y0, .ref y1] := by
  obtain ⟨hx, hb, hml, hr, hown, hts, hlocks, hE, hA⟩ := id C
  have hK := hE.1
  intro H locs ls hM hS hl
  unfold wMo_log_46 at hwp
  obtain ⟨M6, ⟨fs7, he8, hl9, eM6⟩, hwp⟩ := hwp
  refine h_put (C := "BuckTablesModel") (T := Tc6) (N := 36) (v := .int y0) (ty := .int) hx hb hts inc6 tyc6 tyc6_ok nmc6 hown hK hM hS he8 rfl 0 (by decide) (hts _ kw_720) (fun _ h9 => h9) rfl (by decide +kernel) rfl rfl hl9 d_Mo_log_46 (fun H locs hM hS => ?_)
  rw [← eM6] at hM
  refine lv_aload_n hx hb d_Mo_log_49 rfl (lv_at hl 0 rfl) ?_
  obtain ⟨v10, ⟨fs11, he12, hv13⟩, hwp⟩ := hwp
  refine h_get (C := "BuckTablesModel") (T := Tc6) (N := 36) hx hb hts inc6 hown hK hM he12 rfl 0 (by decide) (hts _ kw_720) (fun _ h9 => h9) hv13 d_Mo_log_50 ?_
  refine lv_if_gt (tgt := 61) hx hb d_Mo_log_53 (by decide) (fun c14 => ?_) (fun c14 => ?_)
  · replace hwp := hwp.1 c14
    exact tMo_log_61 C post x0 x3 M6 hwp H locs ls hM hS (lv_sub hl [0, 3] rfl)
  · replace hwp := hwp.2 c14
    refine lv_iload_n hx hb d_Mo_log_56 rfl (lv_at hl 1 rfl) ?_
    refine lv_iconst (v := -1) hx hb d_Mo_log_57 (by decide) ?_
    refine lv_icmp_ne (tgt := 74) hx hb d_Mo_log_58 (by decide) (fun c15 => ?_) (fun c15 => ?_)
    · replace hwp := hwp.2 c15
      refine lv_aload_n hx hb d_Mo_log_74 rfl (lv_at hl 0 rfl) ?_
      refine lv_iload_n hx hb d_Mo_log_75 rfl (lv_at hl 1 rfl) ?_
      obtain ⟨ho17, hwp⟩ := hwp
      refine h_calli hM hS hA (va_runV (As := [.int x1]) (rest := []) ⟨hx, hb, hml, hown, hts⟩ (metMo_logAt l D κ H.size x0 x1 M6 _ hwp) (cwV 1 hts (gV kw_988 kw_990 kp_45 kw_8 kw_991) rfl rfl rfl (by decide +kernel) ⟨(Nat.le_of_ble_eq_true rfl), (Nat.le_of_ble_eq_true rfl)⟩) (h_preV hE hM hS ho17 (r := ("BuckTablesModel", Tc6, 36)) rfl) rfl rfl hl.1 rfl (lv_room (Nat.le_of_ble_eq_true rfl)) d_Mo_log_76 ⟨(Nat.le_of_ble_eq_true rfl), (Nat.le_of_ble_eq_true rfl)⟩) (fun r18 M16 H locs hwp hM hS => ?_)
      refine lv_istore (lv' := [(4, .int r18), (0, .ref x0), (1, .int x1), (2, .int x2), (3, .int x3)]) hx hb d_Mo_log_79 hl (by decide) rfl (fun ls hl => ?_)
      refine lv_iload_n hx hb d_Mo_log_81 rfl (lv_at hl 3 rfl) ?_
      refine lv_if_ne (tgt := 93) hx hb d_Mo_log_82 (by decide) (fun c19 => ?_) (fun c19 => ?_)
      · replace hwp := hwp.2 c19
        refine lv_iload_n hx hb d_Mo_log_93 rfl (lv_at hl 3 rfl) ?_
        refine lv_iconst (v := 1) hx hb d_Mo_log_94 (by decide) ?_
        refine lv_icmp_ne (tgt := 106) hx hb d_Mo_log_95 (by decide) (fun c20 => ?_) (fun c20 => ?_)
        · replace hwp := hwp.2 c20
          refine lv_iload_n hx hb d_Mo_log_106 rfl (lv_at hl 3 rfl) ?_
          refine lv_iconst (v := 2) hx hb d_Mo_log_107 (by decide) ?_
          refine lv_icmp_ne (tgt := 121) hx hb d_Mo_log_108 (by decide) (fun c21 => ?_) (fun c21 => ?_)
          · replace hwp := hwp.2 c21
            refine lv_iload_n hx hb d_Mo_log_121 rfl (lv_at hl 3 rfl) ?_
            refine lv_iconst (v := 3) hx hb d_Mo_log_122 (by decide) ?_
            refine lv_icmp_ne (tgt := 136) hx hb d_Mo_log_123 (by decide) (fun c22 => ?_) (fun c22 => ?_)
            · replace hwp := hwp.2 c22
              refine lv_aload_n hx hb d_Mo_log_136 rfl (lv_at hl 1 rfl) ?_
              refine lv_iload hx hb d_Mo_log_137 (lv_at hl 0 rfl) ?_
              refine lv_bipush (v := 81) hx hb d_Mo_log_139 (by decide) ?_
              refine lv_idiv hx hb d_Mo_log_141 (by decide) ?_
              refine lv_aload_n hx hb d_Mo_log_142 rfl (lv_at hl 1 rfl) ?_
              obtain ⟨a23, ⟨fs24, he25, hv26⟩, hwp⟩ := hwp
              refine h_get (C := "BuckTablesModel") (T := Tc6) (N := 36) hx hb hts inc6 hown hK hM he25 rfl 26 (by decide) (hts _ kw_746) (fun _ h9 => h9) hv26 d_Mo_log_143 ?_
              refine lv_iload hx hb d_Mo_log_146 (lv_at hl 0 rfl) ?_
              obtain ⟨v27, ⟨n28, f29, ha30, hi31, ev27⟩, hwp⟩ := hwp
              refine h_iald hx hb hK hM ha30 rfl hi31 d_Mo_log_148 ?_
              rw [← ev27]
              refine lv_aload_n hx hb d_Mo_log_149 rfl (lv_at hl 1 rfl) ?_
              obtain ⟨a32, ⟨fs33, he34, hv35⟩, hwp⟩ := hwp
              refine h_get (C := "BuckTablesModel") (T := Tc6) (N := 36) hx hb hts inc6 hown hK hM he34 rfl 27 (by decide) (hts _ kw_747) (fun _ h9 => h9) hv35 d_Mo_log_150 ?_
              refine lv_iload hx hb d_Mo_log_153 (lv_at hl 0 rfl) ?_
              obtain ⟨v36, ⟨n37, f38, ha39, hi40, ev36⟩, hwp⟩ := hwp
              refine h_iald hx hb hK hM ha39 rfl hi40 d_Mo_log_155 ?_
              rw [← ev36]
              obtain ⟨ho42, hwp⟩ := hwp
              refine h_calll hM hS hA (va_runV (As := [.int (r18 / (81 : Int32)), .int v27, .int v36]) (rest := []) ⟨hx, hb, hml, hown, hts⟩ (metMo_worthOf l D κ H.size x0 (r18 / (81 : Int32)) v27 v36 M16 _ hwp) (cwV 3 hts (gV kw_918 kw_920 kp_31 kw_8 kw_921) rfl rfl rfl (by decide +kernel) ⟨(Nat.le_of_ble_eq_true rfl), (Nat.le_of_ble_eq_true rfl)⟩) (h_preV hE hM hS ho42 (r := ("BuckTablesModel", Tc6, 36)) rfl) rfl rfl hl.1 rfl (lv_room (Nat.le_of_ble_eq_true rfl)) d_Mo_log_156 ⟨(Nat.le_of_ble_eq_true rfl), (Nat.le_of_ble_eq_true rfl)⟩) (fun r43 M41 H locs hwp hM hS => ?_)
              refine lv_l2i hx hb d_Mo_log_159 rfl ?_
              exact tMo_log_160 C post (r43.toInt32) M41 hwp H locs ls hM hS (lv_sub hl [] rfl)
            · replace hwp := hwp.1 c22
              refine lv_aload_n hx hb d_Mo_log_126 rfl (lv_at hl 1 rfl) ?_
              obtain ⟨a44, ⟨fs45, he46, hv47⟩, hwp⟩ := hwp
              refine h_get (C := "BuckTablesModel") (T := Tc6) (N := 36) hx hb hts inc6 hown hK hM he46 rfl 27 (by decide) (hts _ kw_747) (fun _ h9 => h9) hv47 d_Mo_log_127 ?_
              refine lv_iload hx hb d_Mo_log_130 (lv_at hl 0 rfl) ?_
              obtain ⟨v48, ⟨n49, f50, ha51, hi52, ev48⟩, hwp⟩ := hwp
              refine h_iald hx hb hK hM ha51 rfl hi52 d_Mo_log_132 ?_
              rw [← ev48]
              refine lv_goto (tgt := 160) hx hb d_Mo_log_133 (by decide) ?_
              exact tMo_log_160 C post v48 M16 hwp H locs ls hM hS (lv_sub hl [] rfl)
          · replace hwp := hwp.1 c21
            refine lv_aload_n hx hb d_Mo_log_111 rfl (lv_at hl 1 rfl) ?_
            obtain ⟨a53, ⟨fs54, he55, hv56⟩, hwp⟩ := hwp
            refine h_get (C := "BuckTablesModel") (T := Tc6) (N := 36) hx hb hts inc6 hown hK hM he55 rfl 26 (by decide) (hts _ kw_746) (fun _ h9 => h9) hv56 d_Mo_log_112 ?_
            refine lv_iload hx hb d_Mo_log_115 (lv_at hl 0 rfl) ?_
            obtain ⟨v57, ⟨n58, f59, ha60, hi61, ev57⟩, hwp⟩ := hwp
            refine h_iald hx hb hK hM ha60 rfl hi61 d_Mo_log_117 ?_
            rw [← ev57]
            refine lv_goto (tgt := 160) hx hb d_Mo_log_118 (by decide) ?_
            exact tMo_log_160 C post v57 M16 hwp H locs ls hM hS (lv_sub hl [] rfl)
        · replace hwp := hwp.1 c20
          refine lv_iload hx hb d_Mo_log_98 (lv_at hl 0 rfl) ?_
          refine lv_bipush (v := 81) hx hb d_Mo_log_100 (by decide) ?_
          refine lv_irem hx hb d_Mo_log_102 (by decide) ?_
          refine lv_goto (tgt := 160) hx hb d_Mo_log_103 (by decide) ?_
          exact tMo_log_160 C post (r18 - r18 / (81 : Int32) * (81 : Int32)) M16 hwp H locs ls hM hS (lv_sub hl [] rfl)
      · replace hwp := hwp.1 c19
        refine lv_iload hx hb d_Mo_log_85 (lv_at hl 0 rfl) ?_
        refine lv_bipush (v := 81) hx hb d_Mo_log_87 (by decide) ?_
        refine lv_idiv hx hb d_Mo_log_89 (by decide) ?_
        refine lv_goto (tgt := 160) hx hb d_Mo_log_90 (by decide) ?_
        exact tMo_log_160 C post (r18 / (81 : Int32)) M16 hwp H locs ls hM hS (lv_sub hl [] rfl)
    · replace hwp := hwp.1 c15
      exact tMo_log_61 C post x0 x3 M6 hwp H locs ls hM hS (lv_sub hl [0, 3] rfl)
def wMo_log_25 (post : Int32 → Hp → Prop)  (x0 : Nat) (x1 : Int32) (x2 : Int32) (x3 : Int32) (y0 : Nat) (M : Hp) : Prop := (wMo_log_46 post x0 x1 x2 x3 (2 : Int32) y0 M)
set_option maxRecDepth 100000 in
set_option maxHeartbeats 4000000 in
theorem tMo_log_25 {p : Program} {l : Launch} {e : Env} {s : State} {m : MethodId} {args : Array Value} {below : List Frame} {meth : Method} {c : Code} {D : va_G} {κ : Nat → ClassId} {A : Nat → Prop} (C : Cx_Mo_log p s m args meth c D κ A) (post : Int32 → Hp → Prop)  (x0 : Nat) (x1 : Int32) (x2 : Int32) (x3 : Int32) (y0 : Nat) (M : Hp) (hwp : wMo_log_25 post x0 x1 x2 x3 y0 M) : Y p l e rm_Mo_log s m args below meth c D kCl (hTys κ) A 5 0 0 (MQ below (va_Qi post (hB D kCl (hTys κ) A) A) args s 0 0 A) M 25 [(0, .ref x0), (1, .int x1), (2, .int x2), (3, .int x3)] [.ref y0] := by
  obtain ⟨hx, hb, hml, hr, hown, hts, hlocks, hE, hA⟩ := id C
  have hK := hE.1
  intro H locs ls hM hS hl
  unfold wMo_log_25 at hwp
  refine lv_iconst (v := 2) hx hb d_Mo_log_25 (by decide) ?_
  refine lv_goto (tgt := 46) hx hb d_Mo_log_26 (by decide) ?_
  exact tMo_log_46 C post x0 x1 x2 x3 (2 : Int32) y0 M hwp H locs ls hM hS (lv_sub hl [0, 1, 2, 3] rfl)
def wpMo_log (self : Nat) (p0 : Int32) (p1 : Int32) (M : Hp) (post : Int32 → Hp → Prop) : Prop := (hob M self 6 ∧ (wpMo_none self M (fun (r64 : Int32) (M62 : Hp) => ((r64 = 0 → (hob M62 self 6 ∧ (wpMo_logCount self M62 (fun (r68 : Int32) (M66 : Hp) => ((p0 < (-1 : Int32) → (wMo_log_25 post self p0 p1 r68 self M66)) ∧ (¬ p0 < (-1 : Int32) → ((p0 < r68 → (wpMo_isIn (p1.toInt64) (0 : Int64) (4 : Int64) M66 (fun (r72 : Int32) (M71 : Hp) => ((r72 = 0 → (wMo_log_46 post self p0 p1 r68 (3 : Int32) self M71)) ∧ (¬ r72 = 0 → (wMo_log_46 post self p0 p1 r68 (0 : Int32) self M71)))))) ∧ (¬ p0 < r68 → (wMo_log_25 post self p0 p1 r68 self M66))))))))) ∧ (¬ r64 = 0 → (post (0 : Int32) M62))))))
set_option maxRecDepth 100000 in
set_option maxHeartbeats 4000000 in
theorem eMo_log {p : Program} {l : Launch} {e : Env} {s : State} {m : MethodId} {args : Array Value} {below : List Frame} {meth : Method} {c : Code} {D : va_G} {κ : Nat → ClassId} {A : Nat → Prop} (C : Cx_Mo_log p s m args meth c D κ A) (post : Int32 → Hp → Prop) (self : Nat) (p0 : Int32) (p1 : Int32) (M : Hp) (hwp : wpMo_log self p0 p1 M post) : Y p l e rm_Mo_log s m args below meth c D kCl (hTys κ) A 5 0 0 (MQ below (va_Qi post (hB D kCl (hTys κ) A) A) args s 0 0 A) M 0 [(0, .ref self), (1, .int p0), (2, .int p1)] [] := by
  obtain ⟨hx, hb, hml, hr, hown, hts, hlocks, hE, hA⟩ := id C
  have hK := hE.1
  intro H locs ls hM hS hl
  unfold wpMo_log at hwp
  refine lv_aload_n hx hb d_Mo_log_0 rfl (lv_at hl 0 rfl) ?_
  obtain ⟨ho63, hwp⟩ := hwp
  refine h_calli hM hS hA (va_runV (As := []) (rest := []) ⟨hx, hb, hml, hown, hts⟩ (metMo_none l D κ H.size self M _ hwp) (cwV 0 hts (gV kw_979 kw_981 kp_44 kw_8 kw_982) rfl rfl rfl (by decide +kernel) ⟨(Nat.le_of_ble_eq_true rfl), (Nat.le_of_ble_eq_true rfl)⟩) (h_preV hE hM hS ho63 (r := ("BuckTablesModel", Tc6, 36)) rfl) rfl rfl hl.1 rfl (lv_room (Nat.le_of_ble_eq_true rfl)) d_Mo_log_1 ⟨(Nat.le_of_ble_eq_true rfl), (Nat.le_of_ble_eq_true rfl)⟩) (fun r64 M62 H locs hwp hM hS => ?_)
  refine lv_if_eq (tgt := 9) hx hb d_Mo_log_4 (by decide) (fun c65 => ?_) (fun c65 => ?_)
  · replace hwp := hwp.1 c65
    refine lv_aload_n hx hb d_Mo_log_9 rfl (lv_at hl 0 rfl) ?_
    obtain ⟨ho67, hwp⟩ := hwp
    refine h_calli hM hS hA (va_runV (As := []) (rest := []) ⟨hx, hb, hml, hown, hts⟩ (metMo_logCount l D κ H.size self M62 _ hwp) (cwV 0 hts (gV kw_934 kw_936 kp_35 kw_8 kw_937) rfl rfl rfl (by decide +kernel) ⟨(Nat.le_of_ble_eq_true rfl), (Nat.le_of_ble_eq_true rfl)⟩) (h_preV hE hM hS ho67 (r := ("BuckTablesModel", Tc6, 36)) rfl) rfl rfl hl.1 rfl (lv_room (Nat.le_of_ble_eq_true rfl)) d_Mo_log_10 ⟨(Nat.le_of_ble_eq_true rfl), (Nat.le_of_ble_eq_true rfl)⟩) (fun r68 M66 H locs hwp hM hS => ?_)
    refine lv_istore_n (lv' := [(3, .int r68), (0, .ref self), (1, .int p0), (2, .int p1)]) hx hb d_Mo_log_13 rfl hl (by decide) rfl (fun ls hl => ?_)
    refine lv_aload_n hx hb d_Mo_log_14 rfl (lv_at hl 1 rfl) ?_
    refine lv_iload_n hx hb d_Mo_log_15 rfl (lv_at hl 2 rfl) ?_
    refine lv_iconst (v := -1) hx hb d_Mo_log_16 (by decide) ?_
    refine lv_icmp_lt (tgt := 25) hx hb d_Mo_log_17 (by decide) (fun c69 => ?_) (fun c69 => ?_)
    · replace hwp := hwp.1 c69
      exact tMo_log_25 C post self p0 p1 r68 self M66 hwp H locs ls hM hS (lv_sub hl [1, 2, 3, 0] rfl)
    · replace hwp := hwp.2 c69
      refine lv_iload_n hx hb d_Mo_log_20 rfl (lv_at hl 2 rfl) ?_
      refine lv_iload_n hx hb d_Mo_log_21 rfl (lv_at hl 0 rfl) ?_
      refine lv_icmp_lt (tgt := 29) hx hb d_Mo_log_22 (by decide) (fun c70 => ?_) (fun c70 => ?_)
      · replace hwp := hwp.1 c70
        refine lv_iload_n hx hb d_Mo_log_29 rfl (lv_at hl 3 rfl) ?_
        refine lv_i2l hx hb d_Mo_log_30 rfl ?_
        refine lv_lconst (v := 0) hx hb d_Mo_log_31 (by decide) ?_
        refine lv_ldc2 (v := (4)) hx hb hown (hts _ kw_987) d_Mo_log_32 ?_
        refine h_calli hM hS hA (va_runS (As := [.long (p1.toInt64), .long (0 : Int64), .long (4 : Int64)]) (rest := [.ref self]) ⟨hx, hb, hml, hown, hts⟩ (metMo_isIn l D κ H.size (p1.toInt64) (0 : Int64) (4 : Int64) M66 _ hwp) (cwS 3 hts (gS kw_838 kw_839 kw_8 kw_840) rfl rfl rfl (by decide +kernel) ⟨(Nat.le_of_ble_eq_true rfl), (Nat.le_of_ble_eq_true rfl)⟩) (h_preS hE hM hS) rfl rfl hl.1 rfl (lv_room (Nat.le_of_ble_eq_true rfl)) d_Mo_log_35 ⟨(Nat.le_of_ble_eq_true rfl), (Nat.le_of_ble_eq_true rfl)⟩) (fun r72 M71 H locs hwp hM hS => ?_)
        refine lv_if_eq (tgt := 45) hx hb d_Mo_log_38 (by decide) (fun c73 => ?_) (fun c73 => ?_)
        · replace hwp := hwp.1 c73
          refine lv_iconst (v := 3) hx hb d_Mo_log_45 (by decide) ?_
          exact tMo_log_46 C post self p0 p1 r68 (3 : Int32) self M71 hwp H locs ls hM hS (lv_sub hl [1, 2, 3, 0] rfl)
        · replace hwp := hwp.2 c73
          refine lv_iconst (v := 0) hx hb d_Mo_log_41 (by decide) ?_
          refine lv_goto (tgt := 46) hx hb d_Mo_log_42 (by decide) ?_
          exact tMo_log_46 C post self p0 p1 r68 (0 : Int32) self M71 hwp H locs ls hM hS (lv_sub hl [1, 2, 3, 0] rfl)
      · replace hwp := hwp.2 c70
        exact tMo_log_25 C post self p0 p1 r68 self M66 hwp H locs ls hM hS (lv_sub hl [1, 2, 3, 0] rfl)
  · replace hwp := hwp.2 c65
    refine lv_iconst (v := 0) hx hb d_Mo_log_7 (by decide) ?_
    exact W.iret (v := (0 : Int32)) hx hb hr (fun t ht hW => ⟨⟨(0 : Int32), M62, rfl, hwp, by show hw D kCl (hTys κ) A M62 t.heap; rw [ht]; exact hM⟩, hS.F ht⟩) hS.2.2 d_Mo_log_8
set_option maxRecDepth 100000 in
set_option maxHeartbeats 4000000 in
theorem metMo_log (l : Launch) (D : va_G) (κ : Nat → ClassId) (sz : Nat) (self : Nat) (p0 : Int32) (p1 : Int32) (M : Hp) (post : Int32 → Hp → Prop) (hwp : wpMo_log self p0 p1 M post) : Met l y_Mo_log ws_Mo_log rm_Mo_log (hPc D kCl (hTys κ) M sz [.ref self, .int p0, .int p1]) (va_Qi post (hB D kCl (hTys κ) (hAx M sz)) (hAx M sz)) 0 0 (hAx M sz) := by
  refine Met.ofW (cc := prog_8_method_40_code) (maxL := 5) (ret := (some .int)) (by decide +kernel) rfl ?_
  intro p e s m args below meth c s₁ B hml hv
  obtain ⟨rfl, hsz, hE, hM0⟩ := hv
  have hts : ∀ w ∈ WG, w.before _ s = true := fun w h => atoms_spec (ws := ws_Mo_log) B.pre w (List.mem_cons_of_mem _ h)
  subst hsz
  have C : Cx_Mo_log p s m _ meth c D κ (hAx M s.heap.size) := ⟨B.exec, B.bytes, hml, B.returns, findClass_of_methodNamed B.named, hts, B.notSynchronized, hE, fun q h => Or.inr h⟩
  have hl := lv_entry ([.ref self, .int p0, .int p1]) (n := 5) (Nat.le_of_ble_eq_true rfl)
  rw [lg_entry_eq]
  generalize (lg_sl ([.ref self, .int p0, .int p1]) ++ List.replicate (5 - (lg_sl ([.ref self, .int p0, .int p1])).length) Slot.unset).toArray = ls at hl ⊢
  exact eMo_log C post self p0 p1 M hwp s.heap [] ls (hM0.self (sz := s.heap.size)) va_S.rf hl
abbrev rm_Mo_isFuel : Room := { frames := 1, cells := 0, slots := 0, locals := 21 }
def Cx_Mo_isFuel (p : Program) (s : State) (m : MethodId) (args : Array Value) (meth : Method) (c : Code) (D : va_G) (κ : Nat → ClassId) (A : Nat → Prop) : Prop := p.tables.exec = Jvm.exec ∧ c.code = prog_8_method_41_code ∧ c.maxLocals = 2 ∧ meth.sig.returnType = (some .boolean) ∧ s.vm.findClass "BuckTablesModel" = some m.cls ∧ (∀ w ∈ WG, w.before args s = true) ∧ meth.locks = false ∧ hEnv D kCl (hTys κ) A s ∧ (∀ q, s.heap.size ≤ q → A q)
def wMo_isFuel_30 (post : Int32 → Hp → Prop)   (y0 : Int32) (M : Hp) : Prop := ((y0 = 0 ∨ y0 = 1) ∧ post y0 M)
set_option maxRecDepth 100000 in
set_option maxHeartbeats 4000000 in
theorem tMo_isFuel_30 {p : Program} {l : Launch} {e : Env} {s : State} {m : MethodId} {args : Array Value} {below : List Frame} {meth : Method} {c : Code} {D : va_G} {κ : Nat → ClassId} {A : Nat → Prop} (C : Cx_Mo_isFuel p s m args meth c D κ A) (post : Int32 → Hp → Prop)   (y0 : Int32) (M : Hp) (hwp : wMo_isFuel_30 post y0 M) : Y p l e rm_Mo_isFuel s m args below meth c D kCl (hTys κ) A 2 0 0 (MQ below (va_Qi post (hB D kCl (hTys κ) A) A) args s 0 0 A) M 30 [] [.int y0] := by
  obtain ⟨hx, hb, hml, hr, hown, hts, hlocks, hE, hA⟩ := id C
  have hK := hE.1
  intro H locs ls hM hS hl
  unfold wMo_isFuel_30 at hwp
  obtain ⟨hz1, hwp⟩ := hwp
  exact W.zret (v := y0) hx hb hr (by rcases hz1 with h | h <;> rw [h] <;> rfl) (fun t ht hW => ⟨⟨y0, M, rfl, hwp, by show hw D kCl (hTys κ) A M t.heap; rw [ht]; exact hM⟩, hS.F ht⟩) hS.2.2 d_Mo_isFuel_30
def wMo_isFuel_29 (post : Int32 → Hp → Prop)   (M : Hp) : Prop := (wMo_isFuel_30 post (0 : Int32) M)
set_option maxRecDepth 100000 in
set_option maxHeartbeats 4000000 in
theorem tMo_isFuel_29 {p : Program} {l : Launch} {e : Env} {s : State} {m : MethodId} {args : Array Value} {below : List Frame} {meth : Method} {c : Code} {D : va_G} {κ : Nat → ClassId} {A : Nat → Prop} (C : Cx_Mo_isFuel p s m args meth c D κ A) (post : Int32 → Hp → Prop)   (M : Hp) (hwp : wMo_isFuel_29 post  M) : Y p l e rm_Mo_isFuel s m args below meth c D kCl (hTys κ) A 2 0 0 (MQ below (va_Qi post (hB D kCl (hTys κ) A) A) args s 0 0 A) M 29 [] [] := by
  obtain ⟨hx, hb, hml, hr, hown, hts, hlocks, hE, hA⟩ := id C
  have hK := hE.1
  intro H locs ls hM hS hl
  unfold wMo_isFuel_29 at hwp
  refine lv_iconst (v := 0) hx hb d_Mo_isFuel_29 (by decide) ?_
  exact tMo_isFuel_30 C post (0 : Int32) M hwp H locs ls hM hS (lv_sub hl [] rfl)
def wpMo_isFuel (self : Nat) (p0 : Int32) (M : Hp) (post : Int32 → Hp → Prop) : Prop := (hob M self 6 ∧ (wpMo_stepsOf self (p0 / (81 : Int32)) M (fun (r4 : Int32) (M2 : Hp) => ((r4 ≤ (p0 - p0 / (81 : Int32) * (81 : Int32)) → (wMo_isFuel_29 post M2)) ∧ (¬ r4 ≤ (p0 - p0 / (81 : Int32) * (81 : Int32)) → (∃ a6 : Nat, fA M2 self 6 25 a6 ∧ (∃ v10 : Int32, aI M2 a6 p0 v10 ∧ ((v10 = (2 : Int32) → (wMo_isFuel_30 post (1 : Int32) M2)) ∧ (¬ v10 = (2 : Int32) → (wMo_isFuel_29 post M2))))))))))
set_option maxRecDepth 100000 in
set_option maxHeartbeats 4000000 in
theorem eMo_isFuel {p : Program} {l : Launch} {e : Env} {s : State} {m : MethodId} {args : Array Value} {below : List Frame} {meth : Method} {c : Code} {D : va_G} {κ : Nat → ClassId} {A : Nat → Prop} (C : Cx_Mo_isFuel p s m args meth c D κ A) (post : Int32 → Hp → Prop) (self : Nat) (p0 : Int32) (M : Hp) (hwp : wpMo_isFuel self p0 M post) : Y p l e rm_Mo_isFuel s m args below meth c D kCl (hTys κ) A 2 0 0 (MQ below (va_Qi post (hB D kCl (hTys κ) A) A) args s 0 0 A) M 0 [(0, .ref self), (1, .int p0)] [] := by
  obtain ⟨hx, hb, hml, hr, hown, hts, hlocks, hE, hA⟩ := id C
  have hK := hE.1
  intro H locs ls hM hS hl
  unfold wpMo_isFuel at hwp
  refine lv_iload_n hx hb d_Mo_isFuel_0 rfl (lv_at hl 1 rfl) ?_
  refine lv_bipush (v := 81) hx hb d_Mo_isFuel_1 (by decide) ?_
  refine lv_irem hx hb d_Mo_isFuel_3 (by decide) ?_
  refine lv_aload_n hx hb d_Mo_isFuel_4 rfl (lv_at hl 0 rfl) ?_
  refine lv_iload_n hx hb d_Mo_isFuel_5 rfl (lv_at hl 1 rfl) ?_
  refine lv_bipush (v := 81) hx hb d_Mo_isFuel_6 (by decide) ?_
  refine lv_idiv hx hb d_Mo_isFuel_8 (by decide) ?_
  obtain ⟨ho3, hwp⟩ := hwp
  refine h_calli hM hS hA (va_runV (As := [.int (p0 / (81 : Int32))]) (rest := [.int (p0 - p0 / (81 : Int32) * (81 : Int32))]) ⟨hx, hb, hml, hown, hts⟩ (metMo_stepsOf l D κ H.size self (p0 / (81 : Int32)) M _ hwp) (cwV 1 hts (gV kw_875 kw_877 kp_26 kw_8 kw_878) rfl rfl rfl (by decide +kernel) ⟨(Nat.le_of_ble_eq_true rfl), (Nat.le_of_ble_eq_true rfl)⟩) (h_preV hE hM hS ho3 (r := ("BuckTablesModel", Tc6, 36)) rfl) rfl rfl hl.1 rfl (lv_room (Nat.le_of_ble_eq_true rfl)) d_Mo_isFuel_9 ⟨(Nat.le_of_ble_eq_true rfl), (Nat.le_of_ble_eq_true rfl)⟩) (fun r4 M2 H locs hwp hM hS => ?_)
  refine lv_icmp_ge (tgt := 29) hx hb d_Mo_isFuel_12 (by decide) (fun c5 => ?_) (fun c5 => ?_)
  · replace hwp := hwp.1 c5
    exact tMo_isFuel_29 C post M2 hwp H locs ls hM hS (lv_sub hl [] rfl)
  · replace hwp := hwp.2 c5
    refine lv_aload_n hx hb d_Mo_isFuel_15 rfl (lv_at hl 0 rfl) ?_
    obtain ⟨a6, ⟨fs7, he8, hv9⟩, hwp⟩ := hwp
    refine h_get (C := "BuckTablesModel") (T := Tc6) (N := 36) hx hb hts inc6 hown hK hM he8 rfl 25 (by decide) (hts _ kw_745) (fun _ h9 => h9) hv9 d_Mo_isFuel_16 ?_
    refine lv_iload_n hx hb d_Mo_isFuel_19 rfl (lv_at hl 1 rfl) ?_
    obtain ⟨v10, ⟨n11, f12, ha13, hi14, ev10⟩, hwp⟩ := hwp
    refine h_iald hx hb hK hM ha13 rfl hi14 d_Mo_isFuel_20 ?_
    rw [← ev10]
    refine lv_iconst (v := 2) hx hb d_Mo_isFuel_21 (by decide) ?_
    refine lv_icmp_ne (tgt := 29) hx hb d_Mo_isFuel_22 (by decide) (fun c15 => ?_) (fun c15 => ?_)
    · replace hwp := hwp.2 c15
      exact tMo_isFuel_29 C post M2 hwp H locs ls hM hS (lv_sub hl [] rfl)
    · replace hwp := hwp.1 c15
      refine lv_iconst (v := 1) hx hb d_Mo_isFuel_25 (by decide) ?_
      refine lv_goto (tgt := 30) hx hb d_Mo_isFuel_26 (by decide) ?_
      exact tMo_isFuel_30 C post (1 : Int32) M2 hwp H locs ls hM hS (lv_sub hl [] rfl)
set_option maxRecDepth 100000 in
set_option maxHeartbeats 4000000 in
theorem metMo_isFuel (l : Launch) (D : va_G) (κ : Nat → ClassId) (sz : Nat) (self : Nat) (p0 : Int32) (M : Hp) (post : Int32 → Hp → Prop) (hwp : wpMo_isFuel self p0 M post) : Met l y_Mo_isFuel ws_Mo_isFuel rm_Mo_isFuel (hPc D kCl (hTys κ) M sz [.ref self, .int p0]) (va_Qi post (hB D kCl (hTys κ) (hAx M sz)) (hAx M sz)) 0 0 (hAx M sz) := by
  refine Met.ofW (cc := prog_8_method_41_code) (maxL := 2) (ret := (some .boolean)) (by decide +kernel) rfl ?_
  intro p e s m args below meth c s₁ B hml hv
  obtain ⟨rfl, hsz, hE, hM0⟩ := hv
  have hts : ∀ w ∈ WG, w.before _ s = true := fun w h => atoms_spec (ws := ws_Mo_isFuel) B.pre w (List.mem_cons_of_mem _ h)
  subst hsz
  have C : Cx_Mo_isFuel p s m _ meth c D κ (hAx M s.heap.size) := ⟨B.exec, B.bytes, hml, B.returns, findClass_of_methodNamed B.named, hts, B.notSynchronized, hE, fun q h => Or.inr h⟩
  have hl := lv_entry ([.ref self, .int p0]) (n := 2) (Nat.le_of_ble_eq_true rfl)
  rw [lg_entry_eq]
  generalize (lg_sl ([.ref self, .int p0]) ++ List.replicate (2 - (lg_sl ([.ref self, .int p0])).length) Slot.unset).toArray = ls at hl ⊢
  exact eMo_isFuel C post self p0 M hwp s.heap [] ls (hM0.self (sz := s.heap.size)) va_S.rf hl
abbrev rm_Mo_beginsFuel : Room := { frames := 2, cells := 0, slots := 0, locals := 42 }
def Cx_Mo_beginsFuel (p : Program) (s : State) (m : MethodId) (args : Array Value) (meth : Method) (c : Code) (D : va_G) (κ : Nat → ClassId) (A : Nat → Prop) : Prop := p.tables.exec = Jvm.exec ∧ c.code = prog_8_method_42_code ∧ c.maxLocals = 2 ∧ meth.sig.returnType = (some .boolean) ∧ s.vm.findClass "BuckTablesModel" = some m.cls ∧ (∀ w ∈ WG, w.before args s = true) ∧ meth.locks = false ∧ hEnv D kCl (hTys κ) A s ∧ (∀ q, s.heap.size ≤ q → A q)
def wMo_beginsFuel_30 (post : Int32 → Hp → Prop)   (y0 : Int32) (M : Hp) : Prop := ((y0 = 0 ∨ y0 = 1) ∧ post y0 M)
set_option maxRecDepth 100000 in
set_option maxHeartbeats 4000000 in
theorem tMo_beginsFuel_30 {p : Program} {l : Launch} {e : Env} {s : State} {m : MethodId} {args : Array Value} {below : List Frame} {meth : Method} {c : Code} {D : va_G} {κ : Nat → ClassId} {A : Nat → Prop} (C : Cx_Mo_beginsFuel p s m args meth c D κ A) (post : Int32 → Hp → Prop)   (y0 : Int32) (M : Hp) (hwp : wMo_beginsFuel_30 post y0 M) : Y p l e rm_Mo_beginsFuel s m args below meth c D kCl (hTys κ) A 2 0 0 (MQ below (va_Qi post (hB D kCl (hTys κ) A) A) args s 0 0 A) M 30 [] [.int y0] := by
  obtain ⟨hx, hb, hml, hr, hown, hts, hlocks, hE, hA⟩ := id C
  have hK := hE.1
  intro H locs ls hM hS hl
  unfold wMo_beginsFuel_30 at hwp
  obtain ⟨hz1, hwp⟩ := hwp
  exact W.zret (v := y0) hx hb hr (by rcases hz1 with h | h <;> rw [h] <;> rfl) (fun t ht hW => ⟨⟨y0, M, rfl, hwp, by show hw D kCl (hTys κ) A M t.heap; rw [ht]; exact hM⟩, hS.F ht⟩) hS.2.2 d_Mo_beginsFuel_30
def wMo_beginsFuel_29 (post : Int32 → Hp → Prop)   (M : Hp) : Prop := (wMo_beginsFuel_30 post (0 : Int32) M)
set_option maxRecDepth 100000 in
set_option maxHeartbeats 4000000 in
theorem tMo_beginsFuel_29 {p : Program} {l : Launch} {e : Env} {s : State} {m : MethodId} {args : Array Value} {below : List Frame} {meth : Method} {c : Code} {D : va_G} {κ : Nat → ClassId} {A : Nat → Prop} (C : Cx_Mo_beginsFuel p s m args meth c D κ A) (post : Int32 → Hp → Prop)   (M : Hp) (hwp : wMo_beginsFuel_29 post  M) : Y p l e rm_Mo_beginsFuel s m args below meth c D kCl (hTys κ) A 2 0 0 (MQ below (va_Qi post (hB D kCl (hTys κ) A) A) args s 0 0 A) M 29 [] [] := by
  obtain ⟨hx, hb, hml, hr, hown, hts, hlocks, hE, hA⟩ := id C
  have hK := hE.1
  intro H locs ls hM hS hl
  unfold wMo_beginsFuel_29 at hwp
  refine lv_iconst (v := 0) hx hb d_Mo_beginsFuel_29 (by decide) ?_
  exact tMo_beginsFuel_30 C post (0 : Int32) M hwp H locs ls hM hS (lv_sub hl [] rfl)
def wMo_beginsFuel_25 (post : Int32 → Hp → Prop)   (M : Hp) : Prop := (wMo_beginsFuel_30 post (1 : Int32) M)
set_option maxRecDepth 100000 in
set_option maxHeartbeats 4000000 in
theorem tMo_beginsFuel_25 {p : Program} {l : Launch} {e : Env} {s : State} {m : MethodId} {args : Array Value} {below : List Frame} {meth : Method} {c : Code} {D : va_G} {κ : Nat → ClassId} {A : Nat → Prop} (C : Cx_Mo_beginsFuel p s m args meth c D κ A) (post : Int32 → Hp → Prop)   (M : Hp) (hwp : wMo_beginsFuel_25 post  M) : Y p l e rm_Mo_beginsFuel s m args below meth c D kCl (hTys κ) A 2 0 0 (MQ below (va_Qi post (hB D kCl (hTys κ) A) A) args s 0 0 A) M 25 [] [] := by
  obtain ⟨hx, hb, hml, hr, hown, hts, hlocks, hE, hA⟩ := id C
  have hK := hE.1
  intro H locs ls hM hS hl
  unfold wMo_beginsFuel_25 at hwp
  refine lv_iconst (v := 1) hx hb d_Mo_beginsFuel_25 (by decide) ?_
  refine lv_goto (tgt := 30) hx hb d_Mo_beginsFuel_26 (by decide) ?_
  exact tMo_beginsFuel_30 C post (1 : Int32) M hwp H locs ls hM hS (lv_sub hl [] rfl)
def wpMo_beginsFuel (self : Nat) (p0 : Int32) (M : Hp) (post : Int32 → Hp → Prop) : Prop := (hob M self 6 ∧ (wpMo_isFuel self p0 M (fun (r4 : Int32) (M2 : Hp) => ((r4 = 0 → (wMo_beginsFuel_29 post M2)) ∧ (¬ r4 = 0 → (((p0 - p0 / (81 : Int32) * (81 : Int32)) = 0 → (wMo_beginsFuel_25 post M2)) ∧ (¬ (p0 - p0 / (81 : Int32) * (81 : Int32)) = 0 → (hob M2 self 6 ∧ (wpMo_isFuel self (p0 - (1 : Int32)) M2 (fun (r9 : Int32) (M7 : Hp) => ((r9 = 0 → (wMo_beginsFuel_25 post M7)) ∧ (¬ r9 = 0 → (wMo_beginsFuel_29 post M7)))))))))))))
set_option maxRecDepth 100000 in
set_option maxHeartbeats 4000000 in
theorem eMo_beginsFuel {p : Program} {l : Launch} {e : Env} {s : State} {m : MethodId} {args : Array Value} {below : List Frame} {meth : Method} {c : Code} {D : va_G} {κ : Nat → ClassId} {A : Nat → Prop} (C : Cx_Mo_beginsFuel p s m args meth c D κ A) (post : Int32 → Hp → Prop) (self : Nat) (p0 : Int32) (M : Hp) (hwp : wpMo_beginsFuel self p0 M post) : Y p l e rm_Mo_beginsFuel s m args below meth c D kCl (hTys κ) A 2 0 0 (MQ below (va_Qi post (hB D kCl (hTys κ) A) A) args s 0 0 A) M 0 [(0, .ref self), (1, .int p0)] [] := by
  obtain ⟨hx, hb, hml, hr, hown, hts, hlocks, hE, hA⟩ := id C
  have hK := hE.1
  intro H locs ls hM hS hl
  unfold wpMo_beginsFuel at hwp
  refine lv_aload_n hx hb d_Mo_beginsFuel_0 rfl (lv_at hl 0 rfl) ?_
  refine lv_iload_n hx hb d_Mo_beginsFuel_1 rfl (lv_at hl 1 rfl) ?_
  obtain ⟨ho3, hwp⟩ := hwp
  refine h_calli hM hS hA (va_runV (As := [.int p0]) (rest := []) ⟨hx, hb, hml, hown, hts⟩ (metMo_isFuel l D κ H.size self p0 M _ hwp) (cwV 1 hts (gV kw_1004 kw_1006 kp_48 kw_8 kw_1007) rfl rfl rfl (by decide +kernel) ⟨(Nat.le_of_ble_eq_true rfl), (Nat.le_of_ble_eq_true rfl)⟩) (h_preV hE hM hS ho3 (r := ("BuckTablesModel", Tc6, 36)) rfl) rfl rfl hl.1 rfl (lv_room (Nat.le_of_ble_eq_true rfl)) d_Mo_beginsFuel_2 ⟨(Nat.le_of_ble_eq_true rfl), (Nat.le_of_ble_eq_true rfl)⟩) (fun r4 M2 H locs hwp hM hS => ?_)
  refine lv_if_eq (tgt := 29) hx hb d_Mo_beginsFuel_5 (by decide) (fun c5 => ?_) (fun c5 => ?_)
  · replace hwp := hwp.1 c5
    exact tMo_beginsFuel_29 C post M2 hwp H locs ls hM hS (lv_sub hl [] rfl)
  · replace hwp := hwp.2 c5
    refine lv_iload_n hx hb d_Mo_beginsFuel_8 rfl (lv_at hl 1 rfl) ?_
    refine lv_bipush (v := 81) hx hb d_Mo_beginsFuel_9 (by decide) ?_
    refine lv_irem hx hb d_Mo_beginsFuel_11 (by decide) ?_
    refine lv_if_eq (tgt := 25) hx hb d_Mo_beginsFuel_12 (by decide) (fun c6 => ?_) (fun c6 => ?_)
    · replace hwp := hwp.1 c6
      exact tMo_beginsFuel_25 C post M2 hwp H locs ls hM hS (lv_sub hl [] rfl)
    · replace hwp := hwp.2 c6
      refine lv_aload_n hx hb d_Mo_beginsFuel_15 rfl (lv_at hl 0 rfl) ?_
      refine lv_iload_n hx hb d_Mo_beginsFuel_16 rfl (lv_at hl 1 rfl) ?_
      refine lv_iconst (v := 1) hx hb d_Mo_beginsFuel_17 (by decide) ?_
      refine lv_isub hx hb d_Mo_beginsFuel_18 ?_
      obtain ⟨ho8, hwp⟩ := hwp
      refine h_calli hM hS hA (va_runV (As := [.int (p0 - (1 : Int32))]) (rest := []) ⟨hx, hb, hml, hown, hts⟩ (metMo_isFuel l D κ H.size self (p0 - (1 : Int32)) M2 _ hwp) (cwV 1 hts (gV kw_1004 kw_1006 kp_48 kw_8 kw_1007) rfl rfl rfl (by decide +kernel) ⟨(Nat.le_of_ble_eq_true rfl), (Nat.le_of_ble_eq_true rfl)⟩) (h_preV hE hM hS ho8 (r := ("BuckTablesModel", Tc6, 36)) rfl) rfl rfl hl.1 rfl (lv_room (Nat.le_of_ble_eq_true rfl)) d_Mo_beginsFuel_19 ⟨(Nat.le_of_ble_eq_true rfl), (Nat.le_of_ble_eq_true rfl)⟩) (fun r9 M7 H locs hwp hM hS => ?_)
      refine lv_if_ne (tgt := 29) hx hb d_Mo_beginsFuel_22 (by decide) (fun c10 => ?_) (fun c10 => ?_)
      · replace hwp := hwp.2 c10
        exact tMo_beginsFuel_29 C post M7 hwp H locs ls hM hS (lv_sub hl [] rfl)
      · replace hwp := hwp.1 c10
        exact tMo_beginsFuel_25 C post M7 hwp H locs ls hM hS (lv_sub hl [] rfl)
set_option maxRecDepth 100000 in
set_option maxHeartbeats 4000000 in
theorem metMo_beginsFuel (l : Launch) (D : va_G) (κ : Nat → ClassId) (sz : Nat) (self : Nat) (p0 : Int32) (M : Hp) (post : Int32 → Hp → Prop) (hwp : wpMo_beginsFuel self p0 M post) : Met l y_Mo_beginsFuel ws_Mo_beginsFuel rm_Mo_beginsFuel (hPc D kCl (hTys κ) M sz [.ref self, .int p0]) (va_Qi post (hB D kCl (hTys κ) (hAx M sz)) (hAx M sz)) 0 0 (hAx M sz) := by
  refine Met.ofW (cc := prog_8_method_42_code) (maxL := 2) (ret := (some .boolean)) (by decide +kernel) rfl ?_
  intro p e s m args below meth c s₁ B hml hv
  obtain ⟨rfl, hsz, hE, hM0⟩ := hv
  have hts : ∀ w ∈ WG, w.before _ s = true := fun w h => atoms_spec (ws := ws_Mo_beginsFuel) B.pre w (List.mem_cons_of_mem _ h)
  subst hsz
  have C : Cx_Mo_beginsFuel p s m _ meth c D κ (hAx M s.heap.size) := ⟨B.exec, B.bytes, hml, B.returns, findClass_of_methodNamed B.named, hts, B.notSynchronized, hE, fun q h => Or.inr h⟩
  have hl := lv_entry ([.ref self, .int p0]) (n := 2) (Nat.le_of_ble_eq_true rfl)
  rw [lg_entry_eq]
  generalize (lg_sl ([.ref self, .int p0]) ++ List.replicate (2 - (lg_sl ([.ref self, .int p0])).length) Slot.unset).toArray = ls at hl ⊢
  exact eMo_beginsFuel C post self p0 M hwp s.heap [] ls (hM0.self (sz := s.heap.size)) va_S.rf hl
