abbrev rm_BT_cutAll : Room := { frames := 4, cells := 0, slots := 0, locals := 98 }
def Cx_BT_cutAll (p : Program) (s : State) (m : MethodId) (args : Array Value) (meth : Method) (c : Code) (D : va_G) (κ : Nat → ClassId) (A : Nat → Prop) : Prop := p.tables.exec = Jvm.exec ∧ c.code = prog_1_method_32_code ∧ c.maxLocals = 3 ∧ meth.sig.returnType = none ∧ s.vm.findClass "BuckTables" = some m.cls ∧ (∀ w ∈ WG, w.before args s = true) ∧ meth.locks = false ∧ hEnv D kCl (hTys κ) A s ∧ (∀ q, s.heap.size ≤ q → A q)
def wBT_cutAll_6 (post : Hp → Prop)  : Nat → Nat → Nat → Int32 → Hp → Prop
  | 0 => fun _ _ _ _ => False
  | n + 1 => fun x0 x1 x2 M => (∃ v1 : Int32, fI M x0 0 3 v1 ∧ ((v1 ≤ x2 → (post M)) ∧ (¬ v1 ≤ x2 → (∃ a6 : Nat, fA M x0 0 2 a6 ∧ (∃ a10 : Nat, fA M x0 0 0 a10 ∧ (∃ a14 : Nat, aA 3 M a10 x2 a14 ∧ (∃ a20 : Nat, fA M x0 0 1 a20 ∧ (∃ v24 : Int32, fI M x0 0 4 v24 ∧ (∃ v28 : Int32, fI M x0 0 6 v28 ∧ (hob M a6 4 ∧ (wpCu_workOut a6 a14 x2 a20 v24 v28 M (fun (M32 : Hp) => (∃ a34 : Nat, fA M32 x0 0 2 a34 ∧ (∃ a38 : Nat, fA M32 x0 0 0 a38 ∧ (∃ a42 : Nat, aA 3 M32 a38 x2 a42 ∧ (∃ a48 : Nat, fA M32 x0 0 1 a48 ∧ (∃ v52 : Int32, fI M32 x0 0 6 v52 ∧ (hob M32 a34 4 ∧ (wpCu_writeTo a34 x1 a42 x2 a48 v52 M32 (fun (M56 : Hp) => (∀ z58 : Int32, z58 = x2 + 1 → ((wBT_cutAll_6 post n) x0 x1 z58 M56))))))))))))))))))))))
set_option maxRecDepth 100000 in
set_option maxHeartbeats 4000000 in
theorem tBT_cutAll_6 {p : Program} {l : Launch} {e : Env} {s : State} {m : MethodId} {args : Array Value} {below : List Frame} {meth : Method} {c : Code} {D : va_G} {κ : Nat → ClassId} {A : Nat → Prop} (C : Cx_BT_cutAll p s m args meth c D κ A) (post : Hp → Prop)  : ∀ (n : Nat) (x0 : Nat) (x1 : Nat) (x2 : Int32) (M : Hp), wBT_cutAll_6 post n x0 x1 x2 M → Y p l e rm_BT_cutAll s m args below meth c D kCl (hTys κ) A 3 0 0 (MQ below (va_Qv post (hB D kCl (hTys κ) A) A) args s 0 0 A) M 6 [(0, .ref x0), (1, .ref x1), (2, .int x2)] [] := by
  obtain ⟨hx, hb, hml, hr, hown, hts, hlocks, hE, hA⟩ := id C
  have hK := hE.1
  intro n
  induction n with
  | zero => intro x0 x1 x2 M hwp; exact hwp.elim
  | succ n ih =>
    intro x0 x1 x2 M hwp H locs ls hM hS hl
    unfold wBT_cutAll_6 at hwp
    refine lv_iload_n hx hb d_BT_cutAll_6 rfl (lv_at hl 2 rfl) ?_
    refine lv_aload_n hx hb d_BT_cutAll_7 rfl (lv_at hl 0 rfl) ?_
    obtain ⟨v1, ⟨fs2, he3, hv4⟩, hwp⟩ := hwp
    refine h_get (C := "BuckTables") (T := Tc0) (N := 12) hx hb hts inc0 hown hK hM he3 rfl 3 (by decide) (hts _ kw_205) (fun _ h9 => h9) hv4 d_BT_cutAll_8 ?_
    refine lv_icmp_ge (tgt := 69) hx hb d_BT_cutAll_11 (by decide) (fun c5 => ?_) (fun c5 => ?_)
    · replace hwp := hwp.1 c5
      exact W.vret hx hb hr (fun t ht hW => ⟨⟨M, rfl, hwp, by show hw D kCl (hTys κ) A M t.heap; rw [ht]; exact hM⟩, hS.F ht⟩) hS.2.2 d_BT_cutAll_69
    · replace hwp := hwp.2 c5
      refine lv_aload_n hx hb d_BT_cutAll_14 rfl (lv_at hl 0 rfl) ?_
      obtain ⟨a6, ⟨fs7, he8, hv9⟩, hwp⟩ := hwp
      refine h_get (C := "BuckTables") (T := Tc0) (N := 12) hx hb hts inc0 hown hK hM he8 rfl 2 (by decide) (hts _ kw_204) (fun _ h9 => h9) hv9 d_BT_cutAll_15 ?_
      refine lv_aload_n hx hb d_BT_cutAll_18 rfl (lv_at hl 0 rfl) ?_
      obtain ⟨a10, ⟨fs11, he12, hv13⟩, hwp⟩ := hwp
      refine h_get (C := "BuckTables") (T := Tc0) (N := 12) hx hb hts inc0 hown hK hM he12 rfl 0 (by decide) (hts _ kw_202) (fun _ h9 => h9) hv13 d_BT_cutAll_19 ?_
      refine lv_iload_n hx hb d_BT_cutAll_22 rfl (lv_at hl 2 rfl) ?_
      obtain ⟨a14, ⟨n15, f16, ha17, hi18, hy19⟩, hwp⟩ := hwp
      refine h_aald hx hb hK hM ha17 rfl hi18 hy19 d_BT_cutAll_23 ?_
      refine lv_iload_n hx hb d_BT_cutAll_24 rfl (lv_at hl 2 rfl) ?_
      refine lv_aload_n hx hb d_BT_cutAll_25 rfl (lv_at hl 0 rfl) ?_
      obtain ⟨a20, ⟨fs21, he22, hv23⟩, hwp⟩ := hwp
      refine h_get (C := "BuckTables") (T := Tc0) (N := 12) hx hb hts inc0 hown hK hM he22 rfl 1 (by decide) (hts _ kw_203) (fun _ h9 => h9) hv23 d_BT_cutAll_26 ?_
      refine lv_aload_n hx hb d_BT_cutAll_29 rfl (lv_at hl 0 rfl) ?_
      obtain ⟨v24, ⟨fs25, he26, hv27⟩, hwp⟩ := hwp
      refine h_get (C := "BuckTables") (T := Tc0) (N := 12) hx hb hts inc0 hown hK hM he26 rfl 4 (by decide) (hts _ kw_206) (fun _ h9 => h9) hv27 d_BT_cutAll_30 ?_
      refine lv_aload_n hx hb d_BT_cutAll_33 rfl (lv_at hl 0 rfl) ?_
      obtain ⟨v28, ⟨fs29, he30, hv31⟩, hwp⟩ := hwp
      refine h_get (C := "BuckTables") (T := Tc0) (N := 12) hx hb hts inc0 hown hK hM he30 rfl 6 (by decide) (hts _ kw_208) (fun _ h9 => h9) hv31 d_BT_cutAll_34 ?_
      obtain ⟨ho33, hwp⟩ := hwp
      refine h_callv hM hS hA (va_runV (As := [.ref a14, .int x2, .ref a20, .int v24, .int v28]) (rest := []) ⟨hx, hb, hml, hown, hts⟩ (metCu_workOut l D κ H.size a6 a14 x2 a20 v24 v28 M _ hwp) (cwV 5 hts (gV kw_280 kw_281 kw_282 kw_2 kw_283) rfl rfl rfl (by decide +kernel) ⟨(Nat.le_of_ble_eq_true rfl), (Nat.le_of_ble_eq_true rfl)⟩) (h_preV hE hM hS ho33 (r := ("BuckTables$Cutter", Tc4, 4)) rfl) rfl rfl hl.1 rfl (lv_room (Nat.le_of_ble_eq_true rfl)) d_BT_cutAll_37 ⟨(Nat.le_of_ble_eq_true rfl), (Nat.le_of_ble_eq_true rfl)⟩) (fun M32 H locs hwp hM hS => ?_)
      refine lv_aload_n hx hb d_BT_cutAll_40 rfl (lv_at hl 0 rfl) ?_
      obtain ⟨a34, ⟨fs35, he36, hv37⟩, hwp⟩ := hwp
      refine h_get (C := "BuckTables") (T := Tc0) (N := 12) hx hb hts inc0 hown hK hM he36 rfl 2 (by decide) (hts _ kw_204) (fun _ h9 => h9) hv37 d_BT_cutAll_41 ?_
      refine lv_aload_n hx hb d_BT_cutAll_44 rfl (lv_at hl 1 rfl) ?_
      refine lv_aload_n hx hb d_BT_cutAll_45 rfl (lv_at hl 0 rfl) ?_
      obtain ⟨a38, ⟨fs39, he40, hv41⟩, hwp⟩ := hwp
      refine h_get (C := "BuckTables") (T := Tc0) (N := 12) hx hb hts inc0 hown hK hM he40 rfl 0 (by decide) (hts _ kw_202) (fun _ h9 => h9) hv41 d_BT_cutAll_46 ?_
      refine lv_iload_n hx hb d_BT_cutAll_49 rfl (lv_at hl 2 rfl) ?_
      obtain ⟨a42, ⟨n43, f44, ha45, hi46, hy47⟩, hwp⟩ := hwp
      refine h_aald hx hb hK hM ha45 rfl hi46 hy47 d_BT_cutAll_50 ?_
      refine lv_iload_n hx hb d_BT_cutAll_51 rfl (lv_at hl 2 rfl) ?_
      refine lv_aload_n hx hb d_BT_cutAll_52 rfl (lv_at hl 0 rfl) ?_
      obtain ⟨a48, ⟨fs49, he50, hv51⟩, hwp⟩ := hwp
      refine h_get (C := "BuckTables") (T := Tc0) (N := 12) hx hb hts inc0 hown hK hM he50 rfl 1 (by decide) (hts _ kw_203) (fun _ h9 => h9) hv51 d_BT_cutAll_53 ?_
      refine lv_aload_n hx hb d_BT_cutAll_56 rfl (lv_at hl 0 rfl) ?_
      obtain ⟨v52, ⟨fs53, he54, hv55⟩, hwp⟩ := hwp
      refine h_get (C := "BuckTables") (T := Tc0) (N := 12) hx hb hts inc0 hown hK hM he54 rfl 6 (by decide) (hts _ kw_208) (fun _ h9 => h9) hv55 d_BT_cutAll_57 ?_
      obtain ⟨ho57, hwp⟩ := hwp
      refine h_callv hM hS hA (va_runV (As := [.ref x1, .ref a42, .int x2, .ref a48, .int v52]) (rest := []) ⟨hx, hb, hml, hown, hts⟩ (metCu_writeTo l D κ H.size a34 x1 a42 x2 a48 v52 M32 _ hwp) (cwV 5 hts (gV kw_316 kw_317 kw_318 kw_2 kw_319) rfl rfl rfl (by decide +kernel) ⟨(Nat.le_of_ble_eq_true rfl), (Nat.le_of_ble_eq_true rfl)⟩) (h_preV hE hM hS ho57 (r := ("BuckTables$Cutter", Tc4, 4)) rfl) rfl rfl hl.1 rfl (lv_room (Nat.le_of_ble_eq_true rfl)) d_BT_cutAll_60 ⟨(Nat.le_of_ble_eq_true rfl), (Nat.le_of_ble_eq_true rfl)⟩) (fun M56 H locs hwp hM hS => ?_)
      obtain ⟨z58, ez58⟩ : ∃ y : Int32, y = x2 + 1 := ⟨_, rfl⟩
      replace hwp := hwp z58 ez58
      refine lv_iinc (v := z58) (lv' := [(2, .int z58), (0, .ref x0), (1, .ref x1)]) hx hb d_BT_cutAll_63 hl (k := 2) rfl (by rw [ez58]; rfl) (by decide) rfl (fun ls hl => ?_)
      refine lv_goto (tgt := 6) hx hb d_BT_cutAll_66 (by decide) ?_
      exact ih x0 x1 z58 M56 hwp H locs ls hM hS (lv_sub hl [1, 2, 0] rfl)
def wpBT_cutAll (self : Nat) (p0 : Nat) (M : Hp) (post : Hp → Prop) : Prop := (hob M p0 5 ∧ (wpPl_clear p0 M (fun (M59 : Hp) => (∃ n61 : Nat, wBT_cutAll_6 post n61 self p0 (0 : Int32) M59))))
set_option maxRecDepth 100000 in
set_option maxHeartbeats 4000000 in
theorem eBT_cutAll {p : Program} {l : Launch} {e : Env} {s : State} {m : MethodId} {args : Array Value} {below : List Frame} {meth : Method} {c : Code} {D : va_G} {κ : Nat → ClassId} {A : Nat → Prop} (C : Cx_BT_cutAll p s m args meth c D κ A) (post : Hp → Prop) (self : Nat) (p0 : Nat) (M : Hp) (hwp : wpBT_cutAll self p0 M post) : Y p l e rm_BT_cutAll s m args below meth c D kCl (hTys κ) A 3 0 0 (MQ below (va_Qv post (hB D kCl (hTys κ) A) A) args s 0 0 A) M 0 [(0, .ref self), (1, .ref p0)] [] := by
  obtain ⟨hx, hb, hml, hr, hown, hts, hlocks, hE, hA⟩ := id C
  have hK := hE.1
  intro H locs ls hM hS hl
  unfold wpBT_cutAll at hwp
  refine lv_aload_n hx hb d_BT_cutAll_0 rfl (lv_at hl 1 rfl) ?_
  obtain ⟨ho60, hwp⟩ := hwp
  refine h_callv hM hS hA (va_runV (As := []) (rest := []) ⟨hx, hb, hml, hown, hts⟩ (metPl_clear l D κ H.size p0 M _ hwp) (cwV 0 hts (gV kw_276 kw_277 kw_278 kw_4 kw_279) rfl rfl rfl (by decide +kernel) ⟨(Nat.le_of_ble_eq_true rfl), (Nat.le_of_ble_eq_true rfl)⟩) (h_preV hE hM hS ho60 (r := ("BuckTables$Plan", Tc5, 5)) rfl) rfl rfl hl.1 rfl (lv_room (Nat.le_of_ble_eq_true rfl)) d_BT_cutAll_1 ⟨(Nat.le_of_ble_eq_true rfl), (Nat.le_of_ble_eq_true rfl)⟩) (fun M59 H locs hwp hM hS => ?_)
  refine lv_iconst (v := 0) hx hb d_BT_cutAll_4 (by decide) ?_
  refine lv_istore_n (lv' := [(2, .int (0 : Int32)), (0, .ref self), (1, .ref p0)]) hx hb d_BT_cutAll_5 rfl hl (by decide) rfl (fun ls hl => ?_)
  obtain ⟨n61, hwp⟩ := hwp
  exact tBT_cutAll_6 C post n61 self p0 (0 : Int32) M59 hwp H locs ls hM hS (lv_sub hl [1, 2, 0] rfl)
set_option maxRecDepth 100000 in
set_option maxHeartbeats 4000000 in
theorem metBT_cutAll (l : Launch) (D : va_G) (κ : Nat → ClassId) (sz : Nat) (self : Nat) (p0 : Nat) (M : Hp) (post : Hp → Prop) (hwp : wpBT_cutAll self p0 M post) : Met l y_BT_cutAll ws_BT_cutAll rm_BT_cutAll (hPc D kCl (hTys κ) M sz [.ref self, .ref p0]) (va_Qv post (hB D kCl (hTys κ) (hAx M sz)) (hAx M sz)) 0 0 (hAx M sz) := by
  refine Met.ofW (cc := prog_1_method_32_code) (maxL := 3) (ret := none) (by decide +kernel) rfl ?_
  intro p e s m args below meth c s₁ B hml hv
  obtain ⟨rfl, hsz, hE, hM0⟩ := hv
  have hts : ∀ w ∈ WG, w.before _ s = true := fun w h => atoms_spec (ws := ws_BT_cutAll) B.pre w (List.mem_cons_of_mem _ h)
  subst hsz
  have C : Cx_BT_cutAll p s m _ meth c D κ (hAx M s.heap.size) := ⟨B.exec, B.bytes, hml, B.returns, findClass_of_methodNamed B.named, hts, B.notSynchronized, hE, fun q h => Or.inr h⟩
  have hl := lv_entry ([.ref self, .ref p0]) (n := 3) (Nat.le_of_ble_eq_true rfl)
  rw [lg_entry_eq]
  generalize (lg_sl ([.ref self, .ref p0]) ++ List.replicate (3 - (lg_sl ([.ref self, .ref p0])).length) Slot.unset).toArray = ls at hl ⊢
  exact eBT_cutAll C post self p0 M hwp s.heap [] ls (hM0.self (sz := s.heap.size)) va_S.rf hl
abbrev rm_BT_makePlain : Room := { frames := 5, cells := 0, slots := 0, locals := 120 }
def Cx_BT_makePlain (p : Program) (s : State) (m : MethodId) (args : Array Value) (meth : Method) (c : Code) (D : va_G) (κ : Nat → ClassId) (A : Nat → Prop) : Prop := p.tables.exec = Jvm.exec ∧ c.code = prog_1_method_28_code ∧ c.maxLocals = 1 ∧ meth.sig.returnType = none ∧ s.vm.findClass "BuckTables" = some m.cls ∧ (∀ w ∈ WG, w.before args s = true) ∧ meth.locks = false ∧ hEnv D kCl (hTys κ) A s ∧ (∀ q, s.heap.size ≤ q → A q)
def wpBT_makePlain (self : Nat) (M : Hp) (post : Hp → Prop) : Prop := (hob M self 0 ∧ (wpBT_startPlans self M (fun (M1 : Hp) => (∃ a3 : Nat, fA M1 self 0 7 a3 ∧ (hob M1 self 0 ∧ (wpBT_cutAll self a3 M1 (fun (M7 : Hp) => (∃ a9 : Nat, fA M7 self 0 7 a9 ∧ (∃ v13 : Int64, fJ M7 a9 5 4 v13 ∧ (∃ M17 : Hp, pF M7 self 0 11 (.long v13) M17 ∧ (∃ M21 : Hp, pF M17 self 0 10 (.int (0 : Int32)) M21 ∧ (∃ M25 : Hp, pF M21 self 0 9 (.int (1 : Int32)) M25 ∧ (post M25)))))))))))))
set_option maxRecDepth 100000 in
set_option maxHeartbeats 4000000 in
theorem eBT_makePlain {p : Program} {l : Launch} {e : Env} {s : State} {m : MethodId} {args : Array Value} {below : List Frame} {meth : Method} {c : Code} {D : va_G} {κ : Nat → ClassId} {A : Nat → Prop} (C : Cx_BT_makePlain p s m args meth c D κ A) (post : Hp → Prop) (self : Nat) (M : Hp) (hwp : wpBT_makePlain self M post) : Y p l e rm_BT_makePlain s m args below meth c D kCl (hTys κ) A 1 0 0 (MQ below (va_Qv post (hB D kCl (hTys κ) A) A) args s 0 0 A) M 0 [(0, .ref self)] [] := by
  obtain ⟨hx, hb, hml, hr, hown, hts, hlocks, hE, hA⟩ := id C
  have hK := hE.1
  intro H locs ls hM hS hl
  unfold wpBT_makePlain at hwp
  refine lv_aload_n hx hb d_BT_makePlain_0 rfl (lv_at hl 0 rfl) ?_
  obtain ⟨ho2, hwp⟩ := hwp
  refine h_callv hM hS hA (va_runV (As := []) (rest := []) ⟨hx, hb, hml, hown, hts⟩ (metBT_startPlans l D κ H.size self M _ hwp) (cwV 0 hts (gV kw_247 kw_249 kp_1 kw_1 kw_250) rfl rfl rfl (by decide +kernel) ⟨(Nat.le_of_ble_eq_true rfl), (Nat.le_of_ble_eq_true rfl)⟩) (h_preV hE hM hS ho2 (r := ("BuckTables", Tc0, 12)) rfl) rfl rfl hl.1 rfl (lv_room (Nat.le_of_ble_eq_true rfl)) d_BT_makePlain_1 ⟨(Nat.le_of_ble_eq_true rfl), (Nat.le_of_ble_eq_true rfl)⟩) (fun M1 H locs hwp hM hS => ?_)
  refine lv_aload_n hx hb d_BT_makePlain_4 rfl (lv_at hl 0 rfl) ?_
  refine lv_aload_n hx hb d_BT_makePlain_5 rfl (lv_at hl 0 rfl) ?_
  obtain ⟨a3, ⟨fs4, he5, hv6⟩, hwp⟩ := hwp
  refine h_get (C := "BuckTables") (T := Tc0) (N := 12) hx hb hts inc0 hown hK hM he5 rfl 7 (by decide) (hts _ kw_209) (fun _ h9 => h9) hv6 d_BT_makePlain_6 ?_
  obtain ⟨ho8, hwp⟩ := hwp
  refine h_callv hM hS hA (va_runV (As := [.ref a3]) (rest := []) ⟨hx, hb, hml, hown, hts⟩ (metBT_cutAll l D κ H.size self a3 M1 _ hwp) (cwV 1 hts (gV kw_272 kw_274 kp_6 kw_1 kw_275) rfl rfl rfl (by decide +kernel) ⟨(Nat.le_of_ble_eq_true rfl), (Nat.le_of_ble_eq_true rfl)⟩) (h_preV hE hM hS ho8 (r := ("BuckTables", Tc0, 12)) rfl) rfl rfl hl.1 rfl (lv_room (Nat.le_of_ble_eq_true rfl)) d_BT_makePlain_9 ⟨(Nat.le_of_ble_eq_true rfl), (Nat.le_of_ble_eq_true rfl)⟩) (fun M7 H locs hwp hM hS => ?_)
  refine lv_aload_n hx hb d_BT_makePlain_12 rfl (lv_at hl 0 rfl) ?_
  refine lv_aload_n hx hb d_BT_makePlain_13 rfl (lv_at hl 0 rfl) ?_
  obtain ⟨a9, ⟨fs10, he11, hv12⟩, hwp⟩ := hwp
  refine h_get (C := "BuckTables") (T := Tc0) (N := 12) hx hb hts inc0 hown hK hM he11 rfl 7 (by decide) (hts _ kw_209) (fun _ h9 => h9) hv12 d_BT_makePlain_14 ?_
  obtain ⟨v13, ⟨fs14, he15, hv16⟩, hwp⟩ := hwp
  refine h_get (C := "BuckTables$Plan") (T := Tc5) (N := 5) hx hb hts inc5 hown hK hM he15 rfl 4 (by decide) (hts _ kw_82) (fun _ h9 => h9) hv16 d_BT_makePlain_17 ?_
  obtain ⟨M17, ⟨fs18, he19, hl20, eM17⟩, hwp⟩ := hwp
  refine h_put (C := "BuckTables") (T := Tc0) (N := 12) (v := .long v13) (ty := .long) hx hb hts inc0 tyc0 tyc0_ok nmc0 hown hK hM hS he19 rfl 11 (by decide) (hts _ kw_213) (fun _ h9 => h9) rfl (by decide +kernel) rfl rfl hl20 d_BT_makePlain_20 (fun H locs hM hS => ?_)
  rw [← eM17] at hM
  refine lv_aload_n hx hb d_BT_makePlain_23 rfl (lv_at hl 0 rfl) ?_
  refine lv_iconst (v := 0) hx hb d_BT_makePlain_24 (by decide) ?_
  obtain ⟨M21, ⟨fs22, he23, hl24, eM21⟩, hwp⟩ := hwp
  refine h_put (C := "BuckTables") (T := Tc0) (N := 12) (v := .int (0 : Int32)) (ty := .int) hx hb hts inc0 tyc0 tyc0_ok nmc0 hown hK hM hS he23 rfl 10 (by decide) (hts _ kw_212) (fun _ h9 => h9) rfl (by decide +kernel) rfl rfl hl24 d_BT_makePlain_25 (fun H locs hM hS => ?_)
  rw [← eM21] at hM
  refine lv_aload_n hx hb d_BT_makePlain_28 rfl (lv_at hl 0 rfl) ?_
  refine lv_iconst (v := 1) hx hb d_BT_makePlain_29 (by decide) ?_
  obtain ⟨M25, ⟨fs26, he27, hl28, eM25⟩, hwp⟩ := hwp
  refine h_put (C := "BuckTables") (T := Tc0) (N := 12) (v := .int (1 : Int32)) (ty := .boolean) hx hb hts inc0 tyc0 tyc0_ok nmc0 hown hK hM hS he27 rfl 9 (by decide) (hts _ kw_211) (fun _ h9 => h9) rfl (by decide +kernel) (by decide) (by decide) hl28 d_BT_makePlain_30 (fun H locs hM hS => ?_)
  rw [← eM25] at hM
  exact W.vret hx hb hr (fun t ht hW => ⟨⟨M25, rfl, hwp, by show hw D kCl (hTys κ) A M25 t.heap; rw [ht]; exact hM⟩, hS.F ht⟩) hS.2.2 d_BT_makePlain_33
set_option maxRecDepth 100000 in
set_option maxHeartbeats 4000000 in
theorem metBT_makePlain (l : Launch) (D : va_G) (κ : Nat → ClassId) (sz : Nat) (self : Nat) (M : Hp) (post : Hp → Prop) (hwp : wpBT_makePlain self M post) : Met l y_BT_makePlain ws_BT_makePlain rm_BT_makePlain (hPc D kCl (hTys κ) M sz [.ref self]) (va_Qv post (hB D kCl (hTys κ) (hAx M sz)) (hAx M sz)) 0 0 (hAx M sz) := by
  refine Met.ofW (cc := prog_1_method_28_code) (maxL := 1) (ret := none) (by decide +kernel) rfl ?_
  intro p e s m args below meth c s₁ B hml hv
  obtain ⟨rfl, hsz, hE, hM0⟩ := hv
  have hts : ∀ w ∈ WG, w.before _ s = true := fun w h => atoms_spec (ws := ws_BT_makePlain) B.pre w (List.mem_cons_of_mem _ h)
  subst hsz
  have C : Cx_BT_makePlain p s m _ meth c D κ (hAx M s.heap.size) := ⟨B.exec, B.bytes, hml, B.returns, findClass_of_methodNamed B.named, hts, B.notSynchronized, hE, fun q h => Or.inr h⟩
  have hl := lv_entry ([.ref self]) (n := 1) (Nat.le_of_ble_eq_true rfl)
  rw [lg_entry_eq]
  generalize (lg_sl ([.ref self]) ++ List.replicate (1 - (lg_sl ([.ref self])).length) Slot.unset).toArray = ls at hl ⊢
  exact eBT_makePlain C post self M hwp s.heap [] ls (hM0.self (sz := s.heap.size)) va_S.rf hl
abbrev rm_BT_run : Room := { frames := 6, cells := 0, slots := 0, locals := 140 }
def Cx_BT_run (p : Program) (s : State) (m : MethodId) (args : Array Value) (meth : Method) (c : Code) (D : va_G) (κ : Nat → ClassId) (A : Nat → Prop) : Prop := p.tables.exec = Jvm.exec ∧ c.code = prog_1_method_12_code ∧ c.maxLocals = 1 ∧ meth.sig.returnType = (some .int) ∧ s.vm.findClass "BuckTables" = some m.cls ∧ (∀ w ∈ WG, w.before args s = true) ∧ meth.locks = false ∧ hEnv D kCl (hTys κ) A s ∧ (∀ q, s.heap.size ≤ q → A q)
def wpBT_run (self : Nat) (M : Hp) (post : Int32 → Hp → Prop) : Prop := (hob M self 0 ∧ (wpBT_makePlain self M (fun (M1 : Hp) => (∃ a3 : Nat, fA M1 self 0 7 a3 ∧ (∃ v7 : Int32, fI M1 a3 5 3 v7 ∧ (post v7 M1))))))
set_option maxRecDepth 100000 in
set_option maxHeartbeats 4000000 in
theorem eBT_run {p : Program} {l : Launch} {e : Env} {s : State} {m : MethodId} {args : Array Value} {below : List Frame} {meth : Method} {c : Code} {D : va_G} {κ : Nat → ClassId} {A : Nat → Prop} (C : Cx_BT_run p s m args meth c D κ A) (post : Int32 → Hp → Prop) (self : Nat) (M : Hp) (hwp : wpBT_run self M post) : Y p l e rm_BT_run s m args below meth c D kCl (hTys κ) A 1 0 0 (MQ below (va_Qi post (hB D kCl (hTys κ) A) A) args s 0 0 A) M 0 [(0, .ref self)] [] := by
  obtain ⟨hx, hb, hml, hr, hown, hts, hlocks, hE, hA⟩ := id C
  have hK := hE.1
  intro H locs ls hM hS hl
  unfold wpBT_run at hwp
  refine lv_aload_n hx hb d_BT_run_0 rfl (lv_at hl 0 rfl) ?_
  obtain ⟨ho2, hwp⟩ := hwp
  refine h_callv hM hS hA (va_runV (As := []) (rest := []) ⟨hx, hb, hml, hown, hts⟩ (metBT_makePlain l D κ H.size self M _ hwp) (cwV 0 hts (gV kw_243 kw_245 kp_0 kw_1 kw_246) rfl rfl rfl (by decide +kernel) ⟨(Nat.le_of_ble_eq_true rfl), (Nat.le_of_ble_eq_true rfl)⟩) (h_preV hE hM hS ho2 (r := ("BuckTables", Tc0, 12)) rfl) rfl rfl hl.1 rfl (lv_room (Nat.le_of_ble_eq_true rfl)) d_BT_run_1 ⟨(Nat.le_of_ble_eq_true rfl), (Nat.le_of_ble_eq_true rfl)⟩) (fun M1 H locs hwp hM hS => ?_)
  refine lv_aload_n hx hb d_BT_run_4 rfl (lv_at hl 0 rfl) ?_
  obtain ⟨a3, ⟨fs4, he5, hv6⟩, hwp⟩ := hwp
  refine h_get (C := "BuckTables") (T := Tc0) (N := 12) hx hb hts inc0 hown hK hM he5 rfl 7 (by decide) (hts _ kw_209) (fun _ h9 => h9) hv6 d_BT_run_5 ?_
  obtain ⟨v7, ⟨fs8, he9, hv10⟩, hwp⟩ := hwp
  refine h_get (C := "BuckTables$Plan") (T := Tc5) (N := 5) hx hb hts inc5 hown hK hM he9 rfl 3 (by decide) (hts _ kw_80) (fun _ h9 => h9) hv10 d_BT_run_8 ?_
  exact W.iret (v := v7) hx hb hr (fun t ht hW => ⟨⟨v7, M1, rfl, hwp, by show hw D kCl (hTys κ) A M1 t.heap; rw [ht]; exact hM⟩, hS.F ht⟩) hS.2.2 d_BT_run_11
set_option maxRecDepth 100000 in
set_option maxHeartbeats 4000000 in
theorem metBT_run (l : Launch) (D : va_G) (κ : Nat → ClassId) (sz : Nat) (self : Nat) (M : Hp) (post : Int32 → Hp → Prop) (hwp : wpBT_run self M post) : Met l y_BT_run ws_BT_run rm_BT_run (hPc D kCl (hTys κ) M sz [.ref self]) (va_Qi post (hB D kCl (hTys κ) (hAx M sz)) (hAx M sz)) 0 0 (hAx M sz) := by
  refine Met.ofW (cc := prog_1_method_12_code) (maxL := 1) (ret := (some .int)) (by decide +kernel) rfl ?_
  intro p e s m args below meth c s₁ B hml hv
  obtain ⟨rfl, hsz, hE, hM0⟩ := hv
  have hts : ∀ w ∈ WG, w.before _ s = true := fun w h => atoms_spec (ws := ws_BT_run) B.pre w (List.mem_cons_of_mem _ h)
  subst hsz
  have C : Cx_BT_run p s m _ meth c D κ (hAx M s.heap.size) := ⟨B.exec, B.bytes, hml, B.returns, findClass_of_methodNamed B.named, hts, B.notSynchronized, hE, fun q h => Or.inr h⟩
  have hl := lv_entry ([.ref self]) (n := 1) (Nat.le_of_ble_eq_true rfl)
  rw [lg_entry_eq]
  generalize (lg_sl ([.ref self]) ++ List.replicate (1 - (lg_sl ([.ref self])).length) Slot.unset).toArray = ls at hl ⊢
  exact eBT_run C post self M hwp s.heap [] ls (hM0.self (sz := s.heap.size)) va_S.rf hl
abbrev rm_Pr_hasLimit : Room := { frames := 0, cells := 0, slots := 0, locals := 0 }
def Cx_Pr_hasLimit (p : Program) (s : State) (m : MethodId) (args : Array Value) (meth : Method) (c : Code) (D : va_G) (κ : Nat → ClassId) (A : Nat → Prop) : Prop := p.tables.exec = Jvm.exec ∧ c.code = prog_4_method_3_code ∧ c.maxLocals = 1 ∧ meth.sig.returnType = (some .boolean) ∧ s.vm.findClass "BuckTables$Product" = some m.cls ∧ (∀ w ∈ WG, w.before args s = true) ∧ meth.locks = false ∧ hEnv D kCl (hTys κ) A s ∧ (∀ q, s.heap.size ≤ q → A q)
def wPr_hasLimit_16 (post : Int32 → Hp → Prop)   (y0 : Int32) (M : Hp) : Prop := ((y0 = 0 ∨ y0 = 1) ∧ post y0 M)
set_option maxRecDepth 100000 in
set_option maxHeartbeats 4000000 in
theorem tPr_hasLimit_16 {p : Program} {l : Launch} {e : Env} {s : State} {m : MethodId} {args : Array Value} {below : List Frame} {meth : Method} {c : Code} {D : va_G} {κ : Nat → ClassId} {A : Nat → Prop} (C : Cx_Pr_hasLimit p s m args meth c D κ A) (post : Int32 → Hp → Prop)   (y0 : Int32) (M : Hp) (hwp : wPr_hasLimit_16 post y0 M) : Y p l e rm_Pr_hasLimit s m args below meth c D kCl (hTys κ) A 1 0 0 (MQ below (va_Qi post (hB D kCl (hTys κ) A) A) args s 0 0 A) M 16 [] [.int y0] := by
  obtain ⟨hx, hb, hml, hr, hown, hts, hlocks, hE, hA⟩ := id C
  have hK := hE.1
  intro H locs ls hM hS hl
  unfold wPr_hasLimit_16 at hwp
  obtain ⟨hz1, hwp⟩ := hwp
  exact W.zret (v := y0) hx hb hr (by rcases hz1 with h | h <;> rw [h] <;> rfl) (fun t ht hW => ⟨⟨y0, M, rfl, hwp, by show hw D kCl (hTys κ) A M t.heap; rw [ht]; exact hM⟩, hS.F ht⟩) hS.2.2 d_Pr_hasLimit_16
def wpPr_hasLimit (self : Nat) (M : Hp) (post : Int32 → Hp → Prop) : Prop := (∃ v2 : Int64, fJ M self 2 8 v2 ∧ ((v2 = (-1 : Int64) → (wPr_hasLimit_16 post (0 : Int32) M)) ∧ (¬ v2 = (-1 : Int64) → (wPr_hasLimit_16 post (1 : Int32) M))))
set_option maxRecDepth 100000 in
set_option maxHeartbeats 4000000 in
theorem ePr_hasLimit {p : Program} {l : Launch} {e : Env} {s : State} {m : MethodId} {args : Array Value} {below : List Frame} {meth : Method} {c : Code} {D : va_G} {κ : Nat → ClassId} {A : Nat → Prop} (C : Cx_Pr_hasLimit p s m args meth c D κ A) (post : Int32 → Hp → Prop) (self : Nat) (M : Hp) (hwp : wpPr_hasLimit self M post) : Y p l e rm_Pr_hasLimit s m args below meth c D kCl (hTys κ) A 1 0 0 (MQ below (va_Qi post (hB D kCl (hTys κ) A) A) args s 0 0 A) M 0 [(0, .ref self)] [] := by
  obtain ⟨hx, hb, hml, hr, hown, hts, hlocks, hE, hA⟩ := id C
  have hK := hE.1
  intro H locs ls hM hS hl
  unfold wpPr_hasLimit at hwp
  refine lv_aload_n hx hb d_Pr_hasLimit_0 rfl (lv_at hl 0 rfl) ?_
  obtain ⟨v2, ⟨fs3, he4, hv5⟩, hwp⟩ := hwp
  refine h_get (C := "BuckTables$Product") (T := Tc2) (N := 10) hx hb hts inc2 hown hK hM he4 rfl 8 (by decide) (hts _ kw_176) (fun _ h9 => h9) hv5 d_Pr_hasLimit_1 ?_
  refine lv_ldc2 (v := (-1)) hx hb hown (hts _ kw_157) d_Pr_hasLimit_4 ?_
  refine W.lcmp hx hb d_Pr_hasLimit_7 ?_
  refine lv_if_eq (tgt := 15) hx hb d_Pr_hasLimit_8 (by decide) (fun c6 => ?_) (fun c6 => ?_)
  · replace c6 := (lc_eq _ _).mp c6
    replace hwp := hwp.1 c6
    refine lv_iconst (v := 0) hx hb d_Pr_hasLimit_15 (by decide) ?_
    exact tPr_hasLimit_16 C post (0 : Int32) M hwp H locs ls hM hS (lv_sub hl [] rfl)
  · replace c6 := fun h9 => c6 ((lc_eq _ _).mpr h9)
    replace hwp := hwp.2 c6
    refine lv_iconst (v := 1) hx hb d_Pr_hasLimit_11 (by decide) ?_
    refine lv_goto (tgt := 16) hx hb d_Pr_hasLimit_12 (by decide) ?_
    exact tPr_hasLimit_16 C post (1 : Int32) M hwp H locs ls hM hS (lv_sub hl [] rfl)
set_option maxRecDepth 100000 in
set_option maxHeartbeats 4000000 in
theorem metPr_hasLimit (l : Launch) (D : va_G) (κ : Nat → ClassId) (sz : Nat) (self : Nat) (M : Hp) (post : Int32 → Hp → Prop) (hwp : wpPr_hasLimit self M post) : Met l y_Pr_hasLimit ws_Pr_hasLimit rm_Pr_hasLimit (hPc D kCl (hTys κ) M sz [.ref self]) (va_Qi post (hB D kCl (hTys κ) (hAx M sz)) (hAx M sz)) 0 0 (hAx M sz) := by
  refine Met.ofW (cc := prog_4_method_3_code) (maxL := 1) (ret := (some .boolean)) (by decide +kernel) rfl ?_
  intro p e s m args below meth c s₁ B hml hv
  obtain ⟨rfl, hsz, hE, hM0⟩ := hv
  have hts : ∀ w ∈ WG, w.before _ s = true := fun w h => atoms_spec (ws := ws_Pr_hasLimit) B.pre w (List.mem_cons_of_mem _ h)
  subst hsz
  have C : Cx_Pr_hasLimit p s m _ meth c D κ (hAx M s.heap.size) := ⟨B.exec, B.bytes, hml, B.returns, findClass_of_methodNamed B.named, hts, B.notSynchronized, hE, fun q h => Or.inr h⟩
  have hl := lv_entry ([.ref self]) (n := 1) (Nat.le_of_ble_eq_true rfl)
  rw [lg_entry_eq]
  generalize (lg_sl ([.ref self]) ++ List.replicate (1 - (lg_sl ([.ref self])).length) Slot.unset).toArray = ls at hl ⊢
  exact ePr_hasLimit C post self M hwp s.heap [] ls (hM0.self (sz := s.heap.size)) va_S.rf hl
abbrev rm_BT_changePrices : Room := { frames := 1, cells := 0, slots := 0, locals := 23 }
def Cx_BT_changePrices (p : Program) (s : State) (m : MethodId) (args : Array Value) (meth : Method) (c : Code) (D : va_G) (κ : Nat → ClassId) (A : Nat → Prop) : Prop := p.tables.exec = Jvm.exec ∧ c.code = prog_1_method_36_code ∧ c.maxLocals = 9 ∧ meth.sig.returnType = none ∧ s.vm.findClass "BuckTables" = some m.cls ∧ (∀ w ∈ WG, w.before args s = true) ∧ meth.locks = false ∧ hEnv D kCl (hTys κ) A s ∧ (∀ q, s.heap.size ≤ q → A q)
def wBT_changePrices_79 (post : Hp → Prop) (k18 : Nat → Nat → Int64 → Int32 → Hp → Prop) (x0 : Nat) (x1 : Nat) (x3 : Int64) (x5 : Int32) (M : Hp) : Prop := (∀ z1 : Int32, z1 = x5 + 1 → (k18 x0 x1 x3 z1 M))
set_option maxRecDepth 100000 in
set_option maxHeartbeats 4000000 in
theorem tBT_changePrices_79 {p : Program} {l : Launch} {e : Env} {s : State} {m : MethodId} {args : Array Value} {below : List Frame} {meth : Method} {c : Code} {D : va_G} {κ : Nat → ClassId} {A : Nat → Prop} (C : Cx_BT_changePrices p s m args meth c D κ A) (post : Hp → Prop) (k18 : Nat → Nat → Int64 → Int32 → Hp → Prop) (hk18 : ∀ (x0 : Nat) (x1 : Nat) (x3 : Int64) (x5 : Int32) (M : Hp), k18 x0 x1 x3 x5 M → Y p l e rm_BT_changePrices s m args below meth c D kCl (hTys κ) A 9 0 0 (MQ below (va_Qv post (hB D kCl (hTys κ) A) A) args s 0 0 A) M 18 [(0, .ref x0), (1, .ref x1), (3, .long x3), (5, .int x5)] []) (x0 : Nat) (x1 : Nat) (x3 : Int64) (x5 : Int32) (M : Hp) (hwp : wBT_changePrices_79 post k18 x0 x1 x3 x5 M) : Y p l e rm_BT_changePrices s m args below meth c D kCl (hTys κ) A 9 0 0 (MQ below (va_Qv post (hB D kCl (hTys κ) A) A) args s 0 0 A) M 79 [(0, .ref x0), (1, .ref x1), (3, .long x3), (5, .int x5)] [] := by
  obtain ⟨hx, hb, hml, hr, hown, hts, hlocks, hE, hA⟩ := id C
  have hK := hE.1
  intro H locs ls hM hS hl
  unfold wBT_changePrices_79 at hwp
  obtain ⟨z1, ez1⟩ : ∃ y : Int32, y = x5 + 1 := ⟨_, rfl⟩
  replace hwp := hwp z1 ez1
  refine lv_iinc (v := z1) (lv' := [(5, .int z1), (0, .ref x0), (1, .ref x1), (3, .long x3)]) hx hb d_BT_changePrices_79 hl (k := 3) rfl (by rw [ez1]; rfl) (by decide) rfl (fun ls hl => ?_)
  refine lv_goto (tgt := 18) hx hb d_BT_changePrices_82 (by decide) ?_
  exact hk18 x0 x1 x3 z1 M hwp H locs ls hM hS (lv_sub hl [1, 2, 3, 0] rfl)
def wBT_changePrices_18 (post : Hp → Prop)  : Nat → Nat → Nat → Int64 → Int32 → Hp → Prop
  | 0 => fun _ _ _ _ _ => False
  | n + 1 => fun x0 x1 x3 x5 M => (∃ v2 : Int32, fI M x0 0 4 v2 ∧ ((v2 ≤ x5 → (post M)) ∧ (¬ v2 ≤ x5 → (∃ a7 : Nat, fA M x0 0 1 a7 ∧ (∃ a11 : Nat, aA 4 M a7 x5 a11 ∧ (hob M a11 2 ∧ (wpPr_hasLimit a11 M (fun (r19 : Int32) (M17 : Hp) => ((r19 = 0 → (wBT_changePrices_79 post (wBT_changePrices_18 post n) x0 x1 x3 x5 M17)) ∧ (¬ r19 = 0 → (∃ v21 : Int64, fJ M17 a11 2 9 v21 ∧ (∃ a25 : Nat, fA M17 x1 5 2 a25 ∧ (∃ v29 : Int32, aI M17 a25 x5 v29 ∧ (∃ v34 : Int64, fJ M17 a11 2 8 v34 ∧ (∀ z38 : Int64, z38 = (v21 + (((v29.toInt64) - v34) * x3)) → (∃ M39 : Hp, pF M17 a11 2 9 (.long (if z38 < (0 : Int64) then (0 : Int64) else z38)) M39 ∧ (wBT_changePrices_79 post (wBT_changePrices_18 post n) x0 x1 x3 x5 M39)))))))))))))))))
set_option maxRecDepth 100000 in
set_option maxHeartbeats 4000000 in
theorem tBT_changePrices_18 {p : Program} {l : Launch} {e : Env} {s : State} {m : MethodId} {args : Array Value} {below : List Frame} {meth : Method} {c : Code} {D : va_G} {κ : Nat → ClassId} {A : Nat → Prop} (C : Cx_BT_changePrices p s m args meth c D κ A) (post : Hp → Prop)  : ∀ (n : Nat) (x0 : Nat) (x1 : Nat) (x3 : Int64) (x5 : Int32) (M : Hp), wBT_changePrices_18 post n x0 x1 x3 x5 M → Y p l e rm_BT_changePrices s m args below meth c D kCl (hTys κ) A 9 0 0 (MQ below (va_Qv post (hB D kCl (hTys κ) A) A) args s 0 0 A) M 18 [(0, .ref x0), (1, .ref x1), (3, .long x3), (5, .int x5)] [] := by
  obtain ⟨hx, hb, hml, hr, hown, hts, hlocks, hE, hA⟩ := id C
  have hK := hE.1
  intro n
  induction n with
  | zero => intro x0 x1 x3 x5 M hwp; exact hwp.elim
  | succ n ih =>
    intro x0 x1 x3 x5 M hwp H locs ls hM hS hl
    unfold wBT_changePrices_18 at hwp
    refine lv_iload hx hb d_BT_changePrices_18 (lv_at hl 3 rfl) ?_
    refine lv_aload_n hx hb d_BT_changePrices_20 rfl (lv_at hl 0 rfl) ?_
    obtain ⟨v2, ⟨fs3, he4, hv5⟩, hwp⟩ := hwp
    refine h_get (C := "BuckTables") (T := Tc0) (N := 12) hx hb hts inc0 hown hK hM he4 rfl 4 (by decide) (hts _ kw_206) (fun _ h9 => h9) hv5 d_BT_changePrices_21 ?_
    refine lv_icmp_ge (tgt := 85) hx hb d_BT_changePrices_24 (by decide) (fun c6 => ?_) (fun c6 => ?_)
    · replace hwp := hwp.1 c6
      exact W.vret hx hb hr (fun t ht hW => ⟨⟨M, rfl, hwp, by show hw D kCl (hTys κ) A M t.heap; rw [ht]; exact hM⟩, hS.F ht⟩) hS.2.2 d_BT_changePrices_85
    · replace hwp := hwp.2 c6
      refine lv_aload_n hx hb d_BT_changePrices_27 rfl (lv_at hl 0 rfl) ?_
      obtain ⟨a7, ⟨fs8, he9, hv10⟩, hwp⟩ := hwp
      refine h_get (C := "BuckTables") (T := Tc0) (N := 12) hx hb hts inc0 hown hK hM he9 rfl 1 (by decide) (hts _ kw_203) (fun _ h9 => h9) hv10 d_BT_changePrices_28 ?_
      refine lv_iload hx hb d_BT_changePrices_31 (lv_at hl 3 rfl) ?_
      obtain ⟨a11, ⟨n12, f13, ha14, hi15, hy16⟩, hwp⟩ := hwp
      refine h_aald hx hb hK hM ha14 rfl hi15 hy16 d_BT_changePrices_33 ?_
      refine lv_astore (lv' := [(6, .ref a11), (0, .ref x0), (1, .ref x1), (3, .long x3), (5, .int x5)]) hx hb d_BT_changePrices_34 hl (by decide) rfl (fun ls hl => ?_)
      refine lv_aload hx hb d_BT_changePrices_36 (lv_at hl 0 rfl) ?_
      obtain ⟨ho18, hwp⟩ := hwp
      refine h_calli hM hS hA (va_runV (As := []) (rest := []) ⟨hx, hb, hml, hown, hts⟩ (metPr_hasLimit l D κ H.size a11 M _ hwp) (cwV 0 hts (gV kw_578 kw_579 kw_580 kw_7 kw_581) rfl rfl rfl (by decide +kernel) ⟨(Nat.le_of_ble_eq_true rfl), (Nat.le_of_ble_eq_true rfl)⟩) (h_preV hE hM hS ho18 (r := ("BuckTables$Product", Tc2, 10)) rfl) rfl rfl hl.1 rfl (lv_room (Nat.le_of_ble_eq_true rfl)) d_BT_changePrices_38 ⟨(Nat.le_of_ble_eq_true rfl), (Nat.le_of_ble_eq_true rfl)⟩) (fun r19 M17 H locs hwp hM hS => ?_)
      refine lv_if_eq (tgt := 79) hx hb d_BT_changePrices_41 (by decide) (fun c20 => ?_) (fun c20 => ?_)
      · replace hwp := hwp.1 c20
        exact tBT_changePrices_79 C post (wBT_changePrices_18 post n) ih x0 x1 x3 x5 M17 hwp H locs ls hM hS (lv_sub hl [1, 2, 3, 4] rfl)
      · replace hwp := hwp.2 c20
        refine lv_aload hx hb d_BT_changePrices_44 (lv_at hl 0 rfl) ?_
        obtain ⟨v21, ⟨fs22, he23, hv24⟩, hwp⟩ := hwp
        refine h_get (C := "BuckTables$Product") (T := Tc2) (N := 10) hx hb hts inc2 hown hK hM he23 rfl 9 (by decide) (hts _ kw_180) (fun _ h9 => h9) hv24 d_BT_changePrices_46 ?_
        refine lv_aload_n hx hb d_BT_changePrices_49 rfl (lv_at hl 2 rfl) ?_
        obtain ⟨a25, ⟨fs26, he27, hv28⟩, hwp⟩ := hwp
        refine h_get (C := "BuckTables$Plan") (T := Tc5) (N := 5) hx hb hts inc5 hown hK hM he27 rfl 2 (by decide) (hts _ kw_78) (fun _ h9 => h9) hv28 d_BT_changePrices_50 ?_
        refine lv_iload hx hb d_BT_changePrices_53 (lv_at hl 4 rfl) ?_
        obtain ⟨v29, ⟨n30, f31, ha32, hi33, ev29⟩, hwp⟩ := hwp
        refine h_iald hx hb hK hM ha32 rfl hi33 d_BT_changePrices_55 ?_
        rw [← ev29]
        refine lv_i2l hx hb d_BT_changePrices_56 rfl ?_
        refine lv_aload hx hb d_BT_changePrices_57 (lv_at hl 0 rfl) ?_
        obtain ⟨v34, ⟨fs35, he36, hv37⟩, hwp⟩ := hwp
        refine h_get (C := "BuckTables$Product") (T := Tc2) (N := 10) hx hb hts inc2 hown hK hM he36 rfl 8 (by decide) (hts _ kw_177) (fun _ h9 => h9) hv37 d_BT_changePrices_59 ?_
        refine lv_lsub hx hb d_BT_changePrices_62 ?_
        refine lv_lload_n hx hb d_BT_changePrices_63 rfl (lv_at hl 3 rfl) ?_
        refine lv_lmul hx hb d_BT_changePrices_64 ?_
        refine lv_ladd hx hb d_BT_changePrices_65 ?_
        refine lv_topl (fun z38 ez38 => ?_)
        replace hwp := hwp z38 ez38
        refine lv_lstore (lv' := [(7, .long z38), (6, .ref a11), (0, .ref x0), (1, .ref x1), (3, .long x3), (5, .int x5)]) hx hb d_BT_changePrices_66 hl (by decide) rfl (fun ls hl => ?_)
        refine lv_aload hx hb d_BT_changePrices_68 (lv_at hl 1 rfl) ?_
        refine lv_lconst (v := 0) hx hb d_BT_changePrices_70 (by decide) ?_
        refine lv_lload hx hb d_BT_changePrices_71 (lv_at hl 0 rfl) ?_
        refine va_mmax_long hx hb (show c.maxLocals = ls.size by rw [hml, hl.1]) hown (hts _ kw_582) (hts _ kw_583) (hts _ kw_5) (hts _ kw_584) (Nat.le_of_ble_eq_true rfl) (Nat.le_of_ble_eq_true rfl) (Nat.le_of_ble_eq_true rfl) (Nat.le_of_ble_eq_true rfl) d_BT_changePrices_73 ?_
        obtain ⟨M39, ⟨fs40, he41, hl42, eM39⟩, hwp⟩ := hwp
        refine h_put (C := "BuckTables$Product") (T := Tc2) (N := 10) (v := .long (if z38 < (0 : Int64) then (0 : Int64) else z38)) (ty := .long) hx hb hts inc2 tyc2 tyc2_ok nmc2 hown hK hM hS he41 rfl 9 (by decide) (hts _ kw_180) (fun _ h9 => h9) rfl (by decide +kernel) rfl rfl hl42 d_BT_changePrices_76 (fun H locs hM hS => ?_)
        rw [← eM39] at hM
        exact tBT_changePrices_79 C post (wBT_changePrices_18 post n) ih x0 x1 x3 x5 M39 hwp H locs ls hM hS (lv_sub hl [2, 3, 4, 5] rfl)
def wpBT_changePrices (self : Nat) (p0 : Nat) (p1 : Int32) (M : Hp) (post : Hp → Prop) : Prop := (¬ (if (1 : Int32) < p1 then p1 else (1 : Int32)) = 0 ∧ (∀ z44 : Int64, z44 = ((if (1 : Int32) < ((1024 : Int32) / (if (1 : Int32) < p1 then p1 else (1 : Int32))) then ((1024 : Int32) / (if (1 : Int32) < p1 then p1 else (1 : Int32))) else (1 : Int32)).toInt64) → (∃ n45 : Nat, wBT_changePrices_18 post n45 self p0 z44 (0 : Int32) M)))
set_option maxRecDepth 100000 in
set_option maxHeartbeats 4000000 in
theorem eBT_changePrices {p : Program} {l : Launch} {e : Env} {s : State} {m : MethodId} {args : Array Value} {below : List Frame} {meth : Method} {c : Code} {D : va_G} {κ : Nat → ClassId} {A : Nat → Prop} (C : Cx_BT_changePrices p s m args meth c D κ A) (post : Hp → Prop) (self : Nat) (p0 : Nat) (p1 : Int32) (M : Hp) (hwp : wpBT_changePrices self p0 p1 M post) : Y p l e rm_BT_changePrices s m args below meth c D kCl (hTys κ) A 9 0 0 (MQ below (va_Qv post (hB D kCl (hTys κ) A) A) args s 0 0 A) M 0 [(0, .ref self), (1, .ref p0), (2, .int p1)] [] := by
  obtain ⟨hx, hb, hml, hr, hown, hts, hlocks, hE, hA⟩ := id C
  have hK := hE.1
  intro H locs ls hM hS hl
  unfold wpBT_changePrices at hwp
  refine lv_iconst (v := 1) hx hb d_BT_changePrices_0 (by decide) ?_
  refine lv_sipush (v := 1024) hx hb d_BT_changePrices_1 (by decide) ?_
  refine lv_iconst (v := 1) hx hb d_BT_changePrices_4 (by decide) ?_
  refine lv_iload_n hx hb d_BT_changePrices_5 rfl (lv_at hl 2 rfl) ?_
  refine va_mmax hx hb (show c.maxLocals = ls.size by rw [hml, hl.1]) hown (hts _ kw_99) (hts _ kw_100) (hts _ kw_5) (hts _ kw_101) (Nat.le_of_ble_eq_true rfl) (Nat.le_of_ble_eq_true rfl) (Nat.le_of_ble_eq_true rfl) (Nat.le_of_ble_eq_true rfl) d_BT_changePrices_6 ?_
  obtain ⟨h43, hwp⟩ := hwp
  refine lv_idiv hx hb d_BT_changePrices_9 h43 ?_
  refine va_mmax hx hb (show c.maxLocals = ls.size by rw [hml, hl.1]) hown (hts _ kw_99) (hts _ kw_100) (hts _ kw_5) (hts _ kw_101) (Nat.le_of_ble_eq_true rfl) (Nat.le_of_ble_eq_true rfl) (Nat.le_of_ble_eq_true rfl) (Nat.le_of_ble_eq_true rfl) d_BT_changePrices_10 ?_
  refine lv_i2l hx hb d_BT_changePrices_13 rfl ?_
  refine lv_topl (fun z44 ez44 => ?_)
  replace hwp := hwp z44 ez44
  refine lv_lstore_n (lv' := [(3, .long z44), (0, .ref self), (1, .ref p0), (2, .int p1)]) hx hb d_BT_changePrices_14 rfl hl (by decide) rfl (fun ls hl => ?_)
  refine lv_iconst (v := 0) hx hb d_BT_changePrices_15 (by decide) ?_
  refine lv_istore (lv' := [(5, .int (0 : Int32)), (3, .long z44), (0, .ref self), (1, .ref p0), (2, .int p1)]) hx hb d_BT_changePrices_16 hl (by decide) rfl (fun ls hl => ?_)
  obtain ⟨n45, hwp⟩ := hwp
  exact tBT_changePrices_18 C post n45 self p0 z44 (0 : Int32) M hwp H locs ls hM hS (lv_sub hl [2, 3, 1, 0] rfl)
set_option maxRecDepth 100000 in
set_option maxHeartbeats 4000000 in
theorem metBT_changePrices (l : Launch) (D : va_G) (κ : Nat → ClassId) (sz : Nat) (self : Nat) (p0 : Nat) (p1 : Int32) (M : Hp) (post : Hp → Prop) (hwp : wpBT_changePrices self p0 p1 M post) : Met l y_BT_changePrices ws_BT_changePrices rm_BT_changePrices (hPc D kCl (hTys κ) M sz [.ref self, .ref p0, .int p1]) (va_Qv post (hB D kCl (hTys κ) (hAx M sz)) (hAx M sz)) 0 0 (hAx M sz) := by
  refine Met.ofW (cc := prog_1_method_36_code) (maxL := 9) (ret := none) (by decide +kernel) rfl ?_
  intro p e s m args below meth c s₁ B hml hv
  obtain ⟨rfl, hsz, hE, hM0⟩ := hv
  have hts : ∀ w ∈ WG, w.before _ s = true := fun w h => atoms_spec (ws := ws_BT_changePrices) B.pre w (List.mem_cons_of_mem _ h)
  subst hsz
  have C : Cx_BT_changePrices p s m _ meth c D κ (hAx M s.heap.size) := ⟨B.exec, B.bytes, hml, B.returns, findClass_of_methodNamed B.named, hts, B.notSynchronized, hE, fun q h => Or.inr h⟩
  have hl := lv_entry ([.ref self, .ref p0, .int p1]) (n := 9) (Nat.le_of_ble_eq_true rfl)
  rw [lg_entry_eq]
  generalize (lg_sl ([.ref self, .ref p0, .int p1]) ++ List.replicate (9 - (lg_sl ([.ref self, .ref p0, .int p1])).length) Slot.unset).toArray = ls at hl ⊢
  exact eBT_changePrices C post self p0 p1 M hwp s.heap [] ls (hM0.self (sz := s.heap.size)) va_S.rf hl
abbrev rm_BT_valueOf : Room := { frames := 1, cells := 0, slots := 0, locals := 20 }
def Cx_BT_valueOf (p : Program) (s : State) (m : MethodId) (args : Array Value) (meth : Method) (c : Code) (D : va_G) (κ : Nat → ClassId) (A : Nat → Prop) : Prop := p.tables.exec = Jvm.exec ∧ c.code = prog_1_method_33_code ∧ c.maxLocals = 6 ∧ meth.sig.returnType = (some .long) ∧ s.vm.findClass "BuckTables" = some m.cls ∧ (∀ w ∈ WG, w.before args s = true) ∧ meth.locks = false ∧ hEnv D kCl (hTys κ) A s ∧ (∀ q, s.heap.size ≤ q → A q)
def wBT_valueOf_57 (post : Int64 → Hp → Prop) (k8 : Nat → Nat → Int64 → Int32 → Hp → Prop) (x0 : Nat) (x1 : Nat) (x2 : Int64) (x4 : Int32) (M : Hp) : Prop := (∀ z1 : Int32, z1 = x4 + 1 → (k8 x0 x1 x2 z1 M))
set_option maxRecDepth 100000 in
set_option maxHeartbeats 4000000 in
theorem tBT_valueOf_57 {p : Program} {l : Launch} {e : Env} {s : State} {m : MethodId} {args : Array Value} {below : List Frame} {meth : Method} {c : Code} {D : va_G} {κ : Nat → ClassId} {A : Nat → Prop} (C : Cx_BT_valueOf p s m args meth c D κ A) (post : Int64 → Hp → Prop) (k8 : Nat → Nat → Int64 → Int32 → Hp → Prop) (hk8 : ∀ (x0 : Nat) (x1 : Nat) (x2 : Int64) (x4 : Int32) (M : Hp), k8 x0 x1 x2 x4 M → Y p l e rm_BT_valueOf s m args below meth c D kCl (hTys κ) A 6 0 0 (MQ below (va_Ql post (hB D kCl (hTys κ) A) A) args s 0 0 A) M 8 [(0, .ref x0), (1, .ref x1), (2, .long x2), (4, .int x4)] []) (x0 : Nat) (x1 : Nat) (x2 : Int64) (x4 : Int32) (M : Hp) (hwp : wBT_valueOf_57 post k8 x0 x1 x2 x4 M) : Y p l e rm_BT_valueOf s m args below meth c D kCl (hTys κ) A 6 0 0 (MQ below (va_Ql post (hB D kCl (hTys κ) A) A) args s 0 0 A) M 57 [(0, .ref x0), (1, .ref x1), (2, .long x2), (4, .int x4)] [] := by
  obtain ⟨hx, hb, hml, hr, hown, hts, hlocks, hE, hA⟩ := id C
  have hK := hE.1
  intro H locs ls hM hS hl
  unfold wBT_valueOf_57 at hwp
  obtain ⟨z1, ez1⟩ : ∃ y : Int32, y = x4 + 1 := ⟨_, rfl⟩
  replace hwp := hwp z1 ez1
  refine lv_iinc (v := z1) (lv' := [(4, .int z1), (0, .ref x0), (1, .ref x1), (2, .long x2)]) hx hb d_BT_valueOf_57 hl (k := 3) rfl (by rw [ez1]; rfl) (by decide) rfl (fun ls hl => ?_)
  refine lv_goto (tgt := 8) hx hb d_BT_valueOf_60 (by decide) ?_
  exact hk8 x0 x1 x2 z1 M hwp H locs ls hM hS (lv_sub hl [1, 2, 3, 0] rfl)
def wBT_valueOf_8 (post : Int64 → Hp → Prop)  : Nat → Nat → Nat → Int64 → Int32 → Hp → Prop
  | 0 => fun _ _ _ _ _ => False
  | n + 1 => fun x0 x1 x2 x4 M => (∃ v2 : Int32, fI M x0 0 4 v2 ∧ ((v2 ≤ x4 → (post x2 M)) ∧ (¬ v2 ≤ x4 → (∃ a7 : Nat, fA M x0 0 1 a7 ∧ (∃ a11 : Nat, aA 4 M a7 x4 a11 ∧ (hob M a11 2 ∧ (wpPr_hasLimit a11 M (fun (r19 : Int32) (M17 : Hp) => ((r19 = 0 → (wBT_valueOf_57 post (wBT_valueOf_8 post n) x0 x1 x2 x4 M17)) ∧ (¬ r19 = 0 → (∃ v21 : Int64, fJ M17 a11 2 9 v21 ∧ (∃ v25 : Int64, fJ M17 a11 2 8 v25 ∧ (∃ a29 : Nat, fA M17 x1 5 2 a29 ∧ (∃ v33 : Int32, aI M17 a29 x4 v33 ∧ (∀ z38 : Int64, z38 = (x2 + (v21 * (v25 - (v33.toInt64)))) → (wBT_valueOf_57 post (wBT_valueOf_8 post n) x0 x1 z38 x4 M17))))))))))))))))
set_option maxRecDepth 100000 in
set_option maxHeartbeats 4000000 in
theorem tBT_valueOf_8 {p : Program} {l : Launch} {e : Env} {s : State} {m : MethodId} {args : Array Value} {below : List Frame} {meth : Method} {c : Code} {D : va_G} {κ : Nat → ClassId} {A : Nat → Prop} (C : Cx_BT_valueOf p s m args meth c D κ A) (post : Int64 → Hp → Prop)  : ∀ (n : Nat) (x0 : Nat) (x1 : Nat) (x2 : Int64) (x4 : Int32) (M : Hp), wBT_valueOf_8 post n x0 x1 x2 x4 M → Y p l e rm_BT_valueOf s m args below meth c D kCl (hTys κ) A 6 0 0 (MQ below (va_Ql post (hB D kCl (hTys κ) A) A) args s 0 0 A) M 8 [(0, .ref x0), (1, .ref x1), (2, .long x2), (4, .int x4)] [] := by
  obtain ⟨hx, hb, hml, hr, hown, hts, hlocks, hE, hA⟩ := id C
  have hK := hE.1
  intro n
  induction n with
  | zero => intro x0 x1 x2 x4 M hwp; exact hwp.elim
  | succ n ih =>
    intro x0 x1 x2 x4 M hwp H locs ls hM hS hl
    unfold wBT_valueOf_8 at hwp
    refine lv_iload hx hb d_BT_valueOf_8 (lv_at hl 3 rfl) ?_
    refine lv_aload_n hx hb d_BT_valueOf_10 rfl (lv_at hl 0 rfl) ?_
    obtain ⟨v2, ⟨fs3, he4, hv5⟩, hwp⟩ := hwp
    refine h_get (C := "BuckTables") (T := Tc0) (N := 12) hx hb hts inc0 hown hK hM he4 rfl 4 (by decide) (hts _ kw_206) (fun _ h9 => h9) hv5 d_BT_valueOf_11 ?_
    refine lv_icmp_ge (tgt := 63) hx hb d_BT_valueOf_14 (by decide) (fun c6 => ?_) (fun c6 => ?_)
    · replace hwp := hwp.1 c6
      refine lv_lload_n hx hb d_BT_valueOf_63 rfl (lv_at hl 2 rfl) ?_
      exact W.lret (v := x2) hx hb hr (fun t ht hW => ⟨⟨x2, M, rfl, hwp, by show hw D kCl (hTys κ) A M t.heap; rw [ht]; exact hM⟩, hS.F ht⟩) hS.2.2 d_BT_valueOf_64
    · replace hwp := hwp.2 c6
      refine lv_aload_n hx hb d_BT_valueOf_17 rfl (lv_at hl 0 rfl) ?_
      obtain ⟨a7, ⟨fs8, he9, hv10⟩, hwp⟩ := hwp
      refine h_get (C := "BuckTables") (T := Tc0) (N := 12) hx hb hts inc0 hown hK hM he9 rfl 1 (by decide) (hts _ kw_203) (fun _ h9 => h9) hv10 d_BT_valueOf_18 ?_
      refine lv_iload hx hb d_BT_valueOf_21 (lv_at hl 3 rfl) ?_
      obtain ⟨a11, ⟨n12, f13, ha14, hi15, hy16⟩, hwp⟩ := hwp
      refine h_aald hx hb hK hM ha14 rfl hi15 hy16 d_BT_valueOf_23 ?_
      refine lv_astore (lv' := [(5, .ref a11), (0, .ref x0), (1, .ref x1), (2, .long x2), (4, .int x4)]) hx hb d_BT_valueOf_24 hl (by decide) rfl (fun ls hl => ?_)
      refine lv_aload hx hb d_BT_valueOf_26 (lv_at hl 0 rfl) ?_
      obtain ⟨ho18, hwp⟩ := hwp
      refine h_calli hM hS hA (va_runV (As := []) (rest := []) ⟨hx, hb, hml, hown, hts⟩ (metPr_hasLimit l D κ H.size a11 M _ hwp) (cwV 0 hts (gV kw_578 kw_579 kw_580 kw_7 kw_581) rfl rfl rfl (by decide +kernel) ⟨(Nat.le_of_ble_eq_true rfl), (Nat.le_of_ble_eq_true rfl)⟩) (h_preV hE hM hS ho18 (r := ("BuckTables$Product", Tc2, 10)) rfl) rfl rfl hl.1 rfl (lv_room (Nat.le_of_ble_eq_true rfl)) d_BT_valueOf_28 ⟨(Nat.le_of_ble_eq_true rfl), (Nat.le_of_ble_eq_true rfl)⟩) (fun r19 M17 H locs hwp hM hS => ?_)
      refine lv_if_eq (tgt := 57) hx hb d_BT_valueOf_31 (by decide) (fun c20 => ?_) (fun c20 => ?_)
      · replace hwp := hwp.1 c20
        exact tBT_valueOf_57 C post (wBT_valueOf_8 post n) ih x0 x1 x2 x4 M17 hwp H locs ls hM hS (lv_sub hl [1, 2, 3, 4] rfl)
      · replace hwp := hwp.2 c20
        refine lv_lload_n hx hb d_BT_valueOf_34 rfl (lv_at hl 3 rfl) ?_
        refine lv_aload hx hb d_BT_valueOf_35 (lv_at hl 0 rfl) ?_
        obtain ⟨v21, ⟨fs22, he23, hv24⟩, hwp⟩ := hwp
        refine h_get (C := "BuckTables$Product") (T := Tc2) (N := 10) hx hb hts inc2 hown hK hM he23 rfl 9 (by decide) (hts _ kw_180) (fun _ h9 => h9) hv24 d_BT_valueOf_37 ?_
        refine lv_aload hx hb d_BT_valueOf_40 (lv_at hl 0 rfl) ?_
        obtain ⟨v25, ⟨fs26, he27, hv28⟩, hwp⟩ := hwp
        refine h_get (C := "BuckTables$Product") (T := Tc2) (N := 10) hx hb hts inc2 hown hK hM he27 rfl 8 (by decide) (hts _ kw_177) (fun _ h9 => h9) hv28 d_BT_valueOf_42 ?_
        refine lv_aload_n hx hb d_BT_valueOf_45 rfl (lv_at hl 2 rfl) ?_
        obtain ⟨a29, ⟨fs30, he31, hv32⟩, hwp⟩ := hwp
        refine h_get (C := "BuckTables$Plan") (T := Tc5) (N := 5) hx hb hts inc5 hown hK hM he31 rfl 2 (by decide) (hts _ kw_78) (fun _ h9 => h9) hv32 d_BT_valueOf_46 ?_
        refine lv_iload hx hb d_BT_valueOf_49 (lv_at hl 4 rfl) ?_
        obtain ⟨v33, ⟨n34, f35, ha36, hi37, ev33⟩, hwp⟩ := hwp
        refine h_iald hx hb hK hM ha36 rfl hi37 d_BT_valueOf_51 ?_
        rw [← ev33]
        refine lv_i2l hx hb d_BT_valueOf_52 rfl ?_
        refine lv_lsub hx hb d_BT_valueOf_53 ?_
        refine lv_lmul hx hb d_BT_valueOf_54 ?_
        refine lv_ladd hx hb d_BT_valueOf_55 ?_
        refine lv_topl (fun z38 ez38 => ?_)
        replace hwp := hwp z38 ez38
        refine lv_lstore_n (lv' := [(2, .long z38), (5, .ref a11), (0, .ref x0), (1, .ref x1), (4, .int x4)]) hx hb d_BT_valueOf_56 rfl hl (by decide) rfl (fun ls hl => ?_)
        exact tBT_valueOf_57 C post (wBT_valueOf_8 post n) ih x0 x1 z38 x4 M17 hwp H locs ls hM hS (lv_sub hl [2, 3, 0, 4] rfl)
def wpBT_valueOf (self : Nat) (p0 : Nat) (M : Hp) (post : Int64 → Hp → Prop) : Prop := (∃ v39 : Int64, fJ M p0 5 4 v39 ∧ (∃ n43 : Nat, wBT_valueOf_8 post n43 self p0 v39 (0 : Int32) M))
set_option maxRecDepth 100000 in
set_option maxHeartbeats 4000000 in
theorem eBT_valueOf {p : Program} {l : Launch} {e : Env} {s : State} {m : MethodId} {args : Array Value} {below : List Frame} {meth : Method} {c : Code} {D : va_G} {κ : Nat → ClassId} {A : Nat → Prop} (C : Cx_BT_valueOf p s m args meth c D κ A) (post : Int64 → Hp → Prop) (self : Nat) (p0 : Nat) (M : Hp) (hwp : wpBT_valueOf self p0 M post) : Y p l e rm_BT_valueOf s m args below meth c D kCl (hTys κ) A 6 0 0 (MQ below (va_Ql post (hB D kCl (hTys κ) A) A) args s 0 0 A) M 0 [(0, .ref self), (1, .ref p0)] [] := by
  obtain ⟨hx, hb, hml, hr, hown, hts, hlocks, hE, hA⟩ := id C
  have hK := hE.1
  intro H locs ls hM hS hl
  unfold wpBT_valueOf at hwp
  refine lv_aload_n hx hb d_BT_valueOf_0 rfl (lv_at hl 1 rfl) ?_
  obtain ⟨v39, ⟨fs40, he41, hv42⟩, hwp⟩ := hwp
  refine h_get (C := "BuckTables$Plan") (T := Tc5) (N := 5) hx hb hts inc5 hown hK hM he41 rfl 4 (by decide) (hts _ kw_82) (fun _ h9 => h9) hv42 d_BT_valueOf_1 ?_
  refine lv_lstore_n (lv' := [(2, .long v39), (0, .ref self), (1, .ref p0)]) hx hb d_BT_valueOf_4 rfl hl (by decide) rfl (fun ls hl => ?_)
  refine lv_iconst (v := 0) hx hb d_BT_valueOf_5 (by decide) ?_
  refine lv_istore (lv' := [(4, .int (0 : Int32)), (2, .long v39), (0, .ref self), (1, .ref p0)]) hx hb d_BT_valueOf_6 hl (by decide) rfl (fun ls hl => ?_)
  obtain ⟨n43, hwp⟩ := hwp
  exact tBT_valueOf_8 C post n43 self p0 v39 (0 : Int32) M hwp H locs ls hM hS (lv_sub hl [2, 3, 1, 0] rfl)
set_option maxRecDepth 100000 in
set_option maxHeartbeats 4000000 in
theorem metBT_valueOf (l : Launch) (D : va_G) (κ : Nat → ClassId) (sz : Nat) (self : Nat) (p0 : Nat) (M : Hp) (post : Int64 → Hp → Prop) (hwp : wpBT_valueOf self p0 M post) : Met l y_BT_valueOf ws_BT_valueOf rm_BT_valueOf (hPc D kCl (hTys κ) M sz [.ref self, .ref p0]) (va_Ql post (hB D kCl (hTys κ) (hAx M sz)) (hAx M sz)) 0 0 (hAx M sz) := by
  refine Met.ofW (cc := prog_1_method_33_code) (maxL := 6) (ret := (some .long)) (by decide +kernel) rfl ?_
  intro p e s m args below meth c s₁ B hml hv
  obtain ⟨rfl, hsz, hE, hM0⟩ := hv
  have hts : ∀ w ∈ WG, w.before _ s = true := fun w h => atoms_spec (ws := ws_BT_valueOf) B.pre w (List.mem_cons_of_mem _ h)
  subst hsz
  have C : Cx_BT_valueOf p s m _ meth c D κ (hAx M s.heap.size) := ⟨B.exec, B.bytes, hml, B.returns, findClass_of_methodNamed B.named, hts, B.notSynchronized, hE, fun q h => Or.inr h⟩
  have hl := lv_entry ([.ref self, .ref p0]) (n := 6) (Nat.le_of_ble_eq_true rfl)
  rw [lg_entry_eq]
  generalize (lg_sl ([.ref self, .ref p0]) ++ List.replicate (6 - (lg_sl ([.ref self, .ref p0])).length) Slot.unset).toArray = ls at hl ⊢
  exact eBT_valueOf C post self p0 M hwp s.heap [] ls (hM0.self (sz := s.heap.size)) va_S.rf hl
abbrev rm_Pr_isBeyond : Room := { frames := 1, cells := 0, slots := 0, locals := 20 }
def Cx_Pr_isBeyond (p : Program) (s : State) (m : MethodId) (args : Array Value) (meth : Method) (c : Code) (D : va_G) (κ : Nat → ClassId) (A : Nat → Prop) : Prop := p.tables.exec = Jvm.exec ∧ c.code = prog_4_method_4_code ∧ c.maxLocals = 2 ∧ meth.sig.returnType = (some .boolean) ∧ s.vm.findClass "BuckTables$Product" = some m.cls ∧ (∀ w ∈ WG, w.before args s = true) ∧ meth.locks = false ∧ hEnv D kCl (hTys κ) A s ∧ (∀ q, s.heap.size ≤ q → A q)
def wPr_isBeyond_22 (post : Int32 → Hp → Prop)   (y0 : Int32) (M : Hp) : Prop := ((y0 = 0 ∨ y0 = 1) ∧ post y0 M)
set_option maxRecDepth 100000 in
set_option maxHeartbeats 4000000 in
theorem tPr_isBeyond_22 {p : Program} {l : Launch} {e : Env} {s : State} {m : MethodId} {args : Array Value} {below : List Frame} {meth : Method} {c : Code} {D : va_G} {κ : Nat → ClassId} {A : Nat → Prop} (C : Cx_Pr_isBeyond p s m args meth c D κ A) (post : Int32 → Hp → Prop)   (y0 : Int32) (M : Hp) (hwp : wPr_isBeyond_22 post y0 M) : Y p l e rm_Pr_isBeyond s m args below meth c D kCl (hTys κ) A 2 0 0 (MQ below (va_Qi post (hB D kCl (hTys κ) A) A) args s 0 0 A) M 22 [] [.int y0] := by
  obtain ⟨hx, hb, hml, hr, hown, hts, hlocks, hE, hA⟩ := id C
  have hK := hE.1
  intro H locs ls hM hS hl
  unfold wPr_isBeyond_22 at hwp
  obtain ⟨hz1, hwp⟩ := hwp
  exact W.zret (v := y0) hx hb hr (by rcases hz1 with h | h <;> rw [h] <;> rfl) (fun t ht hW => ⟨⟨y0, M, rfl, hwp, by show hw D kCl (hTys κ) A M t.heap; rw [ht]; exact hM⟩, hS.F ht⟩) hS.2.2 d_Pr_isBeyond_22
def wPr_isBeyond_21 (post : Int32 → Hp → Prop)   (M : Hp) : Prop := (wPr_isBeyond_22 post (0 : Int32) M)
set_option maxRecDepth 100000 in
set_option maxHeartbeats 4000000 in
theorem tPr_isBeyond_21 {p : Program} {l : Launch} {e : Env} {s : State} {m : MethodId} {args : Array Value} {below : List Frame} {meth : Method} {c : Code} {D : va_G} {κ : Nat → ClassId} {A : Nat → Prop} (C : Cx_Pr_isBeyond p s m args meth c D κ A) (post : Int32 → Hp → Prop)   (M : Hp) (hwp : wPr_isBeyond_21 post  M) : Y p l e rm_Pr_isBeyond s m args below meth c D kCl (hTys κ) A 2 0 0 (MQ below (va_Qi post (hB D kCl (hTys κ) A) A) args s 0 0 A) M 21 [] [] := by
  obtain ⟨hx, hb, hml, hr, hown, hts, hlocks, hE, hA⟩ := id C
  have hK := hE.1
  intro H locs ls hM hS hl
  unfold wPr_isBeyond_21 at hwp
  refine lv_iconst (v := 0) hx hb d_Pr_isBeyond_21 (by decide) ?_
  exact tPr_isBeyond_22 C post (0 : Int32) M hwp H locs ls hM hS (lv_sub hl [] rfl)
def wpPr_isBeyond (self : Nat) (p0 : Int32) (M : Hp) (post : Int32 → Hp → Prop) : Prop := (hob M self 2 ∧ (wpPr_hasLimit self M (fun (r4 : Int32) (M2 : Hp) => ((r4 = 0 → (wPr_isBeyond_21 post M2)) ∧ (¬ r4 = 0 → (∃ v6 : Int64, fJ M2 self 2 8 v6 ∧ (((p0.toInt64) ≤ v6 → (wPr_isBeyond_21 post M2)) ∧ (¬ (p0.toInt64) ≤ v6 → (wPr_isBeyond_22 post (1 : Int32) M2)))))))))
set_option maxRecDepth 100000 in
set_option maxHeartbeats 4000000 in
theorem ePr_isBeyond {p : Program} {l : Launch} {e : Env} {s : State} {m : MethodId} {args : Array Value} {below : List Frame} {meth : Method} {c : Code} {D : va_G} {κ : Nat → ClassId} {A : Nat → Prop} (C : Cx_Pr_isBeyond p s m args meth c D κ A) (post : Int32 → Hp → Prop) (self : Nat) (p0 : Int32) (M : Hp) (hwp : wpPr_isBeyond self p0 M post) : Y p l e rm_Pr_isBeyond s m args below meth c D kCl (hTys κ) A 2 0 0 (MQ below (va_Qi post (hB D kCl (hTys κ) A) A) args s 0 0 A) M 0 [(0, .ref self), (1, .int p0)] [] := by
  obtain ⟨hx, hb, hml, hr, hown, hts, hlocks, hE, hA⟩ := id C
  have hK := hE.1
  intro H locs ls hM hS hl
  unfold wpPr_isBeyond at hwp
  refine lv_aload_n hx hb d_Pr_isBeyond_0 rfl (lv_at hl 0 rfl) ?_
  obtain ⟨ho3, hwp⟩ := hwp
  refine h_calli hM hS hA (va_runV (As := []) (rest := []) ⟨hx, hb, hml, hown, hts⟩ (metPr_hasLimit l D κ H.size self M _ hwp) (cwV 0 hts (gV kw_600 kw_579 kw_580 kw_7 kw_581) rfl rfl rfl (by decide +kernel) ⟨(Nat.le_of_ble_eq_true rfl), (Nat.le_of_ble_eq_true rfl)⟩) (h_preV hE hM hS ho3 (r := ("BuckTables$Product", Tc2, 10)) rfl) rfl rfl hl.1 rfl (lv_room (Nat.le_of_ble_eq_true rfl)) d_Pr_isBeyond_1 ⟨(Nat.le_of_ble_eq_true rfl), (Nat.le_of_ble_eq_true rfl)⟩) (fun r4 M2 H locs hwp hM hS => ?_)
  refine lv_if_eq (tgt := 21) hx hb d_Pr_isBeyond_4 (by decide) (fun c5 => ?_) (fun c5 => ?_)
  · replace hwp := hwp.1 c5
    exact tPr_isBeyond_21 C post M2 hwp H locs ls hM hS (lv_sub hl [] rfl)
  · replace hwp := hwp.2 c5
    refine lv_iload_n hx hb d_Pr_isBeyond_7 rfl (lv_at hl 1 rfl) ?_
    refine lv_i2l hx hb d_Pr_isBeyond_8 rfl ?_
    refine lv_aload_n hx hb d_Pr_isBeyond_9 rfl (lv_at hl 0 rfl) ?_
    obtain ⟨v6, ⟨fs7, he8, hv9⟩, hwp⟩ := hwp
    refine h_get (C := "BuckTables$Product") (T := Tc2) (N := 10) hx hb hts inc2 hown hK hM he8 rfl 8 (by decide) (hts _ kw_176) (fun _ h9 => h9) hv9 d_Pr_isBeyond_10 ?_
    refine W.lcmp hx hb d_Pr_isBeyond_13 ?_
    refine lv_if_le (tgt := 21) hx hb d_Pr_isBeyond_14 (by decide) (fun c10 => ?_) (fun c10 => ?_)
    · replace c10 := (lc_le _ _).mp c10
      replace hwp := hwp.1 c10
      exact tPr_isBeyond_21 C post M2 hwp H locs ls hM hS (lv_sub hl [] rfl)
    · replace c10 := fun h9 => c10 ((lc_le _ _).mpr h9)
      replace hwp := hwp.2 c10
      refine lv_iconst (v := 1) hx hb d_Pr_isBeyond_17 (by decide) ?_
      refine lv_goto (tgt := 22) hx hb d_Pr_isBeyond_18 (by decide) ?_
      exact tPr_isBeyond_22 C post (1 : Int32) M2 hwp H locs ls hM hS (lv_sub hl [] rfl)
set_option maxRecDepth 100000 in
set_option maxHeartbeats 4000000 in
theorem metPr_isBeyond (l : Launch) (D : va_G) (κ : Nat → ClassId) (sz : Nat) (self : Nat) (p0 : Int32) (M : Hp) (post : Int32 → Hp → Prop) (hwp : wpPr_isBeyond self p0 M post) : Met l y_Pr_isBeyond ws_Pr_isBeyond rm_Pr_isBeyond (hPc D kCl (hTys κ) M sz [.ref self, .int p0]) (va_Qi post (hB D kCl (hTys κ) (hAx M sz)) (hAx M sz)) 0 0 (hAx M sz) := by
  refine Met.ofW (cc := prog_4_method_4_code) (maxL := 2) (ret := (some .boolean)) (by decide +kernel) rfl ?_
  intro p e s m args below meth c s₁ B hml hv
  obtain ⟨rfl, hsz, hE, hM0⟩ := hv
  have hts : ∀ w ∈ WG, w.before _ s = true := fun w h => atoms_spec (ws := ws_Pr_isBeyond) B.pre w (List.mem_cons_of_mem _ h)
  subst hsz
  have C : Cx_Pr_isBeyond p s m _ meth c D κ (hAx M s.heap.size) := ⟨B.exec, B.bytes, hml, B.returns, findClass_of_methodNamed B.named, hts, B.notSynchronized, hE, fun q h => Or.inr h⟩
  have hl := lv_entry ([.ref self, .int p0]) (n := 2) (Nat.le_of_ble_eq_true rfl)
  rw [lg_entry_eq]
  generalize (lg_sl ([.ref self, .int p0]) ++ List.replicate (2 - (lg_sl ([.ref self, .int p0])).length) Slot.unset).toArray = ls at hl ⊢
  exact ePr_isBeyond C post self p0 M hwp s.heap [] ls (hM0.self (sz := s.heap.size)) va_S.rf hl
abbrev rm_BT_limitsHold : Room := { frames := 2, cells := 0, slots := 0, locals := 41 }
def Cx_BT_limitsHold (p : Program) (s : State) (m : MethodId) (args : Array Value) (meth : Method) (c : Code) (D : va_G) (κ : Nat → ClassId) (A : Nat → Prop) : Prop := p.tables.exec = Jvm.exec ∧ c.code = prog_1_method_34_code ∧ c.maxLocals = 3 ∧ meth.sig.returnType = (some .boolean) ∧ s.vm.findClass "BuckTables" = some m.cls ∧ (∀ w ∈ WG, w.before args s = true) ∧ meth.locks = false ∧ hEnv D kCl (hTys κ) A s ∧ (∀ q, s.heap.size ≤ q → A q)
def wBT_limitsHold_2 (post : Int32 → Hp → Prop)  : Nat → Nat → Nat → Int32 → Hp → Prop
  | 0 => fun _ _ _ _ => False
  | n + 1 => fun x0 x1 x2 M => (∃ v1 : Int32, fI M x0 0 4 v1 ∧ ((v1 ≤ x2 → (post (1 : Int32) M)) ∧ (¬ v1 ≤ x2 → (∃ a6 : Nat, fA M x0 0 1 a6 ∧ (∃ a10 : Nat, aA 4 M a6 x2 a10 ∧ (∃ a16 : Nat, fA M x1 5 2 a16 ∧ (∃ v20 : Int32, aI M a16 x2 v20 ∧ (hob M a10 2 ∧ (wpPr_isBeyond a10 v20 M (fun (r27 : Int32) (M25 : Hp) => ((r27 = 0 → (∀ z29 : Int32, z29 = x2 + 1 → ((wBT_limitsHold_2 post n) x0 x1 z29 M25))) ∧ (¬ r27 = 0 → (post (0 : Int32) M25)))))))))))))
set_option maxRecDepth 100000 in
set_option maxHeartbeats 4000000 in
theorem tBT_limitsHold_2 {p : Program} {l : Launch} {e : Env} {s : State} {m : MethodId} {args : Array Value} {below : List Frame} {meth : Method} {c : Code} {D : va_G} {κ : Nat → ClassId} {A : Nat → Prop} (C : Cx_BT_limitsHold p s m args meth c D κ A) (post : Int32 → Hp → Prop)  : ∀ (n : Nat) (x0 : Nat) (x1 : Nat) (x2 : Int32) (M : Hp), wBT_limitsHold_2 post n x0 x1 x2 M → Y p l e rm_BT_limitsHold s m args below meth c D kCl (hTys κ) A 3 0 0 (MQ below (va_Qi post (hB D kCl (hTys κ) A) A) args s 0 0 A) M 2 [(0, .ref x0), (1, .ref x1), (2, .int x2)] [] := by
  obtain ⟨hx, hb, hml, hr, hown, hts, hlocks, hE, hA⟩ := id C
  have hK := hE.1
  intro n
  induction n with
  | zero => intro x0 x1 x2 M hwp; exact hwp.elim
  | succ n ih =>
    intro x0 x1 x2 M hwp H locs ls hM hS hl
    unfold wBT_limitsHold_2 at hwp
    refine lv_iload_n hx hb d_BT_limitsHold_2 rfl (lv_at hl 2 rfl) ?_
    refine lv_aload_n hx hb d_BT_limitsHold_3 rfl (lv_at hl 0 rfl) ?_
    obtain ⟨v1, ⟨fs2, he3, hv4⟩, hwp⟩ := hwp
    refine h_get (C := "BuckTables") (T := Tc0) (N := 12) hx hb hts inc0 hown hK hM he3 rfl 4 (by decide) (hts _ kw_206) (fun _ h9 => h9) hv4 d_BT_limitsHold_4 ?_
    refine lv_icmp_ge (tgt := 36) hx hb d_BT_limitsHold_7 (by decide) (fun c5 => ?_) (fun c5 => ?_)
    · replace hwp := hwp.1 c5
      refine lv_iconst (v := 1) hx hb d_BT_limitsHold_36 (by decide) ?_
      exact W.zret (v := (1 : Int32)) hx hb hr (by decide) (fun t ht hW => ⟨⟨(1 : Int32), M, rfl, hwp, by show hw D kCl (hTys κ) A M t.heap; rw [ht]; exact hM⟩, hS.F ht⟩) hS.2.2 d_BT_limitsHold_37
    · replace hwp := hwp.2 c5
      refine lv_aload_n hx hb d_BT_limitsHold_10 rfl (lv_at hl 0 rfl) ?_
      obtain ⟨a6, ⟨fs7, he8, hv9⟩, hwp⟩ := hwp
      refine h_get (C := "BuckTables") (T := Tc0) (N := 12) hx hb hts inc0 hown hK hM he8 rfl 1 (by decide) (hts _ kw_203) (fun _ h9 => h9) hv9 d_BT_limitsHold_11 ?_
      refine lv_iload_n hx hb d_BT_limitsHold_14 rfl (lv_at hl 2 rfl) ?_
      obtain ⟨a10, ⟨n11, f12, ha13, hi14, hy15⟩, hwp⟩ := hwp
      refine h_aald hx hb hK hM ha13 rfl hi14 hy15 d_BT_limitsHold_15 ?_
      refine lv_aload_n hx hb d_BT_limitsHold_16 rfl (lv_at hl 1 rfl) ?_
      obtain ⟨a16, ⟨fs17, he18, hv19⟩, hwp⟩ := hwp
      refine h_get (C := "BuckTables$Plan") (T := Tc5) (N := 5) hx hb hts inc5 hown hK hM he18 rfl 2 (by decide) (hts _ kw_78) (fun _ h9 => h9) hv19 d_BT_limitsHold_17 ?_
      refine lv_iload_n hx hb d_BT_limitsHold_20 rfl (lv_at hl 2 rfl) ?_
      obtain ⟨v20, ⟨n21, f22, ha23, hi24, ev20⟩, hwp⟩ := hwp
      refine h_iald hx hb hK hM ha23 rfl hi24 d_BT_limitsHold_21 ?_
      rw [← ev20]
      obtain ⟨ho26, hwp⟩ := hwp
      refine h_calli hM hS hA (va_runV (As := [.int v20]) (rest := []) ⟨hx, hb, hml, hown, hts⟩ (metPr_isBeyond l D κ H.size a10 v20 M _ hwp) (cwV 1 hts (gV kw_596 kw_597 kw_598 kw_7 kw_599) rfl rfl rfl (by decide +kernel) ⟨(Nat.le_of_ble_eq_true rfl), (Nat.le_of_ble_eq_true rfl)⟩) (h_preV hE hM hS ho26 (r := ("BuckTables$Product", Tc2, 10)) rfl) rfl rfl hl.1 rfl (lv_room (Nat.le_of_ble_eq_true rfl)) d_BT_limitsHold_22 ⟨(Nat.le_of_ble_eq_true rfl), (Nat.le_of_ble_eq_true rfl)⟩) (fun r27 M25 H locs hwp hM hS => ?_)
      refine lv_if_eq (tgt := 30) hx hb d_BT_limitsHold_25 (by decide) (fun c28 => ?_) (fun c28 => ?_)
      · replace hwp := hwp.1 c28
        obtain ⟨z29, ez29⟩ : ∃ y : Int32, y = x2 + 1 := ⟨_, rfl⟩
        replace hwp := hwp z29 ez29
        refine lv_iinc (v := z29) (lv' := [(2, .int z29), (0, .ref x0), (1, .ref x1)]) hx hb d_BT_limitsHold_30 hl (k := 2) rfl (by rw [ez29]; rfl) (by decide) rfl (fun ls hl => ?_)
        refine lv_goto (tgt := 2) hx hb d_BT_limitsHold_33 (by decide) ?_
        exact ih x0 x1 z29 M25 hwp H locs ls hM hS (lv_sub hl [1, 2, 0] rfl)
      · replace hwp := hwp.2 c28
        refine lv_iconst (v := 0) hx hb d_BT_limitsHold_28 (by decide) ?_
        exact W.zret (v := (0 : Int32)) hx hb hr (by decide) (fun t ht hW => ⟨⟨(0 : Int32), M25, rfl, hwp, by show hw D kCl (hTys κ) A M25 t.heap; rw [ht]; exact hM⟩, hS.F ht⟩) hS.2.2 d_BT_limitsHold_29
def wpBT_limitsHold (self : Nat) (p0 : Nat) (M : Hp) (post : Int32 → Hp → Prop) : Prop := (∃ n30 : Nat, wBT_limitsHold_2 post n30 self p0 (0 : Int32) M)
set_option maxRecDepth 100000 in
set_option maxHeartbeats 4000000 in
theorem eBT_limitsHold {p : Program} {l : Launch} {e : Env} {s : State} {m : MethodId} {args : Array Value} {below : List Frame} {meth : Method} {c : Code} {D : va_G} {κ : Nat → ClassId} {A : Nat → Prop} (C : Cx_BT_limitsHold p s m args meth c D κ A) (post : Int32 → Hp → Prop) (self : Nat) (p0 : Nat) (M : Hp) (hwp : wpBT_limitsHold self p0 M post) : Y p l e rm_BT_limitsHold s m args below meth c D kCl (hTys κ) A 3 0 0 (MQ below (va_Qi post (hB D kCl (hTys κ) A) A) args s 0 0 A) M 0 [(0, .ref self), (1, .ref p0)] [] := by
  obtain ⟨hx, hb, hml, hr, hown, hts, hlocks, hE, hA⟩ := id C
  have hK := hE.1
  intro H locs ls hM hS hl
  unfold wpBT_limitsHold at hwp
  refine lv_iconst (v := 0) hx hb d_BT_limitsHold_0 (by decide) ?_
  refine lv_istore_n (lv' := [(2, .int (0 : Int32)), (0, .ref self), (1, .ref p0)]) hx hb d_BT_limitsHold_1 rfl hl (by decide) rfl (fun ls hl => ?_)
  obtain ⟨n30, hwp⟩ := hwp
  exact tBT_limitsHold_2 C post n30 self p0 (0 : Int32) M hwp H locs ls hM hS (lv_sub hl [1, 2, 0] rfl)
set_option maxRecDepth 100000 in
set_option maxHeartbeats 4000000 in
theorem metBT_limitsHold (l : Launch) (D : va_G) (κ : Nat → ClassId) (sz : Nat) (self : Nat) (p0 : Nat) (M : Hp) (post : Int32 → Hp → Prop) (hwp : wpBT_limitsHold self p0 M post) : Met l y_BT_limitsHold ws_BT_limitsHold rm_BT_limitsHold (hPc D kCl (hTys κ) M sz [.ref self, .ref p0]) (va_Qi post (hB D kCl (hTys κ) (hAx M sz)) (hAx M sz)) 0 0 (hAx M sz) := by
  refine Met.ofW (cc := prog_1_method_34_code) (maxL := 3) (ret := (some .boolean)) (by decide +kernel) rfl ?_
  intro p e s m args below meth c s₁ B hml hv
  obtain ⟨rfl, hsz, hE, hM0⟩ := hv
  have hts : ∀ w ∈ WG, w.before _ s = true := fun w h => atoms_spec (ws := ws_BT_limitsHold) B.pre w (List.mem_cons_of_mem _ h)
  subst hsz
  have C : Cx_BT_limitsHold p s m _ meth c D κ (hAx M s.heap.size) := ⟨B.exec, B.bytes, hml, B.returns, findClass_of_methodNamed B.named, hts, B.notSynchronized, hE, fun q h => Or.inr h⟩
  have hl := lv_entry ([.ref self, .ref p0]) (n := 3) (Nat.le_of_ble_eq_true rfl)
  rw [lg_entry_eq]
  generalize (lg_sl ([.ref self, .ref p0]) ++ List.replicate (3 - (lg_sl ([.ref self, .ref p0])).length) Slot.unset).toArray = ls at hl ⊢
  exact eBT_limitsHold C post self p0 M hwp s.heap [] ls (hM0.self (sz := s.heap.size)) va_S.rf hl
