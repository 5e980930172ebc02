abbrev rm_BT_changePrices : Room := { frames := 1, cells := 0, slots := 0, locals := 23 }
def Cx_BT_changePrices (p : Program) (s : State) (m : MethodId) (args : Array Value) (meth : Method) (c : Code) (D : va_G) (κ : Nat → ClassId) (A : Nat → Prop) : Prop := p.tables.exec = Jvm.exec ∧ c.code = prog_1_method_36_code ∧ c.maxLocals = 9 ∧ meth.sig.returnType = none ∧ s.vm.findClass "BuckTables" = some m.cls ∧ (∀ w ∈ WG, w.before args s = true) ∧ meth.locks = false ∧ hEnv D kCl (hTys κ) A s ∧ (∀ q, s.heap.size ≤ q → A q)
def wBT_changePrices_79 (post : Hp → Prop) (k18 : Nat → Nat → Int64 → Int32 → Hp → Prop) (x0 : Nat) (x1 : Nat) (x3 : Int64) (x5 : Int32) (M : Hp) : Prop := (∀ z1 : Int32, z1 = x5 + 1 → (k18 x0 x1 x3 z1 M))
set_option maxRecDepth 100000 in
set_option maxHeartbeats 4000000 in
theorem tBT_changePrices_79 {p : Program} {l : Launch} {e : Env} {s : State} {m : MethodId} {args : Array Value} {below : List Frame} {meth : Method} {c : Code} {D : va_G} {κ : Nat → ClassId} {A : Nat → Prop} (C : Cx_BT_changePrices p s m args meth c D κ A) (post : Hp → Prop) (k18 : Nat → Nat → Int64 → Int32 → Hp → Prop) (hk18 : ∀ (x0 : Nat) (x1 : Nat) (x3 : Int64) (x5 : Int32) (M : Hp), k18 x0 x1 x3 x5 M → Y p l e rm_BT_changePrices s m args below meth c D kCl (hTys κ) A 9 0 0 (MQ below (va_Qv post (hB D kCl (hTys κ) A) A) args s 0 0 A) M 18 [(0, .ref x0), (1, .ref x1), (3, .long x3), (5, .int x5)] []) (x0 : Nat) (x1 : Nat) (x3 : Int64) (x5 : Int32) (M : Hp) (hwp : wBT_changePrices_79 post k18 x0 x1 x3 x5 M) : Y p l e rm_BT_changePrices s m args below meth c D kCl (hTys κ) A 9 0 0 (MQ below (va_Qv post (hB D kCl (hTys κ) A) A) args s 0 0 A) M 79 [(0, .ref x0), (1, .ref x1), (3, .long x3), (5, .int x5)] [] := by
  obtain ⟨hx, hb, hml, hr, hown, hts, hlocks, hE, hA⟩ := id C
  have hK := hE.1
  intro H locs ls hM hS hl
  unfold wBT_changePrices_79 at hwp
  obtain ⟨z1, ez1⟩ : ∃ y : Int32, y = x5 + 1 := ⟨_, rfl⟩
  replace hwp := hwp z1 ez1
  refine lv_iinc (v := z1) (lv' := [(5, .int z1), (0, .ref x0), (1, .ref x1), (3, .long x3)]) hx hb d_BT_changePrices_79 hl (k := 3) rfl (by rw [ez1]; rfl) (by decide) rfl (fun ls hl => ?_)
  refine lv_goto (tgt := 18) hx hb d_BT_changePrices_82 (by decide) ?_
  exact hk18 x0 x1 x3 z1 M hwp H locs ls hM hS (lv_sub hl [1, 2, 3, 0] rfl)
def wBT_changePrices_18 (post : Hp → Prop)  : Nat → Nat → Nat → Int64 → Int32 → Hp → Prop
  | 0 => fun _ _ _ _ _ => False
  | n + 1 => fun x0 x1 x3 x5 M => (∃ v2 : Int32, fI M x0 0 4 v2 ∧ ((v2 ≤ x5 → (post M)) ∧ (¬ v2 ≤ x5 → (∃ a7 : Nat, fA M x0 0 1 a7 ∧ (∃ a11 : Nat, aA 4 M a7 x5 a11 ∧ (hob M a11 2 ∧ (wpPr_hasLimit a11 M (fun (r19 : Int32) (M17 : Hp) => ((r19 = 0 → (wBT_changePrices_79 post (wBT_changePrices_18 post n) x0 x1 x3 x5 M17)) ∧ (¬ r19 = 0 → (∃ v21 : Int64, fJ M17 a11 2 9 v21 ∧ (∃ a25 : Nat, fA M17 x1 5 2 a25 ∧ (∃ v29 : Int32, aI M17 a25 x5 v29 ∧ (∃ v34 : Int64, fJ M17 a11 2 8 v34 ∧ (∀ z38 : Int64, z38 = (v21 + (((v29.toInt64) - v34) * x3)) → (∃ M39 : Hp, pF M17 a11 2 9 (.long (if z38 < (0 : Int64) then (0 : Int64) else z38)) M39 ∧ (wBT_changePrices_79 post (wBT_changePrices_18 post n) x0 x1 x3 x5 M39)))))))))))))))))
set_option maxRecDepth 100000 in
set_option maxHeartbeats 4000000 in
theorem tBT_changePrices_18 {p : Program} {l : Launch} {e : Env} {s : State} {m : MethodId} {args : Array Value} {below : List Frame} {meth : Method} {c : Code} {D : va_G} {κ : Nat → ClassId} {A : Nat → Prop} (C : Cx_BT_changePrices p s m args meth c D κ A) (post : Hp → Prop)  : ∀ (n : Nat) (x0 : Nat) (x1 : Nat) (x3 : Int64) (x5 : Int32) (M : Hp), wBT_changePrices_18 post n x0 x1 x3 x5 M → Y p l e rm_BT_changePrices s m args below meth c D kCl (hTys κ) A 9 0 0 (MQ below (va_Qv post (hB D kCl (hTys κ) A) A) args s 0 0 A) M 18 [(0, .ref x0), (1, .ref x1), (3, .long x3), (5, .int x5)] [] := by
  obtain ⟨hx, hb, hml, hr, hown, hts, hlocks, hE, hA⟩ := id C
  have hK := hE.1
  intro n
  induction n with
  | zero => intro x0 x1 x3 x5 M hwp; exact hwp.elim
  | succ n ih =>
    intro x0 x1 x3 x5 M hwp H locs ls hM hS hl
    unfold wBT_changePrices_18 at hwp
    refine lv_iload hx hb d_BT_changePrices_18 (lv_at hl 3 rfl) ?_
    refine lv_aload_n hx hb d_BT_changePrices_20 rfl (lv_at hl 0 rfl) ?_
    obtain ⟨v2, ⟨fs3, he4, hv5⟩, hwp⟩ := hwp
    refine h_get (C := "BuckTables") (T := Tc0) (N := 12) hx hb hts inc0 hown hK hM he4 rfl 4 (by decide) (hts _ kw_206) (fun _ h9 => h9) hv5 d_BT_changePrices_21 ?_
    refine lv_icmp_ge (tgt := 85) hx hb d_BT_changePrices_24 (by decide) (fun c6 => ?_) (fun c6 => ?_)
    · replace hwp := hwp.1 c6
      exact W.vret hx hb hr (fun t ht hW => ⟨⟨M, rfl, hwp, by show hw D kCl (hTys κ) A M t.heap; rw [ht]; exact hM⟩, hS.F ht⟩) hS.2.2 d_BT_changePrices_85
    · replace hwp := hwp.2 c6
      refine lv_aload_n hx hb d_BT_changePrices_27 rfl (lv_at hl 0 rfl) ?_
      obtain ⟨a7, ⟨fs8, he9, hv10⟩, hwp⟩ := hwp
      refine h_get (C := "BuckTables") (T := Tc0) (N := 12) hx hb hts inc0 hown hK hM he9 rfl 1 (by decide) (hts _ kw_203) (fun _ h9 => h9) hv10 d_BT_changePrices_28 ?_
      refine lv_iload hx hb d_BT_changePrices_31 (lv_at hl 3 rfl) ?_
      obtain ⟨a11, ⟨n12, f13, ha14, hi15, hy16⟩, hwp⟩ := hwp
      refine h_aald hx hb hK hM ha14 rfl hi15 hy16 d_BT_changePrices_33 ?_
      refine lv_astore (lv' := [(6, .ref a11), (0, .ref x0), (1, .ref x1), (3, .long x3), (5, .int x5)]) hx hb d_BT_changePrices_34 hl (by decide) rfl (fun ls hl => ?_)
      refine lv_aload hx hb d_BT_changePrices_36 (lv_at hl 0 rfl) ?_
      obtain ⟨ho18, hwp⟩ := hwp
      refine h_calli hM hS hA (va_runV (As := []) (rest := []) ⟨hx, hb, hml, hown, hts⟩ (metPr_hasLimit l D κ H.size a11 M _ hwp) (cwV 0 hts (gV kw_578 kw_579 kw_580 kw_7 kw_581) rfl rfl rfl (by decide +kernel) ⟨(Nat.le_of_ble_eq_true rfl), (Nat.le_of_ble_eq_true rfl)⟩) (h_preV hE hM hS ho18 (r := ("BuckTables$Product", Tc2, 10)) rfl) rfl rfl hl.1 rfl (lv_room (Nat.le_of_ble_eq_true rfl)) d_BT_changePrices_38 ⟨(Nat.le_of_ble_eq_true rfl), (Nat.le_of_ble_eq_true rfl)⟩) (fun r19 M17 H locs hwp hM hS => ?_)
      refine lv_if_eq (tgt := 79) hx hb d_BT_changePrices_41 (by decide) (fun c20 => ?_) (fun c20 => ?_)
      · replace hwp := hwp.1 c20
        exact tBT_changePrices_79 C post (wBT_changePrices_18 post n) ih x0 x1 x3 x5 M17 hwp H locs ls hM hS (lv_sub hl [1, 2, 3, 4] rfl)
      · replace hwp := hwp.2 c20
        refine lv_aload hx hb d_BT_changePrices_44 (lv_at hl 0 rfl) ?_
        obtain ⟨v21, ⟨fs22, he23, hv24⟩, hwp⟩ := hwp
        refine h_get (C := "BuckTables$Product") (T := Tc2) (N := 10) hx hb hts inc2 hown hK hM he23 rfl 9 (by decide) (hts _ kw_180) (fun _ h9 => h9) hv24 d_BT_changePrices_46 ?_
        refine lv_aload_n hx hb d_BT_changePrices_49 rfl (lv_at hl 2 rfl) ?_
        obtain ⟨a25, ⟨fs26, he27, hv28⟩, hwp⟩ := hwp
        refine h_get (C := "BuckTables$Plan") (T := Tc5) (N := 5) hx hb hts inc5 hown hK hM he27 rfl 2 (by decide) (hts _ kw_78) (fun _ h9 => h9) hv28 d_BT_changePrices_50 ?_
        refine lv_iload hx hb d_BT_changePrices_53 (lv_at hl 4 rfl) ?_
        obtain ⟨v29, ⟨n30, f31, ha32, hi33, ev29⟩, hwp⟩ := hwp
        refine h_iald hx hb hK hM ha32 rfl hi33 d_BT_changePrices_55 ?_
        rw [← ev29]
        refine lv_i2l hx hb d_BT_changePrices_56 rfl ?_
        refine lv_aload hx hb d_BT_changePrices_57 (lv_at hl 0 rfl) ?_
        obtain ⟨v34, ⟨fs35, he36, hv37⟩, hwp⟩ := hwp
        refine h_get (C := "BuckTables$Product") (T := Tc2) (N := 10) hx hb hts inc2 hown hK hM he36 rfl 8 (by decide) (hts _ kw_177) (fun _ h9 => h9) hv37 d_BT_changePrices_59 ?_
        refine lv_lsub hx hb d_BT_changePrices_62 ?_
        refine lv_lload_n hx hb d_BT_changePrices_63 rfl (lv_at hl 3 rfl) ?_
        refine lv_lmul hx hb d_BT_changePrices_64 ?_
        refine lv_ladd hx hb d_BT_changePrices_65 ?_
        refine lv_topl (fun z38 ez38 => ?_)
        replace hwp := hwp z38 ez38
        refine lv_lstore (lv' := [(7, .long z38), (6, .ref a11), (0, .ref x0), (1, .ref x1), (3, .long x3), (5, .int x5)]) hx hb d_BT_changePrices_66 hl (by decide) rfl (fun ls hl => ?_)
        refine lv_aload hx hb d_BT_changePrices_68 (lv_at hl 1 rfl) ?_
        refine lv_lconst (v := 0) hx hb d_BT_changePrices_70 (by decide) ?_
        refine lv_lload hx hb d_BT_changePrices_71 (lv_at hl 0 rfl) ?_
        refine va_mmax_long hx hb (show c.maxLocals = ls.size by rw [hml, hl.1]) hown (hts _ kw_582) (hts _ kw_583) (hts _ kw_5) (hts _ kw_584) (Nat.le_of_ble_eq_true rfl) (Nat.le_of_ble_eq_true rfl) (Nat.le_of_ble_eq_true rfl) (Nat.le_of_ble_eq_true rfl) d_BT_changePrices_73 ?_
        obtain ⟨M39, ⟨fs40, he41, hl42, eM39⟩, hwp⟩ := hwp
        refine h_put (C := "BuckTables$Product") (T := Tc2) (N := 10) (v := .long (if z38 < (0 : Int64) then (0 : Int64) else z38)) (ty := .long) hx hb hts inc2 tyc2 tyc2_ok nmc2 hown hK hM hS he41 rfl 9 (by decide) (hts _ kw_180) (fun _ h9 => h9) rfl (by decide +kernel) rfl rfl hl42 d_BT_changePrices_76 (fun H locs hM hS => ?_)
        rw [← eM39] at hM
        exact tBT_changePrices_79 C post (wBT_changePrices_18 post n) ih x0 x1 x3 x5 M39 hwp H locs ls hM hS (lv_sub hl [2, 3, 4, 5] rfl)
def wpBT_changePrices (self : Nat) (p0 : Nat) (p1 : Int32) (M : Hp) (post : Hp → Prop) : Prop := (¬ (if (1 : Int32) < p1 then p1 else (1 : Int32)) = 0 ∧ (∀ z44 : Int64, z44 = ((if (1 : Int32) < ((1024 : Int32) / (if (1 : Int32) < p1 then p1 else (1 : Int32))) then ((1024 : Int32) / (if (1 : Int32) < p1 then p1 else (1 : Int32))) else (1 : Int32)).toInt64) → (∃ n45 : Nat, wBT_changePrices_18 post n45 self p0 z44 (0 : Int32) M)))
set_option maxRecDepth 100000 in
set_option maxHeartbeats 4000000 in
theorem eBT_changePrices {p : Program} {l : Launch} {e : Env} {s : State} {m : MethodId} {args : Array Value} {below : List Frame} {meth : Method} {c : Code} {D : va_G} {κ : Nat → ClassId} {A : Nat → Prop} (C : Cx_BT_changePrices p s m args meth c D κ A) (post : Hp → Prop) (self : Nat) (p0 : Nat) (p1 : Int32) (M : Hp) (hwp : wpBT_changePrices self p0 p1 M post) : Y p l e rm_BT_changePrices s m args below meth c D kCl (hTys κ) A 9 0 0 (MQ below (va_Qv post (hB D kCl (hTys κ) A) A) args s 0 0 A) M 0 [(0, .ref self), (1, .ref p0), (2, .int p1)] [] := by
  obtain ⟨hx, hb, hml, hr, hown, hts, hlocks, hE, hA⟩ := id C
  have hK := hE.1
  intro H locs ls hM hS hl
  unfold wpBT_changePrices at hwp
  refine lv_iconst (v := 1) hx hb d_BT_changePrices_0 (by decide) ?_
  refine lv_sipush (v := 1024) hx hb d_BT_changePrices_1 (by decide) ?_
  refine lv_iconst (v := 1) hx hb d_BT_changePrices_4 (by decide) ?_
  refine lv_iload_n hx hb d_BT_changePrices_5 rfl (lv_at hl 2 rfl) ?_
  refine va_mmax hx hb (show c.maxLocals = ls.size by rw [hml, hl.1]) hown (hts _ kw_99) (hts _ kw_100) (hts _ kw_5) (hts _ kw_101) (Nat.le_of_ble_eq_true rfl) (Nat.le_of_ble_eq_true rfl) (Nat.le_of_ble_eq_true rfl) (Nat.le_of_ble_eq_true rfl) d_BT_changePrices_6 ?_
  obtain ⟨h43, hwp⟩ := hwp
  refine lv_idiv hx hb d_BT_changePrices_9 h43 ?_
  refine va_mmax hx hb (show c.maxLocals = ls.size by rw [hml, hl.1]) hown (hts _ kw_99) (hts _ kw_100) (hts _ kw_5) (hts _ kw_101) (Nat.le_of_ble_eq_true rfl) (Nat.le_of_ble_eq_true rfl) (Nat.le_of_ble_eq_true rfl) (Nat.le_of_ble_eq_true rfl) d_BT_changePrices_10 ?_
  refine lv_i2l hx hb d_BT_changePrices_13 rfl ?_
  refine lv_topl (fun z44 ez44 => ?_)
  replace hwp := hwp z44 ez44
  refine lv_lstore_n (lv' := [(3, .long z44), (0, .ref self), (1, .ref p0), (2, .int p1)]) hx hb d_BT_changePrices_14 rfl hl (by decide) rfl (fun ls hl => ?_)
  refine lv_iconst (v := 0) hx hb d_BT_changePrices_15 (by decide) ?_
  refine lv_istore (lv' := [(5, .int (0 : Int32)), (3, .long z44), (0, .ref self), (1, .ref p0), (2, .int p1)]) hx hb d_BT_changePrices_16 hl (by decide) rfl (fun ls hl => ?_)
  obtain ⟨n45, hwp⟩ := hwp
  exact tBT_changePrices_18 C post n45 self p0 z44 (0 : Int32) M hwp H locs ls hM hS (lv_sub hl [2, 3, 1, 0] rfl)
set_option maxRecDepth 100000 in
set_option maxHeartbeats 4000000 in
theorem metBT_changePrices (l : Launch) (D : va_G) (κ : Nat → ClassId) (sz : Nat) (self : Nat) (p0 : Nat) (p1 : Int32) (M : Hp) (post : Hp → Prop) (hwp : wpBT_changePrices self p0 p1 M post) : Met l y_BT_changePrices ws_BT_changePrices rm_BT_changePrices (hPc D kCl (hTys κ) M sz [.ref self, .ref p0, .int p1]) (va_Qv post (hB D kCl (hTys κ) (hAx M sz)) (hAx M sz)) 0 0 (hAx M sz) := by
  refine Met.ofW (cc := prog_1_method_36_code) (maxL := 9) (ret := none) (by decide +kernel) rfl ?_
  intro p e s m args below meth c s₁ B hml hv
  obtain ⟨rfl, hsz, hE, hM0⟩ := hv
  have hts : ∀ w ∈ WG, w.before _ s = true := fun w h => atoms_spec (ws := ws_BT_changePrices) B.pre w (List.mem_cons_of_mem _ h)
  subst hsz
  have C : Cx_BT_changePrices p s m _ meth c D κ (hAx M s.heap.size) := ⟨B.exec, B.bytes, hml, B.returns, findClass_of_methodNamed B.named, hts, B.notSynchronized, hE, fun q h => Or.inr h⟩
  have hl := lv_entry ([.ref self, .ref p0, .int p1]) (n := 9) (Nat.le_of_ble_eq_true rfl)
  rw [lg_entry_eq]
  generalize (lg_sl ([.ref self, .ref p0, .int p1]) ++ List.replicate (9 - (lg_sl ([.ref self, .ref p0, .int p1])).length) Slot.unset).toArray = ls at hl ⊢
  exact eBT_changePrices C post self p0 p1 M hwp s.heap [] ls (hM0.self (sz := s.heap.size)) va_S.rf hl
abbrev rm_BT_valueOf : Room := { frames := 1, cells := 0, slots := 0, locals := 20 }
def Cx_BT_valueOf (p : Program) (s : State) (m : MethodId) (args : Array Value) (meth : Method) (c : Code) (D : va_G) (κ : Nat → ClassId) (A : Nat → Prop) : Prop := p.tables.exec = Jvm.exec ∧ c.code = prog_1_method_33_code ∧ c.maxLocals = 6 ∧ meth.sig.returnType = (some .long) ∧ s.vm.findClass "BuckTables" = some m.cls ∧ (∀ w ∈ WG, w.before args s = true) ∧ meth.locks = false ∧ hEnv D kCl (hTys κ) A s ∧ (∀ q, s.heap.size ≤ q → A q)
def wBT_valueOf_57 (post : Int64 → Hp → Prop) (k8 : Nat → Nat → Int64 → Int32 → Hp → Prop) (x0 : Nat) (x1 : Nat) (x2 : Int64) (x4 : Int32) (M : Hp) : Prop := (∀ z1 : Int32, z1 = x4 + 1 → (k8 x0 x1 x2 z1 M))
set_option maxRecDepth 100000 in
set_option maxHeartbeats 4000000 in
theorem tBT_valueOf_57 {p : Program} {l : Launch} {e : Env} {s : State} {m : MethodId} {args : Array Value} {below : List Frame} {meth : Method} {c : Code} {D : va_G} {κ : Nat → ClassId} {A : Nat → Prop} (C : Cx_BT_valueOf p s m args meth c D κ A) (post : Int64 → Hp → Prop) (k8 : Nat → Nat → Int64 → Int32 → Hp → Prop) (hk8 : ∀ (x0 : Nat) (x1 : Nat) (x2 : Int64) (x4 : Int32) (M : Hp), k8 x0 x1 x2 x4 M → Y p l e rm_BT_valueOf s m args below meth c D kCl (hTys κ) A 6 0 0 (MQ below (va_Ql post (hB D kCl (hTys κ) A) A) args s 0 0 A) M 8 [(0, .ref x0), (1, .ref x1), (2, .long x2), (4, .int x4)] []) (x0 : Nat) (x1 : Nat) (x2 : Int64) (x4 : Int32) (M : Hp) (hwp : wBT_valueOf_57 post k8 x0 x1 x2 x4 M) : Y p l e rm_BT_valueOf s m args below meth c D kCl (hTys κ) A 6 0 0 (MQ below (va_Ql post (hB D kCl (hTys κ) A) A) args s 0 0 A) M 57 [(0, .ref x0), (1, .ref x1), (2, .long x2), (4, .int x4)] [] := by
  obtain ⟨hx, hb, hml, hr, hown, hts, hlocks, hE, hA⟩ := id C
  have hK := hE.1
  intro H locs ls hM hS hl
  unfold wBT_valueOf_57 at hwp
  obtain ⟨z1, ez1⟩ : ∃ y : Int32, y = x4 + 1 := ⟨_, rfl⟩
  replace hwp := hwp z1 ez1
  refine lv_iinc (v := z1) (lv' := [(4, .int z1), (0, .ref x0), (1, .ref x1), (2, .long x2)]) hx hb d_BT_valueOf_57 hl (k := 3) rfl (by rw [ez1]; rfl) (by decide) rfl (fun ls hl => ?_)
  refine lv_goto (tgt := 8) hx hb d_BT_valueOf_60 (by decide) ?_
  exact hk8 x0 x1 x2 z1 M hwp H locs ls hM hS (lv_sub hl [1, 2, 3, 0] rfl)
def wBT_valueOf_8 (post : Int64 → Hp → Prop)  : Nat → Nat → Nat → Int64 → Int32 → Hp → Prop
  | 0 => fun _ _ _ _ _ => False
  | n + 1 => fun x0 x1 x2 x4 M => (∃ v2 : Int32, fI M x0 0 4 v2 ∧ ((v2 ≤ x4 → (post x2 M)) ∧ (¬ v2 ≤ x4 → (∃ a7 : Nat, fA M x0 0 1 a7 ∧ (∃ a11 : Nat, aA 4 M a7 x4 a11 ∧ (hob M a11 2 ∧ (wpPr_hasLimit a11 M (fun (r19 : Int32) (M17 : Hp) => ((r19 = 0 → (wBT_valueOf_57 post (wBT_valueOf_8 post n) x0 x1 x2 x4 M17)) ∧ (¬ r19 = 0 → (∃ v21 : Int64, fJ M17 a11 2 9 v21 ∧ (∃ v25 : Int64, fJ M17 a11 2 8 v25 ∧ (∃ a29 : Nat, fA M17 x1 5 2 a29 ∧ (∃ v33 : Int32, aI M17 a29 x4 v33 ∧ (∀ z38 : Int64, z38 = (x2 + (v21 * (v25 - (v33.toInt64)))) → (wBT_valueOf_57 post (wBT_valueOf_8 post n) x0 x1 z38 x4 M17))))))))))))))))
set_option maxRecDepth 100000 in
set_option maxHeartbeats 4000000 in
theorem tBT_valueOf_8 {p : Program} {l : Launch} {e : Env} {s : State} {m : MethodId} {args : Array Value} {below : List Frame} {meth : Method} {c : Code} {D : va_G} {κ : Nat → ClassId} {A : Nat → Prop} (C : Cx_BT_valueOf p s m args meth c D κ A) (post : Int64 → Hp → Prop)  : ∀ (n : Nat) (x0 : Nat) (x1 : Nat) (x2 : Int64) (x4 : Int32) (M : Hp), wBT_valueOf_8 post n x0 x1 x2 x4 M → Y p l e rm_BT_valueOf s m args below meth c D kCl (hTys κ) A 6 0 0 (MQ below (va_Ql post (hB D kCl (hTys κ) A) A) args s 0 0 A) M 8 [(0, .ref x0), (1, .ref x1), (2, .long x2), (4, .int x4)] [] := by
  obtain ⟨hx, hb, hml, hr, hown, hts, hlocks, hE, hA⟩ := id C
  have hK := hE.1
  intro n
  induction n with
  | zero => intro x0 x1 x2 x4 M hwp; exact hwp.elim
  | succ n ih =>
    intro x0 x1 x2 x4 M hwp H locs ls hM hS hl
    unfold wBT_valueOf_8 at hwp
    refine lv_iload hx hb d_BT_valueOf_8 (lv_at hl 3 rfl) ?_
    refine lv_aload_n hx hb d_BT_valueOf_10 rfl (lv_at hl 0 rfl) ?_
    obtain ⟨v2, ⟨fs3, he4, hv5⟩, hwp⟩ := hwp
    refine h_get (C := "BuckTables") (T := Tc0) (N := 12) hx hb hts inc0 hown hK hM he4 rfl 4 (by decide) (hts _ kw_206) (fun _ h9 => h9) hv5 d_BT_valueOf_11 ?_
    refine lv_icmp_ge (tgt := 63) hx hb d_BT_valueOf_14 (by decide) (fun c6 => ?_) (fun c6 => ?_)
    · replace hwp := hwp.1 c6
      refine lv_lload_n hx hb d_BT_valueOf_63 rfl (lv_at hl 2 rfl) ?_
      exact W.lret (v := x2) hx hb hr (fun t ht hW => ⟨⟨x2, M, rfl, hwp, by show hw D kCl (hTys κ) A M t.heap; rw [ht]; exact hM⟩, hS.F ht⟩) hS.2.2 d_BT_valueOf_64
    · replace hwp := hwp.2 c6
      refine lv_aload_n hx hb d_BT_valueOf_17 rfl (lv_at hl 0 rfl) ?_
      obtain ⟨a7, ⟨fs8, he9, hv10⟩, hwp⟩ := hwp
      refine h_get (C := "BuckTables") (T := Tc0) (N := 12) hx hb hts inc0 hown hK hM he9 rfl 1 (by decide) (hts _ kw_203) (fun _ h9 => h9) hv10 d_BT_valueOf_18 ?_
      refine lv_iload hx hb d_BT_valueOf_21 (lv_at hl 3 rfl) ?_
      obtain ⟨a11, ⟨n12, f13, ha14, hi15, hy16⟩, hwp⟩ := hwp
      refine h_aald hx hb hK hM ha14 rfl hi15 hy16 d_BT_valueOf_23 ?_
      refine lv_astore (lv' := [(5, .ref a11), (0, .ref x0), (1, .ref x1), (2, .long x2), (4, .int x4)]) hx hb d_BT_valueOf_24 hl (by decide) rfl (fun ls hl => ?_)
      refine lv_aload hx hb d_BT_valueOf_26 (lv_at hl 0 rfl) ?_
      obtain ⟨ho18, hwp⟩ := hwp
      refine h_calli hM hS hA (va_runV (As := []) (rest := []) ⟨hx, hb, hml, hown, hts⟩ (metPr_hasLimit l D κ H.size a11 M _ hwp) (cwV 0 hts (gV kw_578 kw_579 kw_580 kw_7 kw_581) rfl rfl rfl (by decide +kernel) ⟨(Nat.le_of_ble_eq_true rfl), (Nat.le_of_ble_eq_true rfl)⟩) (h_preV hE hM hS ho18 (r := ("BuckTables$Product", Tc2, 10)) rfl) rfl rfl hl.1 rfl (lv_room (Nat.le_of_ble_eq_true rfl)) d_BT_valueOf_28 ⟨(Nat.le_of_ble_eq_true rfl), (Nat.le_of_ble_eq_true rfl)⟩) (fun r19 M17 H locs hwp hM hS => ?_)
      refine lv_if_eq (tgt := 57) hx hb d_BT_valueOf_31 (by decide) (fun c20 => ?_) (fun c20 => ?_)
      · replace hwp := hwp.1 c20
        exact tBT_valueOf_57 C post (wBT_valueOf_8 post n) ih x0 x1 x2 x4 M17 hwp H locs ls hM hS (lv_sub hl [1, 2, 3, 4] rfl)
      · replace hwp := hwp.2 c20
        refine lv_lload_n hx hb d_BT_valueOf_34 rfl (lv_at hl 3 rfl) ?_
        refine lv_aload hx hb d_BT_valueOf_35 (lv_at hl 0 rfl) ?_
        obtain ⟨v21, ⟨fs22, he23, hv24⟩, hwp⟩ := hwp
        refine h_get (C := "BuckTables$Product") (T := Tc2) (N := 10) hx hb hts inc2 hown hK hM he23 rfl 9 (by decide) (hts _ kw_180) (fun _ h9 => h9) hv24 d_BT_valueOf_37 ?_
        refine lv_aload hx hb d_BT_valueOf_40 (lv_at hl 0 rfl) ?_
        obtain ⟨v25, ⟨fs26, he27, hv28⟩, hwp⟩ := hwp
        refine h_get (C := "BuckTables$Product") (T := Tc2) (N := 10) hx hb hts inc2 hown hK hM he27 rfl 8 (by decide) (hts _ kw_177) (fun _ h9 => h9) hv28 d_BT_valueOf_42 ?_
        refine lv_aload_n hx hb d_BT_valueOf_45 rfl (lv_at hl 2 rfl) ?_
        obtain ⟨a29, ⟨fs30, he31, hv32⟩, hwp⟩ := hwp
        refine h_get (C := "BuckTables$Plan") (T := Tc5) (N := 5) hx hb hts inc5 hown hK hM he31 rfl 2 (by decide) (hts _ kw_78) (fun _ h9 => h9) hv32 d_BT_valueOf_46 ?_
        refine lv_iload hx hb d_BT_valueOf_49 (lv_at hl 4 rfl) ?_
        obtain ⟨v33, ⟨n34, f35, ha36, hi37, ev33⟩, hwp⟩ := hwp
        refine h_iald hx hb hK hM ha36 rfl hi37 d_BT_valueOf_51 ?_
        rw [← ev33]
        refine lv_i2l hx hb d_BT_valueOf_52 rfl ?_
        refine lv_lsub hx hb d_BT_valueOf_53 ?_
        refine lv_lmul hx hb d_BT_valueOf_54 ?_
        refine lv_ladd hx hb d_BT_valueOf_55 ?_
        refine lv_topl (fun z38 ez38 => ?_)
        replace hwp := hwp z38 ez38
        refine lv_lstore_n (lv' := [(2, .long z38), (5, .ref a11), (0, .ref x0), (1, .ref x1), (4, .int x4)]) hx hb d_BT_valueOf_56 rfl hl (by decide) rfl (fun ls hl => ?_)
        exact tBT_valueOf_57 C post (wBT_valueOf_8 post n) ih x0 x1 z38 x4 M17 hwp H locs ls hM hS (lv_sub hl [2, 3, 0, 4] rfl)
def wpBT_valueOf (self : Nat) (p0 : Nat) (M : Hp) (post : Int64 → Hp → Prop) : Prop := (∃ v39 : Int64, fJ M p0 5 4 v39 ∧ (∃ n43 : Nat, wBT_valueOf_8 post n43 self p0 v39 (0 : Int32) M))
set_option maxRecDepth 100000 in
set_option maxHeartbeats 4000000 in
theorem eBT_valueOf {p : Program} {l : Launch} {e : Env} {s : State} {m : MethodId} {args : Array Value} {below : List Frame} {meth : Method} {c : Code} {D : va_G} {κ : Nat → ClassId} {A : Nat → Prop} (C : Cx_BT_valueOf p s m args meth c D κ A) (post : Int64 → Hp → Prop) (self : Nat) (p0 : Nat) (M : Hp) (hwp : wpBT_valueOf self p0 M post) : Y p l e rm_BT_valueOf s m args below meth c D kCl (hTys κ) A 6 0 0 (MQ below (va_Ql post (hB D kCl (hTys κ) A) A) args s 0 0 A) M 0 [(0, .ref self), (1, .ref p0)] [] := by
  obtain ⟨hx, hb, hml, hr, hown, hts, hlocks, hE, hA⟩ := id C
  have hK := hE.1
  intro H locs ls hM hS hl
  unfold wpBT_valueOf at hwp
  refine lv_aload_n hx hb d_BT_valueOf_0 rfl (lv_at hl 1 rfl) ?_
  obtain ⟨v39, ⟨fs40, he41, hv42⟩, hwp⟩ := hwp
  refine h_get (C := "BuckTables$Plan") (T := Tc5) (N := 5) hx hb hts inc5 hown hK hM he41 rfl 4 (by decide) (hts _ kw_82) (fun _ h9 => h9) hv42 d_BT_valueOf_1 ?_
  refine lv_lstore_n (lv' := [(2, .long v39), (0, .ref self), (1, .ref p0)]) hx hb d_BT_valueOf_4 rfl hl (by decide) rfl (fun ls hl => ?_)
  refine lv_iconst (v := 0) hx hb d_BT_valueOf_5 (by decide) ?_
  refine lv_istore (lv' := [(4, .int (0 : Int32)), (2, .long v39), (0, .ref self), (1, .ref p0)]) hx hb d_BT_valueOf_6 hl (by decide) rfl (fun ls hl => ?_)
  obtain ⟨n43, hwp⟩ := hwp
  exact tBT_valueOf_8 C post n43 self p0 v39 (0 : Int32) M hwp H locs ls hM hS (lv_sub hl [2, 3, 1, 0] rfl)
set_option maxRecDepth 100000 in
set_option maxHeartbeats 4000000 in
theorem metBT_valueOf (l : Launch) (D : va_G) (κ : Nat → ClassId) (sz : Nat) (self : Nat) (p0 : Nat) (M : Hp) (post : Int64 → Hp → Prop) (hwp : wpBT_valueOf self p0 M post) : Met l y_BT_valueOf ws_BT_valueOf rm_BT_valueOf (hPc D kCl (hTys κ) M sz [.ref self, .ref p0]) (va_Ql post (hB D kCl (hTys κ) (hAx M sz)) (hAx M sz)) 0 0 (hAx M sz) := by
  refine Met.ofW (cc := prog_1_method_33_code) (maxL := 6) (ret := (some .long)) (by decide +kernel) rfl ?_
  intro p e s m args below meth c s₁ B hml hv
  obtain ⟨rfl, hsz, hE, hM0⟩ := hv
  have hts : ∀ w ∈ WG, w.before _ s = true := fun w h => atoms_spec (ws := ws_BT_valueOf) B.pre w (List.mem_cons_of_mem _ h)
  subst hsz
  have C : Cx_BT_valueOf p s m _ meth c D κ (hAx M s.heap.size) := ⟨B.exec, B.bytes, hml, B.returns, findClass_of_methodNamed B.named, hts, B.notSynchronized, hE, fun q h => Or.inr h⟩
  have hl := lv_entry ([.ref self, .ref p0]) (n := 6) (Nat.le_of_ble_eq_true rfl)
  rw [lg_entry_eq]
  generalize (lg_sl ([.ref self, .ref p0]) ++ List.replicate (6 - (lg_sl ([.ref self, .ref p0])).length) Slot.unset).toArray = ls at hl ⊢
  exact eBT_valueOf C post self p0 M hwp s.heap [] ls (hM0.self (sz := s.heap.size)) va_S.rf hl
abbrev rm_Pr_isBeyond : Room := { frames := 1, cells := 0, slots := 0, locals := 20 }
def Cx_Pr_isBeyond (p : Program) (s : State) (m : MethodId) (args : Array Value) (meth : Method) (c : Code) (D : va_G) (κ : Nat → ClassId) (A : Nat → Prop) : Prop := p.tables.exec = Jvm.exec ∧ c.code = prog_4_method_4_code ∧ c.maxLocals = 2 ∧ meth.sig.returnType = (some .boolean) ∧ s.vm.findClass "BuckTables$Product" = some m.cls ∧ (∀ w ∈ WG, w.before args s = true) ∧ meth.locks = false ∧ hEnv D kCl (hTys κ) A s ∧ (∀ q, s.heap.size ≤ q → A q)
def wPr_isBeyond_22 (post : Int32 → Hp → Prop)   (y0 : Int32) (M : Hp) : Prop := ((y0 = 0 ∨ y0 = 1) ∧ post y0 M)
set_option maxRecDepth 100000 in
set_option maxHeartbeats 4000000 in
theorem tPr_isBeyond_22 {p : Program} {l : Launch} {e : Env} {s : State} {m : MethodId} {args : Array Value} {below : List Frame} {meth : Method} {c : Code} {D : va_G} {κ : Nat → ClassId} {A : Nat → Prop} (C : Cx_Pr_isBeyond p s m args meth c D κ A) (post : Int32 → Hp → Prop)   (y0 : Int32) (M : Hp) (hwp : wPr_isBeyond_22 post y0 M) : Y p l e rm_Pr_isBeyond s m args below meth c D kCl (hTys κ) A 2 0 0 (MQ below (va_Qi post (hB D kCl (hTys κ) A) A) args s 0 0 A) M 22 [] [.int y0] := by
  obtain ⟨hx, hb, hml, hr, hown, hts, hlocks, hE, hA⟩ := id C
  have hK := hE.1
  intro H locs ls hM hS hl
  unfold wPr_isBeyond_22 at hwp
  obtain ⟨hz1, hwp⟩ := hwp
  exact W.zret (v := y0) hx hb hr (by rcases hz1 with h | h <;> rw [h] <;> rfl) (fun t ht hW => ⟨⟨y0, M, rfl, hwp, by show hw D kCl (hTys κ) A M t.heap; rw [ht]; exact hM⟩, hS.F ht⟩) hS.2.2 d_Pr_isBeyond_22
def wPr_isBeyond_21 (post : Int32 → Hp → Prop)   (M : Hp) : Prop := (wPr_isBeyond_22 post (0 : Int32) M)
set_option maxRecDepth 100000 in
set_option maxHeartbeats 4000000 in
theorem tPr_isBeyond_21 {p : Program} {l : Launch} {e : Env} {s : State} {m : MethodId} {args : Array Value} {below : List Frame} {meth : Method} {c : Code} {D : va_G} {κ : Nat → ClassId} {A : Nat → Prop} (C : Cx_Pr_isBeyond p s m args meth c D κ A) (post : Int32 → Hp → Prop)   (M : Hp) (hwp : wPr_isBeyond_21 post  M) : Y p l e rm_Pr_isBeyond s m args below meth c D kCl (hTys κ) A 2 0 0 (MQ below (va_Qi post (hB D kCl (hTys κ) A) A) args s 0 0 A) M 21 [] [] := by
  obtain ⟨hx, hb, hml, hr, hown, hts, hlocks, hE, hA⟩ := id C
  have hK := hE.1
  intro H locs ls hM hS hl
  unfold wPr_isBeyond_21 at hwp
  refine lv_iconst (v := 0) hx hb d_Pr_isBeyond_21 (by decide) ?_
  exact tPr_isBeyond_22 C post (0 : Int32) M hwp H locs ls hM hS (lv_sub hl [] rfl)
def wpPr_isBeyond (self : Nat) (p0 : Int32) (M : Hp) (post : Int32 → Hp → Prop) : Prop := (hob M self 2 ∧ (wpPr_hasLimit self M (fun (r4 : Int32) (M2 : Hp) => ((r4 = 0 → (wPr_isBeyond_21 post M2)) ∧ (¬ r4 = 0 → (∃ v6 : Int64, fJ M2 self 2 8 v6 ∧ (((p0.toInt64) ≤ v6 → (wPr_isBeyond_21 post M2)) ∧ (¬ (p0.toInt64) ≤ v6 → (wPr_isBeyond_22 post (1 : Int32) M2)))))))))
set_option maxRecDepth 100000 in
set_option maxHeartbeats 4000000 in
theorem ePr_isBeyond {p : Program} {l : Launch} {e : Env} {s : State} {m : MethodId} {args : Array Value} {below : List Frame} {meth : Method} {c : Code} {D : va_G} {κ : Nat → ClassId} {A : Nat → Prop} (C : Cx_Pr_isBeyond p s m args meth c D κ A) (post : Int32 → Hp → Prop) (self : Nat) (p0 : Int32) (M : Hp) (hwp : wpPr_isBeyond self p0 M post) : Y p l e rm_Pr_isBeyond s m args below meth c D kCl (hTys κ) A 2 0 0 (MQ below (va_Qi post (hB D kCl (hTys κ) A) A) args s 0 0 A) M 0 [(0, .ref self), (1, .int p0)] [] := by
  obtain ⟨hx, hb, hml, hr, hown, hts, hlocks, hE, hA⟩ := id C
  have hK := hE.1
  intro H locs ls hM hS hl
  unfold wpPr_isBeyond at hwp
  refine lv_aload_n hx hb d_Pr_isBeyond_0 rfl (lv_at hl 0 rfl) ?_
  obtain ⟨ho3, hwp⟩ := hwp
  refine h_calli hM hS hA (va_runV (As := []) (rest := []) ⟨hx, hb, hml, hown, hts⟩ (metPr_hasLimit l D κ H.size self M _ hwp) (cwV 0 hts (gV kw_600 kw_579 kw_580 kw_7 kw_581) rfl rfl rfl (by decide +kernel) ⟨(Nat.le_of_ble_eq_true rfl), (Nat.le_of_ble_eq_true rfl)⟩) (h_preV hE hM hS ho3 (r := ("BuckTables$Product", Tc2, 10)) rfl) rfl rfl hl.1 rfl (lv_room (Nat.le_of_ble_eq_true rfl)) d_Pr_isBeyond_1 ⟨(Nat.le_of_ble_eq_true rfl), (Nat.le_of_ble_eq_true rfl)⟩) (fun r4 M2 H locs hwp hM hS => ?_)
  refine lv_if_eq (tgt := 21) hx hb d_Pr_isBeyond_4 (by decide) (fun c5 => ?_) (fun c5 => ?_)
  · replace hwp := hwp.1 c5
    exact tPr_isBeyond_21 C post M2 hwp H locs ls hM hS (lv_sub hl [] rfl)
  · replace hwp := hwp.2 c5
    refine lv_iload_n hx hb d_Pr_isBeyond_7 rfl (lv_at hl 1 rfl) ?_
    refine lv_i2l hx hb d_Pr_isBeyond_8 rfl ?_
    refine lv_aload_n hx hb d_Pr_isBeyond_9 rfl (lv_at hl 0 rfl) ?_
    obtain ⟨v6, ⟨fs7, he8, hv9⟩, hwp⟩ := hwp
    refine h_get (C := "BuckTables$Product") (T := Tc2) (N := 10) hx hb hts inc2 hown hK hM he8 rfl 8 (by decide) (hts _ kw_176) (fun _ h9 => h9) hv9 d_Pr_isBeyond_10 ?_
    refine W.lcmp hx hb d_Pr_isBeyond_13 ?_
    refine lv_if_le (tgt := 21) hx hb d_Pr_isBeyond_14 (by decide) (fun c10 => ?_) (fun c10 => ?_)
    · replace c10 := (lc_le _ _).mp c10
      replace hwp := hwp.1 c10
      exact tPr_isBeyond_21 C post M2 hwp H locs ls hM hS (lv_sub hl [] rfl)
    · replace c10 := fun h9 => c10 ((lc_le _ _).mpr h9)
      replace hwp := hwp.2 c10
      refine lv_iconst (v := 1) hx hb d_Pr_isBeyond_17 (by decide) ?_
      refine lv_goto (tgt := 22) hx hb d_Pr_isBeyond_18 (by decide) ?_
      exact tPr_isBeyond_22 C post (1 : Int32) M2 hwp H locs ls hM hS (lv_sub hl [] rfl)
set_option maxRecDepth 100000 in
set_option maxHeartbeats 4000000 in
theorem metPr_isBeyond (l : Launch) (D : va_G) (κ : Nat → ClassId) (sz : Nat) (self : Nat) (p0 : Int32) (M : Hp) (post : Int32 → Hp → Prop) (hwp : wpPr_isBeyond self p0 M post) : Met l y_Pr_isBeyond ws_Pr_isBeyond rm_Pr_isBeyond (hPc D kCl (hTys κ) M sz [.ref self, .int p0]) (va_Qi post (hB D kCl (hTys κ) (hAx M sz)) (hAx M sz)) 0 0 (hAx M sz) := by
  refine Met.ofW (cc := prog_4_method_4_code) (maxL := 2) (ret := (some .boolean)) (by decide +kernel) rfl ?_
  intro p e s m args below meth c s₁ B hml hv
  obtain ⟨rfl, hsz, hE, hM0⟩ := hv
  have hts : ∀ w ∈ WG, w.before _ s = true := fun w h => atoms_spec (ws := ws_Pr_isBeyond) B.pre w (List.mem_cons_of_mem _ h)
  subst hsz
  have C : Cx_Pr_isBeyond p s m _ meth c D κ (hAx M s.heap.size) := ⟨B.exec, B.bytes, hml, B.returns, findClass_of_methodNamed B.named, hts, B.notSynchronized, hE, fun q h => Or.inr h⟩
  have hl := lv_entry ([.ref self, .int p0]) (n := 2) (Nat.le_of_ble_eq_true rfl)
  rw [lg_entry_eq]
  generalize (lg_sl ([.ref self, .int p0]) ++ List.replicate (2 - (lg_sl ([.ref self, .int p0])).length) Slot.unset).toArray = ls at hl ⊢
  exact ePr_isBeyond C post self p0 M hwp s.heap [] ls (hM0.self (sz := s.heap.size)) va_S.rf hl
abbrev rm_BT_limitsHold : Room := { frames := 2, cells := 0, slots := 0, locals := 41 }
def Cx_BT_limitsHold (p : Program) (s : State) (m : MethodId) (args : Array Value) (meth : Method) (c : Code) (D : va_G) (κ : Nat → ClassId) (A : Nat → Prop) : Prop := p.tables.exec = Jvm.exec ∧ c.code = prog_1_method_34_code ∧ c.maxLocals = 3 ∧ meth.sig.returnType = (some .boolean) ∧ s.vm.findClass "BuckTables" = some m.cls ∧ (∀ w ∈ WG, w.before args s = true) ∧ meth.locks = false ∧ hEnv D kCl (hTys κ) A s ∧ (∀ q, s.heap.size ≤ q → A q)
def wBT_limitsHold_2 (post : Int32 → Hp → Prop)  : Nat → Nat → Nat → Int32 → Hp → Prop
  | 0 => fun _ _ _ _ => False
  | n + 1 => fun x0 x1 x2 M => (∃ v1 : Int32, fI M x0 0 4 v1 ∧ ((v1 ≤ x2 → (post (1 : Int32) M)) ∧ (¬ v1 ≤ x2 → (∃ a6 : Nat, fA M x0 0 1 a6 ∧ (∃ a10 : Nat, aA 4 M a6 x2 a10 ∧ (∃ a16 : Nat, fA M x1 5 2 a16 ∧ (∃ v20 : Int32, aI M a16 x2 v20 ∧ (hob M a10 2 ∧ (wpPr_isBeyond a10 v20 M (fun (r27 : Int32) (M25 : Hp) => ((r27 = 0 → (∀ z29 : Int32, z29 = x2 + 1 → ((wBT_limitsHold_2 post n) x0 x1 z29 M25))) ∧ (¬ r27 = 0 → (post (0 : Int32) M25)))))))))))))
set_option maxRecDepth 100000 in
set_option maxHeartbeats 4000000 in
theorem tBT_limitsHold_2 {p : Program} {l : Launch} {e : Env} {s : State} {m : MethodId} {args : Array Value} {below : List Frame} {meth : Method} {c : Code} {D : va_G} {κ : Nat → ClassId} {A : Nat → Prop} (C : Cx_BT_limitsHold p s m args meth c D κ A) (post : Int32 → Hp → Prop)  : ∀ (n : Nat) (x0 : Nat) (x1 : Nat) (x2 : Int32) (M : Hp), wBT_limitsHold_2 post n x0 x1 x2 M → Y p l e rm_BT_limitsHold s m args below meth c D kCl (hTys κ) A 3 0 0 (MQ below (va_Qi post (hB D kCl (hTys κ) A) A) args s 0 0 A) M 2 [(0, .ref x0), (1, .ref x1), (2, .int x2)] [] := by
  obtain ⟨hx, hb, hml, hr, hown, hts, hlocks, hE, hA⟩ := id C
  have hK := hE.1
  intro n
  induction n with
  | zero => intro x0 x1 x2 M hwp; exact hwp.elim
  | succ n ih =>
    intro x0 x1 x2 M hwp H locs ls hM hS hl
    unfold wBT_limitsHold_2 at hwp
    refine lv_iload_n hx hb d_BT_limitsHold_2 rfl (lv_at hl 2 rfl) ?_
    refine lv_aload_n hx hb d_BT_limitsHold_3 rfl (lv_at hl 0 rfl) ?_
    obtain ⟨v1, ⟨fs2, he3, hv4⟩, hwp⟩ := hwp
    refine h_get (C := "BuckTables") (T := Tc0) (N := 12) hx hb hts inc0 hown hK hM he3 rfl 4 (by decide) (hts _ kw_206) (fun _ h9 => h9) hv4 d_BT_limitsHold_4 ?_
    refine lv_icmp_ge (tgt := 36) hx hb d_BT_limitsHold_7 (by decide) (fun c5 => ?_) (fun c5 => ?_)
    · replace hwp := hwp.1 c5
      refine lv_iconst (v := 1) hx hb d_BT_limitsHold_36 (by decide) ?_
      exact W.zret (v := (1 : Int32)) hx hb hr (by decide) (fun t ht hW => ⟨⟨(1 : Int32), M, rfl, hwp, by show hw D kCl (hTys κ) A M t.heap; rw [ht]; exact hM⟩, hS.F ht⟩) hS.2.2 d_BT_limitsHold_37
    · replace hwp := hwp.2 c5
      refine lv_aload_n hx hb d_BT_limitsHold_10 rfl (lv_at hl 0 rfl) ?_
      obtain ⟨a6, ⟨fs7, he8, hv9⟩, hwp⟩ := hwp
      refine h_get (C := "BuckTables") (T := Tc0) (N := 12) hx hb hts inc0 hown hK hM he8 rfl 1 (by decide) (hts _ kw_203) (fun _ h9 => h9) hv9 d_BT_limitsHold_11 ?_
      refine lv_iload_n hx hb d_BT_limitsHold_14 rfl (lv_at hl 2 rfl) ?_
      obtain ⟨a10, ⟨n11, f12, ha13, hi14, hy15⟩, hwp⟩ := hwp
      refine h_aald hx hb hK hM ha13 rfl hi14 hy15 d_BT_limitsHold_15 ?_
      refine lv_aload_n hx hb d_BT_limitsHold_16 rfl (lv_at hl 1 rfl) ?_
      obtain ⟨a16, ⟨fs17, he18, hv19⟩, hwp⟩ := hwp
      refine h_get (C := "BuckTables$Plan") (T := Tc5) (N := 5) hx hb hts inc5 hown hK hM he18 rfl 2 (by decide) (hts _ kw_78) (fun _ h9 => h9) hv19 d_BT_limitsHold_17 ?_
      refine lv_iload_n hx hb d_BT_limitsHold_20 rfl (lv_at hl 2 rfl) ?_
      obtain ⟨v20, ⟨n21, f22, ha23, hi24, ev20⟩, hwp⟩ := hwp
      refine h_iald hx hb hK hM ha23 rfl hi24 d_BT_limitsHold_21 ?_
      rw [← ev20]
      obtain ⟨ho26, hwp⟩ := hwp
      refine h_calli hM hS hA (va_runV (As := [.int v20]) (rest := []) ⟨hx, hb, hml, hown, hts⟩ (metPr_isBeyond l D κ H.size a10 v20 M _ hwp) (cwV 1 hts (gV kw_596 kw_597 kw_598 kw_7 kw_599) rfl rfl rfl (by decide +kernel) ⟨(Nat.le_of_ble_eq_true rfl), (Nat.le_of_ble_eq_true rfl)⟩) (h_preV hE hM hS ho26 (r := ("BuckTables$Product", Tc2, 10)) rfl) rfl rfl hl.1 rfl (lv_room (Nat.le_of_ble_eq_true rfl)) d_BT_limitsHold_22 ⟨(Nat.le_of_ble_eq_true rfl), (Nat.le_of_ble_eq_true rfl)⟩) (fun r27 M25 H locs hwp hM hS => ?_)
      refine lv_if_eq (tgt := 30) hx hb d_BT_limitsHold_25 (by decide) (fun c28 => ?_) (fun c28 => ?_)
      · replace hwp := hwp.1 c28
        obtain ⟨z29, ez29⟩ : ∃ y : Int32, y = x2 + 1 := ⟨_, rfl⟩
        replace hwp := hwp z29 ez29
        refine lv_iinc (v := z29) (lv' := [(2, .int z29), (0, .ref x0), (1, .ref x1)]) hx hb d_BT_limitsHold_30 hl (k := 2) rfl (by rw [ez29]; rfl) (by decide) rfl (fun ls hl => ?_)
        refine lv_goto (tgt := 2) hx hb d_BT_limitsHold_33 (by decide) ?_
        exact ih x0 x1 z29 M25 hwp H locs ls hM hS (lv_sub hl [1, 2, 0] rfl)
      · replace hwp := hwp.2 c28
        refine lv_iconst (v := 0) hx hb d_BT_limitsHold_28 (by decide) ?_
        exact W.zret (v := (0 : Int32)) hx hb hr (by decide) (fun t ht hW => ⟨⟨(0 : Int32), M25, rfl, hwp, by show hw D kCl (hTys κ) A M25 t.heap; rw [ht]; exact hM⟩, hS.F ht⟩) hS.2.2 d_BT_limitsHold_29
def wpBT_limitsHold (self : Nat) (p0 : Nat) (M : Hp) (post : Int32 → Hp → Prop) : Prop := (∃ n30 : Nat, wBT_limitsHold_2 post n30 self p0 (0 : Int32) M)
set_option maxRecDepth 100000 in
set_option maxHeartbeats 4000000 in
theorem eBT_limitsHold {p : Program} {l : Launch} {e : Env} {s : State} {m : MethodId} {args : Array Value} {below : List Frame} {meth : Method} {c : Code} {D : va_G} {κ : Nat → ClassId} {A : Nat → Prop} (C : Cx_BT_limitsHold p s m args meth c D κ A) (post : Int32 → Hp → Prop) (self : Nat) (p0 : Nat) (M : Hp) (hwp : wpBT_limitsHold self p0 M post) : Y p l e rm_BT_limitsHold s m args below meth c D kCl (hTys κ) A 3 0 0 (MQ below (va_Qi post (hB D kCl (hTys κ) A) A) args s 0 0 A) M 0 [(0, .ref self), (1, .ref p0)] [] := by
  obtain ⟨hx, hb, hml, hr, hown, hts, hlocks, hE, hA⟩ := id C
  have hK := hE.1
  intro H locs ls hM hS hl
  unfold wpBT_limitsHold at hwp
  refine lv_iconst (v := 0) hx hb d_BT_limitsHold_0 (by decide) ?_
  refine lv_istore_n (lv' := [(2, .int (0 : Int32)), (0, .ref self), (1, .ref p0)]) hx hb d_BT_limitsHold_1 rfl hl (by decide) rfl (fun ls hl => ?_)
  obtain ⟨n30, hwp⟩ := hwp
  exact tBT_limitsHold_2 C post n30 self p0 (0 : Int32) M hwp H locs ls hM hS (lv_sub hl [1, 2, 0] rfl)
set_option maxRecDepth 100000 in
set_option maxHeartbeats 4000000 in
theorem metBT_limitsHold (l : Launch) (D : va_G) (κ : Nat → ClassId) (sz : Nat) (self : Nat) (p0 : Nat) (M : Hp) (post : Int32 → Hp → Prop) (hwp : wpBT_limitsHold self p0 M post) : Met l y_BT_limitsHold ws_BT_limitsHold rm_BT_limitsHold (hPc D kCl (hTys κ) M sz [.ref self, .ref p0]) (va_Qi post (hB D kCl (hTys κ) (hAx M sz)) (hAx M sz)) 0 0 (hAx M sz) := by
  refine Met.ofW (cc := prog_1_method_34_code) (maxL := 3) (ret := (some .boolean)) (by decide +kernel) rfl ?_
  intro p e s m args below meth c s₁ B hml hv
  obtain ⟨rfl, hsz, hE, hM0⟩ := hv
  have hts : ∀ w ∈ WG, w.before _ s = true := fun w h => atoms_spec (ws := ws_BT_limitsHold) B.pre w (List.mem_cons_of_mem _ h)
  subst hsz
  have C : Cx_BT_limitsHold p s m _ meth c D κ (hAx M s.heap.size) := ⟨B.exec, B.bytes, hml, B.returns, findClass_of_methodNamed B.named, hts, B.notSynchronized, hE, fun q h => Or.inr h⟩
  have hl := lv_entry ([.ref self, .ref p0]) (n := 3) (Nat.le_of_ble_eq_true rfl)
  rw [lg_entry_eq]
  generalize (lg_sl ([.ref self, .ref p0]) ++ List.replicate (3 - (lg_sl ([.ref self, .ref p0])).length) Slot.unset).toArray = ls at hl ⊢
  exact eBT_limitsHold C post self p0 M hwp s.heap [] ls (hM0.self (sz := s.heap.size)) va_S.rf hl
abbrev rm_BT_pricesAreUsed : Room := { frames := 0, cells := 0, slots := 0, locals := 0 }
def Cx_BT_pricesAreUsed (p : Program) (s : State) (m : MethodId) (args : Array Value) (meth : Method) (c : Code) (D : va_G) (κ : Nat → ClassId) (A : Nat → Prop) : Prop := p.tables.exec = Jvm.exec ∧ c.code = prog_1_method_35_code ∧ c.maxLocals = 4 ∧ meth.sig.returnType = (some .boolean) ∧ s.vm.findClass "BuckTables" = some m.cls ∧ (∀ w ∈ WG, w.before args s = true) ∧ meth.locks = false ∧ hEnv D kCl (hTys κ) A s ∧ (∀ q, s.heap.size ≤ q → A q)
def wBT_pricesAreUsed_43 (post : Int32 → Hp → Prop) (k2 : Nat → Nat → Int32 → Hp → Prop) (x0 : Nat) (x1 : Nat) (x2 : Int32) (M : Hp) : Prop := (∀ z1 : Int32, z1 = x2 + 1 → (k2 x0 x1 z1 M))
set_option maxRecDepth 100000 in
set_option maxHeartbeats 4000000 in
theorem tBT_pricesAreUsed_43 {p : Program} {l : Launch} {e : Env} {s : State} {m : MethodId} {args : Array Value} {below : List Frame} {meth : Method} {c : Code} {D : va_G} {κ : Nat → ClassId} {A : Nat → Prop} (C : Cx_BT_pricesAreUsed p s m args meth c D κ A) (post : Int32 → Hp → Prop) (k2 : Nat → Nat → Int32 → Hp → Prop) (hk2 : ∀ (x0 : Nat) (x1 : Nat) (x2 : Int32) (M : Hp), k2 x0 x1 x2 M → Y p l e rm_BT_pricesAreUsed s m args below meth c D kCl (hTys κ) A 4 0 0 (MQ below (va_Qi post (hB D kCl (hTys κ) A) A) args s 0 0 A) M 2 [(0, .ref x0), (1, .ref x1), (2, .int x2)] []) (x0 : Nat) (x1 : Nat) (x2 : Int32) (M : Hp) (hwp : wBT_pricesAreUsed_43 post k2 x0 x1 x2 M) : Y p l e rm_BT_pricesAreUsed s m args below meth c D kCl (hTys κ) A 4 0 0 (MQ below (va_Qi post (hB D kCl (hTys κ) A) A) args s 0 0 A) M 43 [(0, .ref x0), (1, .ref x1), (2, .int x2)] [] := by
  obtain ⟨hx, hb, hml, hr, hown, hts, hlocks, hE, hA⟩ := id C
  have hK := hE.1
  intro H locs ls hM hS hl
  unfold wBT_pricesAreUsed_43 at hwp
  obtain ⟨z1, ez1⟩ : ∃ y : Int32, y = x2 + 1 := ⟨_, rfl⟩
  replace hwp := hwp z1 ez1
  refine lv_iinc (v := z1) (lv' := [(2, .int z1), (0, .ref x0), (1, .ref x1)]) hx hb d_BT_pricesAreUsed_43 hl (k := 2) rfl (by rw [ez1]; rfl) (by decide) rfl (fun ls hl => ?_)
  refine lv_goto (tgt := 2) hx hb d_BT_pricesAreUsed_46 (by decide) ?_
  exact hk2 x0 x1 z1 M hwp H locs ls hM hS (lv_sub hl [1, 2, 0] rfl)
def wBT_pricesAreUsed_2 (post : Int32 → Hp → Prop)  : Nat → Nat → Nat → Int32 → Hp → Prop
  | 0 => fun _ _ _ _ => False
  | n + 1 => fun x0 x1 x2 M => (∃ v2 : Int32, fI M x0 0 4 v2 ∧ ((v2 ≤ x2 → (post (1 : Int32) M)) ∧ (¬ v2 ≤ x2 → (∃ a7 : Nat, fA M x0 0 1 a7 ∧ (∃ a11 : Nat, aA 4 M a7 x2 a11 ∧ (∃ v17 : Int64, fJ M a11 2 9 v17 ∧ ((v17 ≤ (0 : Int64) → (wBT_pricesAreUsed_43 post (wBT_pricesAreUsed_2 post n) x0 x1 x2 M)) ∧ (¬ v17 ≤ (0 : Int64) → (∃ a22 : Nat, fA M x1 5 2 a22 ∧ (∃ v26 : Int32, aI M a22 x2 v26 ∧ (∃ v31 : Int64, fJ M a11 2 8 v31 ∧ (((v26.toInt64) = v31 → (wBT_pricesAreUsed_43 post (wBT_pricesAreUsed_2 post n) x0 x1 x2 M)) ∧ (¬ (v26.toInt64) = v31 → (post (0 : Int32) M))))))))))))))
set_option maxRecDepth 100000 in
set_option maxHeartbeats 4000000 in
theorem tBT_pricesAreUsed_2 {p : Program} {l : Launch} {e : Env} {s : State} {m : MethodId} {args : Array Value} {below : List Frame} {meth : Method} {c : Code} {D : va_G} {κ : Nat → ClassId} {A : Nat → Prop} (C : Cx_BT_pricesAreUsed p s m args meth c D κ A) (post : Int32 → Hp → Prop)  : ∀ (n : Nat) (x0 : Nat) (x1 : Nat) (x2 : Int32) (M : Hp), wBT_pricesAreUsed_2 post n x0 x1 x2 M → Y p l e rm_BT_pricesAreUsed s m args below meth c D kCl (hTys κ) A 4 0 0 (MQ below (va_Qi post (hB D kCl (hTys κ) A) A) args s 0 0 A) M 2 [(0, .ref x0), (1, .ref x1), (2, .int x2)] [] := by
  obtain ⟨hx, hb, hml, hr, hown, hts, hlocks, hE, hA⟩ := id C
  have hK := hE.1
  intro n
  induction n with
  | zero => intro x0 x1 x2 M hwp; exact hwp.elim
  | succ n ih =>
    intro x0 x1 x2 M hwp H locs ls hM hS hl
    unfold wBT_pricesAreUsed_2 at hwp
    refine lv_iload_n hx hb d_BT_pricesAreUsed_2 rfl (lv_at hl 2 rfl) ?_
    refine lv_aload_n hx hb d_BT_pricesAreUsed_3 rfl (lv_at hl 0 rfl) ?_
    obtain ⟨v2, ⟨fs3, he4, hv5⟩, hwp⟩ := hwp
    refine h_get (C := "BuckTables") (T := Tc0) (N := 12) hx hb hts inc0 hown hK hM he4 rfl 4 (by decide) (hts _ kw_206) (fun _ h9 => h9) hv5 d_BT_pricesAreUsed_4 ?_
    refine lv_icmp_ge (tgt := 49) hx hb d_BT_pricesAreUsed_7 (by decide) (fun c6 => ?_) (fun c6 => ?_)
    · replace hwp := hwp.1 c6
      refine lv_iconst (v := 1) hx hb d_BT_pricesAreUsed_49 (by decide) ?_
      exact W.zret (v := (1 : Int32)) hx hb hr (by decide) (fun t ht hW => ⟨⟨(1 : Int32), M, rfl, hwp, by show hw D kCl (hTys κ) A M t.heap; rw [ht]; exact hM⟩, hS.F ht⟩) hS.2.2 d_BT_pricesAreUsed_50
    · replace hwp := hwp.2 c6
      refine lv_aload_n hx hb d_BT_pricesAreUsed_10 rfl (lv_at hl 0 rfl) ?_
      obtain ⟨a7, ⟨fs8, he9, hv10⟩, hwp⟩ := hwp
      refine h_get (C := "BuckTables") (T := Tc0) (N := 12) hx hb hts inc0 hown hK hM he9 rfl 1 (by decide) (hts _ kw_203) (fun _ h9 => h9) hv10 d_BT_pricesAreUsed_11 ?_
      refine lv_iload_n hx hb d_BT_pricesAreUsed_14 rfl (lv_at hl 2 rfl) ?_
      obtain ⟨a11, ⟨n12, f13, ha14, hi15, hy16⟩, hwp⟩ := hwp
      refine h_aald hx hb hK hM ha14 rfl hi15 hy16 d_BT_pricesAreUsed_15 ?_
      refine lv_astore_n (lv' := [(3, .ref a11), (0, .ref x0), (1, .ref x1), (2, .int x2)]) hx hb d_BT_pricesAreUsed_16 rfl hl (by decide) rfl (fun ls hl => ?_)
      refine lv_aload_n hx hb d_BT_pricesAreUsed_17 rfl (lv_at hl 0 rfl) ?_
      obtain ⟨v17, ⟨fs18, he19, hv20⟩, hwp⟩ := hwp
      refine h_get (C := "BuckTables$Product") (T := Tc2) (N := 10) hx hb hts inc2 hown hK hM he19 rfl 9 (by decide) (hts _ kw_180) (fun _ h9 => h9) hv20 d_BT_pricesAreUsed_18 ?_
      refine lv_lconst (v := 0) hx hb d_BT_pricesAreUsed_21 (by decide) ?_
      refine W.lcmp hx hb d_BT_pricesAreUsed_22 ?_
      refine lv_if_le (tgt := 43) hx hb d_BT_pricesAreUsed_23 (by decide) (fun c21 => ?_) (fun c21 => ?_)
      · replace c21 := (lc_le _ _).mp c21
        replace hwp := hwp.1 c21
        exact tBT_pricesAreUsed_43 C post (wBT_pricesAreUsed_2 post n) ih x0 x1 x2 M hwp H locs ls hM hS (lv_sub hl [1, 2, 3] rfl)
      · replace c21 := fun h9 => c21 ((lc_le _ _).mpr h9)
        replace hwp := hwp.2 c21
        refine lv_aload_n hx hb d_BT_pricesAreUsed_26 rfl (lv_at hl 2 rfl) ?_
        obtain ⟨a22, ⟨fs23, he24, hv25⟩, hwp⟩ := hwp
        refine h_get (C := "BuckTables$Plan") (T := Tc5) (N := 5) hx hb hts inc5 hown hK hM he24 rfl 2 (by decide) (hts _ kw_78) (fun _ h9 => h9) hv25 d_BT_pricesAreUsed_27 ?_
        refine lv_iload_n hx hb d_BT_pricesAreUsed_30 rfl (lv_at hl 3 rfl) ?_
        obtain ⟨v26, ⟨n27, f28, ha29, hi30, ev26⟩, hwp⟩ := hwp
        refine h_iald hx hb hK hM ha29 rfl hi30 d_BT_pricesAreUsed_31 ?_
        rw [← ev26]
        refine lv_i2l hx hb d_BT_pricesAreUsed_32 rfl ?_
        refine lv_aload_n hx hb d_BT_pricesAreUsed_33 rfl (lv_at hl 0 rfl) ?_
        obtain ⟨v31, ⟨fs32, he33, hv34⟩, hwp⟩ := hwp
        refine h_get (C := "BuckTables$Product") (T := Tc2) (N := 10) hx hb hts inc2 hown hK hM he33 rfl 8 (by decide) (hts _ kw_177) (fun _ h9 => h9) hv34 d_BT_pricesAreUsed_34 ?_
        refine W.lcmp hx hb d_BT_pricesAreUsed_37 ?_
        refine lv_if_eq (tgt := 43) hx hb d_BT_pricesAreUsed_38 (by decide) (fun c35 => ?_) (fun c35 => ?_)
        · replace c35 := (lc_eq _ _).mp c35
          replace hwp := hwp.1 c35
          exact tBT_pricesAreUsed_43 C post (wBT_pricesAreUsed_2 post n) ih x0 x1 x2 M hwp H locs ls hM hS (lv_sub hl [1, 2, 3] rfl)
        · replace c35 := fun h9 => c35 ((lc_eq _ _).mpr h9)
          replace hwp := hwp.2 c35
          refine lv_iconst (v := 0) hx hb d_BT_pricesAreUsed_41 (by decide) ?_
          exact W.zret (v := (0 : Int32)) hx hb hr (by decide) (fun t ht hW => ⟨⟨(0 : Int32), M, rfl, hwp, by show hw D kCl (hTys κ) A M t.heap; rw [ht]; exact hM⟩, hS.F ht⟩) hS.2.2 d_BT_pricesAreUsed_42
def wpBT_pricesAreUsed (self : Nat) (p0 : Nat) (M : Hp) (post : Int32 → Hp → Prop) : Prop := (∃ n36 : Nat, wBT_pricesAreUsed_2 post n36 self p0 (0 : Int32) M)
set_option maxRecDepth 100000 in
set_option maxHeartbeats 4000000 in
theorem eBT_pricesAreUsed {p : Program} {l : Launch} {e : Env} {s : State} {m : MethodId} {args : Array Value} {below : List Frame} {meth : Method} {c : Code} {D : va_G} {κ : Nat → ClassId} {A : Nat → Prop} (C : Cx_BT_pricesAreUsed p s m args meth c D κ A) (post : Int32 → Hp → Prop) (self : Nat) (p0 : Nat) (M : Hp) (hwp : wpBT_pricesAreUsed self p0 M post) : Y p l e rm_BT_pricesAreUsed s m args below meth c D kCl (hTys κ) A 4 0 0 (MQ below (va_Qi post (hB D kCl (hTys κ) A) A) args s 0 0 A) M 0 [(0, .ref self), (1, .ref p0)] [] := by
  obtain ⟨hx, hb, hml, hr, hown, hts, hlocks, hE, hA⟩ := id C
  have hK := hE.1
  intro H locs ls hM hS hl
  unfold wpBT_pricesAreUsed at hwp
  refine lv_iconst (v := 0) hx hb d_BT_pricesAreUsed_0 (by decide) ?_
  refine lv_istore_n (lv' := [(2, .int (0 : Int32)), (0, .ref self), (1, .ref p0)]) hx hb d_BT_pricesAreUsed_1 rfl hl (by decide) rfl (fun ls hl => ?_)
  obtain ⟨n36, hwp⟩ := hwp
  exact tBT_pricesAreUsed_2 C post n36 self p0 (0 : Int32) M hwp H locs ls hM hS (lv_sub hl [1, 2, 0] rfl)
set_option maxRecDepth 100000 in
set_option maxHeartbeats 4000000 in
theorem metBT_pricesAreUsed (l : Launch) (D : va_G) (κ : Nat → ClassId) (sz : Nat) (self : Nat) (p0 : Nat) (M : Hp) (post : Int32 → Hp → Prop) (hwp : wpBT_pricesAreUsed self p0 M post) : Met l y_BT_pricesAreUsed ws_BT_pricesAreUsed rm_BT_pricesAreUsed (hPc D kCl (hTys κ) M sz [.ref self, .ref p0]) (va_Qi post (hB D kCl (hTys κ) (hAx M sz)) (hAx M sz)) 0 0 (hAx M sz) := by
  refine Met.ofW (cc := prog_1_method_35_code) (maxL := 4) (ret := (some .boolean)) (by decide +kernel) rfl ?_
  intro p e s m args below meth c s₁ B hml hv
  obtain ⟨rfl, hsz, hE, hM0⟩ := hv
  have hts : ∀ w ∈ WG, w.before _ s = true := fun w h => atoms_spec (ws := ws_BT_pricesAreUsed) B.pre w (List.mem_cons_of_mem _ h)
  subst hsz
  have C : Cx_BT_pricesAreUsed p s m _ meth c D κ (hAx M s.heap.size) := ⟨B.exec, B.bytes, hml, B.returns, findClass_of_methodNamed B.named, hts, B.notSynchronized, hE, fun q h => Or.inr h⟩
  have hl := lv_entry ([.ref self, .ref p0]) (n := 4) (Nat.le_of_ble_eq_true rfl)
  rw [lg_entry_eq]
  generalize (lg_sl ([.ref self, .ref p0]) ++ List.replicate (4 - (lg_sl ([.ref self, .ref p0])).length) Slot.unset).toArray = ls at hl ⊢
  exact eBT_pricesAreUsed C post self p0 M hwp s.heap [] ls (hM0.self (sz := s.heap.size)) va_S.rf hl
abbrev rm_BT_keepTrial : Room := { frames := 0, cells := 0, slots := 0, locals := 0 }
def Cx_BT_keepTrial (p : Program) (s : State) (m : MethodId) (args : Array Value) (meth : Method) (c : Code) (D : va_G) (κ : Nat → ClassId) (A : Nat → Prop) : Prop := p.tables.exec = Jvm.exec ∧ c.code = prog_1_method_30_code ∧ c.maxLocals = 2 ∧ meth.sig.returnType = none ∧ s.vm.findClass "BuckTables" = some m.cls ∧ (∀ w ∈ WG, w.before args s = true) ∧ meth.locks = false ∧ hEnv D kCl (hTys κ) A s ∧ (∀ q, s.heap.size ≤ q → A q)
def wpBT_keepTrial (self : Nat) (M : Hp) (post : Hp → Prop) : Prop := (∃ a1 : Nat, fA M self 0 7 a1 ∧ (∃ a5 : Nat, fA M self 0 8 a5 ∧ (∃ M9 : Hp, pF M self 0 7 (.ref a5) M9 ∧ (∃ M13 : Hp, pF M9 self 0 8 (.ref a1) M13 ∧ (post M13)))))
set_option maxRecDepth 100000 in
set_option maxHeartbeats 4000000 in
theorem eBT_keepTrial {p : Program} {l : Launch} {e : Env} {s : State} {m : MethodId} {args : Array Value} {below : List Frame} {meth : Method} {c : Code} {D : va_G} {κ : Nat → ClassId} {A : Nat → Prop} (C : Cx_BT_keepTrial p s m args meth c D κ A) (post : Hp → Prop) (self : Nat) (M : Hp) (hwp : wpBT_keepTrial self M post) : Y p l e rm_BT_keepTrial s m args below meth c D kCl (hTys κ) A 2 0 0 (MQ below (va_Qv post (hB D kCl (hTys κ) A) A) args s 0 0 A) M 0 [(0, .ref self)] [] := by
  obtain ⟨hx, hb, hml, hr, hown, hts, hlocks, hE, hA⟩ := id C
  have hK := hE.1
  intro H locs ls hM hS hl
  unfold wpBT_keepTrial at hwp
  refine lv_aload_n hx hb d_BT_keepTrial_0 rfl (lv_at hl 0 rfl) ?_
  obtain ⟨a1, ⟨fs2, he3, hv4⟩, hwp⟩ := hwp
  refine h_get (C := "BuckTables") (T := Tc0) (N := 12) hx hb hts inc0 hown hK hM he3 rfl 7 (by decide) (hts _ kw_209) (fun _ h9 => h9) hv4 d_BT_keepTrial_1 ?_
  refine lv_astore_n (lv' := [(1, .ref a1), (0, .ref self)]) hx hb d_BT_keepTrial_4 rfl hl (by decide) rfl (fun ls hl => ?_)
  refine lv_aload_n hx hb d_BT_keepTrial_5 rfl (lv_at hl 1 rfl) ?_
  refine lv_aload_n hx hb d_BT_keepTrial_6 rfl (lv_at hl 1 rfl) ?_
  obtain ⟨a5, ⟨fs6, he7, hv8⟩, hwp⟩ := hwp
  refine h_get (C := "BuckTables") (T := Tc0) (N := 12) hx hb hts inc0 hown hK hM he7 rfl 8 (by decide) (hts _ kw_210) (fun _ h9 => h9) hv8 d_BT_keepTrial_7 ?_
  obtain ⟨M9, ⟨fs10, he11, hl12, eM9⟩, hwp⟩ := hwp
  refine h_put (C := "BuckTables") (T := Tc0) (N := 12) (v := .ref a5) (ty := .object "BuckTables$Plan") hx hb hts inc0 tyc0 tyc0_ok nmc0 hown hK hM hS he11 rfl 7 (by decide) (hts _ kw_209) (fun _ h9 => h9) rfl (by decide +kernel) rfl rfl hl12 d_BT_keepTrial_10 (fun H locs hM hS => ?_)
  rw [← eM9] at hM
  refine lv_aload_n hx hb d_BT_keepTrial_13 rfl (lv_at hl 1 rfl) ?_
  refine lv_aload_n hx hb d_BT_keepTrial_14 rfl (lv_at hl 0 rfl) ?_
  obtain ⟨M13, ⟨fs14, he15, hl16, eM13⟩, hwp⟩ := hwp
  refine h_put (C := "BuckTables") (T := Tc0) (N := 12) (v := .ref a1) (ty := .object "BuckTables$Plan") hx hb hts inc0 tyc0 tyc0_ok nmc0 hown hK hM hS he15 rfl 8 (by decide) (hts _ kw_210) (fun _ h9 => h9) rfl (by decide +kernel) rfl rfl hl16 d_BT_keepTrial_15 (fun H locs hM hS => ?_)
  rw [← eM13] at hM
  exact W.vret hx hb hr (fun t ht hW => ⟨⟨M13, rfl, hwp, by show hw D kCl (hTys κ) A M13 t.heap; rw [ht]; exact hM⟩, hS.F ht⟩) hS.2.2 d_BT_keepTrial_18
set_option maxRecDepth 100000 in
set_option maxHeartbeats 4000000 in
theorem metBT_keepTrial (l : Launch) (D : va_G) (κ : Nat → ClassId) (sz : Nat) (self : Nat) (M : Hp) (post : Hp → Prop) (hwp : wpBT_keepTrial self M post) : Met l y_BT_keepTrial ws_BT_keepTrial rm_BT_keepTrial (hPc D kCl (hTys κ) M sz [.ref self]) (va_Qv post (hB D kCl (hTys κ) (hAx M sz)) (hAx M sz)) 0 0 (hAx M sz) := by
  refine Met.ofW (cc := prog_1_method_30_code) (maxL := 2) (ret := none) (by decide +kernel) rfl ?_
  intro p e s m args below meth c s₁ B hml hv
  obtain ⟨rfl, hsz, hE, hM0⟩ := hv
  have hts : ∀ w ∈ WG, w.before _ s = true := fun w h => atoms_spec (ws := ws_BT_keepTrial) B.pre w (List.mem_cons_of_mem _ h)
  subst hsz
  have C : Cx_BT_keepTrial p s m _ meth c D κ (hAx M s.heap.size) := ⟨B.exec, B.bytes, hml, B.returns, findClass_of_methodNamed B.named, hts, B.notSynchronized, hE, fun q h => Or.inr h⟩
  have hl := lv_entry ([.ref self]) (n := 2) (Nat.le_of_ble_eq_true rfl)
  rw [lg_entry_eq]
  generalize (lg_sl ([.ref self]) ++ List.replicate (2 - (lg_sl ([.ref self])).length) Slot.unset).toArray = ls at hl ⊢
  exact eBT_keepTrial C post self M hwp s.heap [] ls (hM0.self (sz := s.heap.size)) va_S.rf hl
abbrev rm_Pl_tellLog : Room := { frames := 0, cells := 0, slots := 0, locals := 0 }
def Cx_Pl_tellLog (p : Program) (s : State) (m : MethodId) (args : Array Value) (meth : Method) (c : Code) (D : va_G) (κ : Nat → ClassId) (A : Nat → Prop) : Prop := p.tables.exec = Jvm.exec ∧ c.code = prog_3_method_7_code ∧ c.maxLocals = 3 ∧ meth.sig.returnType = (some .int) ∧ s.vm.findClass "BuckTables$Plan" = some m.cls ∧ (∀ w ∈ WG, w.before args s = true) ∧ meth.locks = false ∧ hEnv D kCl (hTys κ) A s ∧ (∀ q, s.heap.size ≤ q → A q)
def wpPl_tellLog (self : Nat) (p0 : Int32) (p1 : Int32) (M : Hp) (post : Int32 → Hp → Prop) : Prop := (∃ a1 : Nat, fA M self 5 0 a1 ∧ (∃ v5 : Int32, aI M a1 ((p0 * (5 : Int32)) + p1) v5 ∧ (post v5 M)))
set_option maxRecDepth 100000 in
set_option maxHeartbeats 4000000 in
theorem ePl_tellLog {p : Program} {l : Launch} {e : Env} {s : State} {m : MethodId} {args : Array Value} {below : List Frame} {meth : Method} {c : Code} {D : va_G} {κ : Nat → ClassId} {A : Nat → Prop} (C : Cx_Pl_tellLog p s m args meth c D κ A) (post : Int32 → Hp → Prop) (self : Nat) (p0 : Int32) (p1 : Int32) (M : Hp) (hwp : wpPl_tellLog self p0 p1 M post) : Y p l e rm_Pl_tellLog s m args below meth c D kCl (hTys κ) A 3 0 0 (MQ below (va_Qi post (hB D kCl (hTys κ) A) A) args s 0 0 A) M 0 [(0, .ref self), (1, .int p0), (2, .int p1)] [] := by
  obtain ⟨hx, hb, hml, hr, hown, hts, hlocks, hE, hA⟩ := id C
  have hK := hE.1
  intro H locs ls hM hS hl
  unfold wpPl_tellLog at hwp
  refine lv_aload_n hx hb d_Pl_tellLog_0 rfl (lv_at hl 0 rfl) ?_
  obtain ⟨a1, ⟨fs2, he3, hv4⟩, hwp⟩ := hwp
  refine h_get (C := "BuckTables$Plan") (T := Tc5) (N := 5) hx hb hts inc5 hown hK hM he3 rfl 0 (by decide) (hts _ kw_75) (fun _ h9 => h9) hv4 d_Pl_tellLog_1 ?_
  refine lv_iload_n hx hb d_Pl_tellLog_4 rfl (lv_at hl 1 rfl) ?_
  refine lv_iconst (v := 5) hx hb d_Pl_tellLog_5 (by decide) ?_
  refine lv_imul hx hb d_Pl_tellLog_6 ?_
  refine lv_iload_n hx hb d_Pl_tellLog_7 rfl (lv_at hl 2 rfl) ?_
  refine lv_iadd hx hb d_Pl_tellLog_8 ?_
  obtain ⟨v5, ⟨n6, f7, ha8, hi9, ev5⟩, hwp⟩ := hwp
  refine h_iald hx hb hK hM ha8 rfl hi9 d_Pl_tellLog_9 ?_
  rw [← ev5]
  exact W.iret (v := v5) hx hb hr (fun t ht hW => ⟨⟨v5, M, rfl, hwp, by show hw D kCl (hTys κ) A M t.heap; rw [ht]; exact hM⟩, hS.F ht⟩) hS.2.2 d_Pl_tellLog_10
set_option maxRecDepth 100000 in
set_option maxHeartbeats 4000000 in
theorem metPl_tellLog (l : Launch) (D : va_G) (κ : Nat → ClassId) (sz : Nat) (self : Nat) (p0 : Int32) (p1 : Int32) (M : Hp) (post : Int32 → Hp → Prop) (hwp : wpPl_tellLog self p0 p1 M post) : Met l y_Pl_tellLog ws_Pl_tellLog rm_Pl_tellLog (hPc D kCl (hTys κ) M sz [.ref self, .int p0, .int p1]) (va_Qi post (hB D kCl (hTys κ) (hAx M sz)) (hAx M sz)) 0 0 (hAx M sz) := by
  refine Met.ofW (cc := prog_3_method_7_code) (maxL := 3) (ret := (some .int)) (by decide +kernel) rfl ?_
  intro p e s m args below meth c s₁ B hml hv
  obtain ⟨rfl, hsz, hE, hM0⟩ := hv
  have hts : ∀ w ∈ WG, w.before _ s = true := fun w h => atoms_spec (ws := ws_Pl_tellLog) B.pre w (List.mem_cons_of_mem _ h)
  subst hsz
  have C : Cx_Pl_tellLog p s m _ meth c D κ (hAx M s.heap.size) := ⟨B.exec, B.bytes, hml, B.returns, findClass_of_methodNamed B.named, hts, B.notSynchronized, hE, fun q h => Or.inr h⟩
  have hl := lv_entry ([.ref self, .int p0, .int p1]) (n := 3) (Nat.le_of_ble_eq_true rfl)
  rw [lg_entry_eq]
  generalize (lg_sl ([.ref self, .int p0, .int p1]) ++ List.replicate (3 - (lg_sl ([.ref self, .int p0, .int p1])).length) Slot.unset).toArray = ls at hl ⊢
  exact ePl_tellLog C post self p0 p1 M hwp s.heap [] ls (hM0.self (sz := s.heap.size)) va_S.rf hl
abbrev rm_Pl_closeGaps : Room := { frames := 1, cells := 0, slots := 0, locals := 100 }
def Cx_Pl_closeGaps (p : Program) (s : State) (m : MethodId) (args : Array Value) (meth : Method) (c : Code) (D : va_G) (κ : Nat → ClassId) (A : Nat → Prop) : Prop := p.tables.exec = Jvm.exec ∧ c.code = prog_3_method_6_code ∧ c.maxLocals = 3 ∧ meth.sig.returnType = none ∧ s.vm.findClass "BuckTables$Plan" = some m.cls ∧ (∀ w ∈ WG, w.before args s = true) ∧ meth.locks = false ∧ hEnv D kCl (hTys κ) A s ∧ (∀ q, s.heap.size ≤ q → A q)
def wPl_closeGaps_43 (post : Hp → Prop) (k4 : Nat → Int32 → Int32 → Hp → Prop) (x0 : Nat) (x1 : Int32) (x2 : Int32) (M : Hp) : Prop := (∀ z1 : Int32, z1 = x2 + 1 → (k4 x0 x1 z1 M))
set_option maxRecDepth 100000 in
set_option maxHeartbeats 4000000 in
theorem tPl_closeGaps_43 {p : Program} {l : Launch} {e : Env} {s : State} {m : MethodId} {args : Array Value} {below : List Frame} {meth : Method} {c : Code} {D : va_G} {κ : Nat → ClassId} {A : Nat → Prop} (C : Cx_Pl_closeGaps p s m args meth c D κ A) (post : Hp → Prop) (k4 : Nat → Int32 → Int32 → Hp → Prop) (hk4 : ∀ (x0 : Nat) (x1 : Int32) (x2 : Int32) (M : Hp), k4 x0 x1 x2 M → Y p l e rm_Pl_closeGaps s m args below meth c D kCl (hTys κ) A 3 0 0 (MQ below (va_Qv post (hB D kCl (hTys κ) A) A) args s 0 0 A) M 4 [(0, .ref x0), (1, .int x1), (2, .int x2)] []) (x0 : Nat) (x1 : Int32) (x2 : Int32) (M : Hp) (hwp : wPl_closeGaps_43 post k4 x0 x1 x2 M) : Y p l e rm_Pl_closeGaps s m args below meth c D kCl (hTys κ) A 3 0 0 (MQ below (va_Qv post (hB D kCl (hTys κ) A) A) args s 0 0 A) M 43 [(0, .ref x0), (1, .int x1), (2, .int x2)] [] := by
  obtain ⟨hx, hb, hml, hr, hown, hts, hlocks, hE, hA⟩ := id C
  have hK := hE.1
  intro H locs ls hM hS hl
  unfold wPl_closeGaps_43 at hwp
  obtain ⟨z1, ez1⟩ : ∃ y : Int32, y = x2 + 1 := ⟨_, rfl⟩
  replace hwp := hwp z1 ez1
  refine lv_iinc (v := z1) (lv' := [(2, .int z1), (0, .ref x0), (1, .int x1)]) hx hb d_Pl_closeGaps_43 hl (k := 2) rfl (by rw [ez1]; rfl) (by decide) rfl (fun ls hl => ?_)
  refine lv_goto (tgt := 4) hx hb d_Pl_closeGaps_46 (by decide) ?_
  exact hk4 x0 x1 z1 M hwp H locs ls hM hS (lv_sub hl [1, 2, 0] rfl)
def wPl_closeGaps_4 (post : Hp → Prop)  : Nat → Nat → Int32 → Int32 → Hp → Prop
  | 0 => fun _ _ _ _ => False
  | n + 1 => fun x0 x1 x2 M => (∃ v2 : Int32, fI M x0 5 3 v2 ∧ ((v2 ≤ x2 → (∃ M7 : Hp, pF M x0 5 3 (.int x1) M7 ∧ (post M7))) ∧ (¬ v2 ≤ x2 → (hob M x0 5 ∧ (wpPl_tellLog x0 x2 (3 : Int32) M (fun (r13 : Int32) (M11 : Hp) => ((r13 = (-1 : Int32) → (wPl_closeGaps_43 post (wPl_closeGaps_4 post n) x0 x1 x2 M11)) ∧ (¬ r13 = (-1 : Int32) → (∃ a15 : Nat, fA M11 x0 5 0 a15 ∧ (∃ a19 : Nat, fA M11 x0 5 0 a19 ∧ (∃ M23 : Hp, cI M11 a15 (x2 * (5 : Int32)) a19 (x1 * (5 : Int32)) (5 : Int32) M23 ∧ (∀ z25 : Int32, z25 = x1 + 1 → (wPl_closeGaps_43 post (wPl_closeGaps_4 post n) x0 z25 x2 M23)))))))))))))
set_option maxRecDepth 100000 in
set_option maxHeartbeats 4000000 in
theorem tPl_closeGaps_4 {p : Program} {l : Launch} {e : Env} {s : State} {m : MethodId} {args : Array Value} {below : List Frame} {meth : Method} {c : Code} {D : va_G} {κ : Nat → ClassId} {A : Nat → Prop} (C : Cx_Pl_closeGaps p s m args meth c D κ A) (post : Hp → Prop)  : ∀ (n : Nat) (x0 : Nat) (x1 : Int32) (x2 : Int32) (M : Hp), wPl_closeGaps_4 post n x0 x1 x2 M → Y p l e rm_Pl_closeGaps s m args below meth c D kCl (hTys κ) A 3 0 0 (MQ below (va_Qv post (hB D kCl (hTys κ) A) A) args s 0 0 A) M 4 [(0, .ref x0), (1, .int x1), (2, .int x2)] [] := by
  obtain ⟨hx, hb, hml, hr, hown, hts, hlocks, hE, hA⟩ := id C
  have hK := hE.1
  intro n
  induction n with
  | zero => intro x0 x1 x2 M hwp; exact hwp.elim
  | succ n ih =>
    intro x0 x1 x2 M hwp H locs ls hM hS hl
    unfold wPl_closeGaps_4 at hwp
    refine lv_iload_n hx hb d_Pl_closeGaps_4 rfl (lv_at hl 2 rfl) ?_
    refine lv_aload_n hx hb d_Pl_closeGaps_5 rfl (lv_at hl 0 rfl) ?_
    obtain ⟨v2, ⟨fs3, he4, hv5⟩, hwp⟩ := hwp
    refine h_get (C := "BuckTables$Plan") (T := Tc5) (N := 5) hx hb hts inc5 hown hK hM he4 rfl 3 (by decide) (hts _ kw_79) (fun _ h9 => h9) hv5 d_Pl_closeGaps_6 ?_
    refine lv_icmp_ge (tgt := 49) hx hb d_Pl_closeGaps_9 (by decide) (fun c6 => ?_) (fun c6 => ?_)
    · replace hwp := hwp.1 c6
      refine lv_aload_n hx hb d_Pl_closeGaps_49 rfl (lv_at hl 0 rfl) ?_
      refine lv_iload_n hx hb d_Pl_closeGaps_50 rfl (lv_at hl 1 rfl) ?_
      obtain ⟨M7, ⟨fs8, he9, hl10, eM7⟩, hwp⟩ := hwp
      refine h_put (C := "BuckTables$Plan") (T := Tc5) (N := 5) (v := .int x1) (ty := .int) hx hb hts inc5 tyc5 tyc5_ok nmc5 hown hK hM hS he9 rfl 3 (by decide) (hts _ kw_79) (fun _ h9 => h9) rfl (by decide +kernel) rfl rfl hl10 d_Pl_closeGaps_51 (fun H locs hM hS => ?_)
      rw [← eM7] at hM
      exact W.vret hx hb hr (fun t ht hW => ⟨⟨M7, rfl, hwp, by show hw D kCl (hTys κ) A M7 t.heap; rw [ht]; exact hM⟩, hS.F ht⟩) hS.2.2 d_Pl_closeGaps_54
    · replace hwp := hwp.2 c6
      refine lv_aload_n hx hb d_Pl_closeGaps_12 rfl (lv_at hl 0 rfl) ?_
      refine lv_iload_n hx hb d_Pl_closeGaps_13 rfl (lv_at hl 2 rfl) ?_
      refine lv_iconst (v := 3) hx hb d_Pl_closeGaps_14 (by decide) ?_
      obtain ⟨ho12, hwp⟩ := hwp
      refine h_calli hM hS hA (va_runV (As := [.int x2, .int (3 : Int32)]) (rest := []) ⟨hx, hb, hml, hown, hts⟩ (metPl_tellLog l D κ H.size x0 x2 (3 : Int32) M _ hwp) (cwV 2 hts (gV kw_613 kw_614 kw_615 kw_4 kw_616) rfl rfl rfl (by decide +kernel) ⟨(Nat.le_of_ble_eq_true rfl), (Nat.le_of_ble_eq_true rfl)⟩) (h_preV hE hM hS ho12 (r := ("BuckTables$Plan", Tc5, 5)) rfl) rfl rfl hl.1 rfl (lv_room (Nat.le_of_ble_eq_true rfl)) d_Pl_closeGaps_15 ⟨(Nat.le_of_ble_eq_true rfl), (Nat.le_of_ble_eq_true rfl)⟩) (fun r13 M11 H locs hwp hM hS => ?_)
      refine lv_iconst (v := -1) hx hb d_Pl_closeGaps_18 (by decide) ?_
      refine lv_icmp_eq (tgt := 43) hx hb d_Pl_closeGaps_19 (by decide) (fun c14 => ?_) (fun c14 => ?_)
      · replace hwp := hwp.1 c14
        exact tPl_closeGaps_43 C post (wPl_closeGaps_4 post n) ih x0 x1 x2 M11 hwp H locs ls hM hS (lv_sub hl [0, 1, 2] rfl)
      · replace hwp := hwp.2 c14
        refine lv_aload_n hx hb d_Pl_closeGaps_22 rfl (lv_at hl 0 rfl) ?_
        obtain ⟨a15, ⟨fs16, he17, hv18⟩, hwp⟩ := hwp
        refine h_get (C := "BuckTables$Plan") (T := Tc5) (N := 5) hx hb hts inc5 hown hK hM he17 rfl 0 (by decide) (hts _ kw_75) (fun _ h9 => h9) hv18 d_Pl_closeGaps_23 ?_
        refine lv_iload_n hx hb d_Pl_closeGaps_26 rfl (lv_at hl 2 rfl) ?_
        refine lv_iconst (v := 5) hx hb d_Pl_closeGaps_27 (by decide) ?_
        refine lv_imul hx hb d_Pl_closeGaps_28 ?_
        refine lv_aload_n hx hb d_Pl_closeGaps_29 rfl (lv_at hl 0 rfl) ?_
        obtain ⟨a19, ⟨fs20, he21, hv22⟩, hwp⟩ := hwp
        refine h_get (C := "BuckTables$Plan") (T := Tc5) (N := 5) hx hb hts inc5 hown hK hM he21 rfl 0 (by decide) (hts _ kw_75) (fun _ h9 => h9) hv22 d_Pl_closeGaps_30 ?_
        refine lv_iload_n hx hb d_Pl_closeGaps_33 rfl (lv_at hl 1 rfl) ?_
        refine lv_iconst (v := 5) hx hb d_Pl_closeGaps_34 (by decide) ?_
        refine lv_imul hx hb d_Pl_closeGaps_35 ?_
        refine lv_iconst (v := 5) hx hb d_Pl_closeGaps_36 (by decide) ?_
        obtain ⟨M23, hc24, hwp⟩ := hwp
        refine h_copyi hx hb (show c.maxLocals = ls.size by rw [hml, hl.1]) hown (hts _ kw_623) (hts _ kw_625) (hts _ kw_624) (hts _ kw_15) hK hM hS rfl hc24 (Nat.le_of_ble_eq_true rfl) (Nat.le_of_ble_eq_true rfl) d_Pl_closeGaps_37 (fun H locs hM hS => ?_)
        obtain ⟨z25, ez25⟩ : ∃ y : Int32, y = x1 + 1 := ⟨_, rfl⟩
        replace hwp := hwp z25 ez25
        refine lv_iinc (v := z25) (lv' := [(1, .int z25), (0, .ref x0), (2, .int x2)]) hx hb d_Pl_closeGaps_40 hl (k := 1) rfl (by rw [ez25]; rfl) (by decide) rfl (fun ls hl => ?_)
        exact tPl_closeGaps_43 C post (wPl_closeGaps_4 post n) ih x0 z25 x2 M23 hwp H locs ls hM hS (lv_sub hl [1, 0, 2] rfl)
def wpPl_closeGaps (self : Nat) (M : Hp) (post : Hp → Prop) : Prop := (∃ n26 : Nat, wPl_closeGaps_4 post n26 self (0 : Int32) (0 : Int32) M)
set_option maxRecDepth 100000 in
set_option maxHeartbeats 4000000 in
theorem ePl_closeGaps {p : Program} {l : Launch} {e : Env} {s : State} {m : MethodId} {args : Array Value} {below : List Frame} {meth : Method} {c : Code} {D : va_G} {κ : Nat → ClassId} {A : Nat → Prop} (C : Cx_Pl_closeGaps p s m args meth c D κ A) (post : Hp → Prop) (self : Nat) (M : Hp) (hwp : wpPl_closeGaps self M post) : Y p l e rm_Pl_closeGaps s m args below meth c D kCl (hTys κ) A 3 0 0 (MQ below (va_Qv post (hB D kCl (hTys κ) A) A) args s 0 0 A) M 0 [(0, .ref self)] [] := by
  obtain ⟨hx, hb, hml, hr, hown, hts, hlocks, hE, hA⟩ := id C
  have hK := hE.1
  intro H locs ls hM hS hl
  unfold wpPl_closeGaps at hwp
  refine lv_iconst (v := 0) hx hb d_Pl_closeGaps_0 (by decide) ?_
  refine lv_istore_n (lv' := [(1, .int (0 : Int32)), (0, .ref self)]) hx hb d_Pl_closeGaps_1 rfl hl (by decide) rfl (fun ls hl => ?_)
  refine lv_iconst (v := 0) hx hb d_Pl_closeGaps_2 (by decide) ?_
  refine lv_istore_n (lv' := [(2, .int (0 : Int32)), (1, .int (0 : Int32)), (0, .ref self)]) hx hb d_Pl_closeGaps_3 rfl hl (by decide) rfl (fun ls hl => ?_)
  obtain ⟨n26, hwp⟩ := hwp
  exact tPl_closeGaps_4 C post n26 self (0 : Int32) (0 : Int32) M hwp H locs ls hM hS (lv_sub hl [2, 1, 0] rfl)
set_option maxRecDepth 100000 in
set_option maxHeartbeats 4000000 in
theorem metPl_closeGaps (l : Launch) (D : va_G) (κ : Nat → ClassId) (sz : Nat) (self : Nat) (M : Hp) (post : Hp → Prop) (hwp : wpPl_closeGaps self M post) : Met l y_Pl_closeGaps ws_Pl_closeGaps rm_Pl_closeGaps (hPc D kCl (hTys κ) M sz [.ref self]) (va_Qv post (hB D kCl (hTys κ) (hAx M sz)) (hAx M sz)) 0 0 (hAx M sz) := by
  refine Met.ofW (cc := prog_3_method_6_code) (maxL := 3) (ret := none) (by decide +kernel) rfl ?_
  intro p e s m args below meth c s₁ B hml hv
  obtain ⟨rfl, hsz, hE, hM0⟩ := hv
  have hts : ∀ w ∈ WG, w.before _ s = true := fun w h => atoms_spec (ws := ws_Pl_closeGaps) B.pre w (List.mem_cons_of_mem _ h)
  subst hsz
  have C : Cx_Pl_closeGaps p s m _ meth c D κ (hAx M s.heap.size) := ⟨B.exec, B.bytes, hml, B.returns, findClass_of_methodNamed B.named, hts, B.notSynchronized, hE, fun q h => Or.inr h⟩
  have hl := lv_entry ([.ref self]) (n := 3) (Nat.le_of_ble_eq_true rfl)
  rw [lg_entry_eq]
  generalize (lg_sl ([.ref self]) ++ List.replicate (3 - (lg_sl ([.ref self])).length) Slot.unset).toArray = ls at hl ⊢
  exact ePl_closeGaps C post self M hwp s.heap [] ls (hM0.self (sz := s.heap.size)) va_S.rf hl
