abbrev rm_St_narrowByFaults : Room := { frames := 1, cells := 0, slots := 0, locals := 23 }
def Cx_St_narrowByFaults (p : Program) (s : State) (m : MethodId) (args : Array Value) (meth : Method) (c : Code) (D : va_G) (κ : Nat → ClassId) (A : Nat → Prop) : Prop := p.tables.exec = Jvm.exec ∧ c.code = prog_5_method_10_code ∧ c.maxLocals = 5 ∧ meth.sig.returnType = none ∧ s.vm.findClass "BuckTables$Stem" = some m.cls ∧ (∀ w ∈ WG, w.before args s = true) ∧ meth.locks = false ∧ hEnv D kCl (hTys κ) A s ∧ (∀ q, s.heap.size ≤ q → A q)
def wSt_narrowByFaults_80 (post : Hp → Prop) (k2 : Nat → Nat → Nat → Int32 → Hp → Prop) (x0 : Nat) (x1 : Nat) (x2 : Nat) (x3 : Int32) (M : Hp) : Prop := (∀ z1 : Int32, z1 = x3 + 1 → (k2 x0 x1 x2 z1 M))
set_option maxRecDepth 100000 in
set_option maxHeartbeats 4000000 in
theorem tSt_narrowByFaults_80 {p : Program} {l : Launch} {e : Env} {s : State} {m : MethodId} {args : Array Value} {below : List Frame} {meth : Method} {c : Code} {D : va_G} {κ : Nat → ClassId} {A : Nat → Prop} (C : Cx_St_narrowByFaults p s m args meth c D κ A) (post : Hp → Prop) (k2 : Nat → Nat → Nat → Int32 → Hp → Prop) (hk2 : ∀ (x0 : Nat) (x1 : Nat) (x2 : Nat) (x3 : Int32) (M : Hp), k2 x0 x1 x2 x3 M → Y p l e rm_St_narrowByFaults s m args below meth c D kCl (hTys κ) A 5 0 0 (MQ below (va_Qv post (hB D kCl (hTys κ) A) A) args s 0 0 A) M 2 [(0, .ref x0), (1, .ref x1), (2, .ref x2), (3, .int x3)] []) (x0 : Nat) (x1 : Nat) (x2 : Nat) (x3 : Int32) (M : Hp) (hwp : wSt_narrowByFaults_80 post k2 x0 x1 x2 x3 M) : Y p l e rm_St_narrowByFaults s m args below meth c D kCl (hTys κ) A 5 0 0 (MQ below (va_Qv post (hB D kCl (hTys κ) A) A) args s 0 0 A) M 80 [(0, .ref x0), (1, .ref x1), (2, .ref x2), (3, .int x3)] [] := by
  obtain ⟨hx, hb, hml, hr, hown, hts, hlocks, hE, hA⟩ := id C
  have hK := hE.1
  intro H locs ls hM hS hl
  unfold wSt_narrowByFaults_80 at hwp
  obtain ⟨z1, ez1⟩ : ∃ y : Int32, y = x3 + 1 := ⟨_, rfl⟩
  replace hwp := hwp z1 ez1
  refine lv_iinc (v := z1) (lv' := [(3, .int z1), (0, .ref x0), (1, .ref x1), (2, .ref x2)]) hx hb d_St_narrowByFaults_80 hl (k := 3) rfl (by rw [ez1]; rfl) (by decide) rfl (fun ls hl => ?_)
  refine lv_goto (tgt := 2) hx hb d_St_narrowByFaults_83 (by decide) ?_
  exact hk2 x0 x1 x2 z1 M hwp H locs ls hM hS (lv_sub hl [1, 2, 3, 0] rfl)
def wSt_narrowByFaults_27 (post : Hp → Prop) (k2 : Nat → Nat → Nat → Int32 → Hp → Prop) : Nat → Nat → Nat → Nat → Int32 → Int32 → Hp → Prop
  | 0 => fun _ _ _ _ _ _ => False
  | n + 1 => fun x0 x1 x2 x3 x4 M => (∃ v2 : Int32, fI M x0 1 11 v2 ∧ ((v2 ≤ x4 → (wSt_narrowByFaults_80 post k2 x0 x1 x2 x3 M)) ∧ (¬ v2 ≤ x4 → (∃ v7 : Int32, fI M x0 1 0 v7 ∧ (∃ a11 : Nat, fA M x0 1 5 a11 ∧ (∃ v15 : Int32, aI M a11 x3 v15 ∧ ((v15 ≤ (x4 * v7) → (wSt_narrowByFaults_80 post k2 x0 x1 x2 x3 M)) ∧ (¬ v15 ≤ (x4 * v7) → (∃ v21 : Int32, aI M x1 x4 v21 ∧ (∃ a26 : Nat, fA M x0 1 4 a26 ∧ (∃ v30 : Int32, aI M a26 x3 v30 ∧ (∃ v35 : Int32, fI M x0 1 0 v35 ∧ (¬ v35 = 0 ∧ (∃ M44 : Hp, sI M x1 x4 (if (v30 / v35) < v21 then (v30 / v35) else v21) M44 ∧ (∀ z45 : Int32, z45 = x4 + 1 → ((wSt_narrowByFaults_27 post k2 n) x0 x1 x2 x3 z45 M44))))))))))))))))
set_option maxRecDepth 100000 in
set_option maxHeartbeats 4000000 in
theorem tSt_narrowByFaults_27 {p : Program} {l : Launch} {e : Env} {s : State} {m : MethodId} {args : Array Value} {below : List Frame} {meth : Method} {c : Code} {D : va_G} {κ : Nat → ClassId} {A : Nat → Prop} (C : Cx_St_narrowByFaults p s m args meth c D κ A) (post : Hp → Prop) (k2 : Nat → Nat → Nat → Int32 → Hp → Prop) (hk2 : ∀ (x0 : Nat) (x1 : Nat) (x2 : Nat) (x3 : Int32) (M : Hp), k2 x0 x1 x2 x3 M → Y p l e rm_St_narrowByFaults s m args below meth c D kCl (hTys κ) A 5 0 0 (MQ below (va_Qv post (hB D kCl (hTys κ) A) A) args s 0 0 A) M 2 [(0, .ref x0), (1, .ref x1), (2, .ref x2), (3, .int x3)] []) : ∀ (n : Nat) (x0 : Nat) (x1 : Nat) (x2 : Nat) (x3 : Int32) (x4 : Int32) (M : Hp), wSt_narrowByFaults_27 post k2 n x0 x1 x2 x3 x4 M → Y p l e rm_St_narrowByFaults s m args below meth c D kCl (hTys κ) A 5 0 0 (MQ below (va_Qv post (hB D kCl (hTys κ) A) A) args s 0 0 A) M 27 [(0, .ref x0), (1, .ref x1), (2, .ref x2), (3, .int x3), (4, .int x4)] [] := by
  obtain ⟨hx, hb, hml, hr, hown, hts, hlocks, hE, hA⟩ := id C
  have hK := hE.1
  intro n
  induction n with
  | zero => intro x0 x1 x2 x3 x4 M hwp; exact hwp.elim
  | succ n ih =>
    intro x0 x1 x2 x3 x4 M hwp H locs ls hM hS hl
    unfold wSt_narrowByFaults_27 at hwp
    refine lv_iload hx hb d_St_narrowByFaults_27 (lv_at hl 4 rfl) ?_
    refine lv_aload_n hx hb d_St_narrowByFaults_29 rfl (lv_at hl 0 rfl) ?_
    obtain ⟨v2, ⟨fs3, he4, hv5⟩, hwp⟩ := hwp
    refine h_get (C := "BuckTables$Stem") (T := Tc1) (N := 12) hx hb hts inc1 hown hK hM he4 rfl 11 (by decide) (hts _ kw_125) (fun _ h9 => h9) hv5 d_St_narrowByFaults_30 ?_
    refine lv_icmp_ge (tgt := 80) hx hb d_St_narrowByFaults_33 (by decide) (fun c6 => ?_) (fun c6 => ?_)
    · replace hwp := hwp.1 c6
      exact tSt_narrowByFaults_80 C post k2 hk2 x0 x1 x2 x3 M hwp H locs ls hM hS (lv_sub hl [0, 1, 2, 3] rfl)
    · replace hwp := hwp.2 c6
      refine lv_iload hx hb d_St_narrowByFaults_36 (lv_at hl 4 rfl) ?_
      refine lv_aload_n hx hb d_St_narrowByFaults_38 rfl (lv_at hl 0 rfl) ?_
      obtain ⟨v7, ⟨fs8, he9, hv10⟩, hwp⟩ := hwp
      refine h_get (C := "BuckTables$Stem") (T := Tc1) (N := 12) hx hb hts inc1 hown hK hM he9 rfl 0 (by decide) (hts _ kw_110) (fun _ h9 => h9) hv10 d_St_narrowByFaults_39 ?_
      refine lv_imul hx hb d_St_narrowByFaults_42 ?_
      refine lv_aload_n hx hb d_St_narrowByFaults_43 rfl (lv_at hl 0 rfl) ?_
      obtain ⟨a11, ⟨fs12, he13, hv14⟩, hwp⟩ := hwp
      refine h_get (C := "BuckTables$Stem") (T := Tc1) (N := 12) hx hb hts inc1 hown hK hM he13 rfl 5 (by decide) (hts _ kw_115) (fun _ h9 => h9) hv14 d_St_narrowByFaults_44 ?_
      refine lv_iload_n hx hb d_St_narrowByFaults_47 rfl (lv_at hl 3 rfl) ?_
      obtain ⟨v15, ⟨n16, f17, ha18, hi19, ev15⟩, hwp⟩ := hwp
      refine h_iald hx hb hK hM ha18 rfl hi19 d_St_narrowByFaults_48 ?_
      rw [← ev15]
      refine lv_icmp_ge (tgt := 80) hx hb d_St_narrowByFaults_49 (by decide) (fun c20 => ?_) (fun c20 => ?_)
      · replace hwp := hwp.1 c20
        exact tSt_narrowByFaults_80 C post k2 hk2 x0 x1 x2 x3 M hwp H locs ls hM hS (lv_sub hl [0, 1, 2, 3] rfl)
      · replace hwp := hwp.2 c20
        refine lv_aload_n hx hb d_St_narrowByFaults_52 rfl (lv_at hl 1 rfl) ?_
        refine lv_iload hx hb d_St_narrowByFaults_53 (lv_at hl 4 rfl) ?_
        refine lv_aload_n hx hb d_St_narrowByFaults_55 rfl (lv_at hl 1 rfl) ?_
        refine lv_iload hx hb d_St_narrowByFaults_56 (lv_at hl 4 rfl) ?_
        obtain ⟨v21, ⟨n22, f23, ha24, hi25, ev21⟩, hwp⟩ := hwp
        refine h_iald hx hb hK hM ha24 rfl hi25 d_St_narrowByFaults_58 ?_
        rw [← ev21]
        refine lv_aload_n hx hb d_St_narrowByFaults_59 rfl (lv_at hl 0 rfl) ?_
        obtain ⟨a26, ⟨fs27, he28, hv29⟩, hwp⟩ := hwp
        refine h_get (C := "BuckTables$Stem") (T := Tc1) (N := 12) hx hb hts inc1 hown hK hM he28 rfl 4 (by decide) (hts _ kw_114) (fun _ h9 => h9) hv29 d_St_narrowByFaults_60 ?_
        refine lv_iload_n hx hb d_St_narrowByFaults_63 rfl (lv_at hl 3 rfl) ?_
        obtain ⟨v30, ⟨n31, f32, ha33, hi34, ev30⟩, hwp⟩ := hwp
        refine h_iald hx hb hK hM ha33 rfl hi34 d_St_narrowByFaults_64 ?_
        rw [← ev30]
        refine lv_aload_n hx hb d_St_narrowByFaults_65 rfl (lv_at hl 0 rfl) ?_
        obtain ⟨v35, ⟨fs36, he37, hv38⟩, hwp⟩ := hwp
        refine h_get (C := "BuckTables$Stem") (T := Tc1) (N := 12) hx hb hts inc1 hown hK hM he37 rfl 0 (by decide) (hts _ kw_110) (fun _ h9 => h9) hv38 d_St_narrowByFaults_66 ?_
        obtain ⟨h39, hwp⟩ := hwp
        refine lv_idiv hx hb d_St_narrowByFaults_69 h39 ?_
        refine va_mmin hx hb (show c.maxLocals = ls.size by rw [hml, hl.1]) hown (hts _ kw_259) (hts _ kw_97) (hts _ kw_5) (hts _ kw_98) (Nat.le_of_ble_eq_true rfl) (Nat.le_of_ble_eq_true rfl) (Nat.le_of_ble_eq_true rfl) (Nat.le_of_ble_eq_true rfl) d_St_narrowByFaults_70 ?_
        obtain ⟨M44, ⟨n40, f41, ha42, hi43, eM44⟩, hwp⟩ := hwp
        refine h_iast hx hb hK hM hS ha42 rfl hi43 d_St_narrowByFaults_73 (fun H locs hM hS => ?_)
        rw [← eM44] at hM
        obtain ⟨z45, ez45⟩ : ∃ y : Int32, y = x4 + 1 := ⟨_, rfl⟩
        replace hwp := hwp z45 ez45
        refine lv_iinc (v := z45) (lv' := [(4, .int z45), (0, .ref x0), (1, .ref x1), (2, .ref x2), (3, .int x3)]) hx hb d_St_narrowByFaults_74 hl (k := 4) rfl (by rw [ez45]; rfl) (by decide) rfl (fun ls hl => ?_)
        refine lv_goto (tgt := 27) hx hb d_St_narrowByFaults_77 (by decide) ?_
        exact ih x0 x1 x2 x3 z45 M44 hwp H locs ls hM hS (lv_sub hl [1, 2, 3, 4, 0] rfl)
def wSt_narrowByFaults_2 (post : Hp → Prop)  : Nat → Nat → Nat → Nat → Int32 → Hp → Prop
  | 0 => fun _ _ _ _ _ => False
  | n + 1 => fun x0 x1 x2 x3 M => (∃ v46 : Int32, fI M x0 1 10 v46 ∧ ((v46 ≤ x3 → (post M)) ∧ (¬ v46 ≤ x3 → (∃ a51 : Nat, fA M x2 2 1 a51 ∧ (∃ a55 : Nat, fA M x0 1 6 a55 ∧ (∃ v59 : Int32, aI M a55 x3 v59 ∧ (∃ v64 : Int32, aZ M a51 v59 v64 ∧ ((v64 = 0 → (wSt_narrowByFaults_80 post (wSt_narrowByFaults_2 post n) x0 x1 x2 x3 M)) ∧ (¬ v64 = 0 → (∃ n70 : Nat, wSt_narrowByFaults_27 post (wSt_narrowByFaults_2 post n) n70 x0 x1 x2 x3 (0 : Int32) M))))))))))
set_option maxRecDepth 100000 in
set_option maxHeartbeats 4000000 in
theorem tSt_narrowByFaults_2 {p : Program} {l : Launch} {e : Env} {s : State} {m : MethodId} {args : Array Value} {below : List Frame} {meth : Method} {c : Code} {D : va_G} {κ : Nat → ClassId} {A : Nat → Prop} (C : Cx_St_narrowByFaults p s m args meth c D κ A) (post : Hp → Prop)  : ∀ (n : Nat) (x0 : Nat) (x1 : Nat) (x2 : Nat) (x3 : Int32) (M : Hp), wSt_narrowByFaults_2 post n x0 x1 x2 x3 M → Y p l e rm_St_narrowByFaults s m args below meth c D kCl (hTys κ) A 5 0 0 (MQ below (va_Qv post (hB D kCl (hTys κ) A) A) args s 0 0 A) M 2 [(0, .ref x0), (1, .ref x1), (2, .ref x2), (3, .int x3)] [] := by
  obtain ⟨hx, hb, hml, hr, hown, hts, hlocks, hE, hA⟩ := id C
  have hK := hE.1
  intro n
  induction n with
  | zero => intro x0 x1 x2 x3 M hwp; exact hwp.elim
  | succ n ih =>
    intro x0 x1 x2 x3 M hwp H locs ls hM hS hl
    unfold wSt_narrowByFaults_2 at hwp
    refine lv_iload_n hx hb d_St_narrowByFaults_2 rfl (lv_at hl 3 rfl) ?_
    refine lv_aload_n hx hb d_St_narrowByFaults_3 rfl (lv_at hl 0 rfl) ?_
    obtain ⟨v46, ⟨fs47, he48, hv49⟩, hwp⟩ := hwp
    refine h_get (C := "BuckTables$Stem") (T := Tc1) (N := 12) hx hb hts inc1 hown hK hM he48 rfl 10 (by decide) (hts _ kw_123) (fun _ h9 => h9) hv49 d_St_narrowByFaults_4 ?_
    refine lv_icmp_ge (tgt := 86) hx hb d_St_narrowByFaults_7 (by decide) (fun c50 => ?_) (fun c50 => ?_)
    · replace hwp := hwp.1 c50
      exact W.vret hx hb hr (fun t ht hW => ⟨⟨M, rfl, hwp, by show hw D kCl (hTys κ) A M t.heap; rw [ht]; exact hM⟩, hS.F ht⟩) hS.2.2 d_St_narrowByFaults_86
    · replace hwp := hwp.2 c50
      refine lv_aload_n hx hb d_St_narrowByFaults_10 rfl (lv_at hl 2 rfl) ?_
      obtain ⟨a51, ⟨fs52, he53, hv54⟩, hwp⟩ := hwp
      refine h_get (C := "BuckTables$Product") (T := Tc2) (N := 10) hx hb hts inc2 hown hK hM he53 rfl 1 (by decide) (hts _ kw_162) (fun _ h9 => h9) hv54 d_St_narrowByFaults_11 ?_
      refine lv_aload_n hx hb d_St_narrowByFaults_14 rfl (lv_at hl 0 rfl) ?_
      obtain ⟨a55, ⟨fs56, he57, hv58⟩, hwp⟩ := hwp
      refine h_get (C := "BuckTables$Stem") (T := Tc1) (N := 12) hx hb hts inc1 hown hK hM he57 rfl 6 (by decide) (hts _ kw_116) (fun _ h9 => h9) hv58 d_St_narrowByFaults_15 ?_
      refine lv_iload_n hx hb d_St_narrowByFaults_18 rfl (lv_at hl 3 rfl) ?_
      obtain ⟨v59, ⟨n60, f61, ha62, hi63, ev59⟩, hwp⟩ := hwp
      refine h_iald hx hb hK hM ha62 rfl hi63 d_St_narrowByFaults_19 ?_
      rw [← ev59]
      obtain ⟨v64, ⟨n65, f66, ha67, hi68, ev64⟩, hwp⟩ := hwp
      refine h_zald hx hb hK hM ha67 rfl hi68 d_St_narrowByFaults_20 ?_
      rw [← ev64]
      refine lv_if_eq (tgt := 80) hx hb d_St_narrowByFaults_21 (by decide) (fun c69 => ?_) (fun c69 => ?_)
      · replace hwp := hwp.1 c69
        exact tSt_narrowByFaults_80 C post (wSt_narrowByFaults_2 post n) ih x0 x1 x2 x3 M hwp H locs ls hM hS (lv_sub hl [0, 1, 2, 3] rfl)
      · replace hwp := hwp.2 c69
        refine lv_iconst (v := 0) hx hb d_St_narrowByFaults_24 (by decide) ?_
        refine lv_istore (lv' := [(4, .int (0 : Int32)), (0, .ref x0), (1, .ref x1), (2, .ref x2), (3, .int x3)]) hx hb d_St_narrowByFaults_25 hl (by decide) rfl (fun ls hl => ?_)
        obtain ⟨n70, hwp⟩ := hwp
        exact tSt_narrowByFaults_27 C post (wSt_narrowByFaults_2 post n) ih n70 x0 x1 x2 x3 (0 : Int32) M hwp H locs ls hM hS (lv_sub hl [1, 2, 3, 4, 0] rfl)
def wpSt_narrowByFaults (self : Nat) (p0 : Nat) (p1 : Nat) (M : Hp) (post : Hp → Prop) : Prop := (∃ n71 : Nat, wSt_narrowByFaults_2 post n71 self p0 p1 (0 : Int32) M)
set_option maxRecDepth 100000 in
set_option maxHeartbeats 4000000 in
theorem eSt_narrowByFaults {p : Program} {l : Launch} {e : Env} {s : State} {m : MethodId} {args : Array Value} {below : List Frame} {meth : Method} {c : Code} {D : va_G} {κ : Nat → ClassId} {A : Nat → Prop} (C : Cx_St_narrowByFaults p s m args meth c D κ A) (post : Hp → Prop) (self : Nat) (p0 : Nat) (p1 : Nat) (M : Hp) (hwp : wpSt_narrowByFaults self p0 p1 M post) : Y p l e rm_St_narrowByFaults s m args below meth c D kCl (hTys κ) A 5 0 0 (MQ below (va_Qv post (hB D kCl (hTys κ) A) A) args s 0 0 A) M 0 [(0, .ref self), (1, .ref p0), (2, .ref p1)] [] := by
  obtain ⟨hx, hb, hml, hr, hown, hts, hlocks, hE, hA⟩ := id C
  have hK := hE.1
  intro H locs ls hM hS hl
  unfold wpSt_narrowByFaults at hwp
  refine lv_iconst (v := 0) hx hb d_St_narrowByFaults_0 (by decide) ?_
  refine lv_istore_n (lv' := [(3, .int (0 : Int32)), (0, .ref self), (1, .ref p0), (2, .ref p1)]) hx hb d_St_narrowByFaults_1 rfl hl (by decide) rfl (fun ls hl => ?_)
  obtain ⟨n71, hwp⟩ := hwp
  exact tSt_narrowByFaults_2 C post n71 self p0 p1 (0 : Int32) M hwp H locs ls hM hS (lv_sub hl [1, 2, 3, 0] rfl)
set_option maxRecDepth 100000 in
set_option maxHeartbeats 4000000 in
theorem metSt_narrowByFaults (l : Launch) (D : va_G) (κ : Nat → ClassId) (sz : Nat) (self : Nat) (p0 : Nat) (p1 : Nat) (M : Hp) (post : Hp → Prop) (hwp : wpSt_narrowByFaults self p0 p1 M post) : Met l y_St_narrowByFaults ws_St_narrowByFaults rm_St_narrowByFaults (hPc D kCl (hTys κ) M sz [.ref self, .ref p0, .ref p1]) (va_Qv post (hB D kCl (hTys κ) (hAx M sz)) (hAx M sz)) 0 0 (hAx M sz) := by
  refine Met.ofW (cc := prog_5_method_10_code) (maxL := 5) (ret := none) (by decide +kernel) rfl ?_
  intro p e s m args below meth c s₁ B hml hv
  obtain ⟨rfl, hsz, hE, hM0⟩ := hv
  have hts : ∀ w ∈ WG, w.before _ s = true := fun w h => atoms_spec (ws := ws_St_narrowByFaults) B.pre w (List.mem_cons_of_mem _ h)
  subst hsz
  have C : Cx_St_narrowByFaults p s m _ meth c D κ (hAx M s.heap.size) := ⟨B.exec, B.bytes, hml, B.returns, findClass_of_methodNamed B.named, hts, B.notSynchronized, hE, fun q h => Or.inr h⟩
  have hl := lv_entry ([.ref self, .ref p0, .ref p1]) (n := 5) (Nat.le_of_ble_eq_true rfl)
  rw [lg_entry_eq]
  generalize (lg_sl ([.ref self, .ref p0, .ref p1]) ++ List.replicate (5 - (lg_sl ([.ref self, .ref p0, .ref p1])).length) Slot.unset).toArray = ls at hl ⊢
  exact eSt_narrowByFaults C post self p0 p1 M hwp s.heap [] ls (hM0.self (sz := s.heap.size)) va_S.rf hl
abbrev rm_St_findReach : Room := { frames := 2, cells := 0, slots := 0, locals := 49 }
def Cx_St_findReach (p : Program) (s : State) (m : MethodId) (args : Array Value) (meth : Method) (c : Code) (D : va_G) (κ : Nat → ClassId) (A : Nat → Prop) : Prop := p.tables.exec = Jvm.exec ∧ c.code = prog_5_method_6_code ∧ c.maxLocals = 5 ∧ meth.sig.returnType = none ∧ s.vm.findClass "BuckTables$Stem" = some m.cls ∧ (∀ w ∈ WG, w.before args s = true) ∧ meth.locks = false ∧ hEnv D kCl (hTys κ) A s ∧ (∀ q, s.heap.size ≤ q → A q)
def wpSt_findReach (self : Nat) (p0 : Int32) (p1 : Nat) (p2 : Int32) (M : Hp) (post : Hp → Prop) : Prop := (∃ a1 : Nat, fA M self 1 8 a1 ∧ (∃ a5 : Nat, aA 6 M a1 p0 a5 ∧ (hob M self 1 ∧ (wpSt_reachByLengthAndCuts self a5 p1 M (fun (M11 : Hp) => (hob M11 self 1 ∧ (wpSt_narrowByPoints self a5 p1 p2 M11 (fun (M13 : Hp) => (hob M13 self 1 ∧ (wpSt_narrowByFaults self a5 p1 M13 (fun (M15 : Hp) => (post M15))))))))))))
set_option maxRecDepth 100000 in
set_option maxHeartbeats 4000000 in
theorem eSt_findReach {p : Program} {l : Launch} {e : Env} {s : State} {m : MethodId} {args : Array Value} {below : List Frame} {meth : Method} {c : Code} {D : va_G} {κ : Nat → ClassId} {A : Nat → Prop} (C : Cx_St_findReach p s m args meth c D κ A) (post : Hp → Prop) (self : Nat) (p0 : Int32) (p1 : Nat) (p2 : Int32) (M : Hp) (hwp : wpSt_findReach self p0 p1 p2 M post) : Y p l e rm_St_findReach s m args below meth c D kCl (hTys κ) A 5 0 0 (MQ below (va_Qv post (hB D kCl (hTys κ) A) A) args s 0 0 A) M 0 [(0, .ref self), (1, .int p0), (2, .ref p1), (3, .int p2)] [] := by
  obtain ⟨hx, hb, hml, hr, hown, hts, hlocks, hE, hA⟩ := id C
  have hK := hE.1
  intro H locs ls hM hS hl
  unfold wpSt_findReach at hwp
  refine lv_aload_n hx hb d_St_findReach_0 rfl (lv_at hl 0 rfl) ?_
  obtain ⟨a1, ⟨fs2, he3, hv4⟩, hwp⟩ := hwp
  refine h_get (C := "BuckTables$Stem") (T := Tc1) (N := 12) hx hb hts inc1 hown hK hM he3 rfl 8 (by decide) (hts _ kw_119) (fun _ h9 => h9) hv4 d_St_findReach_1 ?_
  refine lv_iload_n hx hb d_St_findReach_4 rfl (lv_at hl 1 rfl) ?_
  obtain ⟨a5, ⟨n6, f7, ha8, hi9, hy10⟩, hwp⟩ := hwp
  refine h_aalA hx hb hK hM ha8 rfl hi9 hy10 d_St_findReach_5 ?_
  refine lv_astore (lv' := [(4, .ref a5), (0, .ref self), (1, .int p0), (2, .ref p1), (3, .int p2)]) hx hb d_St_findReach_6 hl (by decide) rfl (fun ls hl => ?_)
  refine lv_aload_n hx hb d_St_findReach_8 rfl (lv_at hl 1 rfl) ?_
  refine lv_aload hx hb d_St_findReach_9 (lv_at hl 0 rfl) ?_
  refine lv_aload_n hx hb d_St_findReach_11 rfl (lv_at hl 3 rfl) ?_
  obtain ⟨ho12, hwp⟩ := hwp
  refine h_callv hM hS hA (va_runV (As := [.ref a5, .ref p1]) (rest := []) ⟨hx, hb, hml, hown, hts⟩ (metSt_reachByLengthAndCuts l D κ H.size self a5 p1 M _ hwp) (cwV 2 hts (gV kw_255 kw_257 kp_2 kw_6 kw_258) rfl rfl rfl (by decide +kernel) ⟨(Nat.le_of_ble_eq_true rfl), (Nat.le_of_ble_eq_true rfl)⟩) (h_preV hE hM hS ho12 (r := ("BuckTables$Stem", Tc1, 12)) rfl) rfl rfl hl.1 rfl (lv_room (Nat.le_of_ble_eq_true rfl)) d_St_findReach_12 ⟨(Nat.le_of_ble_eq_true rfl), (Nat.le_of_ble_eq_true rfl)⟩) (fun M11 H locs hwp hM hS => ?_)
  refine lv_aload_n hx hb d_St_findReach_15 rfl (lv_at hl 1 rfl) ?_
  refine lv_aload hx hb d_St_findReach_16 (lv_at hl 0 rfl) ?_
  refine lv_aload_n hx hb d_St_findReach_18 rfl (lv_at hl 3 rfl) ?_
  refine lv_iload_n hx hb d_St_findReach_19 rfl (lv_at hl 4 rfl) ?_
  obtain ⟨ho14, hwp⟩ := hwp
  refine h_callv hM hS hA (va_runV (As := [.ref a5, .ref p1, .int p2]) (rest := []) ⟨hx, hb, hml, hown, hts⟩ (metSt_narrowByPoints l D κ H.size self a5 p1 p2 M11 _ hwp) (cwV 3 hts (gV kw_260 kw_262 kp_3 kw_6 kw_263) rfl rfl rfl (by decide +kernel) ⟨(Nat.le_of_ble_eq_true rfl), (Nat.le_of_ble_eq_true rfl)⟩) (h_preV hE hM hS ho14 (r := ("BuckTables$Stem", Tc1, 12)) rfl) rfl rfl hl.1 rfl (lv_room (Nat.le_of_ble_eq_true rfl)) d_St_findReach_20 ⟨(Nat.le_of_ble_eq_true rfl), (Nat.le_of_ble_eq_true rfl)⟩) (fun M13 H locs hwp hM hS => ?_)
  refine lv_aload_n hx hb d_St_findReach_23 rfl (lv_at hl 1 rfl) ?_
  refine lv_aload hx hb d_St_findReach_24 (lv_at hl 0 rfl) ?_
  refine lv_aload_n hx hb d_St_findReach_26 rfl (lv_at hl 3 rfl) ?_
  obtain ⟨ho16, hwp⟩ := hwp
  refine h_callv hM hS hA (va_runV (As := [.ref a5, .ref p1]) (rest := []) ⟨hx, hb, hml, hown, hts⟩ (metSt_narrowByFaults l D κ H.size self a5 p1 M13 _ hwp) (cwV 2 hts (gV kw_268 kw_270 kp_5 kw_6 kw_271) rfl rfl rfl (by decide +kernel) ⟨(Nat.le_of_ble_eq_true rfl), (Nat.le_of_ble_eq_true rfl)⟩) (h_preV hE hM hS ho16 (r := ("BuckTables$Stem", Tc1, 12)) rfl) rfl rfl hl.1 rfl (lv_room (Nat.le_of_ble_eq_true rfl)) d_St_findReach_27 ⟨(Nat.le_of_ble_eq_true rfl), (Nat.le_of_ble_eq_true rfl)⟩) (fun M15 H locs hwp hM hS => ?_)
  exact W.vret hx hb hr (fun t ht hW => ⟨⟨M15, rfl, hwp, by show hw D kCl (hTys κ) A M15 t.heap; rw [ht]; exact hM⟩, hS.F ht⟩) hS.2.2 d_St_findReach_30
set_option maxRecDepth 100000 in
set_option maxHeartbeats 4000000 in
theorem metSt_findReach (l : Launch) (D : va_G) (κ : Nat → ClassId) (sz : Nat) (self : Nat) (p0 : Int32) (p1 : Nat) (p2 : Int32) (M : Hp) (post : Hp → Prop) (hwp : wpSt_findReach self p0 p1 p2 M post) : Met l y_St_findReach ws_St_findReach rm_St_findReach (hPc D kCl (hTys κ) M sz [.ref self, .int p0, .ref p1, .int p2]) (va_Qv post (hB D kCl (hTys κ) (hAx M sz)) (hAx M sz)) 0 0 (hAx M sz) := by
  refine Met.ofW (cc := prog_5_method_6_code) (maxL := 5) (ret := none) (by decide +kernel) rfl ?_
  intro p e s m args below meth c s₁ B hml hv
  obtain ⟨rfl, hsz, hE, hM0⟩ := hv
  have hts : ∀ w ∈ WG, w.before _ s = true := fun w h => atoms_spec (ws := ws_St_findReach) B.pre w (List.mem_cons_of_mem _ h)
  subst hsz
  have C : Cx_St_findReach p s m _ meth c D κ (hAx M s.heap.size) := ⟨B.exec, B.bytes, hml, B.returns, findClass_of_methodNamed B.named, hts, B.notSynchronized, hE, fun q h => Or.inr h⟩
  have hl := lv_entry ([.ref self, .int p0, .ref p1, .int p2]) (n := 5) (Nat.le_of_ble_eq_true rfl)
  rw [lg_entry_eq]
  generalize (lg_sl ([.ref self, .int p0, .ref p1, .int p2]) ++ List.replicate (5 - (lg_sl ([.ref self, .int p0, .ref p1, .int p2])).length) Slot.unset).toArray = ls at hl ⊢
  exact eSt_findReach C post self p0 p1 p2 M hwp s.heap [] ls (hM0.self (sz := s.heap.size)) va_S.rf hl
abbrev rm_BT_startPlans : Room := { frames := 3, cells := 0, slots := 0, locals := 73 }
def Cx_BT_startPlans (p : Program) (s : State) (m : MethodId) (args : Array Value) (meth : Method) (c : Code) (D : va_G) (κ : Nat → ClassId) (A : Nat → Prop) : Prop := p.tables.exec = Jvm.exec ∧ c.code = prog_1_method_31_code ∧ c.maxLocals = 3 ∧ meth.sig.returnType = none ∧ s.vm.findClass "BuckTables" = some m.cls ∧ (∀ w ∈ WG, w.before args s = true) ∧ meth.locks = false ∧ hEnv D kCl (hTys κ) A s ∧ (∀ q, s.heap.size ≤ q → A q)
def wBT_startPlans_38 (post : Hp → Prop) (k28 : Nat → Int32 → Hp → Prop) : Nat → Nat → Int32 → Int32 → Hp → Prop
  | 0 => fun _ _ _ _ => False
  | n + 1 => fun x0 x1 x2 M => (∃ v1 : Int32, fI M x0 0 4 v1 ∧ ((v1 ≤ x2 → (∀ z6 : Int32, z6 = x1 + 1 → (k28 x0 z6 M))) ∧ (¬ v1 ≤ x2 → (∃ a7 : Nat, fA M x0 0 0 a7 ∧ (∃ a11 : Nat, aA 3 M a7 x1 a11 ∧ (∃ a17 : Nat, fA M x0 0 1 a17 ∧ (∃ a21 : Nat, aA 4 M a17 x2 a21 ∧ (∃ v27 : Int32, fI M x0 0 5 v27 ∧ (hob M a11 1 ∧ (wpSt_findReach a11 x2 a21 v27 M (fun (M31 : Hp) => (∀ z33 : Int32, z33 = x2 + 1 → ((wBT_startPlans_38 post k28 n) x0 x1 z33 M31)))))))))))))
set_option maxRecDepth 100000 in
set_option maxHeartbeats 4000000 in
theorem tBT_startPlans_38 {p : Program} {l : Launch} {e : Env} {s : State} {m : MethodId} {args : Array Value} {below : List Frame} {meth : Method} {c : Code} {D : va_G} {κ : Nat → ClassId} {A : Nat → Prop} (C : Cx_BT_startPlans p s m args meth c D κ A) (post : Hp → Prop) (k28 : Nat → Int32 → Hp → Prop) (hk28 : ∀ (x0 : Nat) (x1 : Int32) (M : Hp), k28 x0 x1 M → Y p l e rm_BT_startPlans s m args below meth c D kCl (hTys κ) A 3 0 0 (MQ below (va_Qv post (hB D kCl (hTys κ) A) A) args s 0 0 A) M 28 [(0, .ref x0), (1, .int x1)] []) : ∀ (n : Nat) (x0 : Nat) (x1 : Int32) (x2 : Int32) (M : Hp), wBT_startPlans_38 post k28 n x0 x1 x2 M → Y p l e rm_BT_startPlans s m args below meth c D kCl (hTys κ) A 3 0 0 (MQ below (va_Qv post (hB D kCl (hTys κ) A) A) args s 0 0 A) M 38 [(0, .ref x0), (1, .int x1), (2, .int x2)] [] := by
  obtain ⟨hx, hb, hml, hr, hown, hts, hlocks, hE, hA⟩ := id C
  have hK := hE.1
  intro n
  induction n with
  | zero => intro x0 x1 x2 M hwp; exact hwp.elim
  | succ n ih =>
    intro x0 x1 x2 M hwp H locs ls hM hS hl
    unfold wBT_startPlans_38 at hwp
    refine lv_iload_n hx hb d_BT_startPlans_38 rfl (lv_at hl 2 rfl) ?_
    refine lv_aload_n hx hb d_BT_startPlans_39 rfl (lv_at hl 0 rfl) ?_
    obtain ⟨v1, ⟨fs2, he3, hv4⟩, hwp⟩ := hwp
    refine h_get (C := "BuckTables") (T := Tc0) (N := 12) hx hb hts inc0 hown hK hM he3 rfl 4 (by decide) (hts _ kw_206) (fun _ h9 => h9) hv4 d_BT_startPlans_40 ?_
    refine lv_icmp_ge (tgt := 72) hx hb d_BT_startPlans_43 (by decide) (fun c5 => ?_) (fun c5 => ?_)
    · replace hwp := hwp.1 c5
      obtain ⟨z6, ez6⟩ : ∃ y : Int32, y = x1 + 1 := ⟨_, rfl⟩
      replace hwp := hwp z6 ez6
      refine lv_iinc (v := z6) (lv' := [(1, .int z6), (0, .ref x0), (2, .int x2)]) hx hb d_BT_startPlans_72 hl (k := 1) rfl (by rw [ez6]; rfl) (by decide) rfl (fun ls hl => ?_)
      refine lv_goto (tgt := 28) hx hb d_BT_startPlans_75 (by decide) ?_
      exact hk28 x0 z6 M hwp H locs ls hM hS (lv_sub hl [1, 0] rfl)
    · replace hwp := hwp.2 c5
      refine lv_aload_n hx hb d_BT_startPlans_46 rfl (lv_at hl 0 rfl) ?_
      obtain ⟨a7, ⟨fs8, he9, hv10⟩, hwp⟩ := hwp
      refine h_get (C := "BuckTables") (T := Tc0) (N := 12) hx hb hts inc0 hown hK hM he9 rfl 0 (by decide) (hts _ kw_202) (fun _ h9 => h9) hv10 d_BT_startPlans_47 ?_
      refine lv_iload_n hx hb d_BT_startPlans_50 rfl (lv_at hl 1 rfl) ?_
      obtain ⟨a11, ⟨n12, f13, ha14, hi15, hy16⟩, hwp⟩ := hwp
      refine h_aald hx hb hK hM ha14 rfl hi15 hy16 d_BT_startPlans_51 ?_
      refine lv_iload_n hx hb d_BT_startPlans_52 rfl (lv_at hl 2 rfl) ?_
      refine lv_aload_n hx hb d_BT_startPlans_53 rfl (lv_at hl 0 rfl) ?_
      obtain ⟨a17, ⟨fs18, he19, hv20⟩, hwp⟩ := hwp
      refine h_get (C := "BuckTables") (T := Tc0) (N := 12) hx hb hts inc0 hown hK hM he19 rfl 1 (by decide) (hts _ kw_203) (fun _ h9 => h9) hv20 d_BT_startPlans_54 ?_
      refine lv_iload_n hx hb d_BT_startPlans_57 rfl (lv_at hl 2 rfl) ?_
      obtain ⟨a21, ⟨n22, f23, ha24, hi25, hy26⟩, hwp⟩ := hwp
      refine h_aald hx hb hK hM ha24 rfl hi25 hy26 d_BT_startPlans_58 ?_
      refine lv_aload_n hx hb d_BT_startPlans_59 rfl (lv_at hl 0 rfl) ?_
      obtain ⟨v27, ⟨fs28, he29, hv30⟩, hwp⟩ := hwp
      refine h_get (C := "BuckTables") (T := Tc0) (N := 12) hx hb hts inc0 hown hK hM he29 rfl 5 (by decide) (hts _ kw_207) (fun _ h9 => h9) hv30 d_BT_startPlans_60 ?_
      obtain ⟨ho32, hwp⟩ := hwp
      refine h_callv hM hS hA (va_runV (As := [.int x2, .ref a21, .int v27]) (rest := []) ⟨hx, hb, hml, hown, hts⟩ (metSt_findReach l D κ H.size a11 x2 a21 v27 M _ hwp) (cwV 3 hts (gV kw_251 kw_252 kw_253 kw_6 kw_254) rfl rfl rfl (by decide +kernel) ⟨(Nat.le_of_ble_eq_true rfl), (Nat.le_of_ble_eq_true rfl)⟩) (h_preV hE hM hS ho32 (r := ("BuckTables$Stem", Tc1, 12)) rfl) rfl rfl hl.1 rfl (lv_room (Nat.le_of_ble_eq_true rfl)) d_BT_startPlans_63 ⟨(Nat.le_of_ble_eq_true rfl), (Nat.le_of_ble_eq_true rfl)⟩) (fun M31 H locs hwp hM hS => ?_)
      obtain ⟨z33, ez33⟩ : ∃ y : Int32, y = x2 + 1 := ⟨_, rfl⟩
      replace hwp := hwp z33 ez33
      refine lv_iinc (v := z33) (lv' := [(2, .int z33), (0, .ref x0), (1, .int x1)]) hx hb d_BT_startPlans_66 hl (k := 2) rfl (by rw [ez33]; rfl) (by decide) rfl (fun ls hl => ?_)
      refine lv_goto (tgt := 38) hx hb d_BT_startPlans_69 (by decide) ?_
      exact ih x0 x1 z33 M31 hwp H locs ls hM hS (lv_sub hl [1, 2, 0] rfl)
def wBT_startPlans_28 (post : Hp → Prop)  : Nat → Nat → Int32 → Hp → Prop
  | 0 => fun _ _ _ => False
  | n + 1 => fun x0 x1 M => (∃ v34 : Int32, fI M x0 0 3 v34 ∧ ((v34 ≤ x1 → (post M)) ∧ (¬ v34 ≤ x1 → (∃ n39 : Nat, wBT_startPlans_38 post (wBT_startPlans_28 post n) n39 x0 x1 (0 : Int32) M))))
set_option maxRecDepth 100000 in
set_option maxHeartbeats 4000000 in
theorem tBT_startPlans_28 {p : Program} {l : Launch} {e : Env} {s : State} {m : MethodId} {args : Array Value} {below : List Frame} {meth : Method} {c : Code} {D : va_G} {κ : Nat → ClassId} {A : Nat → Prop} (C : Cx_BT_startPlans p s m args meth c D κ A) (post : Hp → Prop)  : ∀ (n : Nat) (x0 : Nat) (x1 : Int32) (M : Hp), wBT_startPlans_28 post n x0 x1 M → Y p l e rm_BT_startPlans s m args below meth c D kCl (hTys κ) A 3 0 0 (MQ below (va_Qv post (hB D kCl (hTys κ) A) A) args s 0 0 A) M 28 [(0, .ref x0), (1, .int x1)] [] := by
  obtain ⟨hx, hb, hml, hr, hown, hts, hlocks, hE, hA⟩ := id C
  have hK := hE.1
  intro n
  induction n with
  | zero => intro x0 x1 M hwp; exact hwp.elim
  | succ n ih =>
    intro x0 x1 M hwp H locs ls hM hS hl
    unfold wBT_startPlans_28 at hwp
    refine lv_iload_n hx hb d_BT_startPlans_28 rfl (lv_at hl 1 rfl) ?_
    refine lv_aload_n hx hb d_BT_startPlans_29 rfl (lv_at hl 0 rfl) ?_
    obtain ⟨v34, ⟨fs35, he36, hv37⟩, hwp⟩ := hwp
    refine h_get (C := "BuckTables") (T := Tc0) (N := 12) hx hb hts inc0 hown hK hM he36 rfl 3 (by decide) (hts _ kw_205) (fun _ h9 => h9) hv37 d_BT_startPlans_30 ?_
    refine lv_icmp_ge (tgt := 78) hx hb d_BT_startPlans_33 (by decide) (fun c38 => ?_) (fun c38 => ?_)
    · replace hwp := hwp.1 c38
      exact W.vret hx hb hr (fun t ht hW => ⟨⟨M, rfl, hwp, by show hw D kCl (hTys κ) A M t.heap; rw [ht]; exact hM⟩, hS.F ht⟩) hS.2.2 d_BT_startPlans_78
    · replace hwp := hwp.2 c38
      refine lv_iconst (v := 0) hx hb d_BT_startPlans_36 (by decide) ?_
      refine lv_istore_n (lv' := [(2, .int (0 : Int32)), (0, .ref x0), (1, .int x1)]) hx hb d_BT_startPlans_37 rfl hl (by decide) rfl (fun ls hl => ?_)
      obtain ⟨n39, hwp⟩ := hwp
      exact tBT_startPlans_38 C post (wBT_startPlans_28 post n) ih n39 x0 x1 (0 : Int32) M hwp H locs ls hM hS (lv_sub hl [1, 2, 0] rfl)
def wBT_startPlans_2 (post : Hp → Prop)  : Nat → Nat → Int32 → Hp → Prop
  | 0 => fun _ _ _ => False
  | n + 1 => fun x0 x1 M => (∃ v40 : Int32, fI M x0 0 4 v40 ∧ ((v40 ≤ x1 → (∃ n45 : Nat, wBT_startPlans_28 post n45 x0 (0 : Int32) M)) ∧ (¬ v40 ≤ x1 → (∃ a46 : Nat, fA M x0 0 1 a46 ∧ (∃ a50 : Nat, aA 4 M a46 x1 a50 ∧ (∃ M56 : Hp, pF M a50 2 9 (.long (0 : Int64)) M56 ∧ (∀ z60 : Int32, z60 = x1 + 1 → ((wBT_startPlans_2 post n) x0 z60 M56))))))))
set_option maxRecDepth 100000 in
set_option maxHeartbeats 4000000 in
theorem tBT_startPlans_2 {p : Program} {l : Launch} {e : Env} {s : State} {m : MethodId} {args : Array Value} {below : List Frame} {meth : Method} {c : Code} {D : va_G} {κ : Nat → ClassId} {A : Nat → Prop} (C : Cx_BT_startPlans p s m args meth c D κ A) (post : Hp → Prop)  : ∀ (n : Nat) (x0 : Nat) (x1 : Int32) (M : Hp), wBT_startPlans_2 post n x0 x1 M → Y p l e rm_BT_startPlans s m args below meth c D kCl (hTys κ) A 3 0 0 (MQ below (va_Qv post (hB D kCl (hTys κ) A) A) args s 0 0 A) M 2 [(0, .ref x0), (1, .int x1)] [] := by
  obtain ⟨hx, hb, hml, hr, hown, hts, hlocks, hE, hA⟩ := id C
  have hK := hE.1
  intro n
  induction n with
  | zero => intro x0 x1 M hwp; exact hwp.elim
  | succ n ih =>
    intro x0 x1 M hwp H locs ls hM hS hl
    unfold wBT_startPlans_2 at hwp
    refine lv_iload_n hx hb d_BT_startPlans_2 rfl (lv_at hl 1 rfl) ?_
    refine lv_aload_n hx hb d_BT_startPlans_3 rfl (lv_at hl 0 rfl) ?_
    obtain ⟨v40, ⟨fs41, he42, hv43⟩, hwp⟩ := hwp
    refine h_get (C := "BuckTables") (T := Tc0) (N := 12) hx hb hts inc0 hown hK hM he42 rfl 4 (by decide) (hts _ kw_206) (fun _ h9 => h9) hv43 d_BT_startPlans_4 ?_
    refine lv_icmp_ge (tgt := 26) hx hb d_BT_startPlans_7 (by decide) (fun c44 => ?_) (fun c44 => ?_)
    · replace hwp := hwp.1 c44
      refine lv_iconst (v := 0) hx hb d_BT_startPlans_26 (by decide) ?_
      refine lv_istore_n (lv' := [(1, .int (0 : Int32)), (0, .ref x0)]) hx hb d_BT_startPlans_27 rfl hl (by decide) rfl (fun ls hl => ?_)
      obtain ⟨n45, hwp⟩ := hwp
      exact tBT_startPlans_28 C post n45 x0 (0 : Int32) M hwp H locs ls hM hS (lv_sub hl [1, 0] rfl)
    · replace hwp := hwp.2 c44
      refine lv_aload_n hx hb d_BT_startPlans_10 rfl (lv_at hl 0 rfl) ?_
      obtain ⟨a46, ⟨fs47, he48, hv49⟩, hwp⟩ := hwp
      refine h_get (C := "BuckTables") (T := Tc0) (N := 12) hx hb hts inc0 hown hK hM he48 rfl 1 (by decide) (hts _ kw_203) (fun _ h9 => h9) hv49 d_BT_startPlans_11 ?_
      refine lv_iload_n hx hb d_BT_startPlans_14 rfl (lv_at hl 1 rfl) ?_
      obtain ⟨a50, ⟨n51, f52, ha53, hi54, hy55⟩, hwp⟩ := hwp
      refine h_aald hx hb hK hM ha53 rfl hi54 hy55 d_BT_startPlans_15 ?_
      refine lv_lconst (v := 0) hx hb d_BT_startPlans_16 (by decide) ?_
      obtain ⟨M56, ⟨fs57, he58, hl59, eM56⟩, hwp⟩ := hwp
      refine h_put (C := "BuckTables$Product") (T := Tc2) (N := 10) (v := .long (0 : Int64)) (ty := .long) hx hb hts inc2 tyc2 tyc2_ok nmc2 hown hK hM hS he58 rfl 9 (by decide) (hts _ kw_180) (fun _ h9 => h9) rfl (by decide +kernel) rfl rfl hl59 d_BT_startPlans_17 (fun H locs hM hS => ?_)
      rw [← eM56] at hM
      obtain ⟨z60, ez60⟩ : ∃ y : Int32, y = x1 + 1 := ⟨_, rfl⟩
      replace hwp := hwp z60 ez60
      refine lv_iinc (v := z60) (lv' := [(1, .int z60), (0, .ref x0)]) hx hb d_BT_startPlans_20 hl (k := 1) rfl (by rw [ez60]; rfl) (by decide) rfl (fun ls hl => ?_)
      refine lv_goto (tgt := 2) hx hb d_BT_startPlans_23 (by decide) ?_
      exact ih x0 z60 M56 hwp H locs ls hM hS (lv_sub hl [1, 0] rfl)
def wpBT_startPlans (self : Nat) (M : Hp) (post : Hp → Prop) : Prop := (∃ n61 : Nat, wBT_startPlans_2 post n61 self (0 : Int32) M)
set_option maxRecDepth 100000 in
set_option maxHeartbeats 4000000 in
theorem eBT_startPlans {p : Program} {l : Launch} {e : Env} {s : State} {m : MethodId} {args : Array Value} {below : List Frame} {meth : Method} {c : Code} {D : va_G} {κ : Nat → ClassId} {A : Nat → Prop} (C : Cx_BT_startPlans p s m args meth c D κ A) (post : Hp → Prop) (self : Nat) (M : Hp) (hwp : wpBT_startPlans self M post) : Y p l e rm_BT_startPlans s m args below meth c D kCl (hTys κ) A 3 0 0 (MQ below (va_Qv post (hB D kCl (hTys κ) A) A) args s 0 0 A) M 0 [(0, .ref self)] [] := by
  obtain ⟨hx, hb, hml, hr, hown, hts, hlocks, hE, hA⟩ := id C
  have hK := hE.1
  intro H locs ls hM hS hl
  unfold wpBT_startPlans at hwp
  refine lv_iconst (v := 0) hx hb d_BT_startPlans_0 (by decide) ?_
  refine lv_istore_n (lv' := [(1, .int (0 : Int32)), (0, .ref self)]) hx hb d_BT_startPlans_1 rfl hl (by decide) rfl (fun ls hl => ?_)
  obtain ⟨n61, hwp⟩ := hwp
  exact tBT_startPlans_2 C post n61 self (0 : Int32) M hwp H locs ls hM hS (lv_sub hl [1, 0] rfl)
set_option maxRecDepth 100000 in
set_option maxHeartbeats 4000000 in
theorem metBT_startPlans (l : Launch) (D : va_G) (κ : Nat → ClassId) (sz : Nat) (self : Nat) (M : Hp) (post : Hp → Prop) (hwp : wpBT_startPlans self M post) : Met l y_BT_startPlans ws_BT_startPlans rm_BT_startPlans (hPc D kCl (hTys κ) M sz [.ref self]) (va_Qv post (hB D kCl (hTys κ) (hAx M sz)) (hAx M sz)) 0 0 (hAx M sz) := by
  refine Met.ofW (cc := prog_1_method_31_code) (maxL := 3) (ret := none) (by decide +kernel) rfl ?_
  intro p e s m args below meth c s₁ B hml hv
  obtain ⟨rfl, hsz, hE, hM0⟩ := hv
  have hts : ∀ w ∈ WG, w.before _ s = true := fun w h => atoms_spec (ws := ws_BT_startPlans) B.pre w (List.mem_cons_of_mem _ h)
  subst hsz
  have C : Cx_BT_startPlans p s m _ meth c D κ (hAx M s.heap.size) := ⟨B.exec, B.bytes, hml, B.returns, findClass_of_methodNamed B.named, hts, B.notSynchronized, hE, fun q h => Or.inr h⟩
  have hl := lv_entry ([.ref self]) (n := 3) (Nat.le_of_ble_eq_true rfl)
  rw [lg_entry_eq]
  generalize (lg_sl ([.ref self]) ++ List.replicate (3 - (lg_sl ([.ref self])).length) Slot.unset).toArray = ls at hl ⊢
  exact eBT_startPlans C post self M hwp s.heap [] ls (hM0.self (sz := s.heap.size)) va_S.rf hl
abbrev rm_Pl_clear : Room := { frames := 0, cells := 0, slots := 0, locals := 0 }
def Cx_Pl_clear (p : Program) (s : State) (m : MethodId) (args : Array Value) (meth : Method) (c : Code) (D : va_G) (κ : Nat → ClassId) (A : Nat → Prop) : Prop := p.tables.exec = Jvm.exec ∧ c.code = prog_3_method_2_code ∧ c.maxLocals = 2 ∧ meth.sig.returnType = none ∧ s.vm.findClass "BuckTables$Plan" = some m.cls ∧ (∀ w ∈ WG, w.before args s = true) ∧ meth.locks = false ∧ hEnv D kCl (hTys κ) A s ∧ (∀ q, s.heap.size ≤ q → A q)
def wPl_clear_26 (post : Hp → Prop)  : Nat → Nat → Int32 → Hp → Prop
  | 0 => fun _ _ _ => False
  | n + 1 => fun x0 x1 M => (((8 : Int32) ≤ x1 → (∃ M2 : Hp, pF M x0 5 3 (.int (0 : Int32)) M2 ∧ (∃ M6 : Hp, pF M2 x0 5 4 (.long (0 : Int64)) M6 ∧ (post M6)))) ∧ (¬ (8 : Int32) ≤ x1 → (∃ a10 : Nat, fA M x0 5 2 a10 ∧ (∃ M18 : Hp, sI M a10 x1 (0 : Int32) M18 ∧ (∀ z19 : Int32, z19 = x1 + 1 → ((wPl_clear_26 post n) x0 z19 M18))))))
set_option maxRecDepth 100000 in
set_option maxHeartbeats 4000000 in
theorem tPl_clear_26 {p : Program} {l : Launch} {e : Env} {s : State} {m : MethodId} {args : Array Value} {below : List Frame} {meth : Method} {c : Code} {D : va_G} {κ : Nat → ClassId} {A : Nat → Prop} (C : Cx_Pl_clear p s m args meth c D κ A) (post : Hp → Prop)  : ∀ (n : Nat) (x0 : Nat) (x1 : Int32) (M : Hp), wPl_clear_26 post n x0 x1 M → Y p l e rm_Pl_clear s m args below meth c D kCl (hTys κ) A 2 0 0 (MQ below (va_Qv post (hB D kCl (hTys κ) A) A) args s 0 0 A) M 26 [(0, .ref x0), (1, .int x1)] [] := by
  obtain ⟨hx, hb, hml, hr, hown, hts, hlocks, hE, hA⟩ := id C
  have hK := hE.1
  intro n
  induction n with
  | zero => intro x0 x1 M hwp; exact hwp.elim
  | succ n ih =>
    intro x0 x1 M hwp H locs ls hM hS hl
    unfold wPl_clear_26 at hwp
    refine lv_iload_n hx hb d_Pl_clear_26 rfl (lv_at hl 1 rfl) ?_
    refine lv_bipush (v := 8) hx hb d_Pl_clear_27 (by decide) ?_
    refine lv_icmp_ge (tgt := 45) hx hb d_Pl_clear_29 (by decide) (fun c1 => ?_) (fun c1 => ?_)
    · replace hwp := hwp.1 c1
      refine lv_aload_n hx hb d_Pl_clear_45 rfl (lv_at hl 0 rfl) ?_
      refine lv_iconst (v := 0) hx hb d_Pl_clear_46 (by decide) ?_
      obtain ⟨M2, ⟨fs3, he4, hl5, eM2⟩, hwp⟩ := hwp
      refine h_put (C := "BuckTables$Plan") (T := Tc5) (N := 5) (v := .int (0 : Int32)) (ty := .int) hx hb hts inc5 tyc5 tyc5_ok nmc5 hown hK hM hS he4 rfl 3 (by decide) (hts _ kw_79) (fun _ h9 => h9) rfl (by decide +kernel) rfl rfl hl5 d_Pl_clear_47 (fun H locs hM hS => ?_)
      rw [← eM2] at hM
      refine lv_aload_n hx hb d_Pl_clear_50 rfl (lv_at hl 0 rfl) ?_
      refine lv_lconst (v := 0) hx hb d_Pl_clear_51 (by decide) ?_
      obtain ⟨M6, ⟨fs7, he8, hl9, eM6⟩, hwp⟩ := hwp
      refine h_put (C := "BuckTables$Plan") (T := Tc5) (N := 5) (v := .long (0 : Int64)) (ty := .long) hx hb hts inc5 tyc5 tyc5_ok nmc5 hown hK hM hS he8 rfl 4 (by decide) (hts _ kw_81) (fun _ h9 => h9) rfl (by decide +kernel) rfl rfl hl9 d_Pl_clear_52 (fun H locs hM hS => ?_)
      rw [← eM6] at hM
      exact W.vret hx hb hr (fun t ht hW => ⟨⟨M6, rfl, hwp, by show hw D kCl (hTys κ) A M6 t.heap; rw [ht]; exact hM⟩, hS.F ht⟩) hS.2.2 d_Pl_clear_55
    · replace hwp := hwp.2 c1
      refine lv_aload_n hx hb d_Pl_clear_32 rfl (lv_at hl 0 rfl) ?_
      obtain ⟨a10, ⟨fs11, he12, hv13⟩, hwp⟩ := hwp
      refine h_get (C := "BuckTables$Plan") (T := Tc5) (N := 5) hx hb hts inc5 hown hK hM he12 rfl 2 (by decide) (hts _ kw_77) (fun _ h9 => h9) hv13 d_Pl_clear_33 ?_
      refine lv_iload_n hx hb d_Pl_clear_36 rfl (lv_at hl 1 rfl) ?_
      refine lv_iconst (v := 0) hx hb d_Pl_clear_37 (by decide) ?_
      obtain ⟨M18, ⟨n14, f15, ha16, hi17, eM18⟩, hwp⟩ := hwp
      refine h_iast hx hb hK hM hS ha16 rfl hi17 d_Pl_clear_38 (fun H locs hM hS => ?_)
      rw [← eM18] at hM
      obtain ⟨z19, ez19⟩ : ∃ y : Int32, y = x1 + 1 := ⟨_, rfl⟩
      replace hwp := hwp z19 ez19
      refine lv_iinc (v := z19) (lv' := [(1, .int z19), (0, .ref x0)]) hx hb d_Pl_clear_39 hl (k := 1) rfl (by rw [ez19]; rfl) (by decide) rfl (fun ls hl => ?_)
      refine lv_goto (tgt := 26) hx hb d_Pl_clear_42 (by decide) ?_
      exact ih x0 z19 M18 hwp H locs ls hM hS (lv_sub hl [1, 0] rfl)
def wPl_clear_2 (post : Hp → Prop)  : Nat → Nat → Int32 → Hp → Prop
  | 0 => fun _ _ _ => False
  | n + 1 => fun x0 x1 M => (∃ a20 : Nat, fA M x0 5 1 a20 ∧ (∃ n24 : Nat, aL 1 M a20 n24 ∧ (((nI n24) ≤ x1 → (∃ n28 : Nat, wPl_clear_26 post n28 x0 (0 : Int32) M)) ∧ (¬ (nI n24) ≤ x1 → (∃ a29 : Nat, fA M x0 5 1 a29 ∧ (∃ M37 : Hp, sZ M a29 x1 (0 : Int32) M37 ∧ (∀ z38 : Int32, z38 = x1 + 1 → ((wPl_clear_2 post n) x0 z38 M37))))))))
set_option maxRecDepth 100000 in
set_option maxHeartbeats 4000000 in
theorem tPl_clear_2 {p : Program} {l : Launch} {e : Env} {s : State} {m : MethodId} {args : Array Value} {below : List Frame} {meth : Method} {c : Code} {D : va_G} {κ : Nat → ClassId} {A : Nat → Prop} (C : Cx_Pl_clear p s m args meth c D κ A) (post : Hp → Prop)  : ∀ (n : Nat) (x0 : Nat) (x1 : Int32) (M : Hp), wPl_clear_2 post n x0 x1 M → Y p l e rm_Pl_clear s m args below meth c D kCl (hTys κ) A 2 0 0 (MQ below (va_Qv post (hB D kCl (hTys κ) A) A) args s 0 0 A) M 2 [(0, .ref x0), (1, .int x1)] [] := by
  obtain ⟨hx, hb, hml, hr, hown, hts, hlocks, hE, hA⟩ := id C
  have hK := hE.1
  intro n
  induction n with
  | zero => intro x0 x1 M hwp; exact hwp.elim
  | succ n ih =>
    intro x0 x1 M hwp H locs ls hM hS hl
    unfold wPl_clear_2 at hwp
    refine lv_iload_n hx hb d_Pl_clear_2 rfl (lv_at hl 1 rfl) ?_
    refine lv_aload_n hx hb d_Pl_clear_3 rfl (lv_at hl 0 rfl) ?_
    obtain ⟨a20, ⟨fs21, he22, hv23⟩, hwp⟩ := hwp
    refine h_get (C := "BuckTables$Plan") (T := Tc5) (N := 5) hx hb hts inc5 hown hK hM he22 rfl 1 (by decide) (hts _ kw_76) (fun _ h9 => h9) hv23 d_Pl_clear_4 ?_
    obtain ⟨n24, ⟨x25, ha26, en24⟩, hwp⟩ := hwp
    refine h_alen hx hb hK hM ha26 d_Pl_clear_7 ?_
    rw [en24]
    refine lv_icmp_ge (tgt := 24) hx hb d_Pl_clear_8 (by decide) (fun c27 => ?_) (fun c27 => ?_)
    · replace hwp := hwp.1 c27
      refine lv_iconst (v := 0) hx hb d_Pl_clear_24 (by decide) ?_
      refine lv_istore_n (lv' := [(1, .int (0 : Int32)), (0, .ref x0)]) hx hb d_Pl_clear_25 rfl hl (by decide) rfl (fun ls hl => ?_)
      obtain ⟨n28, hwp⟩ := hwp
      exact tPl_clear_26 C post n28 x0 (0 : Int32) M hwp H locs ls hM hS (lv_sub hl [1, 0] rfl)
    · replace hwp := hwp.2 c27
      refine lv_aload_n hx hb d_Pl_clear_11 rfl (lv_at hl 0 rfl) ?_
      obtain ⟨a29, ⟨fs30, he31, hv32⟩, hwp⟩ := hwp
      refine h_get (C := "BuckTables$Plan") (T := Tc5) (N := 5) hx hb hts inc5 hown hK hM he31 rfl 1 (by decide) (hts _ kw_76) (fun _ h9 => h9) hv32 d_Pl_clear_12 ?_
      refine lv_iload_n hx hb d_Pl_clear_15 rfl (lv_at hl 1 rfl) ?_
      refine lv_iconst (v := 0) hx hb d_Pl_clear_16 (by decide) ?_
      obtain ⟨M37, ⟨n33, f34, ha35, hi36, eM37⟩, hwp⟩ := hwp
      refine h_zast hx hb hK hM hS ha35 rfl hi36 d_Pl_clear_17 (fun H locs hM hS => ?_)
      rw [← eM37] at hM
      obtain ⟨z38, ez38⟩ : ∃ y : Int32, y = x1 + 1 := ⟨_, rfl⟩
      replace hwp := hwp z38 ez38
      refine lv_iinc (v := z38) (lv' := [(1, .int z38), (0, .ref x0)]) hx hb d_Pl_clear_18 hl (k := 1) rfl (by rw [ez38]; rfl) (by decide) rfl (fun ls hl => ?_)
      refine lv_goto (tgt := 2) hx hb d_Pl_clear_21 (by decide) ?_
      exact ih x0 z38 M37 hwp H locs ls hM hS (lv_sub hl [1, 0] rfl)
def wpPl_clear (self : Nat) (M : Hp) (post : Hp → Prop) : Prop := (∃ n39 : Nat, wPl_clear_2 post n39 self (0 : Int32) M)
set_option maxRecDepth 100000 in
set_option maxHeartbeats 4000000 in
theorem ePl_clear {p : Program} {l : Launch} {e : Env} {s : State} {m : MethodId} {args : Array Value} {below : List Frame} {meth : Method} {c : Code} {D : va_G} {κ : Nat → ClassId} {A : Nat → Prop} (C : Cx_Pl_clear p s m args meth c D κ A) (post : Hp → Prop) (self : Nat) (M : Hp) (hwp : wpPl_clear self M post) : Y p l e rm_Pl_clear s m args below meth c D kCl (hTys κ) A 2 0 0 (MQ below (va_Qv post (hB D kCl (hTys κ) A) A) args s 0 0 A) M 0 [(0, .ref self)] [] := by
  obtain ⟨hx, hb, hml, hr, hown, hts, hlocks, hE, hA⟩ := id C
  have hK := hE.1
  intro H locs ls hM hS hl
  unfold wpPl_clear at hwp
  refine lv_iconst (v := 0) hx hb d_Pl_clear_0 (by decide) ?_
  refine lv_istore_n (lv' := [(1, .int (0 : Int32)), (0, .ref self)]) hx hb d_Pl_clear_1 rfl hl (by decide) rfl (fun ls hl => ?_)
  obtain ⟨n39, hwp⟩ := hwp
  exact tPl_clear_2 C post n39 self (0 : Int32) M hwp H locs ls hM hS (lv_sub hl [1, 0] rfl)
set_option maxRecDepth 100000 in
set_option maxHeartbeats 4000000 in
theorem metPl_clear (l : Launch) (D : va_G) (κ : Nat → ClassId) (sz : Nat) (self : Nat) (M : Hp) (post : Hp → Prop) (hwp : wpPl_clear self M post) : Met l y_Pl_clear ws_Pl_clear rm_Pl_clear (hPc D kCl (hTys κ) M sz [.ref self]) (va_Qv post (hB D kCl (hTys κ) (hAx M sz)) (hAx M sz)) 0 0 (hAx M sz) := by
  refine Met.ofW (cc := prog_3_method_2_code) (maxL := 2) (ret := none) (by decide +kernel) rfl ?_
  intro p e s m args below meth c s₁ B hml hv
  obtain ⟨rfl, hsz, hE, hM0⟩ := hv
  have hts : ∀ w ∈ WG, w.before _ s = true := fun w h => atoms_spec (ws := ws_Pl_clear) B.pre w (List.mem_cons_of_mem _ h)
  subst hsz
  have C : Cx_Pl_clear p s m _ meth c D κ (hAx M s.heap.size) := ⟨B.exec, B.bytes, hml, B.returns, findClass_of_methodNamed B.named, hts, B.notSynchronized, hE, fun q h => Or.inr h⟩
  have hl := lv_entry ([.ref self]) (n := 2) (Nat.le_of_ble_eq_true rfl)
  rw [lg_entry_eq]
  generalize (lg_sl ([.ref self]) ++ List.replicate (2 - (lg_sl ([.ref self])).length) Slot.unset).toArray = ls at hl ⊢
  exact ePl_clear C post self M hwp s.heap [] ls (hM0.self (sz := s.heap.size)) va_S.rf hl
abbrev rm_Wi_clear : Room := { frames := 0, cells := 0, slots := 0, locals := 0 }
def Cx_Wi_clear (p : Program) (s : State) (m : MethodId) (args : Array Value) (meth : Method) (c : Code) (D : va_G) (κ : Nat → ClassId) (A : Nat → Prop) : Prop := p.tables.exec = Jvm.exec ∧ c.code = prog_6_method_2_code ∧ c.maxLocals = 1 ∧ meth.sig.returnType = none ∧ s.vm.findClass "BuckTables$Window" = some m.cls ∧ (∀ w ∈ WG, w.before args s = true) ∧ meth.locks = false ∧ hEnv D kCl (hTys κ) A s ∧ (∀ q, s.heap.size ≤ q → A q)
def wpWi_clear (self : Nat) (M : Hp) (post : Hp → Prop) : Prop := (∃ M1 : Hp, pF M self 3 1 (.int (0 : Int32)) M1 ∧ (∃ M5 : Hp, pF M1 self 3 2 (.int (0 : Int32)) M5 ∧ (post M5)))
set_option maxRecDepth 100000 in
set_option maxHeartbeats 4000000 in
theorem eWi_clear {p : Program} {l : Launch} {e : Env} {s : State} {m : MethodId} {args : Array Value} {below : List Frame} {meth : Method} {c : Code} {D : va_G} {κ : Nat → ClassId} {A : Nat → Prop} (C : Cx_Wi_clear p s m args meth c D κ A) (post : Hp → Prop) (self : Nat) (M : Hp) (hwp : wpWi_clear self M post) : Y p l e rm_Wi_clear s m args below meth c D kCl (hTys κ) A 1 0 0 (MQ below (va_Qv post (hB D kCl (hTys κ) A) A) args s 0 0 A) M 0 [(0, .ref self)] [] := by
  obtain ⟨hx, hb, hml, hr, hown, hts, hlocks, hE, hA⟩ := id C
  have hK := hE.1
  intro H locs ls hM hS hl
  unfold wpWi_clear at hwp
  refine lv_aload_n hx hb d_Wi_clear_0 rfl (lv_at hl 0 rfl) ?_
  refine lv_iconst (v := 0) hx hb d_Wi_clear_1 (by decide) ?_
  obtain ⟨M1, ⟨fs2, he3, hl4, eM1⟩, hwp⟩ := hwp
  refine h_put (C := "BuckTables$Window") (T := Tc3) (N := 3) (v := .int (0 : Int32)) (ty := .int) hx hb hts inc3 tyc3 tyc3_ok nmc3 hown hK hM hS he3 rfl 1 (by decide) (hts _ kw_43) (fun _ h9 => h9) rfl (by decide +kernel) rfl rfl hl4 d_Wi_clear_2 (fun H locs hM hS => ?_)
  rw [← eM1] at hM
  refine lv_aload_n hx hb d_Wi_clear_5 rfl (lv_at hl 0 rfl) ?_
  refine lv_iconst (v := 0) hx hb d_Wi_clear_6 (by decide) ?_
  obtain ⟨M5, ⟨fs6, he7, hl8, eM5⟩, hwp⟩ := hwp
  refine h_put (C := "BuckTables$Window") (T := Tc3) (N := 3) (v := .int (0 : Int32)) (ty := .int) hx hb hts inc3 tyc3 tyc3_ok nmc3 hown hK hM hS he7 rfl 2 (by decide) (hts _ kw_45) (fun _ h9 => h9) rfl (by decide +kernel) rfl rfl hl8 d_Wi_clear_7 (fun H locs hM hS => ?_)
  rw [← eM5] at hM
  exact W.vret hx hb hr (fun t ht hW => ⟨⟨M5, rfl, hwp, by show hw D kCl (hTys κ) A M5 t.heap; rw [ht]; exact hM⟩, hS.F ht⟩) hS.2.2 d_Wi_clear_10
set_option maxRecDepth 100000 in
set_option maxHeartbeats 4000000 in
theorem metWi_clear (l : Launch) (D : va_G) (κ : Nat → ClassId) (sz : Nat) (self : Nat) (M : Hp) (post : Hp → Prop) (hwp : wpWi_clear self M post) : Met l y_Wi_clear ws_Wi_clear rm_Wi_clear (hPc D kCl (hTys κ) M sz [.ref self]) (va_Qv post (hB D kCl (hTys κ) (hAx M sz)) (hAx M sz)) 0 0 (hAx M sz) := by
  refine Met.ofW (cc := prog_6_method_2_code) (maxL := 1) (ret := none) (by decide +kernel) rfl ?_
  intro p e s m args below meth c s₁ B hml hv
  obtain ⟨rfl, hsz, hE, hM0⟩ := hv
  have hts : ∀ w ∈ WG, w.before _ s = true := fun w h => atoms_spec (ws := ws_Wi_clear) B.pre w (List.mem_cons_of_mem _ h)
  subst hsz
  have C : Cx_Wi_clear p s m _ meth c D κ (hAx M s.heap.size) := ⟨B.exec, B.bytes, hml, B.returns, findClass_of_methodNamed B.named, hts, B.notSynchronized, hE, fun q h => Or.inr h⟩
  have hl := lv_entry ([.ref self]) (n := 1) (Nat.le_of_ble_eq_true rfl)
  rw [lg_entry_eq]
  generalize (lg_sl ([.ref self]) ++ List.replicate (1 - (lg_sl ([.ref self])).length) Slot.unset).toArray = ls at hl ⊢
  exact eWi_clear C post self M hwp s.heap [] ls (hM0.self (sz := s.heap.size)) va_S.rf hl
abbrev rm_Wi_enter : Room := { frames := 0, cells := 0, slots := 0, locals := 0 }
def Cx_Wi_enter (p : Program) (s : State) (m : MethodId) (args : Array Value) (meth : Method) (c : Code) (D : va_G) (κ : Nat → ClassId) (A : Nat → Prop) : Prop := p.tables.exec = Jvm.exec ∧ c.code = prog_6_method_3_code ∧ c.maxLocals = 3 ∧ meth.sig.returnType = none ∧ s.vm.findClass "BuckTables$Window" = some m.cls ∧ (∀ w ∈ WG, w.before args s = true) ∧ meth.locks = false ∧ hEnv D kCl (hTys κ) A s ∧ (∀ q, s.heap.size ≤ q → A q)
def wWi_enter_72 (post : Hp → Prop)   (M : Hp) : Prop := (post M)
set_option maxRecDepth 100000 in
set_option maxHeartbeats 4000000 in
theorem tWi_enter_72 {p : Program} {l : Launch} {e : Env} {s : State} {m : MethodId} {args : Array Value} {below : List Frame} {meth : Method} {c : Code} {D : va_G} {κ : Nat → ClassId} {A : Nat → Prop} (C : Cx_Wi_enter p s m args meth c D κ A) (post : Hp → Prop)   (M : Hp) (hwp : wWi_enter_72 post  M) : Y p l e rm_Wi_enter s m args below meth c D kCl (hTys κ) A 3 0 0 (MQ below (va_Qv post (hB D kCl (hTys κ) A) A) args s 0 0 A) M 72 [] [] := by
  obtain ⟨hx, hb, hml, hr, hown, hts, hlocks, hE, hA⟩ := id C
  have hK := hE.1
  intro H locs ls hM hS hl
  unfold wWi_enter_72 at hwp
  exact W.vret hx hb hr (fun t ht hW => ⟨⟨M, rfl, hwp, by show hw D kCl (hTys κ) A M t.heap; rw [ht]; exact hM⟩, hS.F ht⟩) hS.2.2 d_Wi_enter_72
def wWi_enter_40 (post : Hp → Prop)  (x0 : Nat) (x1 : Int64) (M : Hp) : Prop := (∃ v1 : Int32, fI M x0 3 2 v1 ∧ (∃ a5 : Nat, fA M x0 3 0 a5 ∧ (∃ n9 : Nat, aL 2 M a5 n9 ∧ (((nI n9) ≤ v1 → (wWi_enter_72 post M)) ∧ (¬ (nI n9) ≤ v1 → (∃ a13 : Nat, fA M x0 3 0 a13 ∧ (∃ v17 : Int32, fI M x0 3 2 v17 ∧ (∃ M25 : Hp, sJ M a13 v17 x1 M25 ∧ (∃ v26 : Int32, fI M25 x0 3 2 v26 ∧ (∃ M30 : Hp, pF M25 x0 3 2 (.int (v26 + (1 : Int32))) M30 ∧ (wWi_enter_72 post M30)))))))))))
set_option maxRecDepth 100000 in
set_option maxHeartbeats 4000000 in
theorem tWi_enter_40 {p : Program} {l : Launch} {e : Env} {s : State} {m : MethodId} {args : Array Value} {below : List Frame} {meth : Method} {c : Code} {D : va_G} {κ : Nat → ClassId} {A : Nat → Prop} (C : Cx_Wi_enter p s m args meth c D κ A) (post : Hp → Prop)  (x0 : Nat) (x1 : Int64) (M : Hp) (hwp : wWi_enter_40 post x0 x1 M) : Y p l e rm_Wi_enter s m args below meth c D kCl (hTys κ) A 3 0 0 (MQ below (va_Qv post (hB D kCl (hTys κ) A) A) args s 0 0 A) M 40 [(0, .ref x0), (1, .long x1)] [] := by
  obtain ⟨hx, hb, hml, hr, hown, hts, hlocks, hE, hA⟩ := id C
  have hK := hE.1
  intro H locs ls hM hS hl
  unfold wWi_enter_40 at hwp
  refine lv_aload_n hx hb d_Wi_enter_40 rfl (lv_at hl 0 rfl) ?_
  obtain ⟨v1, ⟨fs2, he3, hv4⟩, hwp⟩ := hwp
  refine h_get (C := "BuckTables$Window") (T := Tc3) (N := 3) hx hb hts inc3 hown hK hM he3 rfl 2 (by decide) (hts _ kw_45) (fun _ h9 => h9) hv4 d_Wi_enter_41 ?_
  refine lv_aload_n hx hb d_Wi_enter_44 rfl (lv_at hl 0 rfl) ?_
  obtain ⟨a5, ⟨fs6, he7, hv8⟩, hwp⟩ := hwp
  refine h_get (C := "BuckTables$Window") (T := Tc3) (N := 3) hx hb hts inc3 hown hK hM he7 rfl 0 (by decide) (hts _ kw_41) (fun _ h9 => h9) hv8 d_Wi_enter_45 ?_
  obtain ⟨n9, ⟨x10, ha11, en9⟩, hwp⟩ := hwp
  refine h_alen hx hb hK hM ha11 d_Wi_enter_48 ?_
  rw [en9]
  refine lv_icmp_ge (tgt := 72) hx hb d_Wi_enter_49 (by decide) (fun c12 => ?_) (fun c12 => ?_)
  · replace hwp := hwp.1 c12
    exact tWi_enter_72 C post M hwp H locs ls hM hS (lv_sub hl [] rfl)
  · replace hwp := hwp.2 c12
    refine lv_aload_n hx hb d_Wi_enter_52 rfl (lv_at hl 0 rfl) ?_
    obtain ⟨a13, ⟨fs14, he15, hv16⟩, hwp⟩ := hwp
    refine h_get (C := "BuckTables$Window") (T := Tc3) (N := 3) hx hb hts inc3 hown hK hM he15 rfl 0 (by decide) (hts _ kw_41) (fun _ h9 => h9) hv16 d_Wi_enter_53 ?_
    refine lv_aload_n hx hb d_Wi_enter_56 rfl (lv_at hl 0 rfl) ?_
    obtain ⟨v17, ⟨fs18, he19, hv20⟩, hwp⟩ := hwp
    refine h_get (C := "BuckTables$Window") (T := Tc3) (N := 3) hx hb hts inc3 hown hK hM he19 rfl 2 (by decide) (hts _ kw_45) (fun _ h9 => h9) hv20 d_Wi_enter_57 ?_
    refine lv_lload_n hx hb d_Wi_enter_60 rfl (lv_at hl 1 rfl) ?_
    obtain ⟨M25, ⟨n21, f22, ha23, hi24, eM25⟩, hwp⟩ := hwp
    refine h_last hx hb hK hM hS ha23 rfl hi24 d_Wi_enter_61 (fun H locs hM hS => ?_)
    rw [← eM25] at hM
    refine lv_aload_n hx hb d_Wi_enter_62 rfl (lv_at hl 0 rfl) ?_
    refine lv_dup hx hb d_Wi_enter_63 rfl ?_
    obtain ⟨v26, ⟨fs27, he28, hv29⟩, hwp⟩ := hwp
    refine h_get (C := "BuckTables$Window") (T := Tc3) (N := 3) hx hb hts inc3 hown hK hM he28 rfl 2 (by decide) (hts _ kw_45) (fun _ h9 => h9) hv29 d_Wi_enter_64 ?_
    refine lv_iconst (v := 1) hx hb d_Wi_enter_67 (by decide) ?_
    refine lv_iadd hx hb d_Wi_enter_68 ?_
    obtain ⟨M30, ⟨fs31, he32, hl33, eM30⟩, hwp⟩ := hwp
    refine h_put (C := "BuckTables$Window") (T := Tc3) (N := 3) (v := .int (v26 + (1 : Int32))) (ty := .int) hx hb hts inc3 tyc3 tyc3_ok nmc3 hown hK hM hS he32 rfl 2 (by decide) (hts _ kw_45) (fun _ h9 => h9) rfl (by decide +kernel) rfl rfl hl33 d_Wi_enter_69 (fun H locs hM hS => ?_)
    rw [← eM30] at hM
    exact tWi_enter_72 C post M30 hwp H locs ls hM hS (lv_sub hl [] rfl)
def wWi_enter_0 (post : Hp → Prop)  : Nat → Nat → Int64 → Hp → Prop
  | 0 => fun _ _ _ => False
  | n + 1 => fun x0 x1 M => (∃ v34 : Int32, fI M x0 3 2 v34 ∧ (∃ v38 : Int32, fI M x0 3 1 v38 ∧ ((v34 ≤ v38 → (wWi_enter_40 post x0 x1 M)) ∧ (¬ v34 ≤ v38 → (∃ a43 : Nat, fA M x0 3 0 a43 ∧ (∃ v47 : Int32, fI M x0 3 2 v47 ∧ (∃ v51 : Int64, aJ M a43 (v47 - (1 : Int32)) v51 ∧ ((x1 ≤ v51 → (wWi_enter_40 post x0 x1 M)) ∧ (¬ x1 ≤ v51 → (∃ v57 : Int32, fI M x0 3 2 v57 ∧ (∃ M61 : Hp, pF M x0 3 2 (.int (v57 - (1 : Int32))) M61 ∧ ((wWi_enter_0 post n) x0 x1 M61))))))))))))
set_option maxRecDepth 100000 in
set_option maxHeartbeats 4000000 in
theorem tWi_enter_0 {p : Program} {l : Launch} {e : Env} {s : State} {m : MethodId} {args : Array Value} {below : List Frame} {meth : Method} {c : Code} {D : va_G} {κ : Nat → ClassId} {A : Nat → Prop} (C : Cx_Wi_enter p s m args meth c D κ A) (post : Hp → Prop)  : ∀ (n : Nat) (x0 : Nat) (x1 : Int64) (M : Hp), wWi_enter_0 post n x0 x1 M → Y p l e rm_Wi_enter s m args below meth c D kCl (hTys κ) A 3 0 0 (MQ below (va_Qv post (hB D kCl (hTys κ) A) A) args s 0 0 A) M 0 [(0, .ref x0), (1, .long x1)] [] := by
  obtain ⟨hx, hb, hml, hr, hown, hts, hlocks, hE, hA⟩ := id C
  have hK := hE.1
  intro n
  induction n with
  | zero => intro x0 x1 M hwp; exact hwp.elim
  | succ n ih =>
    intro x0 x1 M hwp H locs ls hM hS hl
    unfold wWi_enter_0 at hwp
    refine lv_aload_n hx hb d_Wi_enter_0 rfl (lv_at hl 0 rfl) ?_
    obtain ⟨v34, ⟨fs35, he36, hv37⟩, hwp⟩ := hwp
    refine h_get (C := "BuckTables$Window") (T := Tc3) (N := 3) hx hb hts inc3 hown hK hM he36 rfl 2 (by decide) (hts _ kw_45) (fun _ h9 => h9) hv37 d_Wi_enter_1 ?_
    refine lv_aload_n hx hb d_Wi_enter_4 rfl (lv_at hl 0 rfl) ?_
    obtain ⟨v38, ⟨fs39, he40, hv41⟩, hwp⟩ := hwp
    refine h_get (C := "BuckTables$Window") (T := Tc3) (N := 3) hx hb hts inc3 hown hK hM he40 rfl 1 (by decide) (hts _ kw_43) (fun _ h9 => h9) hv41 d_Wi_enter_5 ?_
    refine lv_icmp_le (tgt := 40) hx hb d_Wi_enter_8 (by decide) (fun c42 => ?_) (fun c42 => ?_)
    · replace hwp := hwp.1 c42
      exact tWi_enter_40 C post x0 x1 M hwp H locs ls hM hS (lv_sub hl [0, 1] rfl)
    · replace hwp := hwp.2 c42
      refine lv_aload_n hx hb d_Wi_enter_11 rfl (lv_at hl 0 rfl) ?_
      obtain ⟨a43, ⟨fs44, he45, hv46⟩, hwp⟩ := hwp
      refine h_get (C := "BuckTables$Window") (T := Tc3) (N := 3) hx hb hts inc3 hown hK hM he45 rfl 0 (by decide) (hts _ kw_41) (fun _ h9 => h9) hv46 d_Wi_enter_12 ?_
      refine lv_aload_n hx hb d_Wi_enter_15 rfl (lv_at hl 0 rfl) ?_
      obtain ⟨v47, ⟨fs48, he49, hv50⟩, hwp⟩ := hwp
      refine h_get (C := "BuckTables$Window") (T := Tc3) (N := 3) hx hb hts inc3 hown hK hM he49 rfl 2 (by decide) (hts _ kw_45) (fun _ h9 => h9) hv50 d_Wi_enter_16 ?_
      refine lv_iconst (v := 1) hx hb d_Wi_enter_19 (by decide) ?_
      refine lv_isub hx hb d_Wi_enter_20 ?_
      obtain ⟨v51, ⟨n52, f53, ha54, hi55, ev51⟩, hwp⟩ := hwp
      refine h_lald hx hb hK hM ha54 rfl hi55 d_Wi_enter_21 ?_
      rw [← ev51]
      refine lv_lload_n hx hb d_Wi_enter_22 rfl (lv_at hl 1 rfl) ?_
      refine W.lcmp hx hb d_Wi_enter_23 ?_
      refine lv_if_ge (tgt := 40) hx hb d_Wi_enter_24 (by decide) (fun c56 => ?_) (fun c56 => ?_)
      · replace c56 := (lc_ge _ _).mp c56
        replace hwp := hwp.1 c56
        exact tWi_enter_40 C post x0 x1 M hwp H locs ls hM hS (lv_sub hl [0, 1] rfl)
      · replace c56 := fun h9 => c56 ((lc_ge _ _).mpr h9)
        replace hwp := hwp.2 c56
        refine lv_aload_n hx hb d_Wi_enter_27 rfl (lv_at hl 0 rfl) ?_
        refine lv_dup hx hb d_Wi_enter_28 rfl ?_
        obtain ⟨v57, ⟨fs58, he59, hv60⟩, hwp⟩ := hwp
        refine h_get (C := "BuckTables$Window") (T := Tc3) (N := 3) hx hb hts inc3 hown hK hM he59 rfl 2 (by decide) (hts _ kw_45) (fun _ h9 => h9) hv60 d_Wi_enter_29 ?_
        refine lv_iconst (v := 1) hx hb d_Wi_enter_32 (by decide) ?_
        refine lv_isub hx hb d_Wi_enter_33 ?_
        obtain ⟨M61, ⟨fs62, he63, hl64, eM61⟩, hwp⟩ := hwp
        refine h_put (C := "BuckTables$Window") (T := Tc3) (N := 3) (v := .int (v57 - (1 : Int32))) (ty := .int) hx hb hts inc3 tyc3 tyc3_ok nmc3 hown hK hM hS he63 rfl 2 (by decide) (hts _ kw_45) (fun _ h9 => h9) rfl (by decide +kernel) rfl rfl hl64 d_Wi_enter_34 (fun H locs hM hS => ?_)
        rw [← eM61] at hM
        refine lv_goto (tgt := 0) hx hb d_Wi_enter_37 (by decide) ?_
        exact ih x0 x1 M61 hwp H locs ls hM hS (lv_sub hl [0, 1] rfl)
def wpWi_enter (self : Nat) (p0 : Int64) (M : Hp) (post : Hp → Prop) : Prop := (∃ n65 : Nat, wWi_enter_0 post n65 self p0 M)
set_option maxRecDepth 100000 in
set_option maxHeartbeats 4000000 in
theorem eWi_enter {p : Program} {l : Launch} {e : Env} {s : State} {m : MethodId} {args : Array Value} {below : List Frame} {meth : Method} {c : Code} {D : va_G} {κ : Nat → ClassId} {A : Nat → Prop} (C : Cx_Wi_enter p s m args meth c D κ A) (post : Hp → Prop) (self : Nat) (p0 : Int64) (M : Hp) (hwp : wpWi_enter self p0 M post) : Y p l e rm_Wi_enter s m args below meth c D kCl (hTys κ) A 3 0 0 (MQ below (va_Qv post (hB D kCl (hTys κ) A) A) args s 0 0 A) M 0 [(0, .ref self), (1, .long p0)] [] := by
  obtain ⟨hx, hb, hml, hr, hown, hts, hlocks, hE, hA⟩ := id C
  have hK := hE.1
  intro H locs ls hM hS hl
  unfold wpWi_enter at hwp
  obtain ⟨n65, hwp⟩ := hwp
  exact tWi_enter_0 C post n65 self p0 M hwp H locs ls hM hS (lv_sub hl [0, 1] rfl)
set_option maxRecDepth 100000 in
set_option maxHeartbeats 4000000 in
theorem metWi_enter (l : Launch) (D : va_G) (κ : Nat → ClassId) (sz : Nat) (self : Nat) (p0 : Int64) (M : Hp) (post : Hp → Prop) (hwp : wpWi_enter self p0 M post) : Met l y_Wi_enter ws_Wi_enter rm_Wi_enter (hPc D kCl (hTys κ) M sz [.ref self, .long p0]) (va_Qv post (hB D kCl (hTys κ) (hAx M sz)) (hAx M sz)) 0 0 (hAx M sz) := by
  refine Met.ofW (cc := prog_6_method_3_code) (maxL := 3) (ret := none) (by decide +kernel) rfl ?_
  intro p e s m args below meth c s₁ B hml hv
  obtain ⟨rfl, hsz, hE, hM0⟩ := hv
  have hts : ∀ w ∈ WG, w.before _ s = true := fun w h => atoms_spec (ws := ws_Wi_enter) B.pre w (List.mem_cons_of_mem _ h)
  subst hsz
  have C : Cx_Wi_enter p s m _ meth c D κ (hAx M s.heap.size) := ⟨B.exec, B.bytes, hml, B.returns, findClass_of_methodNamed B.named, hts, B.notSynchronized, hE, fun q h => Or.inr h⟩
  have hl := lv_entry ([.ref self, .long p0]) (n := 3) (Nat.le_of_ble_eq_true rfl)
  rw [lg_entry_eq]
  generalize (lg_sl ([.ref self, .long p0]) ++ List.replicate (3 - (lg_sl ([.ref self, .long p0])).length) Slot.unset).toArray = ls at hl ⊢
  exact eWi_enter C post self p0 M hwp s.heap [] ls (hM0.self (sz := s.heap.size)) va_S.rf hl
