abbrev rm_Mo_goRounds : Room := { frames := 4, cells := 0, slots := 0, locals := 105 }
def Cx_Mo_goRounds (p : Program) (s : State) (m : MethodId) (args : Array Value) (meth : Method) (c : Code) (D : va_G) (κ : Nat → ClassId) (A : Nat → Prop) : Prop := p.tables.exec = Jvm.exec ∧ c.code = prog_8_method_35_code ∧ c.maxLocals = 10 ∧ meth.sig.returnType = (some .int) ∧ s.vm.findClass "BuckTablesModel" = some m.cls ∧ (∀ w ∈ WG, w.before args s = true) ∧ meth.locks = false ∧ hEnv D kCl (hTys κ) A s ∧ (∀ q, s.heap.size ≤ q → A q)
def wMo_goRounds_279 (post : Int32 → Hp → Prop)  (x0 : Nat) (x1 : Int32) (x6 : Int32) (M : Hp) : Prop := (∃ M1 : Hp, pF M x0 6 34 (.int x1) M1 ∧ (∃ M5 : Hp, pF M1 x0 6 33 (.int (1 : Int32)) M5 ∧ (post x6 M5)))
set_option maxRecDepth 100000 in
set_option maxHeartbeats 4000000 in
theorem tMo_goRounds_279 {p : Program} {l : Launch} {e : Env} {s : State} {m : MethodId} {args : Array Value} {below : List Frame} {meth : Method} {c : Code} {D : va_G} {κ : Nat → ClassId} {A : Nat → Prop} (C : Cx_Mo_goRounds p s m args meth c D κ A) (post : Int32 → Hp → Prop)  (x0 : Nat) (x1 : Int32) (x6 : Int32) (M : Hp) (hwp : wMo_goRounds_279 post x0 x1 x6 M) : Y p l e rm_Mo_goRounds s m args below meth c D kCl (hTys κ) A 10 0 0 (MQ below (va_Qi post (hB D kCl (hTys κ) A) A) args s 0 0 A) M 279 [(0, .ref x0), (1, .int x1), (6, .int x6)] [] := by
  obtain ⟨hx, hb, hml, hr, hown, hts, hlocks, hE, hA⟩ := id C
  have hK := hE.1
  intro H locs ls hM hS hl
  unfold wMo_goRounds_279 at hwp
  refine lv_aload_n hx hb d_Mo_goRounds_279 rfl (lv_at hl 0 rfl) ?_
  refine lv_iload_n hx hb d_Mo_goRounds_280 rfl (lv_at hl 1 rfl) ?_
  obtain ⟨M1, ⟨fs2, he3, hl4, eM1⟩, hwp⟩ := hwp
  refine h_put (C := "BuckTablesModel") (T := Tc6) (N := 36) (v := .int x1) (ty := .int) hx hb hts inc6 tyc6 tyc6_ok nmc6 hown hK hM hS he3 rfl 34 (by decide) (hts _ kw_754) (fun _ h9 => h9) rfl (by decide +kernel) rfl rfl hl4 d_Mo_goRounds_281 (fun H locs hM hS => ?_)
  rw [← eM1] at hM
  refine lv_aload_n hx hb d_Mo_goRounds_284 rfl (lv_at hl 0 rfl) ?_
  refine lv_iconst (v := 1) hx hb d_Mo_goRounds_285 (by decide) ?_
  obtain ⟨M5, ⟨fs6, he7, hl8, eM5⟩, hwp⟩ := hwp
  refine h_put (C := "BuckTablesModel") (T := Tc6) (N := 36) (v := .int (1 : Int32)) (ty := .boolean) hx hb hts inc6 tyc6 tyc6_ok nmc6 hown hK hM hS he7 rfl 33 (by decide) (hts _ kw_753) (fun _ h9 => h9) rfl (by decide +kernel) (by decide) (by decide) hl8 d_Mo_goRounds_286 (fun H locs hM hS => ?_)
  rw [← eM5] at hM
  refine lv_iload hx hb d_Mo_goRounds_289 (lv_at hl 2 rfl) ?_
  exact W.iret (v := x6) hx hb hr (fun t ht hW => ⟨⟨x6, M5, rfl, hwp, by show hw D kCl (hTys κ) A M5 t.heap; rw [ht]; exact hM⟩, hS.F ht⟩) hS.2.2 d_Mo_goRounds_291
def wMo_goRounds_258 (post : Int32 → Hp → Prop)  : Nat → Nat → Int32 → Int32 → Int32 → Hp → Prop
  | 0 => fun _ _ _ _ _ => False
  | n + 1 => fun x0 x1 x6 x7 M => (∃ v9 : Int32, fI M x0 6 14 v9 ∧ ((v9 ≤ x7 → (wMo_goRounds_279 post x0 x1 x6 M)) ∧ (¬ v9 ≤ x7 → (hob M x0 6 ∧ (wpMo_giveWay x0 x7 M (fun (M14 : Hp) => (∀ z16 : Int32, z16 = x7 + 1 → ((wMo_goRounds_258 post n) x0 x1 x6 z16 M14))))))))
set_option maxRecDepth 100000 in
set_option maxHeartbeats 4000000 in
theorem tMo_goRounds_258 {p : Program} {l : Launch} {e : Env} {s : State} {m : MethodId} {args : Array Value} {below : List Frame} {meth : Method} {c : Code} {D : va_G} {κ : Nat → ClassId} {A : Nat → Prop} (C : Cx_Mo_goRounds p s m args meth c D κ A) (post : Int32 → Hp → Prop)  : ∀ (n : Nat) (x0 : Nat) (x1 : Int32) (x6 : Int32) (x7 : Int32) (M : Hp), wMo_goRounds_258 post n x0 x1 x6 x7 M → Y p l e rm_Mo_goRounds s m args below meth c D kCl (hTys κ) A 10 0 0 (MQ below (va_Qi post (hB D kCl (hTys κ) A) A) args s 0 0 A) M 258 [(0, .ref x0), (1, .int x1), (6, .int x6), (7, .int x7)] [] := by
  obtain ⟨hx, hb, hml, hr, hown, hts, hlocks, hE, hA⟩ := id C
  have hK := hE.1
  intro n
  induction n with
  | zero => intro x0 x1 x6 x7 M hwp; exact hwp.elim
  | succ n ih =>
    intro x0 x1 x6 x7 M hwp H locs ls hM hS hl
    unfold wMo_goRounds_258 at hwp
    refine lv_iload hx hb d_Mo_goRounds_258 (lv_at hl 3 rfl) ?_
    refine lv_aload_n hx hb d_Mo_goRounds_260 rfl (lv_at hl 0 rfl) ?_
    obtain ⟨v9, ⟨fs10, he11, hv12⟩, hwp⟩ := hwp
    refine h_get (C := "BuckTablesModel") (T := Tc6) (N := 36) hx hb hts inc6 hown hK hM he11 rfl 14 (by decide) (hts _ kw_734) (fun _ h9 => h9) hv12 d_Mo_goRounds_261 ?_
    refine lv_icmp_ge (tgt := 279) hx hb d_Mo_goRounds_264 (by decide) (fun c13 => ?_) (fun c13 => ?_)
    · replace hwp := hwp.1 c13
      exact tMo_goRounds_279 C post x0 x1 x6 M hwp H locs ls hM hS (lv_sub hl [0, 1, 2] rfl)
    · replace hwp := hwp.2 c13
      refine lv_aload_n hx hb d_Mo_goRounds_267 rfl (lv_at hl 0 rfl) ?_
      refine lv_iload hx hb d_Mo_goRounds_268 (lv_at hl 3 rfl) ?_
      obtain ⟨ho15, hwp⟩ := hwp
      refine h_callv hM hS hA (va_runV (As := [.int x7]) (rest := []) ⟨hx, hb, hml, hown, hts⟩ (metMo_giveWay l D κ H.size x0 x7 M _ hwp) (cwV 1 hts (gV kw_971 kw_973 kp_43 kw_8 kw_974) rfl rfl rfl (by decide +kernel) ⟨(Nat.le_of_ble_eq_true rfl), (Nat.le_of_ble_eq_true rfl)⟩) (h_preV hE hM hS ho15 (r := ("BuckTablesModel", Tc6, 36)) rfl) rfl rfl hl.1 rfl (lv_room (Nat.le_of_ble_eq_true rfl)) d_Mo_goRounds_270 ⟨(Nat.le_of_ble_eq_true rfl), (Nat.le_of_ble_eq_true rfl)⟩) (fun M14 H locs hwp hM hS => ?_)
      obtain ⟨z16, ez16⟩ : ∃ y : Int32, y = x7 + 1 := ⟨_, rfl⟩
      replace hwp := hwp z16 ez16
      refine lv_iinc (v := z16) (lv' := [(7, .int z16), (0, .ref x0), (1, .int x1), (6, .int x6)]) hx hb d_Mo_goRounds_273 hl (k := 3) rfl (by rw [ez16]; rfl) (by decide) rfl (fun ls hl => ?_)
      refine lv_goto (tgt := 258) hx hb d_Mo_goRounds_276 (by decide) ?_
      exact ih x0 x1 x6 z16 M14 hwp H locs ls hM hS (lv_sub hl [1, 2, 3, 0] rfl)
def wMo_goRounds_212 (post : Int32 → Hp → Prop)  (x0 : Nat) (x1 : Int32) (x2 : Int32) (x6 : Int32) (M : Hp) : Prop := ((x2 = 0 → (∃ n18 : Nat, wMo_goRounds_258 post n18 x0 x1 x6 (0 : Int32) M)) ∧ (¬ x2 = 0 → (∃ a19 : Nat, fA M x0 6 28 a19 ∧ (∃ a23 : Nat, fA M x0 6 25 a23 ∧ (hob M x0 6 ∧ (wpMo_copy x0 a19 a23 M (fun (M27 : Hp) => (∃ a29 : Nat, fA M27 x0 6 29 a29 ∧ (∃ a33 : Nat, fA M27 x0 6 26 a33 ∧ (hob M27 x0 6 ∧ (wpMo_copy x0 a29 a33 M27 (fun (M37 : Hp) => (∃ a39 : Nat, fA M37 x0 6 30 a39 ∧ (∃ a43 : Nat, fA M37 x0 6 27 a43 ∧ (hob M37 x0 6 ∧ (wpMo_copy x0 a39 a43 M37 (fun (M47 : Hp) => (wMo_goRounds_279 post x0 x1 x6 M47))))))))))))))))))
set_option maxRecDepth 100000 in
set_option maxHeartbeats 4000000 in
theorem tMo_goRounds_212 {p : Program} {l : Launch} {e : Env} {s : State} {m : MethodId} {args : Array Value} {below : List Frame} {meth : Method} {c : Code} {D : va_G} {κ : Nat → ClassId} {A : Nat → Prop} (C : Cx_Mo_goRounds p s m args meth c D κ A) (post : Int32 → Hp → Prop)  (x0 : Nat) (x1 : Int32) (x2 : Int32) (x6 : Int32) (M : Hp) (hwp : wMo_goRounds_212 post x0 x1 x2 x6 M) : Y p l e rm_Mo_goRounds s m args below meth c D kCl (hTys κ) A 10 0 0 (MQ below (va_Qi post (hB D kCl (hTys κ) A) A) args s 0 0 A) M 212 [(0, .ref x0), (1, .int x1), (2, .int x2), (6, .int x6)] [] := by
  obtain ⟨hx, hb, hml, hr, hown, hts, hlocks, hE, hA⟩ := id C
  have hK := hE.1
  intro H locs ls hM hS hl
  unfold wMo_goRounds_212 at hwp
  refine lv_iload_n hx hb d_Mo_goRounds_212 rfl (lv_at hl 2 rfl) ?_
  refine lv_if_eq (tgt := 255) hx hb d_Mo_goRounds_213 (by decide) (fun c17 => ?_) (fun c17 => ?_)
  · replace hwp := hwp.1 c17
    refine lv_iconst (v := 0) hx hb d_Mo_goRounds_255 (by decide) ?_
    refine lv_istore (lv' := [(7, .int (0 : Int32)), (0, .ref x0), (1, .int x1), (2, .int x2), (6, .int x6)]) hx hb d_Mo_goRounds_256 hl (by decide) rfl (fun ls hl => ?_)
    obtain ⟨n18, hwp⟩ := hwp
    exact tMo_goRounds_258 C post n18 x0 x1 x6 (0 : Int32) M hwp H locs ls hM hS (lv_sub hl [1, 2, 4, 0] rfl)
  · replace hwp := hwp.2 c17
    refine lv_aload_n hx hb d_Mo_goRounds_216 rfl (lv_at hl 0 rfl) ?_
    refine lv_aload_n hx hb d_Mo_goRounds_217 rfl (lv_at hl 0 rfl) ?_
    obtain ⟨a19, ⟨fs20, he21, hv22⟩, hwp⟩ := hwp
    refine h_get (C := "BuckTablesModel") (T := Tc6) (N := 36) hx hb hts inc6 hown hK hM he21 rfl 28 (by decide) (hts _ kw_748) (fun _ h9 => h9) hv22 d_Mo_goRounds_218 ?_
    refine lv_aload_n hx hb d_Mo_goRounds_221 rfl (lv_at hl 0 rfl) ?_
    obtain ⟨a23, ⟨fs24, he25, hv26⟩, hwp⟩ := hwp
    refine h_get (C := "BuckTablesModel") (T := Tc6) (N := 36) hx hb hts inc6 hown hK hM he25 rfl 25 (by decide) (hts _ kw_745) (fun _ h9 => h9) hv26 d_Mo_goRounds_222 ?_
    obtain ⟨ho28, hwp⟩ := hwp
    refine h_callv hM hS hA (va_runV (As := [.ref a19, .ref a23]) (rest := []) ⟨hx, hb, hml, hown, hts⟩ (metMo_copy l D κ H.size x0 a19 a23 M _ hwp) (cwV 2 hts (gV kw_959 kw_961 kp_40 kw_8 kw_962) rfl rfl rfl (by decide +kernel) ⟨(Nat.le_of_ble_eq_true rfl), (Nat.le_of_ble_eq_true rfl)⟩) (h_preV hE hM hS ho28 (r := ("BuckTablesModel", Tc6, 36)) rfl) rfl rfl hl.1 rfl (lv_room (Nat.le_of_ble_eq_true rfl)) d_Mo_goRounds_225 ⟨(Nat.le_of_ble_eq_true rfl), (Nat.le_of_ble_eq_true rfl)⟩) (fun M27 H locs hwp hM hS => ?_)
    refine lv_aload_n hx hb d_Mo_goRounds_228 rfl (lv_at hl 0 rfl) ?_
    refine lv_aload_n hx hb d_Mo_goRounds_229 rfl (lv_at hl 0 rfl) ?_
    obtain ⟨a29, ⟨fs30, he31, hv32⟩, hwp⟩ := hwp
    refine h_get (C := "BuckTablesModel") (T := Tc6) (N := 36) hx hb hts inc6 hown hK hM he31 rfl 29 (by decide) (hts _ kw_749) (fun _ h9 => h9) hv32 d_Mo_goRounds_230 ?_
    refine lv_aload_n hx hb d_Mo_goRounds_233 rfl (lv_at hl 0 rfl) ?_
    obtain ⟨a33, ⟨fs34, he35, hv36⟩, hwp⟩ := hwp
    refine h_get (C := "BuckTablesModel") (T := Tc6) (N := 36) hx hb hts inc6 hown hK hM he35 rfl 26 (by decide) (hts _ kw_746) (fun _ h9 => h9) hv36 d_Mo_goRounds_234 ?_
    obtain ⟨ho38, hwp⟩ := hwp
    refine h_callv hM hS hA (va_runV (As := [.ref a29, .ref a33]) (rest := []) ⟨hx, hb, hml, hown, hts⟩ (metMo_copy l D κ H.size x0 a29 a33 M27 _ hwp) (cwV 2 hts (gV kw_959 kw_961 kp_40 kw_8 kw_962) rfl rfl rfl (by decide +kernel) ⟨(Nat.le_of_ble_eq_true rfl), (Nat.le_of_ble_eq_true rfl)⟩) (h_preV hE hM hS ho38 (r := ("BuckTablesModel", Tc6, 36)) rfl) rfl rfl hl.1 rfl (lv_room (Nat.le_of_ble_eq_true rfl)) d_Mo_goRounds_237 ⟨(Nat.le_of_ble_eq_true rfl), (Nat.le_of_ble_eq_true rfl)⟩) (fun M37 H locs hwp hM hS => ?_)
    refine lv_aload_n hx hb d_Mo_goRounds_240 rfl (lv_at hl 0 rfl) ?_
    refine lv_aload_n hx hb d_Mo_goRounds_241 rfl (lv_at hl 0 rfl) ?_
    obtain ⟨a39, ⟨fs40, he41, hv42⟩, hwp⟩ := hwp
    refine h_get (C := "BuckTablesModel") (T := Tc6) (N := 36) hx hb hts inc6 hown hK hM he41 rfl 30 (by decide) (hts _ kw_750) (fun _ h9 => h9) hv42 d_Mo_goRounds_242 ?_
    refine lv_aload_n hx hb d_Mo_goRounds_245 rfl (lv_at hl 0 rfl) ?_
    obtain ⟨a43, ⟨fs44, he45, hv46⟩, hwp⟩ := hwp
    refine h_get (C := "BuckTablesModel") (T := Tc6) (N := 36) hx hb hts inc6 hown hK hM he45 rfl 27 (by decide) (hts _ kw_747) (fun _ h9 => h9) hv46 d_Mo_goRounds_246 ?_
    obtain ⟨ho48, hwp⟩ := hwp
    refine h_callv hM hS hA (va_runV (As := [.ref a39, .ref a43]) (rest := []) ⟨hx, hb, hml, hown, hts⟩ (metMo_copy l D κ H.size x0 a39 a43 M37 _ hwp) (cwV 2 hts (gV kw_959 kw_961 kp_40 kw_8 kw_962) rfl rfl rfl (by decide +kernel) ⟨(Nat.le_of_ble_eq_true rfl), (Nat.le_of_ble_eq_true rfl)⟩) (h_preV hE hM hS ho48 (r := ("BuckTablesModel", Tc6, 36)) rfl) rfl rfl hl.1 rfl (lv_room (Nat.le_of_ble_eq_true rfl)) d_Mo_goRounds_249 ⟨(Nat.le_of_ble_eq_true rfl), (Nat.le_of_ble_eq_true rfl)⟩) (fun M47 H locs hwp hM hS => ?_)
    refine lv_goto (tgt := 279) hx hb d_Mo_goRounds_252 (by decide) ?_
    exact tMo_goRounds_279 C post x0 x1 x6 M47 hwp H locs ls hM hS (lv_sub hl [0, 1, 3] rfl)
def wMo_goRounds_197 (post : Int32 → Hp → Prop) (k31 : Nat → Int32 → Int32 → Int64 → Int32 → Int32 → Hp → Prop) (x0 : Nat) (x1 : Int32) (x2 : Int32) (x3 : Int64) (x6 : Int32) (M : Hp) : Prop := (hob M x0 6 ∧ (wpMo_isSettled x0 M (fun (r51 : Int32) (M49 : Hp) => (hob M49 x0 6 ∧ (wpMo_setPrices x0 x6 M49 (fun (M52 : Hp) => (k31 x0 x1 x2 x3 r51 x6 M52)))))))
set_option maxRecDepth 100000 in
set_option maxHeartbeats 4000000 in
theorem tMo_goRounds_197 {p : Program} {l : Launch} {e : Env} {s : State} {m : MethodId} {args : Array Value} {below : List Frame} {meth : Method} {c : Code} {D : va_G} {κ : Nat → ClassId} {A : Nat → Prop} (C : Cx_Mo_goRounds p s m args meth c D κ A) (post : Int32 → Hp → Prop) (k31 : Nat → Int32 → Int32 → Int64 → Int32 → Int32 → Hp → Prop) (hk31 : ∀ (x0 : Nat) (x1 : Int32) (x2 : Int32) (x3 : Int64) (x5 : Int32) (x6 : Int32) (M : Hp), k31 x0 x1 x2 x3 x5 x6 M → Y p l e rm_Mo_goRounds s m args below meth c D kCl (hTys κ) A 10 0 0 (MQ below (va_Qi post (hB D kCl (hTys κ) A) A) args s 0 0 A) M 31 [(0, .ref x0), (1, .int x1), (2, .int x2), (3, .long x3), (5, .int x5), (6, .int x6)] []) (x0 : Nat) (x1 : Int32) (x2 : Int32) (x3 : Int64) (x6 : Int32) (M : Hp) (hwp : wMo_goRounds_197 post k31 x0 x1 x2 x3 x6 M) : Y p l e rm_Mo_goRounds s m args below meth c D kCl (hTys κ) A 10 0 0 (MQ below (va_Qi post (hB D kCl (hTys κ) A) A) args s 0 0 A) M 197 [(0, .ref x0), (1, .int x1), (2, .int x2), (3, .long x3), (6, .int x6)] [] := by
  obtain ⟨hx, hb, hml, hr, hown, hts, hlocks, hE, hA⟩ := id C
  have hK := hE.1
  intro H locs ls hM hS hl
  unfold wMo_goRounds_197 at hwp
  refine lv_aload_n hx hb d_Mo_goRounds_197 rfl (lv_at hl 0 rfl) ?_
  obtain ⟨ho50, hwp⟩ := hwp
  refine h_calli hM hS hA (va_runV (As := []) (rest := []) ⟨hx, hb, hml, hown, hts⟩ (metMo_isSettled l D κ H.size x0 M _ hwp) (cwV 0 hts (gV kw_963 kw_965 kp_41 kw_8 kw_966) rfl rfl rfl (by decide +kernel) ⟨(Nat.le_of_ble_eq_true rfl), (Nat.le_of_ble_eq_true rfl)⟩) (h_preV hE hM hS ho50 (r := ("BuckTablesModel", Tc6, 36)) rfl) rfl rfl hl.1 rfl (lv_room (Nat.le_of_ble_eq_true rfl)) d_Mo_goRounds_198 ⟨(Nat.le_of_ble_eq_true rfl), (Nat.le_of_ble_eq_true rfl)⟩) (fun r51 M49 H locs hwp hM hS => ?_)
  refine lv_istore (lv' := [(5, .int r51), (0, .ref x0), (1, .int x1), (2, .int x2), (3, .long x3), (6, .int x6)]) hx hb d_Mo_goRounds_201 hl (by decide) rfl (fun ls hl => ?_)
  refine lv_aload_n hx hb d_Mo_goRounds_203 rfl (lv_at hl 1 rfl) ?_
  refine lv_iload hx hb d_Mo_goRounds_204 (lv_at hl 5 rfl) ?_
  obtain ⟨ho53, hwp⟩ := hwp
  refine h_callv hM hS hA (va_runV (As := [.int x6]) (rest := []) ⟨hx, hb, hml, hown, hts⟩ (metMo_setPrices l D κ H.size x0 x6 M49 _ hwp) (cwV 1 hts (gV kw_967 kw_969 kp_42 kw_8 kw_970) rfl rfl rfl (by decide +kernel) ⟨(Nat.le_of_ble_eq_true rfl), (Nat.le_of_ble_eq_true rfl)⟩) (h_preV hE hM hS ho53 (r := ("BuckTablesModel", Tc6, 36)) rfl) rfl rfl hl.1 rfl (lv_room (Nat.le_of_ble_eq_true rfl)) d_Mo_goRounds_206 ⟨(Nat.le_of_ble_eq_true rfl), (Nat.le_of_ble_eq_true rfl)⟩) (fun M52 H locs hwp hM hS => ?_)
  refine lv_goto (tgt := 31) hx hb d_Mo_goRounds_209 (by decide) ?_
  exact hk31 x0 x1 x2 x3 r51 x6 M52 hwp H locs ls hM hS (lv_sub hl [1, 2, 3, 4, 0, 5] rfl)
def wMo_goRounds_154 (post : Int32 → Hp → Prop) (k31 : Nat → Int32 → Int32 → Int64 → Int32 → Int32 → Hp → Prop) (x0 : Nat) (x1 : Int32) (x6 : Int32) (M : Hp) : Prop := (hob M x0 6 ∧ (wpMo_trueWorth x0 M (fun (r56 : Int64) (M54 : Hp) => (∃ a57 : Nat, fA M54 x0 6 25 a57 ∧ (∃ a61 : Nat, fA M54 x0 6 28 a61 ∧ (hob M54 x0 6 ∧ (wpMo_copy x0 a57 a61 M54 (fun (M65 : Hp) => (∃ a67 : Nat, fA M65 x0 6 26 a67 ∧ (∃ a71 : Nat, fA M65 x0 6 29 a71 ∧ (hob M65 x0 6 ∧ (wpMo_copy x0 a67 a71 M65 (fun (M75 : Hp) => (∃ a77 : Nat, fA M75 x0 6 27 a77 ∧ (∃ a81 : Nat, fA M75 x0 6 30 a81 ∧ (hob M75 x0 6 ∧ (wpMo_copy x0 a77 a81 M75 (fun (M85 : Hp) => (wMo_goRounds_197 post k31 x0 x1 (1 : Int32) r56 x6 M85)))))))))))))))))))
set_option maxRecDepth 100000 in
set_option maxHeartbeats 4000000 in
theorem tMo_goRounds_154 {p : Program} {l : Launch} {e : Env} {s : State} {m : MethodId} {args : Array Value} {below : List Frame} {meth : Method} {c : Code} {D : va_G} {κ : Nat → ClassId} {A : Nat → Prop} (C : Cx_Mo_goRounds p s m args meth c D κ A) (post : Int32 → Hp → Prop) (k31 : Nat → Int32 → Int32 → Int64 → Int32 → Int32 → Hp → Prop) (hk31 : ∀ (x0 : Nat) (x1 : Int32) (x2 : Int32) (x3 : Int64) (x5 : Int32) (x6 : Int32) (M : Hp), k31 x0 x1 x2 x3 x5 x6 M → Y p l e rm_Mo_goRounds s m args below meth c D kCl (hTys κ) A 10 0 0 (MQ below (va_Qi post (hB D kCl (hTys κ) A) A) args s 0 0 A) M 31 [(0, .ref x0), (1, .int x1), (2, .int x2), (3, .long x3), (5, .int x5), (6, .int x6)] []) (x0 : Nat) (x1 : Int32) (x6 : Int32) (M : Hp) (hwp : wMo_goRounds_154 post k31 x0 x1 x6 M) : Y p l e rm_Mo_goRounds s m args below meth c D kCl (hTys κ) A 10 0 0 (MQ below (va_Qi post (hB D kCl (hTys κ) A) A) args s 0 0 A) M 154 [(0, .ref x0), (1, .int x1), (6, .int x6)] [] := by
  obtain ⟨hx, hb, hml, hr, hown, hts, hlocks, hE, hA⟩ := id C
  have hK := hE.1
  intro H locs ls hM hS hl
  unfold wMo_goRounds_154 at hwp
  refine lv_iconst (v := 1) hx hb d_Mo_goRounds_154 (by decide) ?_
  refine lv_istore_n (lv' := [(2, .int (1 : Int32)), (0, .ref x0), (1, .int x1), (6, .int x6)]) hx hb d_Mo_goRounds_155 rfl hl (by decide) rfl (fun ls hl => ?_)
  refine lv_aload_n hx hb d_Mo_goRounds_156 rfl (lv_at hl 1 rfl) ?_
  obtain ⟨ho55, hwp⟩ := hwp
  refine h_calll hM hS hA (va_runV (As := []) (rest := []) ⟨hx, hb, hml, hown, hts⟩ (metMo_trueWorth l D κ H.size x0 M _ hwp) (cwV 0 hts (gV kw_955 kw_957 kp_39 kw_8 kw_958) rfl rfl rfl (by decide +kernel) ⟨(Nat.le_of_ble_eq_true rfl), (Nat.le_of_ble_eq_true rfl)⟩) (h_preV hE hM hS ho55 (r := ("BuckTablesModel", Tc6, 36)) rfl) rfl rfl hl.1 rfl (lv_room (Nat.le_of_ble_eq_true rfl)) d_Mo_goRounds_157 ⟨(Nat.le_of_ble_eq_true rfl), (Nat.le_of_ble_eq_true rfl)⟩) (fun r56 M54 H locs hwp hM hS => ?_)
  refine lv_lstore_n (lv' := [(3, .long r56), (2, .int (1 : Int32)), (0, .ref x0), (1, .int x1), (6, .int x6)]) hx hb d_Mo_goRounds_160 rfl hl (by decide) rfl (fun ls hl => ?_)
  refine lv_aload_n hx hb d_Mo_goRounds_161 rfl (lv_at hl 2 rfl) ?_
  refine lv_aload_n hx hb d_Mo_goRounds_162 rfl (lv_at hl 2 rfl) ?_
  obtain ⟨a57, ⟨fs58, he59, hv60⟩, hwp⟩ := hwp
  refine h_get (C := "BuckTablesModel") (T := Tc6) (N := 36) hx hb hts inc6 hown hK hM he59 rfl 25 (by decide) (hts _ kw_745) (fun _ h9 => h9) hv60 d_Mo_goRounds_163 ?_
  refine lv_aload_n hx hb d_Mo_goRounds_166 rfl (lv_at hl 2 rfl) ?_
  obtain ⟨a61, ⟨fs62, he63, hv64⟩, hwp⟩ := hwp
  refine h_get (C := "BuckTablesModel") (T := Tc6) (N := 36) hx hb hts inc6 hown hK hM he63 rfl 28 (by decide) (hts _ kw_748) (fun _ h9 => h9) hv64 d_Mo_goRounds_167 ?_
  obtain ⟨ho66, hwp⟩ := hwp
  refine h_callv hM hS hA (va_runV (As := [.ref a57, .ref a61]) (rest := []) ⟨hx, hb, hml, hown, hts⟩ (metMo_copy l D κ H.size x0 a57 a61 M54 _ hwp) (cwV 2 hts (gV kw_959 kw_961 kp_40 kw_8 kw_962) rfl rfl rfl (by decide +kernel) ⟨(Nat.le_of_ble_eq_true rfl), (Nat.le_of_ble_eq_true rfl)⟩) (h_preV hE hM hS ho66 (r := ("BuckTablesModel", Tc6, 36)) rfl) rfl rfl hl.1 rfl (lv_room (Nat.le_of_ble_eq_true rfl)) d_Mo_goRounds_170 ⟨(Nat.le_of_ble_eq_true rfl), (Nat.le_of_ble_eq_true rfl)⟩) (fun M65 H locs hwp hM hS => ?_)
  refine lv_aload_n hx hb d_Mo_goRounds_173 rfl (lv_at hl 2 rfl) ?_
  refine lv_aload_n hx hb d_Mo_goRounds_174 rfl (lv_at hl 2 rfl) ?_
  obtain ⟨a67, ⟨fs68, he69, hv70⟩, hwp⟩ := hwp
  refine h_get (C := "BuckTablesModel") (T := Tc6) (N := 36) hx hb hts inc6 hown hK hM he69 rfl 26 (by decide) (hts _ kw_746) (fun _ h9 => h9) hv70 d_Mo_goRounds_175 ?_
  refine lv_aload_n hx hb d_Mo_goRounds_178 rfl (lv_at hl 2 rfl) ?_
  obtain ⟨a71, ⟨fs72, he73, hv74⟩, hwp⟩ := hwp
  refine h_get (C := "BuckTablesModel") (T := Tc6) (N := 36) hx hb hts inc6 hown hK hM he73 rfl 29 (by decide) (hts _ kw_749) (fun _ h9 => h9) hv74 d_Mo_goRounds_179 ?_
  obtain ⟨ho76, hwp⟩ := hwp
  refine h_callv hM hS hA (va_runV (As := [.ref a67, .ref a71]) (rest := []) ⟨hx, hb, hml, hown, hts⟩ (metMo_copy l D κ H.size x0 a67 a71 M65 _ hwp) (cwV 2 hts (gV kw_959 kw_961 kp_40 kw_8 kw_962) rfl rfl rfl (by decide +kernel) ⟨(Nat.le_of_ble_eq_true rfl), (Nat.le_of_ble_eq_true rfl)⟩) (h_preV hE hM hS ho76 (r := ("BuckTablesModel", Tc6, 36)) rfl) rfl rfl hl.1 rfl (lv_room (Nat.le_of_ble_eq_true rfl)) d_Mo_goRounds_182 ⟨(Nat.le_of_ble_eq_true rfl), (Nat.le_of_ble_eq_true rfl)⟩) (fun M75 H locs hwp hM hS => ?_)
  refine lv_aload_n hx hb d_Mo_goRounds_185 rfl (lv_at hl 2 rfl) ?_
  refine lv_aload_n hx hb d_Mo_goRounds_186 rfl (lv_at hl 2 rfl) ?_
  obtain ⟨a77, ⟨fs78, he79, hv80⟩, hwp⟩ := hwp
  refine h_get (C := "BuckTablesModel") (T := Tc6) (N := 36) hx hb hts inc6 hown hK hM he79 rfl 27 (by decide) (hts _ kw_747) (fun _ h9 => h9) hv80 d_Mo_goRounds_187 ?_
  refine lv_aload_n hx hb d_Mo_goRounds_190 rfl (lv_at hl 2 rfl) ?_
  obtain ⟨a81, ⟨fs82, he83, hv84⟩, hwp⟩ := hwp
  refine h_get (C := "BuckTablesModel") (T := Tc6) (N := 36) hx hb hts inc6 hown hK hM he83 rfl 30 (by decide) (hts _ kw_750) (fun _ h9 => h9) hv84 d_Mo_goRounds_191 ?_
  obtain ⟨ho86, hwp⟩ := hwp
  refine h_callv hM hS hA (va_runV (As := [.ref a77, .ref a81]) (rest := []) ⟨hx, hb, hml, hown, hts⟩ (metMo_copy l D κ H.size x0 a77 a81 M75 _ hwp) (cwV 2 hts (gV kw_959 kw_961 kp_40 kw_8 kw_962) rfl rfl rfl (by decide +kernel) ⟨(Nat.le_of_ble_eq_true rfl), (Nat.le_of_ble_eq_true rfl)⟩) (h_preV hE hM hS ho86 (r := ("BuckTablesModel", Tc6, 36)) rfl) rfl rfl hl.1 rfl (lv_room (Nat.le_of_ble_eq_true rfl)) d_Mo_goRounds_194 ⟨(Nat.le_of_ble_eq_true rfl), (Nat.le_of_ble_eq_true rfl)⟩) (fun M85 H locs hwp hM hS => ?_)
  exact tMo_goRounds_197 C post k31 hk31 x0 x1 (1 : Int32) r56 x6 M85 hwp H locs ls hM hS (lv_sub hl [2, 3, 1, 0, 4] rfl)
def wMo_goRounds_131 (post : Int32 → Hp → Prop) (k31 : Nat → Int32 → Int32 → Int64 → Int32 → Int32 → Hp → Prop) (x0 : Nat) (x1 : Int32) (x2 : Int32) (x3 : Int64) (x6 : Int32) (y0 : Int64) (y1 : Nat) (M : Hp) : Prop := (∃ M87 : Hp, pF M y1 6 35 (.long y0) M87 ∧ (hob M87 x0 6 ∧ (wpMo_allHold x0 M87 (fun (r93 : Int32) (M91 : Hp) => ((r93 = 0 → (wMo_goRounds_197 post k31 x0 x1 x2 x3 x6 M91)) ∧ (¬ r93 = 0 → ((x2 = 0 → (wMo_goRounds_154 post k31 x0 x1 x6 M91)) ∧ (¬ x2 = 0 → (hob M91 x0 6 ∧ (wpMo_trueWorth x0 M91 (fun (r98 : Int64) (M96 : Hp) => ((r98 ≤ x3 → (wMo_goRounds_197 post k31 x0 x1 x2 x3 x6 M96)) ∧ (¬ r98 ≤ x3 → (wMo_goRounds_154 post k31 x0 x1 x6 M96))))))))))))))
set_option maxRecDepth 100000 in
set_option maxHeartbeats 4000000 in
theorem tMo_goRounds_131 {p : Program} {l : Launch} {e : Env} {s : State} {m : MethodId} {args : Array Value} {below : List Frame} {meth : Method} {c : Code} {D : va_G} {κ : Nat → ClassId} {A : Nat → Prop} (C : Cx_Mo_goRounds p s m args meth c D κ A) (post : Int32 → Hp → Prop) (k31 : Nat → Int32 → Int32 → Int64 → Int32 → Int32 → Hp → Prop) (hk31 : ∀ (x0 : Nat) (x1 : Int32) (x2 : Int32) (x3 : Int64) (x5 : Int32) (x6 : Int32) (M : Hp), k31 x0 x1 x2 x3 x5 x6 M → Y p l e rm_Mo_goRounds s m args below meth c D kCl (hTys κ) A 10 0 0 (MQ below (va_Qi post (hB D kCl (hTys κ) A) A) args s 0 0 A) M 31 [(0, .ref x0), (1, .int x1), (2, .int x2), (3, .long x3), (5, .int x5), (6, .int x6)] []) (x0 : Nat) (x1 : Int32) (x2 : Int32) (x3 : Int64) (x6 : Int32) (y0 : Int64) (y1 : Nat) (M : Hp) (hwp : wMo_goRounds_131 post k31 x0 x1 x2 x3 x6 y0 y1 M) : Y p l e rm_Mo_goRounds s m args below meth c D kCl (hTys κ) A 10 0 0 (MQ below (va_Qi post (hB D kCl (hTys κ) A) A) args s 0 0 A) M 131 [(0, .ref x0), (1, .int x1), (2, .int x2), (3, .long x3), (6, .int x6)] [.long y0, .ref y1] := by
  obtain ⟨hx, hb, hml, hr, hown, hts, hlocks, hE, hA⟩ := id C
  have hK := hE.1
  intro H locs ls hM hS hl
  unfold wMo_goRounds_131 at hwp
  obtain ⟨M87, ⟨fs88, he89, hl90, eM87⟩, hwp⟩ := hwp
  refine h_put (C := "BuckTablesModel") (T := Tc6) (N := 36) (v := .long y0) (ty := .long) hx hb hts inc6 tyc6 tyc6_ok nmc6 hown hK hM hS he89 rfl 35 (by decide) (hts _ kw_755) (fun _ h9 => h9) rfl (by decide +kernel) rfl rfl hl90 d_Mo_goRounds_131 (fun H locs hM hS => ?_)
  rw [← eM87] at hM
  refine lv_aload_n hx hb d_Mo_goRounds_134 rfl (lv_at hl 0 rfl) ?_
  obtain ⟨ho92, hwp⟩ := hwp
  refine h_calli hM hS hA (va_runV (As := []) (rest := []) ⟨hx, hb, hml, hown, hts⟩ (metMo_allHold l D κ H.size x0 M87 _ hwp) (cwV 0 hts (gV kw_951 kw_953 kp_38 kw_8 kw_954) rfl rfl rfl (by decide +kernel) ⟨(Nat.le_of_ble_eq_true rfl), (Nat.le_of_ble_eq_true rfl)⟩) (h_preV hE hM hS ho92 (r := ("BuckTablesModel", Tc6, 36)) rfl) rfl rfl hl.1 rfl (lv_room (Nat.le_of_ble_eq_true rfl)) d_Mo_goRounds_135 ⟨(Nat.le_of_ble_eq_true rfl), (Nat.le_of_ble_eq_true rfl)⟩) (fun r93 M91 H locs hwp hM hS => ?_)
  refine lv_if_eq (tgt := 197) hx hb d_Mo_goRounds_138 (by decide) (fun c94 => ?_) (fun c94 => ?_)
  · replace hwp := hwp.1 c94
    exact tMo_goRounds_197 C post k31 hk31 x0 x1 x2 x3 x6 M91 hwp H locs ls hM hS (lv_sub hl [0, 1, 2, 3, 4] rfl)
  · replace hwp := hwp.2 c94
    refine lv_iload_n hx hb d_Mo_goRounds_141 rfl (lv_at hl 2 rfl) ?_
    refine lv_if_eq (tgt := 154) hx hb d_Mo_goRounds_142 (by decide) (fun c95 => ?_) (fun c95 => ?_)
    · replace hwp := hwp.1 c95
      exact tMo_goRounds_154 C post k31 hk31 x0 x1 x6 M91 hwp H locs ls hM hS (lv_sub hl [0, 1, 4] rfl)
    · replace hwp := hwp.2 c95
      refine lv_aload_n hx hb d_Mo_goRounds_145 rfl (lv_at hl 0 rfl) ?_
      obtain ⟨ho97, hwp⟩ := hwp
      refine h_calll hM hS hA (va_runV (As := []) (rest := []) ⟨hx, hb, hml, hown, hts⟩ (metMo_trueWorth l D κ H.size x0 M91 _ hwp) (cwV 0 hts (gV kw_955 kw_957 kp_39 kw_8 kw_958) rfl rfl rfl (by decide +kernel) ⟨(Nat.le_of_ble_eq_true rfl), (Nat.le_of_ble_eq_true rfl)⟩) (h_preV hE hM hS ho97 (r := ("BuckTablesModel", Tc6, 36)) rfl) rfl rfl hl.1 rfl (lv_room (Nat.le_of_ble_eq_true rfl)) d_Mo_goRounds_146 ⟨(Nat.le_of_ble_eq_true rfl), (Nat.le_of_ble_eq_true rfl)⟩) (fun r98 M96 H locs hwp hM hS => ?_)
      refine lv_lload_n hx hb d_Mo_goRounds_149 rfl (lv_at hl 3 rfl) ?_
      refine W.lcmp hx hb d_Mo_goRounds_150 ?_
      refine lv_if_le (tgt := 197) hx hb d_Mo_goRounds_151 (by decide) (fun c99 => ?_) (fun c99 => ?_)
      · replace c99 := (lc_le _ _).mp c99
        replace hwp := hwp.1 c99
        exact tMo_goRounds_197 C post k31 hk31 x0 x1 x2 x3 x6 M96 hwp H locs ls hM hS (lv_sub hl [0, 1, 2, 3, 4] rfl)
      · replace c99 := fun h9 => c99 ((lc_le _ _).mpr h9)
        replace hwp := hwp.2 c99
        exact tMo_goRounds_154 C post k31 hk31 x0 x1 x6 M96 hwp H locs ls hM hS (lv_sub hl [0, 1, 4] rfl)
def wMo_goRounds_122 (post : Int32 → Hp → Prop) (k31 : Nat → Int32 → Int32 → Int64 → Int32 → Int32 → Hp → Prop) (x0 : Nat) (x1 : Int32) (x2 : Int32) (x3 : Int64) (x6 : Int32) (x7 : Int64) (y0 : Nat) (M : Hp) : Prop := (wMo_goRounds_131 post k31 x0 x1 x2 x3 x6 x7 y0 M)
set_option maxRecDepth 100000 in
set_option maxHeartbeats 4000000 in
theorem tMo_goRounds_122 {p : Program} {l : Launch} {e : Env} {s : State} {m : MethodId} {args : Array Value} {below : List Frame} {meth : Method} {c : Code} {D : va_G} {κ : Nat → ClassId} {A : Nat → Prop} (C : Cx_Mo_goRounds p s m args meth c D κ A) (post : Int32 → Hp → Prop) (k31 : Nat → Int32 → Int32 → Int64 → Int32 → Int32 → Hp → Prop) (hk31 : ∀ (x0 : Nat) (x1 : Int32) (x2 : Int32) (x3 : Int64) (x5 : Int32) (x6 : Int32) (M : Hp), k31 x0 x1 x2 x3 x5 x6 M → Y p l e rm_Mo_goRounds s m args below meth c D kCl (hTys κ) A 10 0 0 (MQ below (va_Qi post (hB D kCl (hTys κ) A) A) args s 0 0 A) M 31 [(0, .ref x0), (1, .int x1), (2, .int x2), (3, .long x3), (5, .int x5), (6, .int x6)] []) (x0 : Nat) (x1 : Int32) (x2 : Int32) (x3 : Int64) (x6 : Int32) (x7 : Int64) (y0 : Nat) (M : Hp) (hwp : wMo_goRounds_122 post k31 x0 x1 x2 x3 x6 x7 y0 M) : Y p l e rm_Mo_goRounds s m args below meth c D kCl (hTys κ) A 10 0 0 (MQ below (va_Qi post (hB D kCl (hTys κ) A) A) args s 0 0 A) M 122 [(0, .ref x0), (1, .int x1), (2, .int x2), (3, .long x3), (6, .int x6), (7, .long x7)] [.ref y0] := by
  obtain ⟨hx, hb, hml, hr, hown, hts, hlocks, hE, hA⟩ := id C
  have hK := hE.1
  intro H locs ls hM hS hl
  unfold wMo_goRounds_122 at hwp
  refine lv_lload hx hb d_Mo_goRounds_122 (lv_at hl 5 rfl) ?_
  refine lv_goto (tgt := 131) hx hb d_Mo_goRounds_124 (by decide) ?_
  exact tMo_goRounds_131 C post k31 hk31 x0 x1 x2 x3 x6 x7 y0 M hwp H locs ls hM hS (lv_sub hl [0, 1, 2, 3, 4] rfl)
def wMo_goRounds_96 (post : Int32 → Hp → Prop) (k31 : Nat → Int32 → Int32 → Int64 → Int32 → Int32 → Hp → Prop) (k54 : Nat → Int32 → Int32 → Int64 → Int32 → Int64 → Int32 → Hp → Prop) (x0 : Nat) (x1 : Int32) (x2 : Int32) (x3 : Int64) (x6 : Int32) (x9 : Int32) (y0 : Int64) (y1 : Int64) (M : Hp) : Prop := (∀ z100 : Int64, z100 = (y1 + y0) → (∀ z101 : Int32, z101 = x9 + 1 → (k54 x0 x1 x2 x3 x6 z100 z101 M)))
set_option maxRecDepth 100000 in
set_option maxHeartbeats 4000000 in
theorem tMo_goRounds_96 {p : Program} {l : Launch} {e : Env} {s : State} {m : MethodId} {args : Array Value} {below : List Frame} {meth : Method} {c : Code} {D : va_G} {κ : Nat → ClassId} {A : Nat → Prop} (C : Cx_Mo_goRounds p s m args meth c D κ A) (post : Int32 → Hp → Prop) (k31 : Nat → Int32 → Int32 → Int64 → Int32 → Int32 → Hp → Prop) (hk31 : ∀ (x0 : Nat) (x1 : Int32) (x2 : Int32) (x3 : Int64) (x5 : Int32) (x6 : Int32) (M : Hp), k31 x0 x1 x2 x3 x5 x6 M → Y p l e rm_Mo_goRounds s m args below meth c D kCl (hTys κ) A 10 0 0 (MQ below (va_Qi post (hB D kCl (hTys κ) A) A) args s 0 0 A) M 31 [(0, .ref x0), (1, .int x1), (2, .int x2), (3, .long x3), (5, .int x5), (6, .int x6)] []) (k54 : Nat → Int32 → Int32 → Int64 → Int32 → Int64 → Int32 → Hp → Prop) (hk54 : ∀ (x0 : Nat) (x1 : Int32) (x2 : Int32) (x3 : Int64) (x6 : Int32) (x7 : Int64) (x9 : Int32) (M : Hp), k54 x0 x1 x2 x3 x6 x7 x9 M → Y p l e rm_Mo_goRounds s m args below meth c D kCl (hTys κ) A 10 0 0 (MQ below (va_Qi post (hB D kCl (hTys κ) A) A) args s 0 0 A) M 54 [(0, .ref x0), (1, .int x1), (2, .int x2), (3, .long x3), (6, .int x6), (7, .long x7), (9, .int x9)] []) (x0 : Nat) (x1 : Int32) (x2 : Int32) (x3 : Int64) (x6 : Int32) (x9 : Int32) (y0 : Int64) (y1 : Int64) (M : Hp) (hwp : wMo_goRounds_96 post k31 k54 x0 x1 x2 x3 x6 x9 y0 y1 M) : Y p l e rm_Mo_goRounds s m args below meth c D kCl (hTys κ) A 10 0 0 (MQ below (va_Qi post (hB D kCl (hTys κ) A) A) args s 0 0 A) M 96 [(0, .ref x0), (1, .int x1), (2, .int x2), (3, .long x3), (6, .int x6), (9, .int x9)] [.long y0, .long y1] := by
  obtain ⟨hx, hb, hml, hr, hown, hts, hlocks, hE, hA⟩ := id C
  have hK := hE.1
  intro H locs ls hM hS hl
  unfold wMo_goRounds_96 at hwp
  refine lv_ladd hx hb d_Mo_goRounds_96 ?_
  refine lv_topl (fun z100 ez100 => ?_)
  replace hwp := hwp z100 ez100
  refine lv_lstore (lv' := [(7, .long z100), (0, .ref x0), (1, .int x1), (2, .int x2), (3, .long x3), (6, .int x6), (9, .int x9)]) hx hb d_Mo_goRounds_97 hl (by decide) rfl (fun ls hl => ?_)
  obtain ⟨z101, ez101⟩ : ∃ y : Int32, y = x9 + 1 := ⟨_, rfl⟩
  replace hwp := hwp z101 ez101
  refine lv_iinc (v := z101) (lv' := [(9, .int z101), (7, .long z100), (0, .ref x0), (1, .int x1), (2, .int x2), (3, .long x3), (6, .int x6)]) hx hb d_Mo_goRounds_99 hl (k := 6) rfl (by rw [ez101]; rfl) (by decide) rfl (fun ls hl => ?_)
  refine lv_goto (tgt := 54) hx hb d_Mo_goRounds_102 (by decide) ?_
  exact hk54 x0 x1 x2 x3 x6 z100 z101 M hwp H locs ls hM hS (lv_sub hl [2, 3, 4, 5, 6, 1, 0] rfl)
def wMo_goRounds_54 (post : Int32 → Hp → Prop) (k31 : Nat → Int32 → Int32 → Int64 → Int32 → Int32 → Hp → Prop) : Nat → Nat → Int32 → Int32 → Int64 → Int32 → Int64 → Int32 → Hp → Prop
  | 0 => fun _ _ _ _ _ _ _ _ => False
  | n + 1 => fun x0 x1 x2 x3 x6 x7 x9 M => (∃ v102 : Int32, fI M x0 6 14 v102 ∧ ((v102 ≤ x9 → ((x6 = (1 : Int32) → (wMo_goRounds_122 post k31 x0 x1 x2 x3 x6 x7 x0 M)) ∧ (¬ x6 = (1 : Int32) → (∃ v108 : Int64, fJ M x0 6 35 v108 ∧ ((v108 ≤ x7 → (∃ v113 : Int64, fJ M x0 6 35 v113 ∧ (wMo_goRounds_131 post k31 x0 x1 x2 x3 x6 v113 x0 M))) ∧ (¬ v108 ≤ x7 → (wMo_goRounds_122 post k31 x0 x1 x2 x3 x6 x7 x0 M))))))) ∧ (¬ v102 ≤ x9 → (∃ a117 : Nat, fA M x0 6 21 a117 ∧ (∃ v121 : Int64, aJ M a117 x9 v121 ∧ (((0 : Int64) ≤ v121 → (∃ a127 : Nat, fA M x0 6 23 a127 ∧ (∃ v131 : Int64, aJ M a127 x9 v131 ∧ (∃ a136 : Nat, fA M x0 6 21 a136 ∧ (∃ v140 : Int64, aJ M a136 x9 v140 ∧ (wMo_goRounds_96 post k31 (wMo_goRounds_54 post k31 n) x0 x1 x2 x3 x6 x9 (v131 * v140) x7 M)))))) ∧ (¬ (0 : Int64) ≤ v121 → (wMo_goRounds_96 post k31 (wMo_goRounds_54 post k31 n) x0 x1 x2 x3 x6 x9 (0 : Int64) x7 M))))))))
set_option maxRecDepth 100000 in
set_option maxHeartbeats 4000000 in
theorem tMo_goRounds_54 {p : Program} {l : Launch} {e : Env} {s : State} {m : MethodId} {args : Array Value} {below : List Frame} {meth : Method} {c : Code} {D : va_G} {κ : Nat → ClassId} {A : Nat → Prop} (C : Cx_Mo_goRounds p s m args meth c D κ A) (post : Int32 → Hp → Prop) (k31 : Nat → Int32 → Int32 → Int64 → Int32 → Int32 → Hp → Prop) (hk31 : ∀ (x0 : Nat) (x1 : Int32) (x2 : Int32) (x3 : Int64) (x5 : Int32) (x6 : Int32) (M : Hp), k31 x0 x1 x2 x3 x5 x6 M → Y p l e rm_Mo_goRounds s m args below meth c D kCl (hTys κ) A 10 0 0 (MQ below (va_Qi post (hB D kCl (hTys κ) A) A) args s 0 0 A) M 31 [(0, .ref x0), (1, .int x1), (2, .int x2), (3, .long x3), (5, .int x5), (6, .int x6)] []) : ∀ (n : Nat) (x0 : Nat) (x1 : Int32) (x2 : Int32) (x3 : Int64) (x6 : Int32) (x7 : Int64) (x9 : Int32) (M : Hp), wMo_goRounds_54 post k31 n x0 x1 x2 x3 x6 x7 x9 M → Y p l e rm_Mo_goRounds s m args below meth c D kCl (hTys κ) A 10 0 0 (MQ below (va_Qi post (hB D kCl (hTys κ) A) A) args s 0 0 A) M 54 [(0, .ref x0), (1, .int x1), (2, .int x2), (3, .long x3), (6, .int x6), (7, .long x7), (9, .int x9)] [] := by
  obtain ⟨hx, hb, hml, hr, hown, hts, hlocks, hE, hA⟩ := id C
  have hK := hE.1
  intro n
  induction n with
  | zero => intro x0 x1 x2 x3 x6 x7 x9 M hwp; exact hwp.elim
  | succ n ih =>
    intro x0 x1 x2 x3 x6 x7 x9 M hwp H locs ls hM hS hl
    unfold wMo_goRounds_54 at hwp
    refine lv_iload hx hb d_Mo_goRounds_54 (lv_at hl 6 rfl) ?_
    refine lv_aload_n hx hb d_Mo_goRounds_56 rfl (lv_at hl 0 rfl) ?_
    obtain ⟨v102, ⟨fs103, he104, hv105⟩, hwp⟩ := hwp
    refine h_get (C := "BuckTablesModel") (T := Tc6) (N := 36) hx hb hts inc6 hown hK hM he104 rfl 14 (by decide) (hts _ kw_734) (fun _ h9 => h9) hv105 d_Mo_goRounds_57 ?_
    refine lv_icmp_ge (tgt := 105) hx hb d_Mo_goRounds_60 (by decide) (fun c106 => ?_) (fun c106 => ?_)
    · replace hwp := hwp.1 c106
      refine lv_aload_n hx hb d_Mo_goRounds_105 rfl (lv_at hl 0 rfl) ?_
      refine lv_iload hx hb d_Mo_goRounds_106 (lv_at hl 4 rfl) ?_
      refine lv_iconst (v := 1) hx hb d_Mo_goRounds_108 (by decide) ?_
      refine lv_icmp_eq (tgt := 122) hx hb d_Mo_goRounds_109 (by decide) (fun c107 => ?_) (fun c107 => ?_)
      · replace hwp := hwp.1 c107
        exact tMo_goRounds_122 C post k31 hk31 x0 x1 x2 x3 x6 x7 x0 M hwp H locs ls hM hS (lv_sub hl [0, 1, 2, 3, 4, 5] rfl)
      · replace hwp := hwp.2 c107
        refine lv_lload hx hb d_Mo_goRounds_112 (lv_at hl 5 rfl) ?_
        refine lv_aload_n hx hb d_Mo_goRounds_114 rfl (lv_at hl 0 rfl) ?_
        obtain ⟨v108, ⟨fs109, he110, hv111⟩, hwp⟩ := hwp
        refine h_get (C := "BuckTablesModel") (T := Tc6) (N := 36) hx hb hts inc6 hown hK hM he110 rfl 35 (by decide) (hts _ kw_755) (fun _ h9 => h9) hv111 d_Mo_goRounds_115 ?_
        refine W.lcmp hx hb d_Mo_goRounds_118 ?_
        refine lv_if_ge (tgt := 127) hx hb d_Mo_goRounds_119 (by decide) (fun c112 => ?_) (fun c112 => ?_)
        · replace c112 := (lc_ge _ _).mp c112
          replace hwp := hwp.1 c112
          refine lv_aload_n hx hb d_Mo_goRounds_127 rfl (lv_at hl 0 rfl) ?_
          obtain ⟨v113, ⟨fs114, he115, hv116⟩, hwp⟩ := hwp
          refine h_get (C := "BuckTablesModel") (T := Tc6) (N := 36) hx hb hts inc6 hown hK hM he115 rfl 35 (by decide) (hts _ kw_755) (fun _ h9 => h9) hv116 d_Mo_goRounds_128 ?_
          exact tMo_goRounds_131 C post k31 hk31 x0 x1 x2 x3 x6 v113 x0 M hwp H locs ls hM hS (lv_sub hl [0, 1, 2, 3, 4] rfl)
        · replace c112 := fun h9 => c112 ((lc_ge _ _).mpr h9)
          replace hwp := hwp.2 c112
          exact tMo_goRounds_122 C post k31 hk31 x0 x1 x2 x3 x6 x7 x0 M hwp H locs ls hM hS (lv_sub hl [0, 1, 2, 3, 4, 5] rfl)
    · replace hwp := hwp.2 c106
      refine lv_lload hx hb d_Mo_goRounds_63 (lv_at hl 5 rfl) ?_
      refine lv_aload_n hx hb d_Mo_goRounds_65 rfl (lv_at hl 0 rfl) ?_
      obtain ⟨a117, ⟨fs118, he119, hv120⟩, hwp⟩ := hwp
      refine h_get (C := "BuckTablesModel") (T := Tc6) (N := 36) hx hb hts inc6 hown hK hM he119 rfl 21 (by decide) (hts _ kw_741) (fun _ h9 => h9) hv120 d_Mo_goRounds_66 ?_
      refine lv_iload hx hb d_Mo_goRounds_69 (lv_at hl 6 rfl) ?_
      obtain ⟨v121, ⟨n122, f123, ha124, hi125, ev121⟩, hwp⟩ := hwp
      refine h_lald hx hb hK hM ha124 rfl hi125 d_Mo_goRounds_71 ?_
      rw [← ev121]
      refine lv_lconst (v := 0) hx hb d_Mo_goRounds_72 (by decide) ?_
      refine W.lcmp hx hb d_Mo_goRounds_73 ?_
      refine lv_if_ge (tgt := 81) hx hb d_Mo_goRounds_74 (by decide) (fun c126 => ?_) (fun c126 => ?_)
      · replace c126 := (lc_ge _ _).mp c126
        replace hwp := hwp.1 c126
        refine lv_aload_n hx hb d_Mo_goRounds_81 rfl (lv_at hl 0 rfl) ?_
        obtain ⟨a127, ⟨fs128, he129, hv130⟩, hwp⟩ := hwp
        refine h_get (C := "BuckTablesModel") (T := Tc6) (N := 36) hx hb hts inc6 hown hK hM he129 rfl 23 (by decide) (hts _ kw_743) (fun _ h9 => h9) hv130 d_Mo_goRounds_82 ?_
        refine lv_iload hx hb d_Mo_goRounds_85 (lv_at hl 6 rfl) ?_
        obtain ⟨v131, ⟨n132, f133, ha134, hi135, ev131⟩, hwp⟩ := hwp
        refine h_lald hx hb hK hM ha134 rfl hi135 d_Mo_goRounds_87 ?_
        rw [← ev131]
        refine lv_aload_n hx hb d_Mo_goRounds_88 rfl (lv_at hl 0 rfl) ?_
        obtain ⟨a136, ⟨fs137, he138, hv139⟩, hwp⟩ := hwp
        refine h_get (C := "BuckTablesModel") (T := Tc6) (N := 36) hx hb hts inc6 hown hK hM he138 rfl 21 (by decide) (hts _ kw_741) (fun _ h9 => h9) hv139 d_Mo_goRounds_89 ?_
        refine lv_iload hx hb d_Mo_goRounds_92 (lv_at hl 6 rfl) ?_
        obtain ⟨v140, ⟨n141, f142, ha143, hi144, ev140⟩, hwp⟩ := hwp
        refine h_lald hx hb hK hM ha143 rfl hi144 d_Mo_goRounds_94 ?_
        rw [← ev140]
        refine lv_lmul hx hb d_Mo_goRounds_95 ?_
        exact tMo_goRounds_96 C post k31 hk31 (wMo_goRounds_54 post k31 n) ih x0 x1 x2 x3 x6 x9 (v131 * v140) x7 M hwp H locs ls hM hS (lv_sub hl [0, 1, 2, 3, 4, 6] rfl)
      · replace c126 := fun h9 => c126 ((lc_ge _ _).mpr h9)
        replace hwp := hwp.2 c126
        refine lv_lconst (v := 0) hx hb d_Mo_goRounds_77 (by decide) ?_
        refine lv_goto (tgt := 96) hx hb d_Mo_goRounds_78 (by decide) ?_
        exact tMo_goRounds_96 C post k31 hk31 (wMo_goRounds_54 post k31 n) ih x0 x1 x2 x3 x6 x9 (0 : Int64) x7 M hwp H locs ls hM hS (lv_sub hl [0, 1, 2, 3, 4, 6] rfl)
def wMo_goRounds_31 (post : Int32 → Hp → Prop)  : Nat → Nat → Int32 → Int32 → Int64 → Int32 → Int32 → Hp → Prop
  | 0 => fun _ _ _ _ _ _ _ => False
  | n + 1 => fun x0 x1 x2 x3 x5 x6 M => ((x1 ≤ x6 → (wMo_goRounds_212 post x0 x1 x2 x6 M)) ∧ (¬ x1 ≤ x6 → ((x5 = 0 → (∀ z147 : Int32, z147 = x6 + 1 → (hob M x0 6 ∧ (wpMo_plan x0 M (fun (r150 : Int64) (M148 : Hp) => (∃ n151 : Nat, wMo_goRounds_54 post (wMo_goRounds_31 post n) n151 x0 x1 x2 x3 z147 r150 (0 : Int32) M148)))))) ∧ (¬ x5 = 0 → (wMo_goRounds_212 post x0 x1 x2 x6 M)))))
set_option maxRecDepth 100000 in
set_option maxHeartbeats 4000000 in
theorem tMo_goRounds_31 {p : Program} {l : Launch} {e : Env} {s : State} {m : MethodId} {args : Array Value} {below : List Frame} {meth : Method} {c : Code} {D : va_G} {κ : Nat → ClassId} {A : Nat → Prop} (C : Cx_Mo_goRounds p s m args meth c D κ A) (post : Int32 → Hp → Prop)  : ∀ (n : Nat) (x0 : Nat) (x1 : Int32) (x2 : Int32) (x3 : Int64) (x5 : Int32) (x6 : Int32) (M : Hp), wMo_goRounds_31 post n x0 x1 x2 x3 x5 x6 M → Y p l e rm_Mo_goRounds s m args below meth c D kCl (hTys κ) A 10 0 0 (MQ below (va_Qi post (hB D kCl (hTys κ) A) A) args s 0 0 A) M 31 [(0, .ref x0), (1, .int x1), (2, .int x2), (3, .long x3), (5, .int x5), (6, .int x6)] [] := by
  obtain ⟨hx, hb, hml, hr, hown, hts, hlocks, hE, hA⟩ := id C
  have hK := hE.1
  intro n
  induction n with
  | zero => intro x0 x1 x2 x3 x5 x6 M hwp; exact hwp.elim
  | succ n ih =>
    intro x0 x1 x2 x3 x5 x6 M hwp H locs ls hM hS hl
    unfold wMo_goRounds_31 at hwp
    refine lv_iload hx hb d_Mo_goRounds_31 (lv_at hl 5 rfl) ?_
    refine lv_iload_n hx hb d_Mo_goRounds_33 rfl (lv_at hl 1 rfl) ?_
    refine lv_icmp_ge (tgt := 212) hx hb d_Mo_goRounds_34 (by decide) (fun c145 => ?_) (fun c145 => ?_)
    · replace hwp := hwp.1 c145
      exact tMo_goRounds_212 C post x0 x1 x2 x6 M hwp H locs ls hM hS (lv_sub hl [0, 1, 2, 5] rfl)
    · replace hwp := hwp.2 c145
      refine lv_iload hx hb d_Mo_goRounds_37 (lv_at hl 4 rfl) ?_
      refine lv_if_ne (tgt := 212) hx hb d_Mo_goRounds_39 (by decide) (fun c146 => ?_) (fun c146 => ?_)
      · replace hwp := hwp.2 c146
        exact tMo_goRounds_212 C post x0 x1 x2 x6 M hwp H locs ls hM hS (lv_sub hl [0, 1, 2, 5] rfl)
      · replace hwp := hwp.1 c146
        obtain ⟨z147, ez147⟩ : ∃ y : Int32, y = x6 + 1 := ⟨_, rfl⟩
        replace hwp := hwp z147 ez147
        refine lv_iinc (v := z147) (lv' := [(6, .int z147), (0, .ref x0), (1, .int x1), (2, .int x2), (3, .long x3), (5, .int x5)]) hx hb d_Mo_goRounds_42 hl (k := 5) rfl (by rw [ez147]; rfl) (by decide) rfl (fun ls hl => ?_)
        refine lv_aload_n hx hb d_Mo_goRounds_45 rfl (lv_at hl 1 rfl) ?_
        obtain ⟨ho149, hwp⟩ := hwp
        refine h_calll hM hS hA (va_runV (As := []) (rest := []) ⟨hx, hb, hml, hown, hts⟩ (metMo_plan l D κ H.size x0 M _ hwp) (cwV 0 hts (gV kw_902 kw_904 kp_27 kw_8 kw_905) rfl rfl rfl (by decide +kernel) ⟨(Nat.le_of_ble_eq_true rfl), (Nat.le_of_ble_eq_true rfl)⟩) (h_preV hE hM hS ho149 (r := ("BuckTablesModel", Tc6, 36)) rfl) rfl rfl hl.1 rfl (lv_room (Nat.le_of_ble_eq_true rfl)) d_Mo_goRounds_46 ⟨(Nat.le_of_ble_eq_true rfl), (Nat.le_of_ble_eq_true rfl)⟩) (fun r150 M148 H locs hwp hM hS => ?_)
        refine lv_lstore (lv' := [(7, .long r150), (6, .int z147), (0, .ref x0), (1, .int x1), (2, .int x2), (3, .long x3), (5, .int x5)]) hx hb d_Mo_goRounds_49 hl (by decide) rfl (fun ls hl => ?_)
        refine lv_iconst (v := 0) hx hb d_Mo_goRounds_51 (by decide) ?_
        refine lv_istore (lv' := [(9, .int (0 : Int32)), (7, .long r150), (6, .int z147), (0, .ref x0), (1, .int x1), (2, .int x2), (3, .long x3), (5, .int x5)]) hx hb d_Mo_goRounds_52 hl (by decide) rfl (fun ls hl => ?_)
        obtain ⟨n151, hwp⟩ := hwp
        exact tMo_goRounds_54 C post (wMo_goRounds_31 post n) ih n151 x0 x1 x2 x3 z147 r150 (0 : Int32) M148 hwp H locs ls hM hS (lv_sub hl [3, 4, 5, 6, 2, 1, 0] rfl)
def wMo_goRounds_2 (post : Int32 → Hp → Prop)  : Nat → Nat → Int32 → Int32 → Hp → Prop
  | 0 => fun _ _ _ _ => False
  | n + 1 => fun x0 x1 x2 M => (((8 : Int32) ≤ x2 → (∃ n153 : Nat, wMo_goRounds_31 post n153 x0 x1 (0 : Int32) (0 : Int64) (0 : Int32) (0 : Int32) M)) ∧ (¬ (8 : Int32) ≤ x2 → (∃ a154 : Nat, fA M x0 6 23 a154 ∧ (∃ M162 : Hp, sJ M a154 x2 (0 : Int64) M162 ∧ (∀ z163 : Int32, z163 = x2 + 1 → ((wMo_goRounds_2 post n) x0 x1 z163 M162))))))
set_option maxRecDepth 100000 in
set_option maxHeartbeats 4000000 in
theorem tMo_goRounds_2 {p : Program} {l : Launch} {e : Env} {s : State} {m : MethodId} {args : Array Value} {below : List Frame} {meth : Method} {c : Code} {D : va_G} {κ : Nat → ClassId} {A : Nat → Prop} (C : Cx_Mo_goRounds p s m args meth c D κ A) (post : Int32 → Hp → Prop)  : ∀ (n : Nat) (x0 : Nat) (x1 : Int32) (x2 : Int32) (M : Hp), wMo_goRounds_2 post n x0 x1 x2 M → Y p l e rm_Mo_goRounds s m args below meth c D kCl (hTys κ) A 10 0 0 (MQ below (va_Qi post (hB D kCl (hTys κ) A) A) args s 0 0 A) M 2 [(0, .ref x0), (1, .int x1), (2, .int x2)] [] := by
  obtain ⟨hx, hb, hml, hr, hown, hts, hlocks, hE, hA⟩ := id C
  have hK := hE.1
  intro n
  induction n with
  | zero => intro x0 x1 x2 M hwp; exact hwp.elim
  | succ n ih =>
    intro x0 x1 x2 M hwp H locs ls hM hS hl
    unfold wMo_goRounds_2 at hwp
    refine lv_iload_n hx hb d_Mo_goRounds_2 rfl (lv_at hl 2 rfl) ?_
    refine lv_bipush (v := 8) hx hb d_Mo_goRounds_3 (by decide) ?_
    refine lv_icmp_ge (tgt := 21) hx hb d_Mo_goRounds_5 (by decide) (fun c152 => ?_) (fun c152 => ?_)
    · replace hwp := hwp.1 c152
      refine lv_iconst (v := 0) hx hb d_Mo_goRounds_21 (by decide) ?_
      refine lv_istore_n (lv' := [(2, .int (0 : Int32)), (0, .ref x0), (1, .int x1)]) hx hb d_Mo_goRounds_22 rfl hl (by decide) rfl (fun ls hl => ?_)
      refine lv_lconst (v := 0) hx hb d_Mo_goRounds_23 (by decide) ?_
      refine lv_lstore_n (lv' := [(3, .long (0 : Int64)), (2, .int (0 : Int32)), (0, .ref x0), (1, .int x1)]) hx hb d_Mo_goRounds_24 rfl hl (by decide) rfl (fun ls hl => ?_)
      refine lv_iconst (v := 0) hx hb d_Mo_goRounds_25 (by decide) ?_
      refine lv_istore (lv' := [(5, .int (0 : Int32)), (3, .long (0 : Int64)), (2, .int (0 : Int32)), (0, .ref x0), (1, .int x1)]) hx hb d_Mo_goRounds_26 hl (by decide) rfl (fun ls hl => ?_)
      refine lv_iconst (v := 0) hx hb d_Mo_goRounds_28 (by decide) ?_
      refine lv_istore (lv' := [(6, .int (0 : Int32)), (5, .int (0 : Int32)), (3, .long (0 : Int64)), (2, .int (0 : Int32)), (0, .ref x0), (1, .int x1)]) hx hb d_Mo_goRounds_29 hl (by decide) rfl (fun ls hl => ?_)
      obtain ⟨n153, hwp⟩ := hwp
      exact tMo_goRounds_31 C post n153 x0 x1 (0 : Int32) (0 : Int64) (0 : Int32) (0 : Int32) M hwp H locs ls hM hS (lv_sub hl [4, 5, 3, 2, 1, 0] rfl)
    · replace hwp := hwp.2 c152
      refine lv_aload_n hx hb d_Mo_goRounds_8 rfl (lv_at hl 0 rfl) ?_
      obtain ⟨a154, ⟨fs155, he156, hv157⟩, hwp⟩ := hwp
      refine h_get (C := "BuckTablesModel") (T := Tc6) (N := 36) hx hb hts inc6 hown hK hM he156 rfl 23 (by decide) (hts _ kw_743) (fun _ h9 => h9) hv157 d_Mo_goRounds_9 ?_
      refine lv_iload_n hx hb d_Mo_goRounds_12 rfl (lv_at hl 2 rfl) ?_
      refine lv_lconst (v := 0) hx hb d_Mo_goRounds_13 (by decide) ?_
      obtain ⟨M162, ⟨n158, f159, ha160, hi161, eM162⟩, hwp⟩ := hwp
      refine h_last hx hb hK hM hS ha160 rfl hi161 d_Mo_goRounds_14 (fun H locs hM hS => ?_)
      rw [← eM162] at hM
      obtain ⟨z163, ez163⟩ : ∃ y : Int32, y = x2 + 1 := ⟨_, rfl⟩
      replace hwp := hwp z163 ez163
      refine lv_iinc (v := z163) (lv' := [(2, .int z163), (0, .ref x0), (1, .int x1)]) hx hb d_Mo_goRounds_15 hl (k := 2) rfl (by rw [ez163]; rfl) (by decide) rfl (fun ls hl => ?_)
      refine lv_goto (tgt := 2) hx hb d_Mo_goRounds_18 (by decide) ?_
      exact ih x0 x1 z163 M162 hwp H locs ls hM hS (lv_sub hl [1, 2, 0] rfl)
def wpMo_goRounds (self : Nat) (p0 : Int32) (M : Hp) (post : Int32 → Hp → Prop) : Prop := (∃ n164 : Nat, wMo_goRounds_2 post n164 self p0 (0 : Int32) M)
set_option maxRecDepth 100000 in
set_option maxHeartbeats 4000000 in
theorem eMo_goRounds {p : Program} {l : Launch} {e : Env} {s : State} {m : MethodId} {args : Array Value} {below : List Frame} {meth : Method} {c : Code} {D : va_G} {κ : Nat → ClassId} {A : Nat → Prop} (C : Cx_Mo_goRounds p s m args meth c D κ A) (post : Int32 → Hp → Prop) (self : Nat) (p0 : Int32) (M : Hp) (hwp : wpMo_goRounds self p0 M post) : Y p l e rm_Mo_goRounds s m args below meth c D kCl (hTys κ) A 10 0 0 (MQ below (va_Qi post (hB D kCl (hTys κ) A) A) args s 0 0 A) M 0 [(0, .ref self), (1, .int p0)] [] := by
  obtain ⟨hx, hb, hml, hr, hown, hts, hlocks, hE, hA⟩ := id C
  have hK := hE.1
  intro H locs ls hM hS hl
  unfold wpMo_goRounds at hwp
  refine lv_iconst (v := 0) hx hb d_Mo_goRounds_0 (by decide) ?_
  refine lv_istore_n (lv' := [(2, .int (0 : Int32)), (0, .ref self), (1, .int p0)]) hx hb d_Mo_goRounds_1 rfl hl (by decide) rfl (fun ls hl => ?_)
  obtain ⟨n164, hwp⟩ := hwp
  exact tMo_goRounds_2 C post n164 self p0 (0 : Int32) M hwp H locs ls hM hS (lv_sub hl [1, 2, 0] rfl)
set_option maxRecDepth 100000 in
set_option maxHeartbeats 4000000 in
theorem metMo_goRounds (l : Launch) (D : va_G) (κ : Nat → ClassId) (sz : Nat) (self : Nat) (p0 : Int32) (M : Hp) (post : Int32 → Hp → Prop) (hwp : wpMo_goRounds self p0 M post) : Met l y_Mo_goRounds ws_Mo_goRounds rm_Mo_goRounds (hPc D kCl (hTys κ) M sz [.ref self, .int p0]) (va_Qi post (hB D kCl (hTys κ) (hAx M sz)) (hAx M sz)) 0 0 (hAx M sz) := by
  refine Met.ofW (cc := prog_8_method_35_code) (maxL := 10) (ret := (some .int)) (by decide +kernel) rfl ?_
  intro p e s m args below meth c s₁ B hml hv
  obtain ⟨rfl, hsz, hE, hM0⟩ := hv
  have hts : ∀ w ∈ WG, w.before _ s = true := fun w h => atoms_spec (ws := ws_Mo_goRounds) B.pre w (List.mem_cons_of_mem _ h)
  subst hsz
  have C : Cx_Mo_goRounds p s m _ meth c D κ (hAx M s.heap.size) := ⟨B.exec, B.bytes, hml, B.returns, findClass_of_methodNamed B.named, hts, B.notSynchronized, hE, fun q h => Or.inr h⟩
  have hl := lv_entry ([.ref self, .int p0]) (n := 10) (Nat.le_of_ble_eq_true rfl)
  rw [lg_entry_eq]
  generalize (lg_sl ([.ref self, .int p0]) ++ List.replicate (10 - (lg_sl ([.ref self, .int p0])).length) Slot.unset).toArray = ls at hl ⊢
  exact eMo_goRounds C post self p0 M hwp s.heap [] ls (hM0.self (sz := s.heap.size)) va_S.rf hl
abbrev rm_Mo_priced : Room := { frames := 5, cells := 0, slots := 0, locals := 134 }
def Cx_Mo_priced (p : Program) (s : State) (m : MethodId) (args : Array Value) (meth : Method) (c : Code) (D : va_G) (κ : Nat → ClassId) (A : Nat → Prop) : Prop := p.tables.exec = Jvm.exec ∧ c.code = prog_8_method_36_code ∧ c.maxLocals = 2 ∧ meth.sig.returnType = (some .int) ∧ s.vm.findClass "BuckTablesModel" = some m.cls ∧ (∀ w ∈ WG, w.before args s = true) ∧ meth.locks = false ∧ hEnv D kCl (hTys κ) A s ∧ (∀ q, s.heap.size ≤ q → A q)
def wMo_priced_37 (post : Int32 → Hp → Prop)   (y0 : Int32) (M : Hp) : Prop := (post y0 M)
set_option maxRecDepth 100000 in
set_option maxHeartbeats 4000000 in
theorem tMo_priced_37 {p : Program} {l : Launch} {e : Env} {s : State} {m : MethodId} {args : Array Value} {below : List Frame} {meth : Method} {c : Code} {D : va_G} {κ : Nat → ClassId} {A : Nat → Prop} (C : Cx_Mo_priced p s m args meth c D κ A) (post : Int32 → Hp → Prop)   (y0 : Int32) (M : Hp) (hwp : wMo_priced_37 post y0 M) : Y p l e rm_Mo_priced s m args below meth c D kCl (hTys κ) A 2 0 0 (MQ below (va_Qi post (hB D kCl (hTys κ) A) A) args s 0 0 A) M 37 [] [.int y0] := by
  obtain ⟨hx, hb, hml, hr, hown, hts, hlocks, hE, hA⟩ := id C
  have hK := hE.1
  intro H locs ls hM hS hl
  unfold wMo_priced_37 at hwp
  exact W.iret (v := y0) hx hb hr (fun t ht hW => ⟨⟨y0, M, rfl, hwp, by show hw D kCl (hTys κ) A M t.heap; rw [ht]; exact hM⟩, hS.F ht⟩) hS.2.2 d_Mo_priced_37
def wMo_priced_18 (post : Int32 → Hp → Prop)  (x0 : Nat) (x1 : Int32) (y0 : Int32) (y1 : Nat) (M : Hp) : Prop := (∃ M1 : Hp, pF M y1 6 0 (.int y0) M1 ∧ (∃ v5 : Int32, fI M1 x0 6 0 v5 ∧ ((v5 ≤ 0 → (hob M1 x0 6 ∧ (wpMo_goRounds x0 x1 M1 (fun (r12 : Int32) (M10 : Hp) => (wMo_priced_37 post r12 M10))))) ∧ (¬ v5 ≤ 0 → (wMo_priced_37 post (0 : Int32) M1)))))
set_option maxRecDepth 100000 in
set_option maxHeartbeats 4000000 in
theorem tMo_priced_18 {p : Program} {l : Launch} {e : Env} {s : State} {m : MethodId} {args : Array Value} {below : List Frame} {meth : Method} {c : Code} {D : va_G} {κ : Nat → ClassId} {A : Nat → Prop} (C : Cx_Mo_priced p s m args meth c D κ A) (post : Int32 → Hp → Prop)  (x0 : Nat) (x1 : Int32) (y0 : Int32) (y1 : Nat) (M : Hp) (hwp : wMo_priced_18 post x0 x1 y0 y1 M) : Y p l e rm_Mo_priced s m args below meth c D kCl (hTys κ) A 2 0 0 (MQ below (va_Qi post (hB D kCl (hTys κ) A) A) args s 0 0 A) M 18 [(0, .ref x0), (1, .int x1)] [.int y0, .ref y1] := by
  obtain ⟨hx, hb, hml, hr, hown, hts, hlocks, hE, hA⟩ := id C
  have hK := hE.1
  intro H locs ls hM hS hl
  unfold wMo_priced_18 at hwp
  obtain ⟨M1, ⟨fs2, he3, hl4, eM1⟩, hwp⟩ := hwp
  refine h_put (C := "BuckTablesModel") (T := Tc6) (N := 36) (v := .int y0) (ty := .int) hx hb hts inc6 tyc6 tyc6_ok nmc6 hown hK hM hS he3 rfl 0 (by decide) (hts _ kw_720) (fun _ h9 => h9) rfl (by decide +kernel) rfl rfl hl4 d_Mo_priced_18 (fun H locs hM hS => ?_)
  rw [← eM1] at hM
  refine lv_aload_n hx hb d_Mo_priced_21 rfl (lv_at hl 0 rfl) ?_
  obtain ⟨v5, ⟨fs6, he7, hv8⟩, hwp⟩ := hwp
  refine h_get (C := "BuckTablesModel") (T := Tc6) (N := 36) hx hb hts inc6 hown hK hM he7 rfl 0 (by decide) (hts _ kw_720) (fun _ h9 => h9) hv8 d_Mo_priced_22 ?_
  refine lv_if_le (tgt := 32) hx hb d_Mo_priced_25 (by decide) (fun c9 => ?_) (fun c9 => ?_)
  · replace hwp := hwp.1 c9
    refine lv_aload_n hx hb d_Mo_priced_32 rfl (lv_at hl 0 rfl) ?_
    refine lv_iload_n hx hb d_Mo_priced_33 rfl (lv_at hl 1 rfl) ?_
    obtain ⟨ho11, hwp⟩ := hwp
    refine h_calli hM hS hA (va_runV (As := [.int x1]) (rest := []) ⟨hx, hb, hml, hown, hts⟩ (metMo_goRounds l D κ H.size x0 x1 M1 _ hwp) (cwV 1 hts (gV kw_947 kw_949 kp_37 kw_8 kw_950) rfl rfl rfl (by decide +kernel) ⟨(Nat.le_of_ble_eq_true rfl), (Nat.le_of_ble_eq_true rfl)⟩) (h_preV hE hM hS ho11 (r := ("BuckTablesModel", Tc6, 36)) rfl) rfl rfl hl.1 rfl (lv_room (Nat.le_of_ble_eq_true rfl)) d_Mo_priced_34 ⟨(Nat.le_of_ble_eq_true rfl), (Nat.le_of_ble_eq_true rfl)⟩) (fun r12 M10 H locs hwp hM hS => ?_)
    exact tMo_priced_37 C post r12 M10 hwp H locs ls hM hS (lv_sub hl [] rfl)
  · replace hwp := hwp.2 c9
    refine lv_iconst (v := 0) hx hb d_Mo_priced_28 (by decide) ?_
    refine lv_goto (tgt := 37) hx hb d_Mo_priced_29 (by decide) ?_
    exact tMo_priced_37 C post (0 : Int32) M1 hwp H locs ls hM hS (lv_sub hl [] rfl)
def wpMo_priced (self : Nat) (p0 : Int32) (M : Hp) (post : Int32 → Hp → Prop) : Prop := (wpMo_isIn (p0.toInt64) (1 : Int64) (10 : Int64) M (fun (r14 : Int32) (M13 : Hp) => ((r14 = 0 → (wMo_priced_18 post self p0 (1 : Int32) self M13)) ∧ (¬ r14 = 0 → (wMo_priced_18 post self p0 (0 : Int32) self M13)))))
set_option maxRecDepth 100000 in
set_option maxHeartbeats 4000000 in
theorem eMo_priced {p : Program} {l : Launch} {e : Env} {s : State} {m : MethodId} {args : Array Value} {below : List Frame} {meth : Method} {c : Code} {D : va_G} {κ : Nat → ClassId} {A : Nat → Prop} (C : Cx_Mo_priced p s m args meth c D κ A) (post : Int32 → Hp → Prop) (self : Nat) (p0 : Int32) (M : Hp) (hwp : wpMo_priced self p0 M post) : Y p l e rm_Mo_priced s m args below meth c D kCl (hTys κ) A 2 0 0 (MQ below (va_Qi post (hB D kCl (hTys κ) A) A) args s 0 0 A) M 0 [(0, .ref self), (1, .int p0)] [] := by
  obtain ⟨hx, hb, hml, hr, hown, hts, hlocks, hE, hA⟩ := id C
  have hK := hE.1
  intro H locs ls hM hS hl
  unfold wpMo_priced at hwp
  refine lv_aload_n hx hb d_Mo_priced_0 rfl (lv_at hl 0 rfl) ?_
  refine lv_iload_n hx hb d_Mo_priced_1 rfl (lv_at hl 1 rfl) ?_
  refine lv_i2l hx hb d_Mo_priced_2 rfl ?_
  refine lv_lconst (v := 1) hx hb d_Mo_priced_3 (by decide) ?_
  refine lv_ldc2 (v := (10)) hx hb hown (hts _ kw_946) d_Mo_priced_4 ?_
  refine h_calli hM hS hA (va_runS (As := [.long (p0.toInt64), .long (1 : Int64), .long (10 : Int64)]) (rest := [.ref self]) ⟨hx, hb, hml, hown, hts⟩ (metMo_isIn l D κ H.size (p0.toInt64) (1 : Int64) (10 : Int64) M _ hwp) (cwS 3 hts (gS kw_838 kw_839 kw_8 kw_840) rfl rfl rfl (by decide +kernel) ⟨(Nat.le_of_ble_eq_true rfl), (Nat.le_of_ble_eq_true rfl)⟩) (h_preS hE hM hS) rfl rfl hl.1 rfl (lv_room (Nat.le_of_ble_eq_true rfl)) d_Mo_priced_7 ⟨(Nat.le_of_ble_eq_true rfl), (Nat.le_of_ble_eq_true rfl)⟩) (fun r14 M13 H locs hwp hM hS => ?_)
  refine lv_if_eq (tgt := 17) hx hb d_Mo_priced_10 (by decide) (fun c15 => ?_) (fun c15 => ?_)
  · replace hwp := hwp.1 c15
    refine lv_iconst (v := 1) hx hb d_Mo_priced_17 (by decide) ?_
    exact tMo_priced_18 C post self p0 (1 : Int32) self M13 hwp H locs ls hM hS (lv_sub hl [0, 1] rfl)
  · replace hwp := hwp.2 c15
    refine lv_iconst (v := 0) hx hb d_Mo_priced_13 (by decide) ?_
    refine lv_goto (tgt := 18) hx hb d_Mo_priced_14 (by decide) ?_
    exact tMo_priced_18 C post self p0 (0 : Int32) self M13 hwp H locs ls hM hS (lv_sub hl [0, 1] rfl)
set_option maxRecDepth 100000 in
set_option maxHeartbeats 4000000 in
theorem metMo_priced (l : Launch) (D : va_G) (κ : Nat → ClassId) (sz : Nat) (self : Nat) (p0 : Int32) (M : Hp) (post : Int32 → Hp → Prop) (hwp : wpMo_priced self p0 M post) : Met l y_Mo_priced ws_Mo_priced rm_Mo_priced (hPc D kCl (hTys κ) M sz [.ref self, .int p0]) (va_Qi post (hB D kCl (hTys κ) (hAx M sz)) (hAx M sz)) 0 0 (hAx M sz) := by
  refine Met.ofW (cc := prog_8_method_36_code) (maxL := 2) (ret := (some .int)) (by decide +kernel) rfl ?_
  intro p e s m args below meth c s₁ B hml hv
  obtain ⟨rfl, hsz, hE, hM0⟩ := hv
  have hts : ∀ w ∈ WG, w.before _ s = true := fun w h => atoms_spec (ws := ws_Mo_priced) B.pre w (List.mem_cons_of_mem _ h)
  subst hsz
  have C : Cx_Mo_priced p s m _ meth c D κ (hAx M s.heap.size) := ⟨B.exec, B.bytes, hml, B.returns, findClass_of_methodNamed B.named, hts, B.notSynchronized, hE, fun q h => Or.inr h⟩
  have hl := lv_entry ([.ref self, .int p0]) (n := 2) (Nat.le_of_ble_eq_true rfl)
  rw [lg_entry_eq]
  generalize (lg_sl ([.ref self, .int p0]) ++ List.replicate (2 - (lg_sl ([.ref self, .int p0])).length) Slot.unset).toArray = ls at hl ⊢
  exact eMo_priced C post self p0 M hwp s.heap [] ls (hM0.self (sz := s.heap.size)) va_S.rf hl
abbrev rm_Mo_none : Room := { frames := 0, cells := 0, slots := 0, locals := 0 }
def Cx_Mo_none (p : Program) (s : State) (m : MethodId) (args : Array Value) (meth : Method) (c : Code) (D : va_G) (κ : Nat → ClassId) (A : Nat → Prop) : Prop := p.tables.exec = Jvm.exec ∧ c.code = prog_8_method_37_code ∧ c.maxLocals = 1 ∧ meth.sig.returnType = (some .boolean) ∧ s.vm.findClass "BuckTablesModel" = some m.cls ∧ (∀ w ∈ WG, w.before args s = true) ∧ meth.locks = false ∧ hEnv D kCl (hTys κ) A s ∧ (∀ q, s.heap.size ≤ q → A q)
def wMo_none_28 (post : Int32 → Hp → Prop)   (y0 : Int32) (M : Hp) : Prop := ((y0 = 0 ∨ y0 = 1) ∧ post y0 M)
set_option maxRecDepth 100000 in
set_option maxHeartbeats 4000000 in
theorem tMo_none_28 {p : Program} {l : Launch} {e : Env} {s : State} {m : MethodId} {args : Array Value} {below : List Frame} {meth : Method} {c : Code} {D : va_G} {κ : Nat → ClassId} {A : Nat → Prop} (C : Cx_Mo_none p s m args meth c D κ A) (post : Int32 → Hp → Prop)   (y0 : Int32) (M : Hp) (hwp : wMo_none_28 post y0 M) : Y p l e rm_Mo_none s m args below meth c D kCl (hTys κ) A 1 0 0 (MQ below (va_Qi post (hB D kCl (hTys κ) A) A) args s 0 0 A) M 28 [] [.int y0] := by
  obtain ⟨hx, hb, hml, hr, hown, hts, hlocks, hE, hA⟩ := id C
  have hK := hE.1
  intro H locs ls hM hS hl
  unfold wMo_none_28 at hwp
  obtain ⟨hz1, hwp⟩ := hwp
  exact W.zret (v := y0) hx hb hr (by rcases hz1 with h | h <;> rw [h] <;> rfl) (fun t ht hW => ⟨⟨y0, M, rfl, hwp, by show hw D kCl (hTys κ) A M t.heap; rw [ht]; exact hM⟩, hS.F ht⟩) hS.2.2 d_Mo_none_28
def wMo_none_13 (post : Int32 → Hp → Prop)  (x0 : Nat) (y0 : Int32) (y1 : Nat) (M : Hp) : Prop := (∃ M2 : Hp, pF M y1 6 0 (.int y0) M2 ∧ (∃ v6 : Int32, fI M2 x0 6 0 v6 ∧ ((v6 ≤ 0 → (wMo_none_28 post (0 : Int32) M2)) ∧ (¬ v6 ≤ 0 → (wMo_none_28 post (1 : Int32) M2)))))
set_option maxRecDepth 100000 in
set_option maxHeartbeats 4000000 in
theorem tMo_none_13 {p : Program} {l : Launch} {e : Env} {s : State} {m : MethodId} {args : Array Value} {below : List Frame} {meth : Method} {c : Code} {D : va_G} {κ : Nat → ClassId} {A : Nat → Prop} (C : Cx_Mo_none p s m args meth c D κ A) (post : Int32 → Hp → Prop)  (x0 : Nat) (y0 : Int32) (y1 : Nat) (M : Hp) (hwp : wMo_none_13 post x0 y0 y1 M) : Y p l e rm_Mo_none s m args below meth c D kCl (hTys κ) A 1 0 0 (MQ below (va_Qi post (hB D kCl (hTys κ) A) A) args s 0 0 A) M 13 [(0, .ref x0)] [.int y0, .ref y1] := by
  obtain ⟨hx, hb, hml, hr, hown, hts, hlocks, hE, hA⟩ := id C
  have hK := hE.1
  intro H locs ls hM hS hl
  unfold wMo_none_13 at hwp
  obtain ⟨M2, ⟨fs3, he4, hl5, eM2⟩, hwp⟩ := hwp
  refine h_put (C := "BuckTablesModel") (T := Tc6) (N := 36) (v := .int y0) (ty := .int) hx hb hts inc6 tyc6 tyc6_ok nmc6 hown hK hM hS he4 rfl 0 (by decide) (hts _ kw_720) (fun _ h9 => h9) rfl (by decide +kernel) rfl rfl hl5 d_Mo_none_13 (fun H locs hM hS => ?_)
  rw [← eM2] at hM
  refine lv_aload_n hx hb d_Mo_none_16 rfl (lv_at hl 0 rfl) ?_
  obtain ⟨v6, ⟨fs7, he8, hv9⟩, hwp⟩ := hwp
  refine h_get (C := "BuckTablesModel") (T := Tc6) (N := 36) hx hb hts inc6 hown hK hM he8 rfl 0 (by decide) (hts _ kw_720) (fun _ h9 => h9) hv9 d_Mo_none_17 ?_
  refine lv_if_le (tgt := 27) hx hb d_Mo_none_20 (by decide) (fun c10 => ?_) (fun c10 => ?_)
  · replace hwp := hwp.1 c10
    refine lv_iconst (v := 0) hx hb d_Mo_none_27 (by decide) ?_
    exact tMo_none_28 C post (0 : Int32) M2 hwp H locs ls hM hS (lv_sub hl [] rfl)
  · replace hwp := hwp.2 c10
    refine lv_iconst (v := 1) hx hb d_Mo_none_23 (by decide) ?_
    refine lv_goto (tgt := 28) hx hb d_Mo_none_24 (by decide) ?_
    exact tMo_none_28 C post (1 : Int32) M2 hwp H locs ls hM hS (lv_sub hl [] rfl)
def wpMo_none (self : Nat) (M : Hp) (post : Int32 → Hp → Prop) : Prop := (∃ v11 : Int32, fI M self 6 33 v11 ∧ ((v11 = 0 → (wMo_none_13 post self (1 : Int32) self M)) ∧ (¬ v11 = 0 → (wMo_none_13 post self (0 : Int32) self M))))
set_option maxRecDepth 100000 in
set_option maxHeartbeats 4000000 in
theorem eMo_none {p : Program} {l : Launch} {e : Env} {s : State} {m : MethodId} {args : Array Value} {below : List Frame} {meth : Method} {c : Code} {D : va_G} {κ : Nat → ClassId} {A : Nat → Prop} (C : Cx_Mo_none p s m args meth c D κ A) (post : Int32 → Hp → Prop) (self : Nat) (M : Hp) (hwp : wpMo_none self M post) : Y p l e rm_Mo_none s m args below meth c D kCl (hTys κ) A 1 0 0 (MQ below (va_Qi post (hB D kCl (hTys κ) A) A) args s 0 0 A) M 0 [(0, .ref self)] [] := by
  obtain ⟨hx, hb, hml, hr, hown, hts, hlocks, hE, hA⟩ := id C
  have hK := hE.1
  intro H locs ls hM hS hl
  unfold wpMo_none at hwp
  refine lv_aload_n hx hb d_Mo_none_0 rfl (lv_at hl 0 rfl) ?_
  refine lv_aload_n hx hb d_Mo_none_1 rfl (lv_at hl 0 rfl) ?_
  obtain ⟨v11, ⟨fs12, he13, hv14⟩, hwp⟩ := hwp
  refine h_get (C := "BuckTablesModel") (T := Tc6) (N := 36) hx hb hts inc6 hown hK hM he13 rfl 33 (by decide) (hts _ kw_753) (fun _ h9 => h9) hv14 d_Mo_none_2 ?_
  refine lv_if_eq (tgt := 12) hx hb d_Mo_none_5 (by decide) (fun c15 => ?_) (fun c15 => ?_)
  · replace hwp := hwp.1 c15
    refine lv_iconst (v := 1) hx hb d_Mo_none_12 (by decide) ?_
    exact tMo_none_13 C post self (1 : Int32) self M hwp H locs ls hM hS (lv_sub hl [0] rfl)
  · replace hwp := hwp.2 c15
    refine lv_iconst (v := 0) hx hb d_Mo_none_8 (by decide) ?_
    refine lv_goto (tgt := 13) hx hb d_Mo_none_9 (by decide) ?_
    exact tMo_none_13 C post self (0 : Int32) self M hwp H locs ls hM hS (lv_sub hl [0] rfl)
set_option maxRecDepth 100000 in
set_option maxHeartbeats 4000000 in
theorem metMo_none (l : Launch) (D : va_G) (κ : Nat → ClassId) (sz : Nat) (self : Nat) (M : Hp) (post : Int32 → Hp → Prop) (hwp : wpMo_none self M post) : Met l y_Mo_none ws_Mo_none rm_Mo_none (hPc D kCl (hTys κ) M sz [.ref self]) (va_Qi post (hB D kCl (hTys κ) (hAx M sz)) (hAx M sz)) 0 0 (hAx M sz) := by
  refine Met.ofW (cc := prog_8_method_37_code) (maxL := 1) (ret := (some .boolean)) (by decide +kernel) rfl ?_
  intro p e s m args below meth c s₁ B hml hv
  obtain ⟨rfl, hsz, hE, hM0⟩ := hv
  have hts : ∀ w ∈ WG, w.before _ s = true := fun w h => atoms_spec (ws := ws_Mo_none) B.pre w (List.mem_cons_of_mem _ h)
  subst hsz
  have C : Cx_Mo_none p s m _ meth c D κ (hAx M s.heap.size) := ⟨B.exec, B.bytes, hml, B.returns, findClass_of_methodNamed B.named, hts, B.notSynchronized, hE, fun q h => Or.inr h⟩
  have hl := lv_entry ([.ref self]) (n := 1) (Nat.le_of_ble_eq_true rfl)
  rw [lg_entry_eq]
  generalize (lg_sl ([.ref self]) ++ List.replicate (1 - (lg_sl ([.ref self])).length) Slot.unset).toArray = ls at hl ⊢
  exact eMo_none C post self M hwp s.heap [] ls (hM0.self (sz := s.heap.size)) va_S.rf hl
