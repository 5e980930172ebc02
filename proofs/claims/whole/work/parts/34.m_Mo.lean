abbrev rm_Mo_may : Room := { frames := 0, cells := 0, slots := 0, locals := 0 }
def Cx_Mo_may (p : Program) (s : State) (m : MethodId) (args : Array Value) (meth : Method) (c : Code) (D : va_G) (κ : Nat → ClassId) (A : Nat → Prop) : Prop := p.tables.exec = Jvm.exec ∧ c.code = prog_8_method_18_code ∧ c.maxLocals = 11 ∧ meth.sig.returnType = (some .boolean) ∧ s.vm.findClass "BuckTablesModel" = some m.cls ∧ (∀ w ∈ WG, w.before args s = true) ∧ meth.locks = false ∧ hEnv D kCl (hTys κ) A s ∧ (∀ q, s.heap.size ≤ q → A q)
def wMo_may_293 (post : Int32 → Hp → Prop)   (y0 : Int32) (M : Hp) : Prop := ((y0 = 0 ∨ y0 = 1) ∧ post y0 M)
set_option maxRecDepth 100000 in
set_option maxHeartbeats 4000000 in
theorem tMo_may_293 {p : Program} {l : Launch} {e : Env} {s : State} {m : MethodId} {args : Array Value} {below : List Frame} {meth : Method} {c : Code} {D : va_G} {κ : Nat → ClassId} {A : Nat → Prop} (C : Cx_Mo_may p s m args meth c D κ A) (post : Int32 → Hp → Prop)   (y0 : Int32) (M : Hp) (hwp : wMo_may_293 post y0 M) : Y p l e rm_Mo_may s m args below meth c D kCl (hTys κ) A 11 0 0 (MQ below (va_Qi post (hB D kCl (hTys κ) A) A) args s 0 0 A) M 293 [] [.int y0] := by
  obtain ⟨hx, hb, hml, hr, hown, hts, hlocks, hE, hA⟩ := id C
  have hK := hE.1
  intro H locs ls hM hS hl
  unfold wMo_may_293 at hwp
  obtain ⟨hz1, hwp⟩ := hwp
  exact W.zret (v := y0) hx hb hr (by rcases hz1 with h | h <;> rw [h] <;> rfl) (fun t ht hW => ⟨⟨y0, M, rfl, hwp, by show hw D kCl (hTys κ) A M t.heap; rw [ht]; exact hM⟩, hS.F ht⟩) hS.2.2 d_Mo_may_293
def wMo_may_292 (post : Int32 → Hp → Prop)   (M : Hp) : Prop := (wMo_may_293 post (0 : Int32) M)
set_option maxRecDepth 100000 in
set_option maxHeartbeats 4000000 in
theorem tMo_may_292 {p : Program} {l : Launch} {e : Env} {s : State} {m : MethodId} {args : Array Value} {below : List Frame} {meth : Method} {c : Code} {D : va_G} {κ : Nat → ClassId} {A : Nat → Prop} (C : Cx_Mo_may p s m args meth c D κ A) (post : Int32 → Hp → Prop)   (M : Hp) (hwp : wMo_may_292 post  M) : Y p l e rm_Mo_may s m args below meth c D kCl (hTys κ) A 11 0 0 (MQ below (va_Qi post (hB D kCl (hTys κ) A) A) args s 0 0 A) M 292 [] [] := by
  obtain ⟨hx, hb, hml, hr, hown, hts, hlocks, hE, hA⟩ := id C
  have hK := hE.1
  intro H locs ls hM hS hl
  unfold wMo_may_292 at hwp
  refine lv_iconst (v := 0) hx hb d_Mo_may_292 (by decide) ?_
  exact tMo_may_293 C post (0 : Int32) M hwp H locs ls hM hS (lv_sub hl [] rfl)
def wMo_may_241 (post : Int32 → Hp → Prop) (k210 : Nat → Int32 → Int32 → Int32 → Int32 → Hp → Prop) (x0 : Nat) (x4 : Int32) (x7 : Int32) (x10 : Int32) (y0 : Int32) (M : Hp) : Prop := (∀ z2 : Int32, z2 = x10 + 1 → (k210 x0 x4 x7 y0 z2 M))
set_option maxRecDepth 100000 in
set_option maxHeartbeats 4000000 in
theorem tMo_may_241 {p : Program} {l : Launch} {e : Env} {s : State} {m : MethodId} {args : Array Value} {below : List Frame} {meth : Method} {c : Code} {D : va_G} {κ : Nat → ClassId} {A : Nat → Prop} (C : Cx_Mo_may p s m args meth c D κ A) (post : Int32 → Hp → Prop) (k210 : Nat → Int32 → Int32 → Int32 → Int32 → Hp → Prop) (hk210 : ∀ (x0 : Nat) (x4 : Int32) (x7 : Int32) (x9 : Int32) (x10 : Int32) (M : Hp), k210 x0 x4 x7 x9 x10 M → Y p l e rm_Mo_may s m args below meth c D kCl (hTys κ) A 11 0 0 (MQ below (va_Qi post (hB D kCl (hTys κ) A) A) args s 0 0 A) M 210 [(0, .ref x0), (4, .int x4), (7, .int x7), (9, .int x9), (10, .int x10)] []) (x0 : Nat) (x4 : Int32) (x7 : Int32) (x10 : Int32) (y0 : Int32) (M : Hp) (hwp : wMo_may_241 post k210 x0 x4 x7 x10 y0 M) : Y p l e rm_Mo_may s m args below meth c D kCl (hTys κ) A 11 0 0 (MQ below (va_Qi post (hB D kCl (hTys κ) A) A) args s 0 0 A) M 241 [(0, .ref x0), (4, .int x4), (7, .int x7), (10, .int x10)] [.int y0] := by
  obtain ⟨hx, hb, hml, hr, hown, hts, hlocks, hE, hA⟩ := id C
  have hK := hE.1
  intro H locs ls hM hS hl
  unfold wMo_may_241 at hwp
  refine lv_istore (lv' := [(9, .int y0), (0, .ref x0), (4, .int x4), (7, .int x7), (10, .int x10)]) hx hb d_Mo_may_241 hl (by decide) rfl (fun ls hl => ?_)
  obtain ⟨z2, ez2⟩ : ∃ y : Int32, y = x10 + 1 := ⟨_, rfl⟩
  replace hwp := hwp z2 ez2
  refine lv_iinc (v := z2) (lv' := [(10, .int z2), (9, .int y0), (0, .ref x0), (4, .int x4), (7, .int x7)]) hx hb d_Mo_may_243 hl (k := 4) rfl (by rw [ez2]; rfl) (by decide) rfl (fun ls hl => ?_)
  refine lv_goto (tgt := 210) hx hb d_Mo_may_246 (by decide) ?_
  exact hk210 x0 x4 x7 y0 z2 M hwp H locs ls hM hS (lv_sub hl [2, 3, 4, 1, 0] rfl)
def wMo_may_210 (post : Int32 → Hp → Prop)  : Nat → Nat → Int32 → Int32 → Int32 → Int32 → Hp → Prop
  | 0 => fun _ _ _ _ _ _ => False
  | n + 1 => fun x0 x4 x7 x9 x10 M => ((x7 < x10 → (∃ a4 : Nat, fA M x0 6 7 a4 ∧ (∃ v8 : Int32, aI M a4 x7 v8 ∧ (∃ v13 : Int32, fI M x0 6 2 v13 ∧ (∃ a17 : Nat, fA M x0 6 17 a17 ∧ (∃ v21 : Int32, aI M a17 x4 v21 ∧ (((v8 - v13) < v21 → (wMo_may_292 post M)) ∧ (¬ (v8 - v13) < v21 → (∃ v27 : Int32, fI M x0 6 2 v27 ∧ (∃ a31 : Nat, fA M x0 6 18 a31 ∧ (∃ v35 : Int32, aI M a31 x4 v35 ∧ ((v35 < (x9 + v27) → (wMo_may_292 post M)) ∧ (¬ v35 < (x9 + v27) → (wMo_may_293 post (1 : Int32) M)))))))))))))) ∧ (¬ x7 < x10 → (∃ a41 : Nat, fA M x0 6 8 a41 ∧ (∃ v45 : Int32, aI M a41 x10 v45 ∧ ((v45 ≤ x9 → (wMo_may_241 post (wMo_may_210 post n) x0 x4 x7 x10 x9 M)) ∧ (¬ v45 ≤ x9 → (∃ a51 : Nat, fA M x0 6 8 a51 ∧ (∃ v55 : Int32, aI M a51 x10 v55 ∧ (wMo_may_241 post (wMo_may_210 post n) x0 x4 x7 x10 v55 M)))))))))
set_option maxRecDepth 100000 in
set_option maxHeartbeats 4000000 in
theorem tMo_may_210 {p : Program} {l : Launch} {e : Env} {s : State} {m : MethodId} {args : Array Value} {below : List Frame} {meth : Method} {c : Code} {D : va_G} {κ : Nat → ClassId} {A : Nat → Prop} (C : Cx_Mo_may p s m args meth c D κ A) (post : Int32 → Hp → Prop)  : ∀ (n : Nat) (x0 : Nat) (x4 : Int32) (x7 : Int32) (x9 : Int32) (x10 : Int32) (M : Hp), wMo_may_210 post n x0 x4 x7 x9 x10 M → Y p l e rm_Mo_may s m args below meth c D kCl (hTys κ) A 11 0 0 (MQ below (va_Qi post (hB D kCl (hTys κ) A) A) args s 0 0 A) M 210 [(0, .ref x0), (4, .int x4), (7, .int x7), (9, .int x9), (10, .int x10)] [] := by
  obtain ⟨hx, hb, hml, hr, hown, hts, hlocks, hE, hA⟩ := id C
  have hK := hE.1
  intro n
  induction n with
  | zero => intro x0 x4 x7 x9 x10 M hwp; exact hwp.elim
  | succ n ih =>
    intro x0 x4 x7 x9 x10 M hwp H locs ls hM hS hl
    unfold wMo_may_210 at hwp
    refine lv_iload hx hb d_Mo_may_210 (lv_at hl 4 rfl) ?_
    refine lv_iload hx hb d_Mo_may_212 (lv_at hl 2 rfl) ?_
    refine lv_icmp_gt (tgt := 249) hx hb d_Mo_may_214 (by decide) (fun c3 => ?_) (fun c3 => ?_)
    · replace hwp := hwp.1 c3
      refine lv_aload_n hx hb d_Mo_may_249 rfl (lv_at hl 0 rfl) ?_
      obtain ⟨a4, ⟨fs5, he6, hv7⟩, hwp⟩ := hwp
      refine h_get (C := "BuckTablesModel") (T := Tc6) (N := 36) hx hb hts inc6 hown hK hM he6 rfl 7 (by decide) (hts _ kw_727) (fun _ h9 => h9) hv7 d_Mo_may_250 ?_
      refine lv_iload hx hb d_Mo_may_253 (lv_at hl 2 rfl) ?_
      obtain ⟨v8, ⟨n9, f10, ha11, hi12, ev8⟩, hwp⟩ := hwp
      refine h_iald hx hb hK hM ha11 rfl hi12 d_Mo_may_255 ?_
      rw [← ev8]
      refine lv_aload_n hx hb d_Mo_may_256 rfl (lv_at hl 0 rfl) ?_
      obtain ⟨v13, ⟨fs14, he15, hv16⟩, hwp⟩ := hwp
      refine h_get (C := "BuckTablesModel") (T := Tc6) (N := 36) hx hb hts inc6 hown hK hM he15 rfl 2 (by decide) (hts _ kw_722) (fun _ h9 => h9) hv16 d_Mo_may_257 ?_
      refine lv_isub hx hb d_Mo_may_260 ?_
      refine lv_aload_n hx hb d_Mo_may_261 rfl (lv_at hl 0 rfl) ?_
      obtain ⟨a17, ⟨fs18, he19, hv20⟩, hwp⟩ := hwp
      refine h_get (C := "BuckTablesModel") (T := Tc6) (N := 36) hx hb hts inc6 hown hK hM he19 rfl 17 (by decide) (hts _ kw_737) (fun _ h9 => h9) hv20 d_Mo_may_262 ?_
      refine lv_iload hx hb d_Mo_may_265 (lv_at hl 1 rfl) ?_
      obtain ⟨v21, ⟨n22, f23, ha24, hi25, ev21⟩, hwp⟩ := hwp
      refine h_iald hx hb hK hM ha24 rfl hi25 d_Mo_may_267 ?_
      rw [← ev21]
      refine lv_icmp_lt (tgt := 292) hx hb d_Mo_may_268 (by decide) (fun c26 => ?_) (fun c26 => ?_)
      · replace hwp := hwp.1 c26
        exact tMo_may_292 C post M hwp H locs ls hM hS (lv_sub hl [] rfl)
      · replace hwp := hwp.2 c26
        refine lv_iload hx hb d_Mo_may_271 (lv_at hl 3 rfl) ?_
        refine lv_aload_n hx hb d_Mo_may_273 rfl (lv_at hl 0 rfl) ?_
        obtain ⟨v27, ⟨fs28, he29, hv30⟩, hwp⟩ := hwp
        refine h_get (C := "BuckTablesModel") (T := Tc6) (N := 36) hx hb hts inc6 hown hK hM he29 rfl 2 (by decide) (hts _ kw_722) (fun _ h9 => h9) hv30 d_Mo_may_274 ?_
        refine lv_iadd hx hb d_Mo_may_277 ?_
        refine lv_aload_n hx hb d_Mo_may_278 rfl (lv_at hl 0 rfl) ?_
        obtain ⟨a31, ⟨fs32, he33, hv34⟩, hwp⟩ := hwp
        refine h_get (C := "BuckTablesModel") (T := Tc6) (N := 36) hx hb hts inc6 hown hK hM he33 rfl 18 (by decide) (hts _ kw_738) (fun _ h9 => h9) hv34 d_Mo_may_279 ?_
        refine lv_iload hx hb d_Mo_may_282 (lv_at hl 1 rfl) ?_
        obtain ⟨v35, ⟨n36, f37, ha38, hi39, ev35⟩, hwp⟩ := hwp
        refine h_iald hx hb hK hM ha38 rfl hi39 d_Mo_may_284 ?_
        rw [← ev35]
        refine lv_icmp_gt (tgt := 292) hx hb d_Mo_may_285 (by decide) (fun c40 => ?_) (fun c40 => ?_)
        · replace hwp := hwp.1 c40
          exact tMo_may_292 C post M hwp H locs ls hM hS (lv_sub hl [] rfl)
        · replace hwp := hwp.2 c40
          refine lv_iconst (v := 1) hx hb d_Mo_may_288 (by decide) ?_
          refine lv_goto (tgt := 293) hx hb d_Mo_may_289 (by decide) ?_
          exact tMo_may_293 C post (1 : Int32) M hwp H locs ls hM hS (lv_sub hl [] rfl)
    · replace hwp := hwp.2 c3
      refine lv_aload_n hx hb d_Mo_may_217 rfl (lv_at hl 0 rfl) ?_
      obtain ⟨a41, ⟨fs42, he43, hv44⟩, hwp⟩ := hwp
      refine h_get (C := "BuckTablesModel") (T := Tc6) (N := 36) hx hb hts inc6 hown hK hM he43 rfl 8 (by decide) (hts _ kw_728) (fun _ h9 => h9) hv44 d_Mo_may_218 ?_
      refine lv_iload hx hb d_Mo_may_221 (lv_at hl 4 rfl) ?_
      obtain ⟨v45, ⟨n46, f47, ha48, hi49, ev45⟩, hwp⟩ := hwp
      refine h_iald hx hb hK hM ha48 rfl hi49 d_Mo_may_223 ?_
      rw [← ev45]
      refine lv_iload hx hb d_Mo_may_224 (lv_at hl 3 rfl) ?_
      refine lv_icmp_le (tgt := 239) hx hb d_Mo_may_226 (by decide) (fun c50 => ?_) (fun c50 => ?_)
      · replace hwp := hwp.1 c50
        refine lv_iload hx hb d_Mo_may_239 (lv_at hl 3 rfl) ?_
        exact tMo_may_241 C post (wMo_may_210 post n) ih x0 x4 x7 x10 x9 M hwp H locs ls hM hS (lv_sub hl [0, 1, 2, 4] rfl)
      · replace hwp := hwp.2 c50
        refine lv_aload_n hx hb d_Mo_may_229 rfl (lv_at hl 0 rfl) ?_
        obtain ⟨a51, ⟨fs52, he53, hv54⟩, hwp⟩ := hwp
        refine h_get (C := "BuckTablesModel") (T := Tc6) (N := 36) hx hb hts inc6 hown hK hM he53 rfl 8 (by decide) (hts _ kw_728) (fun _ h9 => h9) hv54 d_Mo_may_230 ?_
        refine lv_iload hx hb d_Mo_may_233 (lv_at hl 4 rfl) ?_
        obtain ⟨v55, ⟨n56, f57, ha58, hi59, ev55⟩, hwp⟩ := hwp
        refine h_iald hx hb hK hM ha58 rfl hi59 d_Mo_may_235 ?_
        rw [← ev55]
        refine lv_goto (tgt := 241) hx hb d_Mo_may_236 (by decide) ?_
        exact tMo_may_241 C post (wMo_may_210 post n) ih x0 x4 x7 x10 v55 M hwp H locs ls hM hS (lv_sub hl [0, 1, 2, 4] rfl)
def wMo_may_185 (post : Int32 → Hp → Prop)  : Nat → Nat → Int32 → Int32 → Int32 → Int32 → Hp → Prop
  | 0 => fun _ _ _ _ _ _ => False
  | n + 1 => fun x0 x4 x5 x7 x8 M => (∃ a60 : Nat, fA M x0 6 6 a60 ∧ (∃ v64 : Int32, aI M a60 x8 v64 ∧ ((v64 ≤ x5 → (∃ n70 : Nat, wMo_may_210 post n70 x0 x4 x7 (0 : Int32) x8 M)) ∧ (¬ v64 ≤ x5 → (∀ z71 : Int32, z71 = x8 + (-1) → ((wMo_may_185 post n) x0 x4 x5 x7 z71 M))))))
set_option maxRecDepth 100000 in
set_option maxHeartbeats 4000000 in
theorem tMo_may_185 {p : Program} {l : Launch} {e : Env} {s : State} {m : MethodId} {args : Array Value} {below : List Frame} {meth : Method} {c : Code} {D : va_G} {κ : Nat → ClassId} {A : Nat → Prop} (C : Cx_Mo_may p s m args meth c D κ A) (post : Int32 → Hp → Prop)  : ∀ (n : Nat) (x0 : Nat) (x4 : Int32) (x5 : Int32) (x7 : Int32) (x8 : Int32) (M : Hp), wMo_may_185 post n x0 x4 x5 x7 x8 M → Y p l e rm_Mo_may s m args below meth c D kCl (hTys κ) A 11 0 0 (MQ below (va_Qi post (hB D kCl (hTys κ) A) A) args s 0 0 A) M 185 [(0, .ref x0), (4, .int x4), (5, .int x5), (7, .int x7), (8, .int x8)] [] := by
  obtain ⟨hx, hb, hml, hr, hown, hts, hlocks, hE, hA⟩ := id C
  have hK := hE.1
  intro n
  induction n with
  | zero => intro x0 x4 x5 x7 x8 M hwp; exact hwp.elim
  | succ n ih =>
    intro x0 x4 x5 x7 x8 M hwp H locs ls hM hS hl
    unfold wMo_may_185 at hwp
    refine lv_aload_n hx hb d_Mo_may_185 rfl (lv_at hl 0 rfl) ?_
    obtain ⟨a60, ⟨fs61, he62, hv63⟩, hwp⟩ := hwp
    refine h_get (C := "BuckTablesModel") (T := Tc6) (N := 36) hx hb hts inc6 hown hK hM he62 rfl 6 (by decide) (hts _ kw_726) (fun _ h9 => h9) hv63 d_Mo_may_186 ?_
    refine lv_iload hx hb d_Mo_may_189 (lv_at hl 4 rfl) ?_
    obtain ⟨v64, ⟨n65, f66, ha67, hi68, ev64⟩, hwp⟩ := hwp
    refine h_iald hx hb hK hM ha67 rfl hi68 d_Mo_may_191 ?_
    rw [← ev64]
    refine lv_iload hx hb d_Mo_may_192 (lv_at hl 2 rfl) ?_
    refine lv_icmp_le (tgt := 203) hx hb d_Mo_may_194 (by decide) (fun c69 => ?_) (fun c69 => ?_)
    · replace hwp := hwp.1 c69
      refine lv_iconst (v := 0) hx hb d_Mo_may_203 (by decide) ?_
      refine lv_istore (lv' := [(9, .int (0 : Int32)), (0, .ref x0), (4, .int x4), (5, .int x5), (7, .int x7), (8, .int x8)]) hx hb d_Mo_may_204 hl (by decide) rfl (fun ls hl => ?_)
      refine lv_iload hx hb d_Mo_may_206 (lv_at hl 5 rfl) ?_
      refine lv_istore (lv' := [(10, .int x8), (9, .int (0 : Int32)), (0, .ref x0), (4, .int x4), (5, .int x5), (7, .int x7), (8, .int x8)]) hx hb d_Mo_may_208 hl (by decide) rfl (fun ls hl => ?_)
      obtain ⟨n70, hwp⟩ := hwp
      exact tMo_may_210 C post n70 x0 x4 x7 (0 : Int32) x8 M hwp H locs ls hM hS (lv_sub hl [2, 3, 5, 1, 0] rfl)
    · replace hwp := hwp.2 c69
      obtain ⟨z71, ez71⟩ : ∃ y : Int32, y = x8 + (-1) := ⟨_, rfl⟩
      replace hwp := hwp z71 ez71
      refine lv_iinc (v := z71) (lv' := [(8, .int z71), (0, .ref x0), (4, .int x4), (5, .int x5), (7, .int x7)]) hx hb d_Mo_may_197 hl (k := 4) rfl (by rw [ez71]; rfl) (by decide) rfl (fun ls hl => ?_)
      refine lv_goto (tgt := 185) hx hb d_Mo_may_200 (by decide) ?_
      exact ih x0 x4 x5 x7 z71 M hwp H locs ls hM hS (lv_sub hl [1, 2, 3, 4, 0] rfl)
def wMo_may_163 (post : Int32 → Hp → Prop)  : Nat → Nat → Int32 → Int32 → Int32 → Int32 → Hp → Prop
  | 0 => fun _ _ _ _ _ _ => False
  | n + 1 => fun x0 x4 x5 x6 x7 M => (∃ a72 : Nat, fA M x0 6 6 a72 ∧ (∃ v76 : Int32, aI M a72 x7 v76 ∧ ((x6 ≤ v76 → (∃ n82 : Nat, wMo_may_185 post n82 x0 x4 x5 x7 x7 M)) ∧ (¬ x6 ≤ v76 → (∀ z83 : Int32, z83 = x7 + 1 → ((wMo_may_163 post n) x0 x4 x5 x6 z83 M))))))
set_option maxRecDepth 100000 in
set_option maxHeartbeats 4000000 in
theorem tMo_may_163 {p : Program} {l : Launch} {e : Env} {s : State} {m : MethodId} {args : Array Value} {below : List Frame} {meth : Method} {c : Code} {D : va_G} {κ : Nat → ClassId} {A : Nat → Prop} (C : Cx_Mo_may p s m args meth c D κ A) (post : Int32 → Hp → Prop)  : ∀ (n : Nat) (x0 : Nat) (x4 : Int32) (x5 : Int32) (x6 : Int32) (x7 : Int32) (M : Hp), wMo_may_163 post n x0 x4 x5 x6 x7 M → Y p l e rm_Mo_may s m args below meth c D kCl (hTys κ) A 11 0 0 (MQ below (va_Qi post (hB D kCl (hTys κ) A) A) args s 0 0 A) M 163 [(0, .ref x0), (4, .int x4), (5, .int x5), (6, .int x6), (7, .int x7)] [] := by
  obtain ⟨hx, hb, hml, hr, hown, hts, hlocks, hE, hA⟩ := id C
  have hK := hE.1
  intro n
  induction n with
  | zero => intro x0 x4 x5 x6 x7 M hwp; exact hwp.elim
  | succ n ih =>
    intro x0 x4 x5 x6 x7 M hwp H locs ls hM hS hl
    unfold wMo_may_163 at hwp
    refine lv_aload_n hx hb d_Mo_may_163 rfl (lv_at hl 0 rfl) ?_
    obtain ⟨a72, ⟨fs73, he74, hv75⟩, hwp⟩ := hwp
    refine h_get (C := "BuckTablesModel") (T := Tc6) (N := 36) hx hb hts inc6 hown hK hM he74 rfl 6 (by decide) (hts _ kw_726) (fun _ h9 => h9) hv75 d_Mo_may_164 ?_
    refine lv_iload hx hb d_Mo_may_167 (lv_at hl 4 rfl) ?_
    obtain ⟨v76, ⟨n77, f78, ha79, hi80, ev76⟩, hwp⟩ := hwp
    refine h_iald hx hb hK hM ha79 rfl hi80 d_Mo_may_169 ?_
    rw [← ev76]
    refine lv_iload hx hb d_Mo_may_170 (lv_at hl 3 rfl) ?_
    refine lv_icmp_ge (tgt := 181) hx hb d_Mo_may_172 (by decide) (fun c81 => ?_) (fun c81 => ?_)
    · replace hwp := hwp.1 c81
      refine lv_iload hx hb d_Mo_may_181 (lv_at hl 4 rfl) ?_
      refine lv_istore (lv' := [(8, .int x7), (0, .ref x0), (4, .int x4), (5, .int x5), (6, .int x6), (7, .int x7)]) hx hb d_Mo_may_183 hl (by decide) rfl (fun ls hl => ?_)
      obtain ⟨n82, hwp⟩ := hwp
      exact tMo_may_185 C post n82 x0 x4 x5 x7 x7 M hwp H locs ls hM hS (lv_sub hl [1, 2, 3, 5, 0] rfl)
    · replace hwp := hwp.2 c81
      obtain ⟨z83, ez83⟩ : ∃ y : Int32, y = x7 + 1 := ⟨_, rfl⟩
      replace hwp := hwp z83 ez83
      refine lv_iinc (v := z83) (lv' := [(7, .int z83), (0, .ref x0), (4, .int x4), (5, .int x5), (6, .int x6)]) hx hb d_Mo_may_175 hl (k := 4) rfl (by rw [ez83]; rfl) (by decide) rfl (fun ls hl => ?_)
      refine lv_goto (tgt := 163) hx hb d_Mo_may_178 (by decide) ?_
      exact ih x0 x4 x5 x6 z83 M hwp H locs ls hM hS (lv_sub hl [1, 2, 3, 4, 0] rfl)
def wMo_may_151 (post : Int32 → Hp → Prop) (k88 : Nat → Int32 → Int32 → Int32 → Int32 → Int32 → Hp → Prop) (x0 : Nat) (x1 : Int32) (x4 : Int32) (x5 : Int32) (x6 : Int32) (x7 : Int32) (M : Hp) : Prop := (∀ z84 : Int32, z84 = x7 + 1 → (k88 x0 x1 x4 x5 x6 z84 M))
set_option maxRecDepth 100000 in
set_option maxHeartbeats 4000000 in
theorem tMo_may_151 {p : Program} {l : Launch} {e : Env} {s : State} {m : MethodId} {args : Array Value} {below : List Frame} {meth : Method} {c : Code} {D : va_G} {κ : Nat → ClassId} {A : Nat → Prop} (C : Cx_Mo_may p s m args meth c D κ A) (post : Int32 → Hp → Prop) (k88 : Nat → Int32 → Int32 → Int32 → Int32 → Int32 → Hp → Prop) (hk88 : ∀ (x0 : Nat) (x1 : Int32) (x4 : Int32) (x5 : Int32) (x6 : Int32) (x7 : Int32) (M : Hp), k88 x0 x1 x4 x5 x6 x7 M → Y p l e rm_Mo_may s m args below meth c D kCl (hTys κ) A 11 0 0 (MQ below (va_Qi post (hB D kCl (hTys κ) A) A) args s 0 0 A) M 88 [(0, .ref x0), (1, .int x1), (4, .int x4), (5, .int x5), (6, .int x6), (7, .int x7)] []) (x0 : Nat) (x1 : Int32) (x4 : Int32) (x5 : Int32) (x6 : Int32) (x7 : Int32) (M : Hp) (hwp : wMo_may_151 post k88 x0 x1 x4 x5 x6 x7 M) : Y p l e rm_Mo_may s m args below meth c D kCl (hTys κ) A 11 0 0 (MQ below (va_Qi post (hB D kCl (hTys κ) A) A) args s 0 0 A) M 151 [(0, .ref x0), (1, .int x1), (4, .int x4), (5, .int x5), (6, .int x6), (7, .int x7)] [] := by
  obtain ⟨hx, hb, hml, hr, hown, hts, hlocks, hE, hA⟩ := id C
  have hK := hE.1
  intro H locs ls hM hS hl
  unfold wMo_may_151 at hwp
  obtain ⟨z84, ez84⟩ : ∃ y : Int32, y = x7 + 1 := ⟨_, rfl⟩
  replace hwp := hwp z84 ez84
  refine lv_iinc (v := z84) (lv' := [(7, .int z84), (0, .ref x0), (1, .int x1), (4, .int x4), (5, .int x5), (6, .int x6)]) hx hb d_Mo_may_151 hl (k := 5) rfl (by rw [ez84]; rfl) (by decide) rfl (fun ls hl => ?_)
  refine lv_goto (tgt := 88) hx hb d_Mo_may_154 (by decide) ?_
  exact hk88 x0 x1 x4 x5 x6 z84 M hwp H locs ls hM hS (lv_sub hl [1, 2, 3, 4, 5, 0] rfl)
def wMo_may_88 (post : Int32 → Hp → Prop)  : Nat → Nat → Int32 → Int32 → Int32 → Int32 → Int32 → Hp → Prop
  | 0 => fun _ _ _ _ _ _ _ => False
  | n + 1 => fun x0 x1 x4 x5 x6 x7 M => (∃ a85 : Nat, fA M x0 6 9 a85 ∧ (∃ v89 : Int32, aI M a85 x1 v89 ∧ (((((20 : Int32) * x1) + v89) ≤ x7 → (∀ z95 : Int32, z95 = ((60 : Int32) * x1) → (∃ n96 : Nat, wMo_may_163 post n96 x0 x4 x5 x6 z95 M))) ∧ (¬ (((20 : Int32) * x1) + v89) ≤ x7 → (∃ a97 : Nat, fA M x0 6 20 a97 ∧ (∃ a101 : Nat, fA M x0 6 12 a101 ∧ (∃ v105 : Int32, aI M a101 x7 v105 ∧ (∃ v110 : Int32, aZ M a97 (((8 : Int32) * x4) + v105) v110 ∧ ((v110 = 0 → (wMo_may_151 post (wMo_may_88 post n) x0 x1 x4 x5 x6 x7 M)) ∧ (¬ v110 = 0 → (∃ a116 : Nat, fA M x0 6 10 a116 ∧ (∃ v120 : Int32, aI M a116 x7 v120 ∧ ((x6 ≤ v120 → (wMo_may_151 post (wMo_may_88 post n) x0 x1 x4 x5 x6 x7 M)) ∧ (¬ x6 ≤ v120 → (∃ a126 : Nat, fA M x0 6 11 a126 ∧ (∃ v130 : Int32, aI M a126 x7 v130 ∧ ((v130 ≤ x5 → (wMo_may_151 post (wMo_may_88 post n) x0 x1 x4 x5 x6 x7 M)) ∧ (¬ v130 ≤ x5 → (post (0 : Int32) M)))))))))))))))))))
set_option maxRecDepth 100000 in
set_option maxHeartbeats 4000000 in
theorem tMo_may_88 {p : Program} {l : Launch} {e : Env} {s : State} {m : MethodId} {args : Array Value} {below : List Frame} {meth : Method} {c : Code} {D : va_G} {κ : Nat → ClassId} {A : Nat → Prop} (C : Cx_Mo_may p s m args meth c D κ A) (post : Int32 → Hp → Prop)  : ∀ (n : Nat) (x0 : Nat) (x1 : Int32) (x4 : Int32) (x5 : Int32) (x6 : Int32) (x7 : Int32) (M : Hp), wMo_may_88 post n x0 x1 x4 x5 x6 x7 M → Y p l e rm_Mo_may s m args below meth c D kCl (hTys κ) A 11 0 0 (MQ below (va_Qi post (hB D kCl (hTys κ) A) A) args s 0 0 A) M 88 [(0, .ref x0), (1, .int x1), (4, .int x4), (5, .int x5), (6, .int x6), (7, .int x7)] [] := by
  obtain ⟨hx, hb, hml, hr, hown, hts, hlocks, hE, hA⟩ := id C
  have hK := hE.1
  intro n
  induction n with
  | zero => intro x0 x1 x4 x5 x6 x7 M hwp; exact hwp.elim
  | succ n ih =>
    intro x0 x1 x4 x5 x6 x7 M hwp H locs ls hM hS hl
    unfold wMo_may_88 at hwp
    refine lv_iload hx hb d_Mo_may_88 (lv_at hl 5 rfl) ?_
    refine lv_bipush (v := 20) hx hb d_Mo_may_90 (by decide) ?_
    refine lv_iload_n hx hb d_Mo_may_92 rfl (lv_at hl 1 rfl) ?_
    refine lv_imul hx hb d_Mo_may_93 ?_
    refine lv_aload_n hx hb d_Mo_may_94 rfl (lv_at hl 0 rfl) ?_
    obtain ⟨a85, ⟨fs86, he87, hv88⟩, hwp⟩ := hwp
    refine h_get (C := "BuckTablesModel") (T := Tc6) (N := 36) hx hb hts inc6 hown hK hM he87 rfl 9 (by decide) (hts _ kw_729) (fun _ h9 => h9) hv88 d_Mo_may_95 ?_
    refine lv_iload_n hx hb d_Mo_may_98 rfl (lv_at hl 1 rfl) ?_
    obtain ⟨v89, ⟨n90, f91, ha92, hi93, ev89⟩, hwp⟩ := hwp
    refine h_iald hx hb hK hM ha92 rfl hi93 d_Mo_may_99 ?_
    rw [← ev89]
    refine lv_iadd hx hb d_Mo_may_100 ?_
    refine lv_icmp_ge (tgt := 157) hx hb d_Mo_may_101 (by decide) (fun c94 => ?_) (fun c94 => ?_)
    · replace hwp := hwp.1 c94
      refine lv_bipush (v := 60) hx hb d_Mo_may_157 (by decide) ?_
      refine lv_iload_n hx hb d_Mo_may_159 rfl (lv_at hl 1 rfl) ?_
      refine lv_imul hx hb d_Mo_may_160 ?_
      refine lv_topi (fun z95 ez95 => ?_)
      replace hwp := hwp z95 ez95
      refine lv_istore (lv' := [(7, .int z95), (0, .ref x0), (1, .int x1), (4, .int x4), (5, .int x5), (6, .int x6)]) hx hb d_Mo_may_161 hl (by decide) rfl (fun ls hl => ?_)
      obtain ⟨n96, hwp⟩ := hwp
      exact tMo_may_163 C post n96 x0 x4 x5 x6 z95 M hwp H locs ls hM hS (lv_sub hl [1, 3, 4, 5, 0] rfl)
    · replace hwp := hwp.2 c94
      refine lv_aload_n hx hb d_Mo_may_104 rfl (lv_at hl 0 rfl) ?_
      obtain ⟨a97, ⟨fs98, he99, hv100⟩, hwp⟩ := hwp
      refine h_get (C := "BuckTablesModel") (T := Tc6) (N := 36) hx hb hts inc6 hown hK hM he99 rfl 20 (by decide) (hts _ kw_740) (fun _ h9 => h9) hv100 d_Mo_may_105 ?_
      refine lv_bipush (v := 8) hx hb d_Mo_may_108 (by decide) ?_
      refine lv_iload hx hb d_Mo_may_110 (lv_at hl 2 rfl) ?_
      refine lv_imul hx hb d_Mo_may_112 ?_
      refine lv_aload_n hx hb d_Mo_may_113 rfl (lv_at hl 0 rfl) ?_
      obtain ⟨a101, ⟨fs102, he103, hv104⟩, hwp⟩ := hwp
      refine h_get (C := "BuckTablesModel") (T := Tc6) (N := 36) hx hb hts inc6 hown hK hM he103 rfl 12 (by decide) (hts _ kw_732) (fun _ h9 => h9) hv104 d_Mo_may_114 ?_
      refine lv_iload hx hb d_Mo_may_117 (lv_at hl 5 rfl) ?_
      obtain ⟨v105, ⟨n106, f107, ha108, hi109, ev105⟩, hwp⟩ := hwp
      refine h_iald hx hb hK hM ha108 rfl hi109 d_Mo_may_119 ?_
      rw [← ev105]
      refine lv_iadd hx hb d_Mo_may_120 ?_
      obtain ⟨v110, ⟨n111, f112, ha113, hi114, ev110⟩, hwp⟩ := hwp
      refine h_zald hx hb hK hM ha113 rfl hi114 d_Mo_may_121 ?_
      rw [← ev110]
      refine lv_if_eq (tgt := 151) hx hb d_Mo_may_122 (by decide) (fun c115 => ?_) (fun c115 => ?_)
      · replace hwp := hwp.1 c115
        exact tMo_may_151 C post (wMo_may_88 post n) ih x0 x1 x4 x5 x6 x7 M hwp H locs ls hM hS (lv_sub hl [0, 1, 2, 3, 4, 5] rfl)
      · replace hwp := hwp.2 c115
        refine lv_aload_n hx hb d_Mo_may_125 rfl (lv_at hl 0 rfl) ?_
        obtain ⟨a116, ⟨fs117, he118, hv119⟩, hwp⟩ := hwp
        refine h_get (C := "BuckTablesModel") (T := Tc6) (N := 36) hx hb hts inc6 hown hK hM he118 rfl 10 (by decide) (hts _ kw_730) (fun _ h9 => h9) hv119 d_Mo_may_126 ?_
        refine lv_iload hx hb d_Mo_may_129 (lv_at hl 5 rfl) ?_
        obtain ⟨v120, ⟨n121, f122, ha123, hi124, ev120⟩, hwp⟩ := hwp
        refine h_iald hx hb hK hM ha123 rfl hi124 d_Mo_may_131 ?_
        rw [← ev120]
        refine lv_iload hx hb d_Mo_may_132 (lv_at hl 4 rfl) ?_
        refine lv_icmp_ge (tgt := 151) hx hb d_Mo_may_134 (by decide) (fun c125 => ?_) (fun c125 => ?_)
        · replace hwp := hwp.1 c125
          exact tMo_may_151 C post (wMo_may_88 post n) ih x0 x1 x4 x5 x6 x7 M hwp H locs ls hM hS (lv_sub hl [0, 1, 2, 3, 4, 5] rfl)
        · replace hwp := hwp.2 c125
          refine lv_aload_n hx hb d_Mo_may_137 rfl (lv_at hl 0 rfl) ?_
          obtain ⟨a126, ⟨fs127, he128, hv129⟩, hwp⟩ := hwp
          refine h_get (C := "BuckTablesModel") (T := Tc6) (N := 36) hx hb hts inc6 hown hK hM he128 rfl 11 (by decide) (hts _ kw_731) (fun _ h9 => h9) hv129 d_Mo_may_138 ?_
          refine lv_iload hx hb d_Mo_may_141 (lv_at hl 5 rfl) ?_
          obtain ⟨v130, ⟨n131, f132, ha133, hi134, ev130⟩, hwp⟩ := hwp
          refine h_iald hx hb hK hM ha133 rfl hi134 d_Mo_may_143 ?_
          rw [← ev130]
          refine lv_iload hx hb d_Mo_may_144 (lv_at hl 3 rfl) ?_
          refine lv_icmp_le (tgt := 151) hx hb d_Mo_may_146 (by decide) (fun c135 => ?_) (fun c135 => ?_)
          · replace hwp := hwp.1 c135
            exact tMo_may_151 C post (wMo_may_88 post n) ih x0 x1 x4 x5 x6 x7 M hwp H locs ls hM hS (lv_sub hl [0, 1, 2, 3, 4, 5] rfl)
          · replace hwp := hwp.2 c135
            refine lv_iconst (v := 0) hx hb d_Mo_may_149 (by decide) ?_
            exact W.zret (v := (0 : Int32)) hx hb hr (by decide) (fun t ht hW => ⟨⟨(0 : Int32), M, rfl, hwp, by show hw D kCl (hTys κ) A M t.heap; rw [ht]; exact hM⟩, hS.F ht⟩) hS.2.2 d_Mo_may_150
def wMo_may_53 (post : Int32 → Hp → Prop)  : Nat → Nat → Int32 → Int32 → Int32 → Int32 → Int32 → Int32 → Hp → Prop
  | 0 => fun _ _ _ _ _ _ _ _ => False
  | n + 1 => fun x0 x1 x3 x4 x5 x6 x7 M => ((x3 ≤ x7 → (∀ z137 : Int32, z137 = ((20 : Int32) * x1) → (∃ n138 : Nat, wMo_may_88 post n138 x0 x1 x4 x5 x6 z137 M))) ∧ (¬ x3 ≤ x7 → (∃ a139 : Nat, fA M x0 6 13 a139 ∧ (∃ v143 : Int32, aZ M a139 (((81 : Int32) * x1) + x7) v143 ∧ ((v143 = 0 → (∀ z149 : Int32, z149 = x7 + 1 → ((wMo_may_53 post n) x0 x1 x3 x4 x5 x6 z149 M))) ∧ (¬ v143 = 0 → (post (0 : Int32) M)))))))
set_option maxRecDepth 100000 in
set_option maxHeartbeats 4000000 in
theorem tMo_may_53 {p : Program} {l : Launch} {e : Env} {s : State} {m : MethodId} {args : Array Value} {below : List Frame} {meth : Method} {c : Code} {D : va_G} {κ : Nat → ClassId} {A : Nat → Prop} (C : Cx_Mo_may p s m args meth c D κ A) (post : Int32 → Hp → Prop)  : ∀ (n : Nat) (x0 : Nat) (x1 : Int32) (x3 : Int32) (x4 : Int32) (x5 : Int32) (x6 : Int32) (x7 : Int32) (M : Hp), wMo_may_53 post n x0 x1 x3 x4 x5 x6 x7 M → Y p l e rm_Mo_may s m args below meth c D kCl (hTys κ) A 11 0 0 (MQ below (va_Qi post (hB D kCl (hTys κ) A) A) args s 0 0 A) M 53 [(0, .ref x0), (1, .int x1), (3, .int x3), (4, .int x4), (5, .int x5), (6, .int x6), (7, .int x7)] [] := by
  obtain ⟨hx, hb, hml, hr, hown, hts, hlocks, hE, hA⟩ := id C
  have hK := hE.1
  intro n
  induction n with
  | zero => intro x0 x1 x3 x4 x5 x6 x7 M hwp; exact hwp.elim
  | succ n ih =>
    intro x0 x1 x3 x4 x5 x6 x7 M hwp H locs ls hM hS hl
    unfold wMo_may_53 at hwp
    refine lv_iload hx hb d_Mo_may_53 (lv_at hl 6 rfl) ?_
    refine lv_iload_n hx hb d_Mo_may_55 rfl (lv_at hl 2 rfl) ?_
    refine lv_icmp_ge (tgt := 82) hx hb d_Mo_may_56 (by decide) (fun c136 => ?_) (fun c136 => ?_)
    · replace hwp := hwp.1 c136
      refine lv_bipush (v := 20) hx hb d_Mo_may_82 (by decide) ?_
      refine lv_iload_n hx hb d_Mo_may_84 rfl (lv_at hl 1 rfl) ?_
      refine lv_imul hx hb d_Mo_may_85 ?_
      refine lv_topi (fun z137 ez137 => ?_)
      replace hwp := hwp z137 ez137
      refine lv_istore (lv' := [(7, .int z137), (0, .ref x0), (1, .int x1), (3, .int x3), (4, .int x4), (5, .int x5), (6, .int x6)]) hx hb d_Mo_may_86 hl (by decide) rfl (fun ls hl => ?_)
      obtain ⟨n138, hwp⟩ := hwp
      exact tMo_may_88 C post n138 x0 x1 x4 x5 x6 z137 M hwp H locs ls hM hS (lv_sub hl [1, 2, 4, 5, 6, 0] rfl)
    · replace hwp := hwp.2 c136
      refine lv_aload_n hx hb d_Mo_may_59 rfl (lv_at hl 0 rfl) ?_
      obtain ⟨a139, ⟨fs140, he141, hv142⟩, hwp⟩ := hwp
      refine h_get (C := "BuckTablesModel") (T := Tc6) (N := 36) hx hb hts inc6 hown hK hM he141 rfl 13 (by decide) (hts _ kw_733) (fun _ h9 => h9) hv142 d_Mo_may_60 ?_
      refine lv_bipush (v := 81) hx hb d_Mo_may_63 (by decide) ?_
      refine lv_iload_n hx hb d_Mo_may_65 rfl (lv_at hl 1 rfl) ?_
      refine lv_imul hx hb d_Mo_may_66 ?_
      refine lv_iload hx hb d_Mo_may_67 (lv_at hl 6 rfl) ?_
      refine lv_iadd hx hb d_Mo_may_69 ?_
      obtain ⟨v143, ⟨n144, f145, ha146, hi147, ev143⟩, hwp⟩ := hwp
      refine h_zald hx hb hK hM ha146 rfl hi147 d_Mo_may_70 ?_
      rw [← ev143]
      refine lv_if_eq (tgt := 76) hx hb d_Mo_may_71 (by decide) (fun c148 => ?_) (fun c148 => ?_)
      · replace hwp := hwp.1 c148
        obtain ⟨z149, ez149⟩ : ∃ y : Int32, y = x7 + 1 := ⟨_, rfl⟩
        replace hwp := hwp z149 ez149
        refine lv_iinc (v := z149) (lv' := [(7, .int z149), (0, .ref x0), (1, .int x1), (3, .int x3), (4, .int x4), (5, .int x5), (6, .int x6)]) hx hb d_Mo_may_76 hl (k := 6) rfl (by rw [ez149]; rfl) (by decide) rfl (fun ls hl => ?_)
        refine lv_goto (tgt := 53) hx hb d_Mo_may_79 (by decide) ?_
        exact ih x0 x1 x3 x4 x5 x6 z149 M hwp H locs ls hM hS (lv_sub hl [1, 2, 3, 4, 5, 6, 0] rfl)
      · replace hwp := hwp.2 c148
        refine lv_iconst (v := 0) hx hb d_Mo_may_74 (by decide) ?_
        exact W.zret (v := (0 : Int32)) hx hb hr (by decide) (fun t ht hW => ⟨⟨(0 : Int32), M, rfl, hwp, by show hw D kCl (hTys κ) A M t.heap; rw [ht]; exact hM⟩, hS.F ht⟩) hS.2.2 d_Mo_may_75
def wMo_may_46 (post : Int32 → Hp → Prop)   (M : Hp) : Prop := (post (0 : Int32) M)
set_option maxRecDepth 100000 in
set_option maxHeartbeats 4000000 in
theorem tMo_may_46 {p : Program} {l : Launch} {e : Env} {s : State} {m : MethodId} {args : Array Value} {below : List Frame} {meth : Method} {c : Code} {D : va_G} {κ : Nat → ClassId} {A : Nat → Prop} (C : Cx_Mo_may p s m args meth c D κ A) (post : Int32 → Hp → Prop)   (M : Hp) (hwp : wMo_may_46 post  M) : Y p l e rm_Mo_may s m args below meth c D kCl (hTys κ) A 11 0 0 (MQ below (va_Qi post (hB D kCl (hTys κ) A) A) args s 0 0 A) M 46 [] [] := by
  obtain ⟨hx, hb, hml, hr, hown, hts, hlocks, hE, hA⟩ := id C
  have hK := hE.1
  intro H locs ls hM hS hl
  unfold wMo_may_46 at hwp
  refine lv_iconst (v := 0) hx hb d_Mo_may_46 (by decide) ?_
  exact W.zret (v := (0 : Int32)) hx hb hr (by decide) (fun t ht hW => ⟨⟨(0 : Int32), M, rfl, hwp, by show hw D kCl (hTys κ) A M t.heap; rw [ht]; exact hM⟩, hS.F ht⟩) hS.2.2 d_Mo_may_47
def wpMo_may (self : Nat) (p0 : Int32) (p1 : Int32) (p2 : Int32) (p3 : Int32) (M : Hp) (post : Int32 → Hp → Prop) : Prop := (∃ v150 : Int32, fI M self 6 1 v150 ∧ (∀ z154 : Int32, z154 = (p1 * v150) → (∃ v155 : Int32, fI M self 6 1 v155 ∧ (∀ z159 : Int32, z159 = (p2 * v155) → (∃ a160 : Nat, fA M self 6 15 a160 ∧ (∃ v164 : Int32, aI M a160 p3 v164 ∧ (((z159 - z154) < v164 → (wMo_may_46 post M)) ∧ (¬ (z159 - z154) < v164 → (∃ a170 : Nat, fA M self 6 16 a170 ∧ (∃ v174 : Int32, aI M a170 p3 v174 ∧ (((z159 - z154) ≤ v174 → (∀ z180 : Int32, z180 = (p1 + (1 : Int32)) → (∃ n181 : Nat, wMo_may_53 post n181 self p0 p2 p3 z154 z159 z180 M))) ∧ (¬ (z159 - z154) ≤ v174 → (wMo_may_46 post M)))))))))))))
set_option maxRecDepth 100000 in
set_option maxHeartbeats 4000000 in
theorem eMo_may {p : Program} {l : Launch} {e : Env} {s : State} {m : MethodId} {args : Array Value} {below : List Frame} {meth : Method} {c : Code} {D : va_G} {κ : Nat → ClassId} {A : Nat → Prop} (C : Cx_Mo_may p s m args meth c D κ A) (post : Int32 → Hp → Prop) (self : Nat) (p0 : Int32) (p1 : Int32) (p2 : Int32) (p3 : Int32) (M : Hp) (hwp : wpMo_may self p0 p1 p2 p3 M post) : Y p l e rm_Mo_may s m args below meth c D kCl (hTys κ) A 11 0 0 (MQ below (va_Qi post (hB D kCl (hTys κ) A) A) args s 0 0 A) M 0 [(0, .ref self), (1, .int p0), (2, .int p1), (3, .int p2), (4, .int p3)] [] := by
  obtain ⟨hx, hb, hml, hr, hown, hts, hlocks, hE, hA⟩ := id C
  have hK := hE.1
  intro H locs ls hM hS hl
  unfold wpMo_may at hwp
  refine lv_iload_n hx hb d_Mo_may_0 rfl (lv_at hl 2 rfl) ?_
  refine lv_aload_n hx hb d_Mo_may_1 rfl (lv_at hl 0 rfl) ?_
  obtain ⟨v150, ⟨fs151, he152, hv153⟩, hwp⟩ := hwp
  refine h_get (C := "BuckTablesModel") (T := Tc6) (N := 36) hx hb hts inc6 hown hK hM he152 rfl 1 (by decide) (hts _ kw_721) (fun _ h9 => h9) hv153 d_Mo_may_2 ?_
  refine lv_imul hx hb d_Mo_may_5 ?_
  refine lv_topi (fun z154 ez154 => ?_)
  replace hwp := hwp z154 ez154
  refine lv_istore (lv' := [(5, .int z154), (0, .ref self), (1, .int p0), (2, .int p1), (3, .int p2), (4, .int p3)]) hx hb d_Mo_may_6 hl (by decide) rfl (fun ls hl => ?_)
  refine lv_iload_n hx hb d_Mo_may_8 rfl (lv_at hl 4 rfl) ?_
  refine lv_aload_n hx hb d_Mo_may_9 rfl (lv_at hl 1 rfl) ?_
  obtain ⟨v155, ⟨fs156, he157, hv158⟩, hwp⟩ := hwp
  refine h_get (C := "BuckTablesModel") (T := Tc6) (N := 36) hx hb hts inc6 hown hK hM he157 rfl 1 (by decide) (hts _ kw_721) (fun _ h9 => h9) hv158 d_Mo_may_10 ?_
  refine lv_imul hx hb d_Mo_may_13 ?_
  refine lv_topi (fun z159 ez159 => ?_)
  replace hwp := hwp z159 ez159
  refine lv_istore (lv' := [(6, .int z159), (5, .int z154), (0, .ref self), (1, .int p0), (2, .int p1), (3, .int p2), (4, .int p3)]) hx hb d_Mo_may_14 hl (by decide) rfl (fun ls hl => ?_)
  refine lv_iload hx hb d_Mo_may_16 (lv_at hl 0 rfl) ?_
  refine lv_iload hx hb d_Mo_may_18 (lv_at hl 1 rfl) ?_
  refine lv_isub hx hb d_Mo_may_20 ?_
  refine lv_aload_n hx hb d_Mo_may_21 rfl (lv_at hl 2 rfl) ?_
  obtain ⟨a160, ⟨fs161, he162, hv163⟩, hwp⟩ := hwp
  refine h_get (C := "BuckTablesModel") (T := Tc6) (N := 36) hx hb hts inc6 hown hK hM he162 rfl 15 (by decide) (hts _ kw_735) (fun _ h9 => h9) hv163 d_Mo_may_22 ?_
  refine lv_iload hx hb d_Mo_may_25 (lv_at hl 6 rfl) ?_
  obtain ⟨v164, ⟨n165, f166, ha167, hi168, ev164⟩, hwp⟩ := hwp
  refine h_iald hx hb hK hM ha167 rfl hi168 d_Mo_may_27 ?_
  rw [← ev164]
  refine lv_icmp_lt (tgt := 46) hx hb d_Mo_may_28 (by decide) (fun c169 => ?_) (fun c169 => ?_)
  · replace hwp := hwp.1 c169
    exact tMo_may_46 C post M hwp H locs ls hM hS (lv_sub hl [] rfl)
  · replace hwp := hwp.2 c169
    refine lv_iload hx hb d_Mo_may_31 (lv_at hl 0 rfl) ?_
    refine lv_iload hx hb d_Mo_may_33 (lv_at hl 1 rfl) ?_
    refine lv_isub hx hb d_Mo_may_35 ?_
    refine lv_aload_n hx hb d_Mo_may_36 rfl (lv_at hl 2 rfl) ?_
    obtain ⟨a170, ⟨fs171, he172, hv173⟩, hwp⟩ := hwp
    refine h_get (C := "BuckTablesModel") (T := Tc6) (N := 36) hx hb hts inc6 hown hK hM he172 rfl 16 (by decide) (hts _ kw_736) (fun _ h9 => h9) hv173 d_Mo_may_37 ?_
    refine lv_iload hx hb d_Mo_may_40 (lv_at hl 6 rfl) ?_
    obtain ⟨v174, ⟨n175, f176, ha177, hi178, ev174⟩, hwp⟩ := hwp
    refine h_iald hx hb hK hM ha177 rfl hi178 d_Mo_may_42 ?_
    rw [← ev174]
    refine lv_icmp_le (tgt := 48) hx hb d_Mo_may_43 (by decide) (fun c179 => ?_) (fun c179 => ?_)
    · replace hwp := hwp.1 c179
      refine lv_iload_n hx hb d_Mo_may_48 rfl (lv_at hl 4 rfl) ?_
      refine lv_iconst (v := 1) hx hb d_Mo_may_49 (by decide) ?_
      refine lv_iadd hx hb d_Mo_may_50 ?_
      refine lv_topi (fun z180 ez180 => ?_)
      replace hwp := hwp z180 ez180
      refine lv_istore (lv' := [(7, .int z180), (6, .int z159), (5, .int z154), (0, .ref self), (1, .int p0), (2, .int p1), (3, .int p2), (4, .int p3)]) hx hb d_Mo_may_51 hl (by decide) rfl (fun ls hl => ?_)
      obtain ⟨n181, hwp⟩ := hwp
      exact tMo_may_53 C post n181 self p0 p2 p3 z154 z159 z180 M hwp H locs ls hM hS (lv_sub hl [3, 4, 6, 7, 2, 1, 0] rfl)
    · replace hwp := hwp.2 c179
      exact tMo_may_46 C post M hwp H locs ls hM hS (lv_sub hl [] rfl)
set_option maxRecDepth 100000 in
set_option maxHeartbeats 4000000 in
theorem metMo_may (l : Launch) (D : va_G) (κ : Nat → ClassId) (sz : Nat) (self : Nat) (p0 : Int32) (p1 : Int32) (p2 : Int32) (p3 : Int32) (M : Hp) (post : Int32 → Hp → Prop) (hwp : wpMo_may self p0 p1 p2 p3 M post) : Met l y_Mo_may ws_Mo_may rm_Mo_may (hPc D kCl (hTys κ) M sz [.ref self, .int p0, .int p1, .int p2, .int p3]) (va_Qi post (hB D kCl (hTys κ) (hAx M sz)) (hAx M sz)) 0 0 (hAx M sz) := by
  refine Met.ofW (cc := prog_8_method_18_code) (maxL := 11) (ret := (some .boolean)) (by decide +kernel) rfl ?_
  intro p e s m args below meth c s₁ B hml hv
  obtain ⟨rfl, hsz, hE, hM0⟩ := hv
  have hts : ∀ w ∈ WG, w.before _ s = true := fun w h => atoms_spec (ws := ws_Mo_may) B.pre w (List.mem_cons_of_mem _ h)
  subst hsz
  have C : Cx_Mo_may p s m _ meth c D κ (hAx M s.heap.size) := ⟨B.exec, B.bytes, hml, B.returns, findClass_of_methodNamed B.named, hts, B.notSynchronized, hE, fun q h => Or.inr h⟩
  have hl := lv_entry ([.ref self, .int p0, .int p1, .int p2, .int p3]) (n := 11) (Nat.le_of_ble_eq_true rfl)
  rw [lg_entry_eq]
  generalize (lg_sl ([.ref self, .int p0, .int p1, .int p2, .int p3]) ++ List.replicate (11 - (lg_sl ([.ref self, .int p0, .int p1, .int p2, .int p3])).length) Slot.unset).toArray = ls at hl ⊢
  exact eMo_may C post self p0 p1 p2 p3 M hwp s.heap [] ls (hM0.self (sz := s.heap.size)) va_S.rf hl
abbrev rm_Mo_worthOf : Room := { frames := 0, cells := 0, slots := 0, locals := 0 }
def Cx_Mo_worthOf (p : Program) (s : State) (m : MethodId) (args : Array Value) (meth : Method) (c : Code) (D : va_G) (κ : Nat → ClassId) (A : Nat → Prop) : Prop := p.tables.exec = Jvm.exec ∧ c.code = prog_8_method_19_code ∧ c.maxLocals = 4 ∧ meth.sig.returnType = (some .long) ∧ s.vm.findClass "BuckTablesModel" = some m.cls ∧ (∀ w ∈ WG, w.before args s = true) ∧ meth.locks = false ∧ hEnv D kCl (hTys κ) A s ∧ (∀ q, s.heap.size ≤ q → A q)
def wpMo_worthOf (self : Nat) (p0 : Int32) (p1 : Int32) (p2 : Int32) (M : Hp) (post : Int64 → Hp → Prop) : Prop := (∃ a1 : Nat, fA M self 6 19 a1 ∧ (∃ v5 : Int64, aJ M a1 p2 v5 ∧ (∃ a10 : Nat, fA M self 6 22 a10 ∧ (∃ v14 : Int64, aJ M a10 (((7 : Int32) * p2) + p0) v14 ∧ (post ((v5 * (p1.toInt64)) + v14) M)))))
set_option maxRecDepth 100000 in
set_option maxHeartbeats 4000000 in
theorem eMo_worthOf {p : Program} {l : Launch} {e : Env} {s : State} {m : MethodId} {args : Array Value} {below : List Frame} {meth : Method} {c : Code} {D : va_G} {κ : Nat → ClassId} {A : Nat → Prop} (C : Cx_Mo_worthOf p s m args meth c D κ A) (post : Int64 → Hp → Prop) (self : Nat) (p0 : Int32) (p1 : Int32) (p2 : Int32) (M : Hp) (hwp : wpMo_worthOf self p0 p1 p2 M post) : Y p l e rm_Mo_worthOf s m args below meth c D kCl (hTys κ) A 4 0 0 (MQ below (va_Ql post (hB D kCl (hTys κ) A) A) args s 0 0 A) M 0 [(0, .ref self), (1, .int p0), (2, .int p1), (3, .int p2)] [] := by
  obtain ⟨hx, hb, hml, hr, hown, hts, hlocks, hE, hA⟩ := id C
  have hK := hE.1
  intro H locs ls hM hS hl
  unfold wpMo_worthOf at hwp
  refine lv_aload_n hx hb d_Mo_worthOf_0 rfl (lv_at hl 0 rfl) ?_
  obtain ⟨a1, ⟨fs2, he3, hv4⟩, hwp⟩ := hwp
  refine h_get (C := "BuckTablesModel") (T := Tc6) (N := 36) hx hb hts inc6 hown hK hM he3 rfl 19 (by decide) (hts _ kw_739) (fun _ h9 => h9) hv4 d_Mo_worthOf_1 ?_
  refine lv_iload_n hx hb d_Mo_worthOf_4 rfl (lv_at hl 3 rfl) ?_
  obtain ⟨v5, ⟨n6, f7, ha8, hi9, ev5⟩, hwp⟩ := hwp
  refine h_lald hx hb hK hM ha8 rfl hi9 d_Mo_worthOf_5 ?_
  rw [← ev5]
  refine lv_iload_n hx hb d_Mo_worthOf_6 rfl (lv_at hl 2 rfl) ?_
  refine lv_i2l hx hb d_Mo_worthOf_7 rfl ?_
  refine lv_lmul hx hb d_Mo_worthOf_8 ?_
  refine lv_aload_n hx hb d_Mo_worthOf_9 rfl (lv_at hl 0 rfl) ?_
  obtain ⟨a10, ⟨fs11, he12, hv13⟩, hwp⟩ := hwp
  refine h_get (C := "BuckTablesModel") (T := Tc6) (N := 36) hx hb hts inc6 hown hK hM he12 rfl 22 (by decide) (hts _ kw_742) (fun _ h9 => h9) hv13 d_Mo_worthOf_10 ?_
  refine lv_bipush (v := 7) hx hb d_Mo_worthOf_13 (by decide) ?_
  refine lv_iload_n hx hb d_Mo_worthOf_15 rfl (lv_at hl 3 rfl) ?_
  refine lv_imul hx hb d_Mo_worthOf_16 ?_
  refine lv_iload_n hx hb d_Mo_worthOf_17 rfl (lv_at hl 1 rfl) ?_
  refine lv_iadd hx hb d_Mo_worthOf_18 ?_
  obtain ⟨v14, ⟨n15, f16, ha17, hi18, ev14⟩, hwp⟩ := hwp
  refine h_lald hx hb hK hM ha17 rfl hi18 d_Mo_worthOf_19 ?_
  rw [← ev14]
  refine lv_ladd hx hb d_Mo_worthOf_20 ?_
  exact W.lret (v := ((v5 * (p1.toInt64)) + v14)) hx hb hr (fun t ht hW => ⟨⟨((v5 * (p1.toInt64)) + v14), M, rfl, hwp, by show hw D kCl (hTys κ) A M t.heap; rw [ht]; exact hM⟩, hS.F ht⟩) hS.2.2 d_Mo_worthOf_21
set_option maxRecDepth 100000 in
set_option maxHeartbeats 4000000 in
theorem metMo_worthOf (l : Launch) (D : va_G) (κ : Nat → ClassId) (sz : Nat) (self : Nat) (p0 : Int32) (p1 : Int32) (p2 : Int32) (M : Hp) (post : Int64 → Hp → Prop) (hwp : wpMo_worthOf self p0 p1 p2 M post) : Met l y_Mo_worthOf ws_Mo_worthOf rm_Mo_worthOf (hPc D kCl (hTys κ) M sz [.ref self, .int p0, .int p1, .int p2]) (va_Ql post (hB D kCl (hTys κ) (hAx M sz)) (hAx M sz)) 0 0 (hAx M sz) := by
  refine Met.ofW (cc := prog_8_method_19_code) (maxL := 4) (ret := (some .long)) (by decide +kernel) rfl ?_
  intro p e s m args below meth c s₁ B hml hv
  obtain ⟨rfl, hsz, hE, hM0⟩ := hv
  have hts : ∀ w ∈ WG, w.before _ s = true := fun w h => atoms_spec (ws := ws_Mo_worthOf) B.pre w (List.mem_cons_of_mem _ h)
  subst hsz
  have C : Cx_Mo_worthOf p s m _ meth c D κ (hAx M s.heap.size) := ⟨B.exec, B.bytes, hml, B.returns, findClass_of_methodNamed B.named, hts, B.notSynchronized, hE, fun q h => Or.inr h⟩
  have hl := lv_entry ([.ref self, .int p0, .int p1, .int p2]) (n := 4) (Nat.le_of_ble_eq_true rfl)
  rw [lg_entry_eq]
  generalize (lg_sl ([.ref self, .int p0, .int p1, .int p2]) ++ List.replicate (4 - (lg_sl ([.ref self, .int p0, .int p1, .int p2])).length) Slot.unset).toArray = ls at hl ⊢
  exact eMo_worthOf C post self p0 p1 p2 M hwp s.heap [] ls (hM0.self (sz := s.heap.size)) va_S.rf hl
abbrev rm_Mo_behind : Room := { frames := 0, cells := 0, slots := 0, locals := 0 }
def Cx_Mo_behind (p : Program) (s : State) (m : MethodId) (args : Array Value) (meth : Method) (c : Code) (D : va_G) (κ : Nat → ClassId) (A : Nat → Prop) : Prop := p.tables.exec = Jvm.exec ∧ c.code = prog_8_method_20_code ∧ c.maxLocals = 3 ∧ meth.sig.returnType = (some .int) ∧ s.vm.findClass "BuckTablesModel" = some m.cls ∧ (∀ w ∈ WG, w.before args s = true) ∧ meth.locks = false ∧ hEnv D kCl (hTys κ) A s ∧ (∀ q, s.heap.size ≤ q → A q)
def wMo_behind_29 (post : Int32 → Hp → Prop)   (y0 : Int32) (M : Hp) : Prop := (post y0 M)
set_option maxRecDepth 100000 in
set_option maxHeartbeats 4000000 in
theorem tMo_behind_29 {p : Program} {l : Launch} {e : Env} {s : State} {m : MethodId} {args : Array Value} {below : List Frame} {meth : Method} {c : Code} {D : va_G} {κ : Nat → ClassId} {A : Nat → Prop} (C : Cx_Mo_behind p s m args meth c D κ A) (post : Int32 → Hp → Prop)   (y0 : Int32) (M : Hp) (hwp : wMo_behind_29 post y0 M) : Y p l e rm_Mo_behind s m args below meth c D kCl (hTys κ) A 3 0 0 (MQ below (va_Qi post (hB D kCl (hTys κ) A) A) args s 0 0 A) M 29 [] [.int y0] := by
  obtain ⟨hx, hb, hml, hr, hown, hts, hlocks, hE, hA⟩ := id C
  have hK := hE.1
  intro H locs ls hM hS hl
  unfold wMo_behind_29 at hwp
  exact W.iret (v := y0) hx hb hr (fun t ht hW => ⟨⟨y0, M, rfl, hwp, by show hw D kCl (hTys κ) A M t.heap; rw [ht]; exact hM⟩, hS.F ht⟩) hS.2.2 d_Mo_behind_29
def wpMo_behind (self : Nat) (p0 : Int32) (p1 : Int32) (M : Hp) (post : Int32 → Hp → Prop) : Prop := ((p1 = p0 → (wMo_behind_29 post p0 M)) ∧ (¬ p1 = p0 → (∃ v2 : Int32, fI M self 6 3 v2 ∧ ((p0 ≤ (p1 + v2) → (wMo_behind_29 post p0 M)) ∧ (¬ p0 ≤ (p1 + v2) → (∃ v7 : Int32, fI M self 6 3 v7 ∧ (wMo_behind_29 post (p1 + v7) M)))))))
set_option maxRecDepth 100000 in
set_option maxHeartbeats 4000000 in
theorem eMo_behind {p : Program} {l : Launch} {e : Env} {s : State} {m : MethodId} {args : Array Value} {below : List Frame} {meth : Method} {c : Code} {D : va_G} {κ : Nat → ClassId} {A : Nat → Prop} (C : Cx_Mo_behind p s m args meth c D κ A) (post : Int32 → Hp → Prop) (self : Nat) (p0 : Int32) (p1 : Int32) (M : Hp) (hwp : wpMo_behind self p0 p1 M post) : Y p l e rm_Mo_behind s m args below meth c D kCl (hTys κ) A 3 0 0 (MQ below (va_Qi post (hB D kCl (hTys κ) A) A) args s 0 0 A) M 0 [(0, .ref self), (1, .int p0), (2, .int p1)] [] := by
  obtain ⟨hx, hb, hml, hr, hown, hts, hlocks, hE, hA⟩ := id C
  have hK := hE.1
  intro H locs ls hM hS hl
  unfold wpMo_behind at hwp
  refine lv_iload_n hx hb d_Mo_behind_0 rfl (lv_at hl 2 rfl) ?_
  refine lv_iload_n hx hb d_Mo_behind_1 rfl (lv_at hl 1 rfl) ?_
  refine lv_icmp_ne (tgt := 9) hx hb d_Mo_behind_2 (by decide) (fun c1 => ?_) (fun c1 => ?_)
  · replace hwp := hwp.2 c1
    refine lv_iload_n hx hb d_Mo_behind_9 rfl (lv_at hl 2 rfl) ?_
    refine lv_aload_n hx hb d_Mo_behind_10 rfl (lv_at hl 0 rfl) ?_
    obtain ⟨v2, ⟨fs3, he4, hv5⟩, hwp⟩ := hwp
    refine h_get (C := "BuckTablesModel") (T := Tc6) (N := 36) hx hb hts inc6 hown hK hM he4 rfl 3 (by decide) (hts _ kw_723) (fun _ h9 => h9) hv5 d_Mo_behind_11 ?_
    refine lv_iadd hx hb d_Mo_behind_14 ?_
    refine lv_iload_n hx hb d_Mo_behind_15 rfl (lv_at hl 1 rfl) ?_
    refine lv_icmp_ge (tgt := 28) hx hb d_Mo_behind_16 (by decide) (fun c6 => ?_) (fun c6 => ?_)
    · replace hwp := hwp.1 c6
      refine lv_iload_n hx hb d_Mo_behind_28 rfl (lv_at hl 1 rfl) ?_
      exact tMo_behind_29 C post p0 M hwp H locs ls hM hS (lv_sub hl [] rfl)
    · replace hwp := hwp.2 c6
      refine lv_iload_n hx hb d_Mo_behind_19 rfl (lv_at hl 2 rfl) ?_
      refine lv_aload_n hx hb d_Mo_behind_20 rfl (lv_at hl 0 rfl) ?_
      obtain ⟨v7, ⟨fs8, he9, hv10⟩, hwp⟩ := hwp
      refine h_get (C := "BuckTablesModel") (T := Tc6) (N := 36) hx hb hts inc6 hown hK hM he9 rfl 3 (by decide) (hts _ kw_723) (fun _ h9 => h9) hv10 d_Mo_behind_21 ?_
      refine lv_iadd hx hb d_Mo_behind_24 ?_
      refine lv_goto (tgt := 29) hx hb d_Mo_behind_25 (by decide) ?_
      exact tMo_behind_29 C post (p1 + v7) M hwp H locs ls hM hS (lv_sub hl [] rfl)
  · replace hwp := hwp.1 c1
    refine lv_iload_n hx hb d_Mo_behind_5 rfl (lv_at hl 1 rfl) ?_
    refine lv_goto (tgt := 29) hx hb d_Mo_behind_6 (by decide) ?_
    exact tMo_behind_29 C post p0 M hwp H locs ls hM hS (lv_sub hl [] rfl)
set_option maxRecDepth 100000 in
set_option maxHeartbeats 4000000 in
theorem metMo_behind (l : Launch) (D : va_G) (κ : Nat → ClassId) (sz : Nat) (self : Nat) (p0 : Int32) (p1 : Int32) (M : Hp) (post : Int32 → Hp → Prop) (hwp : wpMo_behind self p0 p1 M post) : Met l y_Mo_behind ws_Mo_behind rm_Mo_behind (hPc D kCl (hTys κ) M sz [.ref self, .int p0, .int p1]) (va_Qi post (hB D kCl (hTys κ) (hAx M sz)) (hAx M sz)) 0 0 (hAx M sz) := by
  refine Met.ofW (cc := prog_8_method_20_code) (maxL := 3) (ret := (some .int)) (by decide +kernel) rfl ?_
  intro p e s m args below meth c s₁ B hml hv
  obtain ⟨rfl, hsz, hE, hM0⟩ := hv
  have hts : ∀ w ∈ WG, w.before _ s = true := fun w h => atoms_spec (ws := ws_Mo_behind) B.pre w (List.mem_cons_of_mem _ h)
  subst hsz
  have C : Cx_Mo_behind p s m _ meth c D κ (hAx M s.heap.size) := ⟨B.exec, B.bytes, hml, B.returns, findClass_of_methodNamed B.named, hts, B.notSynchronized, hE, fun q h => Or.inr h⟩
  have hl := lv_entry ([.ref self, .int p0, .int p1]) (n := 3) (Nat.le_of_ble_eq_true rfl)
  rw [lg_entry_eq]
  generalize (lg_sl ([.ref self, .int p0, .int p1]) ++ List.replicate (3 - (lg_sl ([.ref self, .int p0, .int p1])).length) Slot.unset).toArray = ls at hl ⊢
  exact eMo_behind C post self p0 p1 M hwp s.heap [] ls (hM0.self (sz := s.heap.size)) va_S.rf hl
abbrev rm_Mo_reckon : Room := { frames := 1, cells := 0, slots := 0, locals := 30 }
def Cx_Mo_reckon (p : Program) (s : State) (m : MethodId) (args : Array Value) (meth : Method) (c : Code) (D : va_G) (κ : Nat → ClassId) (A : Nat → Prop) : Prop := p.tables.exec = Jvm.exec ∧ c.code = prog_8_method_21_code ∧ c.maxLocals = 9 ∧ meth.sig.returnType = none ∧ s.vm.findClass "BuckTablesModel" = some m.cls ∧ (∀ w ∈ WG, w.before args s = true) ∧ meth.locks = false ∧ hEnv D kCl (hTys κ) A s ∧ (∀ q, s.heap.size ≤ q → A q)
def wMo_reckon_195 (post : Hp → Prop) (k24 : Nat → Int32 → Int32 → Int32 → Hp → Prop) (k61 : Nat → Int32 → Int32 → Int32 → Int32 → Hp → Prop) (k70 : Nat → Int32 → Int32 → Int32 → Int32 → Int32 → Hp → Prop) (x0 : Nat) (x1 : Int32) (x2 : Int32) (x3 : Int32) (x4 : Int32) (x5 : Int32) (M : Hp) : Prop := (∀ z1 : Int32, z1 = x5 + 1 → (k70 x0 x1 x2 x3 x4 z1 M))
set_option maxRecDepth 100000 in
set_option maxHeartbeats 4000000 in
theorem tMo_reckon_195 {p : Program} {l : Launch} {e : Env} {s : State} {m : MethodId} {args : Array Value} {below : List Frame} {meth : Method} {c : Code} {D : va_G} {κ : Nat → ClassId} {A : Nat → Prop} (C : Cx_Mo_reckon p s m args meth c D κ A) (post : Hp → Prop) (k24 : Nat → Int32 → Int32 → Int32 → Hp → Prop) (hk24 : ∀ (x0 : Nat) (x1 : Int32) (x2 : Int32) (x3 : Int32) (M : Hp), k24 x0 x1 x2 x3 M → Y p l e rm_Mo_reckon s m args below meth c D kCl (hTys κ) A 9 0 0 (MQ below (va_Qv post (hB D kCl (hTys κ) A) A) args s 0 0 A) M 24 [(0, .ref x0), (1, .int x1), (2, .int x2), (3, .int x3)] []) (k61 : Nat → Int32 → Int32 → Int32 → Int32 → Hp → Prop) (hk61 : ∀ (x0 : Nat) (x1 : Int32) (x2 : Int32) (x3 : Int32) (x4 : Int32) (M : Hp), k61 x0 x1 x2 x3 x4 M → Y p l e rm_Mo_reckon s m args below meth c D kCl (hTys κ) A 9 0 0 (MQ below (va_Qv post (hB D kCl (hTys κ) A) A) args s 0 0 A) M 61 [(0, .ref x0), (1, .int x1), (2, .int x2), (3, .int x3), (4, .int x4)] []) (k70 : Nat → Int32 → Int32 → Int32 → Int32 → Int32 → Hp → Prop) (hk70 : ∀ (x0 : Nat) (x1 : Int32) (x2 : Int32) (x3 : Int32) (x4 : Int32) (x5 : Int32) (M : Hp), k70 x0 x1 x2 x3 x4 x5 M → Y p l e rm_Mo_reckon s m args below meth c D kCl (hTys κ) A 9 0 0 (MQ below (va_Qv post (hB D kCl (hTys κ) A) A) args s 0 0 A) M 70 [(0, .ref x0), (1, .int x1), (2, .int x2), (3, .int x3), (4, .int x4), (5, .int x5)] []) (x0 : Nat) (x1 : Int32) (x2 : Int32) (x3 : Int32) (x4 : Int32) (x5 : Int32) (M : Hp) (hwp : wMo_reckon_195 post k24 k61 k70 x0 x1 x2 x3 x4 x5 M) : Y p l e rm_Mo_reckon s m args below meth c D kCl (hTys κ) A 9 0 0 (MQ below (va_Qv post (hB D kCl (hTys κ) A) A) args s 0 0 A) M 195 [(0, .ref x0), (1, .int x1), (2, .int x2), (3, .int x3), (4, .int x4), (5, .int x5)] [] := by
  obtain ⟨hx, hb, hml, hr, hown, hts, hlocks, hE, hA⟩ := id C
  have hK := hE.1
  intro H locs ls hM hS hl
  unfold wMo_reckon_195 at hwp
  obtain ⟨z1, ez1⟩ : ∃ y : Int32, y = x5 + 1 := ⟨_, rfl⟩
  replace hwp := hwp z1 ez1
  refine lv_iinc (v := z1) (lv' := [(5, .int z1), (0, .ref x0), (1, .int x1), (2, .int x2), (3, .int x3), (4, .int x4)]) hx hb d_Mo_reckon_195 hl (k := 5) rfl (by rw [ez1]; rfl) (by decide) rfl (fun ls hl => ?_)
  refine lv_goto (tgt := 70) hx hb d_Mo_reckon_198 (by decide) ?_
  exact hk70 x0 x1 x2 x3 x4 z1 M hwp H locs ls hM hS (lv_sub hl [1, 2, 3, 4, 5, 0] rfl)
def wMo_reckon_172 (post : Hp → Prop) (k24 : Nat → Int32 → Int32 → Int32 → Hp → Prop) (k61 : Nat → Int32 → Int32 → Int32 → Int32 → Hp → Prop) (k70 : Nat → Int32 → Int32 → Int32 → Int32 → Int32 → Hp → Prop) (x0 : Nat) (x1 : Int32) (x2 : Int32) (x3 : Int32) (x4 : Int32) (x5 : Int32) (x6 : Int32) (x7 : Int64) (M : Hp) : Prop := (∃ a2 : Nat, fA M x0 6 31 a2 ∧ (∃ M10 : Hp, sJ M a2 x3 x7 M10 ∧ (∃ a11 : Nat, fA M10 x0 6 32 a11 ∧ (∃ a15 : Nat, fA M10 x0 6 32 a15 ∧ (∃ v19 : Int32, aI M10 a15 x6 v19 ∧ (∃ M28 : Hp, sI M10 a11 x3 (v19 + (1 : Int32)) M28 ∧ (wMo_reckon_195 post k24 k61 k70 x0 x1 x2 x3 x4 x5 M28)))))))
set_option maxRecDepth 100000 in
set_option maxHeartbeats 4000000 in
theorem tMo_reckon_172 {p : Program} {l : Launch} {e : Env} {s : State} {m : MethodId} {args : Array Value} {below : List Frame} {meth : Method} {c : Code} {D : va_G} {κ : Nat → ClassId} {A : Nat → Prop} (C : Cx_Mo_reckon p s m args meth c D κ A) (post : Hp → Prop) (k24 : Nat → Int32 → Int32 → Int32 → Hp → Prop) (hk24 : ∀ (x0 : Nat) (x1 : Int32) (x2 : Int32) (x3 : Int32) (M : Hp), k24 x0 x1 x2 x3 M → Y p l e rm_Mo_reckon s m args below meth c D kCl (hTys κ) A 9 0 0 (MQ below (va_Qv post (hB D kCl (hTys κ) A) A) args s 0 0 A) M 24 [(0, .ref x0), (1, .int x1), (2, .int x2), (3, .int x3)] []) (k61 : Nat → Int32 → Int32 → Int32 → Int32 → Hp → Prop) (hk61 : ∀ (x0 : Nat) (x1 : Int32) (x2 : Int32) (x3 : Int32) (x4 : Int32) (M : Hp), k61 x0 x1 x2 x3 x4 M → Y p l e rm_Mo_reckon s m args below meth c D kCl (hTys κ) A 9 0 0 (MQ below (va_Qv post (hB D kCl (hTys κ) A) A) args s 0 0 A) M 61 [(0, .ref x0), (1, .int x1), (2, .int x2), (3, .int x3), (4, .int x4)] []) (k70 : Nat → Int32 → Int32 → Int32 → Int32 → Int32 → Hp → Prop) (hk70 : ∀ (x0 : Nat) (x1 : Int32) (x2 : Int32) (x3 : Int32) (x4 : Int32) (x5 : Int32) (M : Hp), k70 x0 x1 x2 x3 x4 x5 M → Y p l e rm_Mo_reckon s m args below meth c D kCl (hTys κ) A 9 0 0 (MQ below (va_Qv post (hB D kCl (hTys κ) A) A) args s 0 0 A) M 70 [(0, .ref x0), (1, .int x1), (2, .int x2), (3, .int x3), (4, .int x4), (5, .int x5)] []) (x0 : Nat) (x1 : Int32) (x2 : Int32) (x3 : Int32) (x4 : Int32) (x5 : Int32) (x6 : Int32) (x7 : Int64) (M : Hp) (hwp : wMo_reckon_172 post k24 k61 k70 x0 x1 x2 x3 x4 x5 x6 x7 M) : Y p l e rm_Mo_reckon s m args below meth c D kCl (hTys κ) A 9 0 0 (MQ below (va_Qv post (hB D kCl (hTys κ) A) A) args s 0 0 A) M 172 [(0, .ref x0), (1, .int x1), (2, .int x2), (3, .int x3), (4, .int x4), (5, .int x5), (6, .int x6), (7, .long x7)] [] := by
  obtain ⟨hx, hb, hml, hr, hown, hts, hlocks, hE, hA⟩ := id C
  have hK := hE.1
  intro H locs ls hM hS hl
  unfold wMo_reckon_172 at hwp
  refine lv_aload_n hx hb d_Mo_reckon_172 rfl (lv_at hl 0 rfl) ?_
  obtain ⟨a2, ⟨fs3, he4, hv5⟩, hwp⟩ := hwp
  refine h_get (C := "BuckTablesModel") (T := Tc6) (N := 36) hx hb hts inc6 hown hK hM he4 rfl 31 (by decide) (hts _ kw_751) (fun _ h9 => h9) hv5 d_Mo_reckon_173 ?_
  refine lv_iload_n hx hb d_Mo_reckon_176 rfl (lv_at hl 3 rfl) ?_
  refine lv_lload hx hb d_Mo_reckon_177 (lv_at hl 7 rfl) ?_
  obtain ⟨M10, ⟨n6, f7, ha8, hi9, eM10⟩, hwp⟩ := hwp
  refine h_last hx hb hK hM hS ha8 rfl hi9 d_Mo_reckon_179 (fun H locs hM hS => ?_)
  rw [← eM10] at hM
  refine lv_aload_n hx hb d_Mo_reckon_180 rfl (lv_at hl 0 rfl) ?_
  obtain ⟨a11, ⟨fs12, he13, hv14⟩, hwp⟩ := hwp
  refine h_get (C := "BuckTablesModel") (T := Tc6) (N := 36) hx hb hts inc6 hown hK hM he13 rfl 32 (by decide) (hts _ kw_752) (fun _ h9 => h9) hv14 d_Mo_reckon_181 ?_
  refine lv_iload_n hx hb d_Mo_reckon_184 rfl (lv_at hl 3 rfl) ?_
  refine lv_aload_n hx hb d_Mo_reckon_185 rfl (lv_at hl 0 rfl) ?_
  obtain ⟨a15, ⟨fs16, he17, hv18⟩, hwp⟩ := hwp
  refine h_get (C := "BuckTablesModel") (T := Tc6) (N := 36) hx hb hts inc6 hown hK hM he17 rfl 32 (by decide) (hts _ kw_752) (fun _ h9 => h9) hv18 d_Mo_reckon_186 ?_
  refine lv_iload hx hb d_Mo_reckon_189 (lv_at hl 6 rfl) ?_
  obtain ⟨v19, ⟨n20, f21, ha22, hi23, ev19⟩, hwp⟩ := hwp
  refine h_iald hx hb hK hM ha22 rfl hi23 d_Mo_reckon_191 ?_
  rw [← ev19]
  refine lv_iconst (v := 1) hx hb d_Mo_reckon_192 (by decide) ?_
  refine lv_iadd hx hb d_Mo_reckon_193 ?_
  obtain ⟨M28, ⟨n24, f25, ha26, hi27, eM28⟩, hwp⟩ := hwp
  refine h_iast hx hb hK hM hS ha26 rfl hi27 d_Mo_reckon_194 (fun H locs hM hS => ?_)
  rw [← eM28] at hM
  exact tMo_reckon_195 C post k24 hk24 k61 hk61 k70 hk70 x0 x1 x2 x3 x4 x5 M28 hwp H locs ls hM hS (lv_sub hl [0, 1, 2, 3, 4, 5] rfl)
def wMo_reckon_70 (post : Hp → Prop) (k24 : Nat → Int32 → Int32 → Int32 → Hp → Prop) (k61 : Nat → Int32 → Int32 → Int32 → Int32 → Hp → Prop) : Nat → Nat → Int32 → Int32 → Int32 → Int32 → Int32 → Hp → Prop
  | 0 => fun _ _ _ _ _ _ _ => False
  | n + 1 => fun x0 x1 x2 x3 x4 x5 M => (∃ v29 : Int32, fI M x0 6 14 v29 ∧ ((v29 ≤ x5 → (∀ z34 : Int32, z34 = x4 + 1 → (k61 x0 x1 x2 x3 z34 M))) ∧ (¬ v29 ≤ x5 → (hob M x0 6 ∧ (wpMo_may x0 x1 x3 x4 x5 M (fun (r37 : Int32) (M35 : Hp) => ((r37 = 0 → (wMo_reckon_195 post k24 k61 (wMo_reckon_70 post k24 k61 n) x0 x1 x2 x3 x4 x5 M35)) ∧ (¬ r37 = 0 → (hob M35 x0 6 ∧ (wpMo_behind x0 x2 x4 M35 (fun (r41 : Int32) (M39 : Hp) => (∃ a42 : Nat, fA M39 x0 6 31 a42 ∧ (∃ v46 : Int64, aJ M39 a42 r41 v46 ∧ (hob M39 x0 6 ∧ (wpMo_worthOf x0 x1 (x4 - x3) x5 M39 (fun (r53 : Int64) (M51 : Hp) => (∃ a54 : Nat, fA M51 x0 6 23 a54 ∧ (∃ v58 : Int64, aJ M51 a54 x5 v58 ∧ (∀ z63 : Int64, z63 = ((v46 + r53) - v58) → (∃ a64 : Nat, fA M51 x0 6 31 a64 ∧ (∃ v68 : Int64, aJ M51 a64 x3 v68 ∧ ((v68 < z63 → (wMo_reckon_172 post k24 k61 (wMo_reckon_70 post k24 k61 n) x0 x1 x2 x3 x4 x5 r41 z63 M51)) ∧ (¬ v68 < z63 → (∃ a74 : Nat, fA M51 x0 6 31 a74 ∧ (∃ v78 : Int64, aJ M51 a74 x3 v78 ∧ ((z63 = v78 → (∃ a84 : Nat, fA M51 x0 6 32 a84 ∧ (∃ v88 : Int32, aI M51 a84 r41 v88 ∧ (∃ a93 : Nat, fA M51 x0 6 32 a93 ∧ (∃ v97 : Int32, aI M51 a93 x3 v97 ∧ ((v97 ≤ (v88 + (1 : Int32)) → (wMo_reckon_195 post k24 k61 (wMo_reckon_70 post k24 k61 n) x0 x1 x2 x3 x4 x5 M51)) ∧ (¬ v97 ≤ (v88 + (1 : Int32)) → (wMo_reckon_172 post k24 k61 (wMo_reckon_70 post k24 k61 n) x0 x1 x2 x3 x4 x5 r41 z63 M51)))))))) ∧ (¬ z63 = v78 → (wMo_reckon_195 post k24 k61 (wMo_reckon_70 post k24 k61 n) x0 x1 x2 x3 x4 x5 M51))))))))))))))))))))))))))))
set_option maxRecDepth 100000 in
set_option maxHeartbeats 4000000 in
theorem tMo_reckon_70 {p : Program} {l : Launch} {e : Env} {s : State} {m : MethodId} {args : Array Value} {below : List Frame} {meth : Method} {c : Code} {D : va_G} {κ : Nat → ClassId} {A : Nat → Prop} (C : Cx_Mo_reckon p s m args meth c D κ A) (post : Hp → Prop) (k24 : Nat → Int32 → Int32 → Int32 → Hp → Prop) (hk24 : ∀ (x0 : Nat) (x1 : Int32) (x2 : Int32) (x3 : Int32) (M : Hp), k24 x0 x1 x2 x3 M → Y p l e rm_Mo_reckon s m args below meth c D kCl (hTys κ) A 9 0 0 (MQ below (va_Qv post (hB D kCl (hTys κ) A) A) args s 0 0 A) M 24 [(0, .ref x0), (1, .int x1), (2, .int x2), (3, .int x3)] []) (k61 : Nat → Int32 → Int32 → Int32 → Int32 → Hp → Prop) (hk61 : ∀ (x0 : Nat) (x1 : Int32) (x2 : Int32) (x3 : Int32) (x4 : Int32) (M : Hp), k61 x0 x1 x2 x3 x4 M → Y p l e rm_Mo_reckon s m args below meth c D kCl (hTys κ) A 9 0 0 (MQ below (va_Qv post (hB D kCl (hTys κ) A) A) args s 0 0 A) M 61 [(0, .ref x0), (1, .int x1), (2, .int x2), (3, .int x3), (4, .int x4)] []) : ∀ (n : Nat) (x0 : Nat) (x1 : Int32) (x2 : Int32) (x3 : Int32) (x4 : Int32) (x5 : Int32) (M : Hp), wMo_reckon_70 post k24 k61 n x0 x1 x2 x3 x4 x5 M → Y p l e rm_Mo_reckon s m args below meth c D kCl (hTys κ) A 9 0 0 (MQ below (va_Qv post (hB D kCl (hTys κ) A) A) args s 0 0 A) M 70 [(0, .ref x0), (1, .int x1), (2, .int x2), (3, .int x3), (4, .int x4), (5, .int x5)] [] := by
  obtain ⟨hx, hb, hml, hr, hown, hts, hlocks, hE, hA⟩ := id C
  have hK := hE.1
  intro n
  induction n with
  | zero => intro x0 x1 x2 x3 x4 x5 M hwp; exact hwp.elim
  | succ n ih =>
    intro x0 x1 x2 x3 x4 x5 M hwp H locs ls hM hS hl
    unfold wMo_reckon_70 at hwp
    refine lv_iload hx hb d_Mo_reckon_70 (lv_at hl 5 rfl) ?_
    refine lv_aload_n hx hb d_Mo_reckon_72 rfl (lv_at hl 0 rfl) ?_
    obtain ⟨v29, ⟨fs30, he31, hv32⟩, hwp⟩ := hwp
    refine h_get (C := "BuckTablesModel") (T := Tc6) (N := 36) hx hb hts inc6 hown hK hM he31 rfl 14 (by decide) (hts _ kw_734) (fun _ h9 => h9) hv32 d_Mo_reckon_73 ?_
    refine lv_icmp_ge (tgt := 201) hx hb d_Mo_reckon_76 (by decide) (fun c33 => ?_) (fun c33 => ?_)
    · replace hwp := hwp.1 c33
      obtain ⟨z34, ez34⟩ : ∃ y : Int32, y = x4 + 1 := ⟨_, rfl⟩
      replace hwp := hwp z34 ez34
      refine lv_iinc (v := z34) (lv' := [(4, .int z34), (0, .ref x0), (1, .int x1), (2, .int x2), (3, .int x3), (5, .int x5)]) hx hb d_Mo_reckon_201 hl (k := 4) rfl (by rw [ez34]; rfl) (by decide) rfl (fun ls hl => ?_)
      refine lv_goto (tgt := 61) hx hb d_Mo_reckon_204 (by decide) ?_
      exact hk61 x0 x1 x2 x3 z34 M hwp H locs ls hM hS (lv_sub hl [1, 2, 3, 4, 0] rfl)
    · replace hwp := hwp.2 c33
      refine lv_aload_n hx hb d_Mo_reckon_79 rfl (lv_at hl 0 rfl) ?_
      refine lv_iload_n hx hb d_Mo_reckon_80 rfl (lv_at hl 1 rfl) ?_
      refine lv_iload_n hx hb d_Mo_reckon_81 rfl (lv_at hl 3 rfl) ?_
      refine lv_iload hx hb d_Mo_reckon_82 (lv_at hl 4 rfl) ?_
      refine lv_iload hx hb d_Mo_reckon_84 (lv_at hl 5 rfl) ?_
      obtain ⟨ho36, hwp⟩ := hwp
      refine h_calli hM hS hA (va_runV (As := [.int x1, .int x3, .int x4, .int x5]) (rest := []) ⟨hx, hb, hml, hown, hts⟩ (metMo_may l D κ H.size x0 x1 x3 x4 x5 M _ hwp) (cwV 4 hts (gV kw_910 kw_912 kp_29 kw_8 kw_913) rfl rfl rfl (by decide +kernel) ⟨(Nat.le_of_ble_eq_true rfl), (Nat.le_of_ble_eq_true rfl)⟩) (h_preV hE hM hS ho36 (r := ("BuckTablesModel", Tc6, 36)) rfl) rfl rfl hl.1 rfl (lv_room (Nat.le_of_ble_eq_true rfl)) d_Mo_reckon_86 ⟨(Nat.le_of_ble_eq_true rfl), (Nat.le_of_ble_eq_true rfl)⟩) (fun r37 M35 H locs hwp hM hS => ?_)
      refine lv_if_eq (tgt := 195) hx hb d_Mo_reckon_89 (by decide) (fun c38 => ?_) (fun c38 => ?_)
      · replace hwp := hwp.1 c38
        exact tMo_reckon_195 C post k24 hk24 k61 hk61 (wMo_reckon_70 post k24 k61 n) ih x0 x1 x2 x3 x4 x5 M35 hwp H locs ls hM hS (lv_sub hl [0, 1, 2, 3, 4, 5] rfl)
      · replace hwp := hwp.2 c38
        refine lv_aload_n hx hb d_Mo_reckon_92 rfl (lv_at hl 0 rfl) ?_
        refine lv_iload_n hx hb d_Mo_reckon_93 rfl (lv_at hl 2 rfl) ?_
        refine lv_iload hx hb d_Mo_reckon_94 (lv_at hl 4 rfl) ?_
        obtain ⟨ho40, hwp⟩ := hwp
        refine h_calli hM hS hA (va_runV (As := [.int x2, .int x4]) (rest := []) ⟨hx, hb, hml, hown, hts⟩ (metMo_behind l D κ H.size x0 x2 x4 M35 _ hwp) (cwV 2 hts (gV kw_914 kw_916 kp_30 kw_8 kw_917) rfl rfl rfl (by decide +kernel) ⟨(Nat.le_of_ble_eq_true rfl), (Nat.le_of_ble_eq_true rfl)⟩) (h_preV hE hM hS ho40 (r := ("BuckTablesModel", Tc6, 36)) rfl) rfl rfl hl.1 rfl (lv_room (Nat.le_of_ble_eq_true rfl)) d_Mo_reckon_96 ⟨(Nat.le_of_ble_eq_true rfl), (Nat.le_of_ble_eq_true rfl)⟩) (fun r41 M39 H locs hwp hM hS => ?_)
        refine lv_istore (lv' := [(6, .int r41), (0, .ref x0), (1, .int x1), (2, .int x2), (3, .int x3), (4, .int x4), (5, .int x5)]) hx hb d_Mo_reckon_99 hl (by decide) rfl (fun ls hl => ?_)
        refine lv_aload_n hx hb d_Mo_reckon_101 rfl (lv_at hl 1 rfl) ?_
        obtain ⟨a42, ⟨fs43, he44, hv45⟩, hwp⟩ := hwp
        refine h_get (C := "BuckTablesModel") (T := Tc6) (N := 36) hx hb hts inc6 hown hK hM he44 rfl 31 (by decide) (hts _ kw_751) (fun _ h9 => h9) hv45 d_Mo_reckon_102 ?_
        refine lv_iload hx hb d_Mo_reckon_105 (lv_at hl 0 rfl) ?_
        obtain ⟨v46, ⟨n47, f48, ha49, hi50, ev46⟩, hwp⟩ := hwp
        refine h_lald hx hb hK hM ha49 rfl hi50 d_Mo_reckon_107 ?_
        rw [← ev46]
        refine lv_aload_n hx hb d_Mo_reckon_108 rfl (lv_at hl 1 rfl) ?_
        refine lv_iload_n hx hb d_Mo_reckon_109 rfl (lv_at hl 2 rfl) ?_
        refine lv_iload hx hb d_Mo_reckon_110 (lv_at hl 5 rfl) ?_
        refine lv_iload_n hx hb d_Mo_reckon_112 rfl (lv_at hl 4 rfl) ?_
        refine lv_isub hx hb d_Mo_reckon_113 ?_
        refine lv_iload hx hb d_Mo_reckon_114 (lv_at hl 6 rfl) ?_
        obtain ⟨ho52, hwp⟩ := hwp
        refine h_calll hM hS hA (va_runV (As := [.int x1, .int (x4 - x3), .int x5]) (rest := [.long v46]) ⟨hx, hb, hml, hown, hts⟩ (metMo_worthOf l D κ H.size x0 x1 (x4 - x3) x5 M39 _ hwp) (cwV 3 hts (gV kw_918 kw_920 kp_31 kw_8 kw_921) rfl rfl rfl (by decide +kernel) ⟨(Nat.le_of_ble_eq_true rfl), (Nat.le_of_ble_eq_true rfl)⟩) (h_preV hE hM hS ho52 (r := ("BuckTablesModel", Tc6, 36)) rfl) rfl rfl hl.1 rfl (lv_room (Nat.le_of_ble_eq_true rfl)) d_Mo_reckon_116 ⟨(Nat.le_of_ble_eq_true rfl), (Nat.le_of_ble_eq_true rfl)⟩) (fun r53 M51 H locs hwp hM hS => ?_)
        refine lv_ladd hx hb d_Mo_reckon_119 ?_
        refine lv_aload_n hx hb d_Mo_reckon_120 rfl (lv_at hl 1 rfl) ?_
        obtain ⟨a54, ⟨fs55, he56, hv57⟩, hwp⟩ := hwp
        refine h_get (C := "BuckTablesModel") (T := Tc6) (N := 36) hx hb hts inc6 hown hK hM he56 rfl 23 (by decide) (hts _ kw_743) (fun _ h9 => h9) hv57 d_Mo_reckon_121 ?_
        refine lv_iload hx hb d_Mo_reckon_124 (lv_at hl 6 rfl) ?_
        obtain ⟨v58, ⟨n59, f60, ha61, hi62, ev58⟩, hwp⟩ := hwp
        refine h_lald hx hb hK hM ha61 rfl hi62 d_Mo_reckon_126 ?_
        rw [← ev58]
        refine lv_lsub hx hb d_Mo_reckon_127 ?_
        refine lv_topl (fun z63 ez63 => ?_)
        replace hwp := hwp z63 ez63
        refine lv_lstore (lv' := [(7, .long z63), (6, .int r41), (0, .ref x0), (1, .int x1), (2, .int x2), (3, .int x3), (4, .int x4), (5, .int x5)]) hx hb d_Mo_reckon_128 hl (by decide) rfl (fun ls hl => ?_)
        refine lv_lload hx hb d_Mo_reckon_130 (lv_at hl 0 rfl) ?_
        refine lv_aload_n hx hb d_Mo_reckon_132 rfl (lv_at hl 2 rfl) ?_
        obtain ⟨a64, ⟨fs65, he66, hv67⟩, hwp⟩ := hwp
        refine h_get (C := "BuckTablesModel") (T := Tc6) (N := 36) hx hb hts inc6 hown hK hM he66 rfl 31 (by decide) (hts _ kw_751) (fun _ h9 => h9) hv67 d_Mo_reckon_133 ?_
        refine lv_iload_n hx hb d_Mo_reckon_136 rfl (lv_at hl 5 rfl) ?_
        obtain ⟨v68, ⟨n69, f70, ha71, hi72, ev68⟩, hwp⟩ := hwp
        refine h_lald hx hb hK hM ha71 rfl hi72 d_Mo_reckon_137 ?_
        rw [← ev68]
        refine W.lcmp hx hb d_Mo_reckon_138 ?_
        refine lv_if_gt (tgt := 172) hx hb d_Mo_reckon_139 (by decide) (fun c73 => ?_) (fun c73 => ?_)
        · replace c73 := (lc_gt _ _).mp c73
          replace hwp := hwp.1 c73
          exact tMo_reckon_172 C post k24 hk24 k61 hk61 (wMo_reckon_70 post k24 k61 n) ih x0 x1 x2 x3 x4 x5 r41 z63 M51 hwp H locs ls hM hS (lv_sub hl [2, 3, 4, 5, 6, 7, 1, 0] rfl)
        · replace c73 := fun h9 => c73 ((lc_gt _ _).mpr h9)
          replace hwp := hwp.2 c73
          refine lv_lload hx hb d_Mo_reckon_142 (lv_at hl 0 rfl) ?_
          refine lv_aload_n hx hb d_Mo_reckon_144 rfl (lv_at hl 2 rfl) ?_
          obtain ⟨a74, ⟨fs75, he76, hv77⟩, hwp⟩ := hwp
          refine h_get (C := "BuckTablesModel") (T := Tc6) (N := 36) hx hb hts inc6 hown hK hM he76 rfl 31 (by decide) (hts _ kw_751) (fun _ h9 => h9) hv77 d_Mo_reckon_145 ?_
          refine lv_iload_n hx hb d_Mo_reckon_148 rfl (lv_at hl 5 rfl) ?_
          obtain ⟨v78, ⟨n79, f80, ha81, hi82, ev78⟩, hwp⟩ := hwp
          refine h_lald hx hb hK hM ha81 rfl hi82 d_Mo_reckon_149 ?_
          rw [← ev78]
          refine W.lcmp hx hb d_Mo_reckon_150 ?_
          refine lv_if_ne (tgt := 195) hx hb d_Mo_reckon_151 (by decide) (fun c83 => ?_) (fun c83 => ?_)
          · replace c83 := fun h9 => c83 ((lc_eq _ _).mpr h9)
            replace hwp := hwp.2 c83
            exact tMo_reckon_195 C post k24 hk24 k61 hk61 (wMo_reckon_70 post k24 k61 n) ih x0 x1 x2 x3 x4 x5 M51 hwp H locs ls hM hS (lv_sub hl [2, 3, 4, 5, 6, 7] rfl)
          · replace c83 := (lc_eq _ _).mp c83
            replace hwp := hwp.1 c83
            refine lv_aload_n hx hb d_Mo_reckon_154 rfl (lv_at hl 2 rfl) ?_
            obtain ⟨a84, ⟨fs85, he86, hv87⟩, hwp⟩ := hwp
            refine h_get (C := "BuckTablesModel") (T := Tc6) (N := 36) hx hb hts inc6 hown hK hM he86 rfl 32 (by decide) (hts _ kw_752) (fun _ h9 => h9) hv87 d_Mo_reckon_155 ?_
            refine lv_iload hx hb d_Mo_reckon_158 (lv_at hl 1 rfl) ?_
            obtain ⟨v88, ⟨n89, f90, ha91, hi92, ev88⟩, hwp⟩ := hwp
            refine h_iald hx hb hK hM ha91 rfl hi92 d_Mo_reckon_160 ?_
            rw [← ev88]
            refine lv_iconst (v := 1) hx hb d_Mo_reckon_161 (by decide) ?_
            refine lv_iadd hx hb d_Mo_reckon_162 ?_
            refine lv_aload_n hx hb d_Mo_reckon_163 rfl (lv_at hl 2 rfl) ?_
            obtain ⟨a93, ⟨fs94, he95, hv96⟩, hwp⟩ := hwp
            refine h_get (C := "BuckTablesModel") (T := Tc6) (N := 36) hx hb hts inc6 hown hK hM he95 rfl 32 (by decide) (hts _ kw_752) (fun _ h9 => h9) hv96 d_Mo_reckon_164 ?_
            refine lv_iload_n hx hb d_Mo_reckon_167 rfl (lv_at hl 5 rfl) ?_
            obtain ⟨v97, ⟨n98, f99, ha100, hi101, ev97⟩, hwp⟩ := hwp
            refine h_iald hx hb hK hM ha100 rfl hi101 d_Mo_reckon_168 ?_
            rw [← ev97]
            refine lv_icmp_ge (tgt := 195) hx hb d_Mo_reckon_169 (by decide) (fun c102 => ?_) (fun c102 => ?_)
            · replace hwp := hwp.1 c102
              exact tMo_reckon_195 C post k24 hk24 k61 hk61 (wMo_reckon_70 post k24 k61 n) ih x0 x1 x2 x3 x4 x5 M51 hwp H locs ls hM hS (lv_sub hl [2, 3, 4, 5, 6, 7] rfl)
            · replace hwp := hwp.2 c102
              exact tMo_reckon_172 C post k24 hk24 k61 hk61 (wMo_reckon_70 post k24 k61 n) ih x0 x1 x2 x3 x4 x5 r41 z63 M51 hwp H locs ls hM hS (lv_sub hl [2, 3, 4, 5, 6, 7, 1, 0] rfl)
def wMo_reckon_61 (post : Hp → Prop) (k24 : Nat → Int32 → Int32 → Int32 → Hp → Prop) : Nat → Nat → Int32 → Int32 → Int32 → Int32 → Hp → Prop
  | 0 => fun _ _ _ _ _ _ => False
  | n + 1 => fun x0 x1 x2 x3 x4 M => ((x2 < x4 → (∀ z104 : Int32, z104 = x3 + (-1) → (k24 x0 x1 x2 z104 M))) ∧ (¬ x2 < x4 → (∃ n105 : Nat, wMo_reckon_70 post k24 (wMo_reckon_61 post k24 n) n105 x0 x1 x2 x3 x4 (0 : Int32) M)))
set_option maxRecDepth 100000 in
set_option maxHeartbeats 4000000 in
theorem tMo_reckon_61 {p : Program} {l : Launch} {e : Env} {s : State} {m : MethodId} {args : Array Value} {below : List Frame} {meth : Method} {c : Code} {D : va_G} {κ : Nat → ClassId} {A : Nat → Prop} (C : Cx_Mo_reckon p s m args meth c D κ A) (post : Hp → Prop) (k24 : Nat → Int32 → Int32 → Int32 → Hp → Prop) (hk24 : ∀ (x0 : Nat) (x1 : Int32) (x2 : Int32) (x3 : Int32) (M : Hp), k24 x0 x1 x2 x3 M → Y p l e rm_Mo_reckon s m args below meth c D kCl (hTys κ) A 9 0 0 (MQ below (va_Qv post (hB D kCl (hTys κ) A) A) args s 0 0 A) M 24 [(0, .ref x0), (1, .int x1), (2, .int x2), (3, .int x3)] []) : ∀ (n : Nat) (x0 : Nat) (x1 : Int32) (x2 : Int32) (x3 : Int32) (x4 : Int32) (M : Hp), wMo_reckon_61 post k24 n x0 x1 x2 x3 x4 M → Y p l e rm_Mo_reckon s m args below meth c D kCl (hTys κ) A 9 0 0 (MQ below (va_Qv post (hB D kCl (hTys κ) A) A) args s 0 0 A) M 61 [(0, .ref x0), (1, .int x1), (2, .int x2), (3, .int x3), (4, .int x4)] [] := by
  obtain ⟨hx, hb, hml, hr, hown, hts, hlocks, hE, hA⟩ := id C
  have hK := hE.1
  intro n
  induction n with
  | zero => intro x0 x1 x2 x3 x4 M hwp; exact hwp.elim
  | succ n ih =>
    intro x0 x1 x2 x3 x4 M hwp H locs ls hM hS hl
    unfold wMo_reckon_61 at hwp
    refine lv_iload hx hb d_Mo_reckon_61 (lv_at hl 4 rfl) ?_
    refine lv_iload_n hx hb d_Mo_reckon_63 rfl (lv_at hl 2 rfl) ?_
    refine lv_icmp_gt (tgt := 207) hx hb d_Mo_reckon_64 (by decide) (fun c103 => ?_) (fun c103 => ?_)
    · replace hwp := hwp.1 c103
      obtain ⟨z104, ez104⟩ : ∃ y : Int32, y = x3 + (-1) := ⟨_, rfl⟩
      replace hwp := hwp z104 ez104
      refine lv_iinc (v := z104) (lv' := [(3, .int z104), (0, .ref x0), (1, .int x1), (2, .int x2), (4, .int x4)]) hx hb d_Mo_reckon_207 hl (k := 3) rfl (by rw [ez104]; rfl) (by decide) rfl (fun ls hl => ?_)
      refine lv_goto (tgt := 24) hx hb d_Mo_reckon_210 (by decide) ?_
      exact hk24 x0 x1 x2 z104 M hwp H locs ls hM hS (lv_sub hl [1, 2, 3, 0] rfl)
    · replace hwp := hwp.2 c103
      refine lv_iconst (v := 0) hx hb d_Mo_reckon_67 (by decide) ?_
      refine lv_istore (lv' := [(5, .int (0 : Int32)), (0, .ref x0), (1, .int x1), (2, .int x2), (3, .int x3), (4, .int x4)]) hx hb d_Mo_reckon_68 hl (by decide) rfl (fun ls hl => ?_)
      obtain ⟨n105, hwp⟩ := hwp
      exact tMo_reckon_70 C post k24 hk24 (wMo_reckon_61 post k24 n) ih n105 x0 x1 x2 x3 x4 (0 : Int32) M hwp H locs ls hM hS (lv_sub hl [1, 2, 3, 4, 5, 0] rfl)
def wMo_reckon_24 (post : Hp → Prop)  : Nat → Nat → Int32 → Int32 → Int32 → Hp → Prop
  | 0 => fun _ _ _ _ _ => False
  | n + 1 => fun x0 x1 x2 x3 M => ((x3 < 0 → (post M)) ∧ (¬ x3 < 0 → (∃ a107 : Nat, fA M x0 6 31 a107 ∧ (∃ a111 : Nat, fA M x0 6 31 a111 ∧ (∃ v115 : Int64, aJ M a111 (x3 + (1 : Int32)) v115 ∧ (∃ M124 : Hp, sJ M a107 x3 v115 M124 ∧ (∃ a125 : Nat, fA M124 x0 6 32 a125 ∧ (∃ a129 : Nat, fA M124 x0 6 32 a129 ∧ (∃ v133 : Int32, aI M124 a129 (x3 + (1 : Int32)) v133 ∧ (∃ M142 : Hp, sI M124 a125 x3 v133 M142 ∧ (∀ z143 : Int32, z143 = (x3 + (1 : Int32)) → (∃ n144 : Nat, wMo_reckon_61 post (wMo_reckon_24 post n) n144 x0 x1 x2 x3 z143 M142))))))))))))
set_option maxRecDepth 100000 in
set_option maxHeartbeats 4000000 in
theorem tMo_reckon_24 {p : Program} {l : Launch} {e : Env} {s : State} {m : MethodId} {args : Array Value} {below : List Frame} {meth : Method} {c : Code} {D : va_G} {κ : Nat → ClassId} {A : Nat → Prop} (C : Cx_Mo_reckon p s m args meth c D κ A) (post : Hp → Prop)  : ∀ (n : Nat) (x0 : Nat) (x1 : Int32) (x2 : Int32) (x3 : Int32) (M : Hp), wMo_reckon_24 post n x0 x1 x2 x3 M → Y p l e rm_Mo_reckon s m args below meth c D kCl (hTys κ) A 9 0 0 (MQ below (va_Qv post (hB D kCl (hTys κ) A) A) args s 0 0 A) M 24 [(0, .ref x0), (1, .int x1), (2, .int x2), (3, .int x3)] [] := by
  obtain ⟨hx, hb, hml, hr, hown, hts, hlocks, hE, hA⟩ := id C
  have hK := hE.1
  intro n
  induction n with
  | zero => intro x0 x1 x2 x3 M hwp; exact hwp.elim
  | succ n ih =>
    intro x0 x1 x2 x3 M hwp H locs ls hM hS hl
    unfold wMo_reckon_24 at hwp
    refine lv_iload_n hx hb d_Mo_reckon_24 rfl (lv_at hl 3 rfl) ?_
    refine lv_if_lt (tgt := 213) hx hb d_Mo_reckon_25 (by decide) (fun c106 => ?_) (fun c106 => ?_)
    · replace hwp := hwp.1 c106
      exact W.vret hx hb hr (fun t ht hW => ⟨⟨M, rfl, hwp, by show hw D kCl (hTys κ) A M t.heap; rw [ht]; exact hM⟩, hS.F ht⟩) hS.2.2 d_Mo_reckon_213
    · replace hwp := hwp.2 c106
      refine lv_aload_n hx hb d_Mo_reckon_28 rfl (lv_at hl 0 rfl) ?_
      obtain ⟨a107, ⟨fs108, he109, hv110⟩, hwp⟩ := hwp
      refine h_get (C := "BuckTablesModel") (T := Tc6) (N := 36) hx hb hts inc6 hown hK hM he109 rfl 31 (by decide) (hts _ kw_751) (fun _ h9 => h9) hv110 d_Mo_reckon_29 ?_
      refine lv_iload_n hx hb d_Mo_reckon_32 rfl (lv_at hl 3 rfl) ?_
      refine lv_aload_n hx hb d_Mo_reckon_33 rfl (lv_at hl 0 rfl) ?_
      obtain ⟨a111, ⟨fs112, he113, hv114⟩, hwp⟩ := hwp
      refine h_get (C := "BuckTablesModel") (T := Tc6) (N := 36) hx hb hts inc6 hown hK hM he113 rfl 31 (by decide) (hts _ kw_751) (fun _ h9 => h9) hv114 d_Mo_reckon_34 ?_
      refine lv_iload_n hx hb d_Mo_reckon_37 rfl (lv_at hl 3 rfl) ?_
      refine lv_iconst (v := 1) hx hb d_Mo_reckon_38 (by decide) ?_
      refine lv_iadd hx hb d_Mo_reckon_39 ?_
      obtain ⟨v115, ⟨n116, f117, ha118, hi119, ev115⟩, hwp⟩ := hwp
      refine h_lald hx hb hK hM ha118 rfl hi119 d_Mo_reckon_40 ?_
      rw [← ev115]
      obtain ⟨M124, ⟨n120, f121, ha122, hi123, eM124⟩, hwp⟩ := hwp
      refine h_last hx hb hK hM hS ha122 rfl hi123 d_Mo_reckon_41 (fun H locs hM hS => ?_)
      rw [← eM124] at hM
      refine lv_aload_n hx hb d_Mo_reckon_42 rfl (lv_at hl 0 rfl) ?_
      obtain ⟨a125, ⟨fs126, he127, hv128⟩, hwp⟩ := hwp
      refine h_get (C := "BuckTablesModel") (T := Tc6) (N := 36) hx hb hts inc6 hown hK hM he127 rfl 32 (by decide) (hts _ kw_752) (fun _ h9 => h9) hv128 d_Mo_reckon_43 ?_
      refine lv_iload_n hx hb d_Mo_reckon_46 rfl (lv_at hl 3 rfl) ?_
      refine lv_aload_n hx hb d_Mo_reckon_47 rfl (lv_at hl 0 rfl) ?_
      obtain ⟨a129, ⟨fs130, he131, hv132⟩, hwp⟩ := hwp
      refine h_get (C := "BuckTablesModel") (T := Tc6) (N := 36) hx hb hts inc6 hown hK hM he131 rfl 32 (by decide) (hts _ kw_752) (fun _ h9 => h9) hv132 d_Mo_reckon_48 ?_
      refine lv_iload_n hx hb d_Mo_reckon_51 rfl (lv_at hl 3 rfl) ?_
      refine lv_iconst (v := 1) hx hb d_Mo_reckon_52 (by decide) ?_
      refine lv_iadd hx hb d_Mo_reckon_53 ?_
      obtain ⟨v133, ⟨n134, f135, ha136, hi137, ev133⟩, hwp⟩ := hwp
      refine h_iald hx hb hK hM ha136 rfl hi137 d_Mo_reckon_54 ?_
      rw [← ev133]
      obtain ⟨M142, ⟨n138, f139, ha140, hi141, eM142⟩, hwp⟩ := hwp
      refine h_iast hx hb hK hM hS ha140 rfl hi141 d_Mo_reckon_55 (fun H locs hM hS => ?_)
      rw [← eM142] at hM
      refine lv_iload_n hx hb d_Mo_reckon_56 rfl (lv_at hl 3 rfl) ?_
      refine lv_iconst (v := 1) hx hb d_Mo_reckon_57 (by decide) ?_
      refine lv_iadd hx hb d_Mo_reckon_58 ?_
      refine lv_topi (fun z143 ez143 => ?_)
      replace hwp := hwp z143 ez143
      refine lv_istore (lv' := [(4, .int z143), (0, .ref x0), (1, .int x1), (2, .int x2), (3, .int x3)]) hx hb d_Mo_reckon_59 hl (by decide) rfl (fun ls hl => ?_)
      obtain ⟨n144, hwp⟩ := hwp
      exact tMo_reckon_61 C post (wMo_reckon_24 post n) ih n144 x0 x1 x2 x3 z143 M142 hwp H locs ls hM hS (lv_sub hl [1, 2, 3, 4, 0] rfl)
def wpMo_reckon (self : Nat) (p0 : Int32) (M : Hp) (post : Hp → Prop) : Prop := (hob M self 6 ∧ (wpMo_stepsOf self p0 M (fun (r147 : Int32) (M145 : Hp) => (∃ a148 : Nat, fA M145 self 6 31 a148 ∧ (∃ M156 : Hp, sJ M145 a148 r147 (0 : Int64) M156 ∧ (∃ a157 : Nat, fA M156 self 6 32 a157 ∧ (∃ M165 : Hp, sI M156 a157 r147 (0 : Int32) M165 ∧ (∀ z166 : Int32, z166 = (r147 - (1 : Int32)) → (∃ n167 : Nat, wMo_reckon_24 post n167 self p0 r147 z166 M165)))))))))
set_option maxRecDepth 100000 in
set_option maxHeartbeats 4000000 in
theorem eMo_reckon {p : Program} {l : Launch} {e : Env} {s : State} {m : MethodId} {args : Array Value} {below : List Frame} {meth : Method} {c : Code} {D : va_G} {κ : Nat → ClassId} {A : Nat → Prop} (C : Cx_Mo_reckon p s m args meth c D κ A) (post : Hp → Prop) (self : Nat) (p0 : Int32) (M : Hp) (hwp : wpMo_reckon self p0 M post) : Y p l e rm_Mo_reckon s m args below meth c D kCl (hTys κ) A 9 0 0 (MQ below (va_Qv post (hB D kCl (hTys κ) A) A) args s 0 0 A) M 0 [(0, .ref self), (1, .int p0)] [] := by
  obtain ⟨hx, hb, hml, hr, hown, hts, hlocks, hE, hA⟩ := id C
  have hK := hE.1
  intro H locs ls hM hS hl
  unfold wpMo_reckon at hwp
  refine lv_aload_n hx hb d_Mo_reckon_0 rfl (lv_at hl 0 rfl) ?_
  refine lv_iload_n hx hb d_Mo_reckon_1 rfl (lv_at hl 1 rfl) ?_
  obtain ⟨ho146, hwp⟩ := hwp
  refine h_calli hM hS hA (va_runV (As := [.int p0]) (rest := []) ⟨hx, hb, hml, hown, hts⟩ (metMo_stepsOf l D κ H.size self p0 M _ hwp) (cwV 1 hts (gV kw_875 kw_877 kp_26 kw_8 kw_878) rfl rfl rfl (by decide +kernel) ⟨(Nat.le_of_ble_eq_true rfl), (Nat.le_of_ble_eq_true rfl)⟩) (h_preV hE hM hS ho146 (r := ("BuckTablesModel", Tc6, 36)) rfl) rfl rfl hl.1 rfl (lv_room (Nat.le_of_ble_eq_true rfl)) d_Mo_reckon_2 ⟨(Nat.le_of_ble_eq_true rfl), (Nat.le_of_ble_eq_true rfl)⟩) (fun r147 M145 H locs hwp hM hS => ?_)
  refine lv_istore_n (lv' := [(2, .int r147), (0, .ref self), (1, .int p0)]) hx hb d_Mo_reckon_5 rfl hl (by decide) rfl (fun ls hl => ?_)
  refine lv_aload_n hx hb d_Mo_reckon_6 rfl (lv_at hl 1 rfl) ?_
  obtain ⟨a148, ⟨fs149, he150, hv151⟩, hwp⟩ := hwp
  refine h_get (C := "BuckTablesModel") (T := Tc6) (N := 36) hx hb hts inc6 hown hK hM he150 rfl 31 (by decide) (hts _ kw_751) (fun _ h9 => h9) hv151 d_Mo_reckon_7 ?_
  refine lv_iload_n hx hb d_Mo_reckon_10 rfl (lv_at hl 0 rfl) ?_
  refine lv_lconst (v := 0) hx hb d_Mo_reckon_11 (by decide) ?_
  obtain ⟨M156, ⟨n152, f153, ha154, hi155, eM156⟩, hwp⟩ := hwp
  refine h_last hx hb hK hM hS ha154 rfl hi155 d_Mo_reckon_12 (fun H locs hM hS => ?_)
  rw [← eM156] at hM
  refine lv_aload_n hx hb d_Mo_reckon_13 rfl (lv_at hl 1 rfl) ?_
  obtain ⟨a157, ⟨fs158, he159, hv160⟩, hwp⟩ := hwp
  refine h_get (C := "BuckTablesModel") (T := Tc6) (N := 36) hx hb hts inc6 hown hK hM he159 rfl 32 (by decide) (hts _ kw_752) (fun _ h9 => h9) hv160 d_Mo_reckon_14 ?_
  refine lv_iload_n hx hb d_Mo_reckon_17 rfl (lv_at hl 0 rfl) ?_
  refine lv_iconst (v := 0) hx hb d_Mo_reckon_18 (by decide) ?_
  obtain ⟨M165, ⟨n161, f162, ha163, hi164, eM165⟩, hwp⟩ := hwp
  refine h_iast hx hb hK hM hS ha163 rfl hi164 d_Mo_reckon_19 (fun H locs hM hS => ?_)
  rw [← eM165] at hM
  refine lv_iload_n hx hb d_Mo_reckon_20 rfl (lv_at hl 0 rfl) ?_
  refine lv_iconst (v := 1) hx hb d_Mo_reckon_21 (by decide) ?_
  refine lv_isub hx hb d_Mo_reckon_22 ?_
  refine lv_topi (fun z166 ez166 => ?_)
  replace hwp := hwp z166 ez166
  refine lv_istore_n (lv' := [(3, .int z166), (2, .int r147), (0, .ref self), (1, .int p0)]) hx hb d_Mo_reckon_23 rfl hl (by decide) rfl (fun ls hl => ?_)
  obtain ⟨n167, hwp⟩ := hwp
  exact tMo_reckon_24 C post n167 self p0 r147 z166 M165 hwp H locs ls hM hS (lv_sub hl [2, 3, 1, 0] rfl)
set_option maxRecDepth 100000 in
set_option maxHeartbeats 4000000 in
theorem metMo_reckon (l : Launch) (D : va_G) (κ : Nat → ClassId) (sz : Nat) (self : Nat) (p0 : Int32) (M : Hp) (post : Hp → Prop) (hwp : wpMo_reckon self p0 M post) : Met l y_Mo_reckon ws_Mo_reckon rm_Mo_reckon (hPc D kCl (hTys κ) M sz [.ref self, .int p0]) (va_Qv post (hB D kCl (hTys κ) (hAx M sz)) (hAx M sz)) 0 0 (hAx M sz) := by
  refine Met.ofW (cc := prog_8_method_21_code) (maxL := 9) (ret := none) (by decide +kernel) rfl ?_
  intro p e s m args below meth c s₁ B hml hv
  obtain ⟨rfl, hsz, hE, hM0⟩ := hv
  have hts : ∀ w ∈ WG, w.before _ s = true := fun w h => atoms_spec (ws := ws_Mo_reckon) B.pre w (List.mem_cons_of_mem _ h)
  subst hsz
  have C : Cx_Mo_reckon p s m _ meth c D κ (hAx M s.heap.size) := ⟨B.exec, B.bytes, hml, B.returns, findClass_of_methodNamed B.named, hts, B.notSynchronized, hE, fun q h => Or.inr h⟩
  have hl := lv_entry ([.ref self, .int p0]) (n := 9) (Nat.le_of_ble_eq_true rfl)
  rw [lg_entry_eq]
  generalize (lg_sl ([.ref self, .int p0]) ++ List.replicate (9 - (lg_sl ([.ref self, .int p0])).length) Slot.unset).toArray = ls at hl ⊢
  exact eMo_reckon C post self p0 M hwp s.heap [] ls (hM0.self (sz := s.heap.size)) va_S.rf hl
