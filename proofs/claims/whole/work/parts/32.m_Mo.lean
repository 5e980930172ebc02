abbrev rm_Mo_stem : Room := { frames := 1, cells := 0, slots := 0, locals := 25 }
def Cx_Mo_stem (p : Program) (s : State) (m : MethodId) (args : Array Value) (meth : Method) (c : Code) (D : va_G) (κ : Nat → ClassId) (A : Nat → Prop) : Prop := p.tables.exec = Jvm.exec ∧ c.code = prog_8_method_6_code ∧ c.maxLocals = 7 ∧ meth.sig.returnType = (some .boolean) ∧ s.vm.findClass "BuckTablesModel" = some m.cls ∧ (∀ w ∈ WG, w.before args s = true) ∧ meth.locks = false ∧ hEnv D kCl (hTys κ) A s ∧ (∀ q, s.heap.size ≤ q → A q)
def wMo_stem_164 (post : Int32 → Hp → Prop)   (M : Hp) : Prop := (post (0 : Int32) M)
set_option maxRecDepth 100000 in
set_option maxHeartbeats 4000000 in
theorem tMo_stem_164 {p : Program} {l : Launch} {e : Env} {s : State} {m : MethodId} {args : Array Value} {below : List Frame} {meth : Method} {c : Code} {D : va_G} {κ : Nat → ClassId} {A : Nat → Prop} (C : Cx_Mo_stem p s m args meth c D κ A) (post : Int32 → Hp → Prop)   (M : Hp) (hwp : wMo_stem_164 post  M) : Y p l e rm_Mo_stem s m args below meth c D kCl (hTys κ) A 7 0 0 (MQ below (va_Qi post (hB D kCl (hTys κ) A) A) args s 0 0 A) M 164 [] [] := by
  obtain ⟨hx, hb, hml, hr, hown, hts, hlocks, hE, hA⟩ := id C
  have hK := hE.1
  intro H locs ls hM hS hl
  unfold wMo_stem_164 at hwp
  refine lv_iconst (v := 0) hx hb d_Mo_stem_164 (by decide) ?_
  exact W.zret (v := (0 : Int32)) hx hb hr (by decide) (fun t ht hW => ⟨⟨(0 : Int32), M, rfl, hwp, by show hw D kCl (hTys κ) A M t.heap; rw [ht]; exact hM⟩, hS.F ht⟩) hS.2.2 d_Mo_stem_165
def wMo_stem_146 (post : Int32 → Hp → Prop)  (x0 : Nat) (x1 : Int32) (x2 : Int32) (x3 : Int32) (x4 : Int32) (x5 : Int32) (y0 : Int32) (M : Hp) : Prop := ((y0 = 0 → (wMo_stem_164 post M)) ∧ (¬ y0 = 0 → (∃ v2 : Int32, fI M x0 6 1 v2 ∧ (¬ v2 = 0 ∧ (((x1 / v2) ≤ (80 : Int32) → (∃ a8 : Nat, fA M x0 6 6 a8 ∧ (∃ M16 : Hp, sI M a8 x5 x1 M16 ∧ (∃ a17 : Nat, fA M16 x0 6 7 a17 ∧ (∃ M25 : Hp, sI M16 a17 x5 x2 M25 ∧ (∃ a26 : Nat, fA M25 x0 6 8 a26 ∧ (∃ M34 : Hp, sI M25 a26 x5 x3 M34 ∧ (∃ a35 : Nat, fA M34 x0 6 5 a35 ∧ (∃ v39 : Int32, aI M34 a35 x4 v39 ∧ (∃ M48 : Hp, sI M34 a35 x4 (v39 + (1 : Int32)) M48 ∧ (hob M48 x0 6 ∧ (wpMo_told x0 (1 : Int32) M48 (fun (r51 : Int32) (M49 : Hp) => ((r51 = 0 ∨ r51 = 1) ∧ post r51 M49)))))))))))))) ∧ (¬ (x1 / v2) ≤ (80 : Int32) → (wMo_stem_164 post M)))))))
set_option maxRecDepth 100000 in
set_option maxHeartbeats 4000000 in
theorem tMo_stem_146 {p : Program} {l : Launch} {e : Env} {s : State} {m : MethodId} {args : Array Value} {below : List Frame} {meth : Method} {c : Code} {D : va_G} {κ : Nat → ClassId} {A : Nat → Prop} (C : Cx_Mo_stem p s m args meth c D κ A) (post : Int32 → Hp → Prop)  (x0 : Nat) (x1 : Int32) (x2 : Int32) (x3 : Int32) (x4 : Int32) (x5 : Int32) (y0 : Int32) (M : Hp) (hwp : wMo_stem_146 post x0 x1 x2 x3 x4 x5 y0 M) : Y p l e rm_Mo_stem s m args below meth c D kCl (hTys κ) A 7 0 0 (MQ below (va_Qi post (hB D kCl (hTys κ) A) A) args s 0 0 A) M 146 [(0, .ref x0), (1, .int x1), (2, .int x2), (3, .int x3), (4, .int x4), (5, .int x5)] [.int y0] := by
  obtain ⟨hx, hb, hml, hr, hown, hts, hlocks, hE, hA⟩ := id C
  have hK := hE.1
  intro H locs ls hM hS hl
  unfold wMo_stem_146 at hwp
  refine lv_istore (lv' := [(6, .int y0), (0, .ref x0), (1, .int x1), (2, .int x2), (3, .int x3), (4, .int x4), (5, .int x5)]) hx hb d_Mo_stem_146 hl (by decide) rfl (fun ls hl => ?_)
  refine lv_iload hx hb d_Mo_stem_148 (lv_at hl 0 rfl) ?_
  refine lv_if_eq (tgt := 164) hx hb d_Mo_stem_150 (by decide) (fun c1 => ?_) (fun c1 => ?_)
  · replace hwp := hwp.1 c1
    exact tMo_stem_164 C post M hwp H locs ls hM hS (lv_sub hl [] rfl)
  · replace hwp := hwp.2 c1
    refine lv_iload_n hx hb d_Mo_stem_153 rfl (lv_at hl 2 rfl) ?_
    refine lv_aload_n hx hb d_Mo_stem_154 rfl (lv_at hl 1 rfl) ?_
    obtain ⟨v2, ⟨fs3, he4, hv5⟩, hwp⟩ := hwp
    refine h_get (C := "BuckTablesModel") (T := Tc6) (N := 36) hx hb hts inc6 hown hK hM he4 rfl 1 (by decide) (hts _ kw_721) (fun _ h9 => h9) hv5 d_Mo_stem_155 ?_
    obtain ⟨h6, hwp⟩ := hwp
    refine lv_idiv hx hb d_Mo_stem_158 h6 ?_
    refine lv_bipush (v := 80) hx hb d_Mo_stem_159 (by decide) ?_
    refine lv_icmp_le (tgt := 166) hx hb d_Mo_stem_161 (by decide) (fun c7 => ?_) (fun c7 => ?_)
    · replace hwp := hwp.1 c7
      refine lv_aload_n hx hb d_Mo_stem_166 rfl (lv_at hl 1 rfl) ?_
      obtain ⟨a8, ⟨fs9, he10, hv11⟩, hwp⟩ := hwp
      refine h_get (C := "BuckTablesModel") (T := Tc6) (N := 36) hx hb hts inc6 hown hK hM he10 rfl 6 (by decide) (hts _ kw_726) (fun _ h9 => h9) hv11 d_Mo_stem_167 ?_
      refine lv_iload hx hb d_Mo_stem_170 (lv_at hl 6 rfl) ?_
      refine lv_iload_n hx hb d_Mo_stem_172 rfl (lv_at hl 2 rfl) ?_
      obtain ⟨M16, ⟨n12, f13, ha14, hi15, eM16⟩, hwp⟩ := hwp
      refine h_iast hx hb hK hM hS ha14 rfl hi15 d_Mo_stem_173 (fun H locs hM hS => ?_)
      rw [← eM16] at hM
      refine lv_aload_n hx hb d_Mo_stem_174 rfl (lv_at hl 1 rfl) ?_
      obtain ⟨a17, ⟨fs18, he19, hv20⟩, hwp⟩ := hwp
      refine h_get (C := "BuckTablesModel") (T := Tc6) (N := 36) hx hb hts inc6 hown hK hM he19 rfl 7 (by decide) (hts _ kw_727) (fun _ h9 => h9) hv20 d_Mo_stem_175 ?_
      refine lv_iload hx hb d_Mo_stem_178 (lv_at hl 6 rfl) ?_
      refine lv_iload_n hx hb d_Mo_stem_180 rfl (lv_at hl 3 rfl) ?_
      obtain ⟨M25, ⟨n21, f22, ha23, hi24, eM25⟩, hwp⟩ := hwp
      refine h_iast hx hb hK hM hS ha23 rfl hi24 d_Mo_stem_181 (fun H locs hM hS => ?_)
      rw [← eM25] at hM
      refine lv_aload_n hx hb d_Mo_stem_182 rfl (lv_at hl 1 rfl) ?_
      obtain ⟨a26, ⟨fs27, he28, hv29⟩, hwp⟩ := hwp
      refine h_get (C := "BuckTablesModel") (T := Tc6) (N := 36) hx hb hts inc6 hown hK hM he28 rfl 8 (by decide) (hts _ kw_728) (fun _ h9 => h9) hv29 d_Mo_stem_183 ?_
      refine lv_iload hx hb d_Mo_stem_186 (lv_at hl 6 rfl) ?_
      refine lv_iload_n hx hb d_Mo_stem_188 rfl (lv_at hl 4 rfl) ?_
      obtain ⟨M34, ⟨n30, f31, ha32, hi33, eM34⟩, hwp⟩ := hwp
      refine h_iast hx hb hK hM hS ha32 rfl hi33 d_Mo_stem_189 (fun H locs hM hS => ?_)
      rw [← eM34] at hM
      refine lv_aload_n hx hb d_Mo_stem_190 rfl (lv_at hl 1 rfl) ?_
      obtain ⟨a35, ⟨fs36, he37, hv38⟩, hwp⟩ := hwp
      refine h_get (C := "BuckTablesModel") (T := Tc6) (N := 36) hx hb hts inc6 hown hK hM he37 rfl 5 (by decide) (hts _ kw_725) (fun _ h9 => h9) hv38 d_Mo_stem_191 ?_
      refine lv_iload hx hb d_Mo_stem_194 (lv_at hl 5 rfl) ?_
      refine lv_dup2_11 hx hb d_Mo_stem_196 rfl rfl ?_
      obtain ⟨v39, ⟨n40, f41, ha42, hi43, ev39⟩, hwp⟩ := hwp
      refine h_iald hx hb hK hM ha42 rfl hi43 d_Mo_stem_197 ?_
      rw [← ev39]
      refine lv_iconst (v := 1) hx hb d_Mo_stem_198 (by decide) ?_
      refine lv_iadd hx hb d_Mo_stem_199 ?_
      obtain ⟨M48, ⟨n44, f45, ha46, hi47, eM48⟩, hwp⟩ := hwp
      refine h_iast hx hb hK hM hS ha46 rfl hi47 d_Mo_stem_200 (fun H locs hM hS => ?_)
      rw [← eM48] at hM
      refine lv_aload_n hx hb d_Mo_stem_201 rfl (lv_at hl 1 rfl) ?_
      refine lv_iconst (v := 1) hx hb d_Mo_stem_202 (by decide) ?_
      obtain ⟨ho50, hwp⟩ := hwp
      refine h_calli hM hS hA (va_runV (As := [.int (1 : Int32)]) (rest := []) ⟨hx, hb, hml, hown, hts⟩ (metMo_told l D κ H.size x0 (1 : Int32) M48 _ hwp) (cwV 1 hts (gV kw_842 kw_844 kp_23 kw_8 kw_845) rfl rfl rfl (by decide +kernel) ⟨(Nat.le_of_ble_eq_true rfl), (Nat.le_of_ble_eq_true rfl)⟩) (h_preV hE hM hS ho50 (r := ("BuckTablesModel", Tc6, 36)) rfl) rfl rfl hl.1 rfl (lv_room (Nat.le_of_ble_eq_true rfl)) d_Mo_stem_203 ⟨(Nat.le_of_ble_eq_true rfl), (Nat.le_of_ble_eq_true rfl)⟩) (fun r51 M49 H locs hwp hM hS => ?_)
      obtain ⟨hz52, hwp⟩ := hwp
      exact W.zret (v := r51) hx hb hr (by rcases hz52 with h | h <;> rw [h] <;> rfl) (fun t ht hW => ⟨⟨r51, M49, rfl, hwp, by show hw D kCl (hTys κ) A M49 t.heap; rw [ht]; exact hM⟩, hS.F ht⟩) hS.2.2 d_Mo_stem_206
    · replace hwp := hwp.2 c7
      exact tMo_stem_164 C post M hwp H locs ls hM hS (lv_sub hl [] rfl)
def wMo_stem_145 (post : Int32 → Hp → Prop)  (x0 : Nat) (x1 : Int32) (x2 : Int32) (x3 : Int32) (x4 : Int32) (x5 : Int32) (M : Hp) : Prop := (wMo_stem_146 post x0 x1 x2 x3 x4 x5 (0 : Int32) M)
set_option maxRecDepth 100000 in
set_option maxHeartbeats 4000000 in
theorem tMo_stem_145 {p : Program} {l : Launch} {e : Env} {s : State} {m : MethodId} {args : Array Value} {below : List Frame} {meth : Method} {c : Code} {D : va_G} {κ : Nat → ClassId} {A : Nat → Prop} (C : Cx_Mo_stem p s m args meth c D κ A) (post : Int32 → Hp → Prop)  (x0 : Nat) (x1 : Int32) (x2 : Int32) (x3 : Int32) (x4 : Int32) (x5 : Int32) (M : Hp) (hwp : wMo_stem_145 post x0 x1 x2 x3 x4 x5 M) : Y p l e rm_Mo_stem s m args below meth c D kCl (hTys κ) A 7 0 0 (MQ below (va_Qi post (hB D kCl (hTys κ) A) A) args s 0 0 A) M 145 [(0, .ref x0), (1, .int x1), (2, .int x2), (3, .int x3), (4, .int x4), (5, .int x5)] [] := by
  obtain ⟨hx, hb, hml, hr, hown, hts, hlocks, hE, hA⟩ := id C
  have hK := hE.1
  intro H locs ls hM hS hl
  unfold wMo_stem_145 at hwp
  refine lv_iconst (v := 0) hx hb d_Mo_stem_145 (by decide) ?_
  exact tMo_stem_146 C post x0 x1 x2 x3 x4 x5 (0 : Int32) M hwp H locs ls hM hS (lv_sub hl [0, 1, 2, 3, 4, 5] rfl)
def wMo_stem_66 (post : Int32 → Hp → Prop)  (x0 : Nat) (x1 : Int32) (x2 : Int32) (x3 : Int32) (x4 : Int32) (y0 : Int32) (y1 : Nat) (M : Hp) : Prop := (∃ M53 : Hp, pF M y1 6 0 (.int y0) M53 ∧ (∃ v57 : Int32, fI M53 x0 6 0 v57 ∧ ((v57 ≤ 0 → (∃ a62 : Nat, fA M53 x0 6 5 a62 ∧ (∃ v66 : Int32, aI M53 a62 x4 v66 ∧ (∀ z71 : Int32, z71 = (((60 : Int32) * x4) + v66) → (∃ a72 : Nat, fA M53 x0 6 5 a72 ∧ (∃ v76 : Int32, aI M53 a72 x4 v76 ∧ ((v76 = 0 → ((x1 = 0 → (wMo_stem_146 post x0 x1 x2 x3 x4 z71 (1 : Int32) M53)) ∧ (¬ x1 = 0 → (wMo_stem_146 post x0 x1 x2 x3 x4 z71 (0 : Int32) M53)))) ∧ (¬ v76 = 0 → (∃ a82 : Nat, fA M53 x0 6 6 a82 ∧ (∃ v86 : Int32, aI M53 a82 (z71 - (1 : Int32)) v86 ∧ ((x1 ≤ v86 → (wMo_stem_145 post x0 x1 x2 x3 x4 z71 M53)) ∧ (¬ x1 ≤ v86 → (∃ a92 : Nat, fA M53 x0 6 7 a92 ∧ (∃ v96 : Int32, aI M53 a92 (z71 - (1 : Int32)) v96 ∧ ((v96 < x2 → (wMo_stem_145 post x0 x1 x2 x3 x4 z71 M53)) ∧ (¬ v96 < x2 → (wMo_stem_146 post x0 x1 x2 x3 x4 z71 (1 : Int32) M53))))))))))))))))) ∧ (¬ v57 ≤ 0 → (post (0 : Int32) M53)))))
set_option maxRecDepth 100000 in
set_option maxHeartbeats 4000000 in
theorem tMo_stem_66 {p : Program} {l : Launch} {e : Env} {s : State} {m : MethodId} {args : Array Value} {below : List Frame} {meth : Method} {c : Code} {D : va_G} {κ : Nat → ClassId} {A : Nat → Prop} (C : Cx_Mo_stem p s m args meth c D κ A) (post : Int32 → Hp → Prop)  (x0 : Nat) (x1 : Int32) (x2 : Int32) (x3 : Int32) (x4 : Int32) (y0 : Int32) (y1 : Nat) (M : Hp) (hwp : wMo_stem_66 post x0 x1 x2 x3 x4 y0 y1 M) : Y p l e rm_Mo_stem s m args below meth c D kCl (hTys κ) A 7 0 0 (MQ below (va_Qi post (hB D kCl (hTys κ) A) A) args s 0 0 A) M 66 [(0, .ref x0), (1, .int x1), (2, .int x2), (3, .int x3), (4, .int x4)] [.int y0, .ref y1] := by
  obtain ⟨hx, hb, hml, hr, hown, hts, hlocks, hE, hA⟩ := id C
  have hK := hE.1
  intro H locs ls hM hS hl
  unfold wMo_stem_66 at hwp
  obtain ⟨M53, ⟨fs54, he55, hl56, eM53⟩, hwp⟩ := hwp
  refine h_put (C := "BuckTablesModel") (T := Tc6) (N := 36) (v := .int y0) (ty := .int) hx hb hts inc6 tyc6 tyc6_ok nmc6 hown hK hM hS he55 rfl 0 (by decide) (hts _ kw_720) (fun _ h9 => h9) rfl (by decide +kernel) rfl rfl hl56 d_Mo_stem_66 (fun H locs hM hS => ?_)
  rw [← eM53] at hM
  refine lv_aload_n hx hb d_Mo_stem_69 rfl (lv_at hl 0 rfl) ?_
  obtain ⟨v57, ⟨fs58, he59, hv60⟩, hwp⟩ := hwp
  refine h_get (C := "BuckTablesModel") (T := Tc6) (N := 36) hx hb hts inc6 hown hK hM he59 rfl 0 (by decide) (hts _ kw_720) (fun _ h9 => h9) hv60 d_Mo_stem_70 ?_
  refine lv_if_le (tgt := 78) hx hb d_Mo_stem_73 (by decide) (fun c61 => ?_) (fun c61 => ?_)
  · replace hwp := hwp.1 c61
    refine lv_bipush (v := 60) hx hb d_Mo_stem_78 (by decide) ?_
    refine lv_iload hx hb d_Mo_stem_80 (lv_at hl 4 rfl) ?_
    refine lv_imul hx hb d_Mo_stem_82 ?_
    refine lv_aload_n hx hb d_Mo_stem_83 rfl (lv_at hl 0 rfl) ?_
    obtain ⟨a62, ⟨fs63, he64, hv65⟩, hwp⟩ := hwp
    refine h_get (C := "BuckTablesModel") (T := Tc6) (N := 36) hx hb hts inc6 hown hK hM he64 rfl 5 (by decide) (hts _ kw_725) (fun _ h9 => h9) hv65 d_Mo_stem_84 ?_
    refine lv_iload hx hb d_Mo_stem_87 (lv_at hl 4 rfl) ?_
    obtain ⟨v66, ⟨n67, f68, ha69, hi70, ev66⟩, hwp⟩ := hwp
    refine h_iald hx hb hK hM ha69 rfl hi70 d_Mo_stem_89 ?_
    rw [← ev66]
    refine lv_iadd hx hb d_Mo_stem_90 ?_
    refine lv_topi (fun z71 ez71 => ?_)
    replace hwp := hwp z71 ez71
    refine lv_istore (lv' := [(5, .int z71), (0, .ref x0), (1, .int x1), (2, .int x2), (3, .int x3), (4, .int x4)]) hx hb d_Mo_stem_91 hl (by decide) rfl (fun ls hl => ?_)
    refine lv_aload_n hx hb d_Mo_stem_93 rfl (lv_at hl 1 rfl) ?_
    obtain ⟨a72, ⟨fs73, he74, hv75⟩, hwp⟩ := hwp
    refine h_get (C := "BuckTablesModel") (T := Tc6) (N := 36) hx hb hts inc6 hown hK hM he74 rfl 5 (by decide) (hts _ kw_725) (fun _ h9 => h9) hv75 d_Mo_stem_94 ?_
    refine lv_iload hx hb d_Mo_stem_97 (lv_at hl 5 rfl) ?_
    obtain ⟨v76, ⟨n77, f78, ha79, hi80, ev76⟩, hwp⟩ := hwp
    refine h_iald hx hb hK hM ha79 rfl hi80 d_Mo_stem_99 ?_
    rw [← ev76]
    refine lv_if_ne (tgt := 115) hx hb d_Mo_stem_100 (by decide) (fun c81 => ?_) (fun c81 => ?_)
    · replace hwp := hwp.2 c81
      refine lv_iload_n hx hb d_Mo_stem_115 rfl (lv_at hl 2 rfl) ?_
      refine lv_aload_n hx hb d_Mo_stem_116 rfl (lv_at hl 1 rfl) ?_
      obtain ⟨a82, ⟨fs83, he84, hv85⟩, hwp⟩ := hwp
      refine h_get (C := "BuckTablesModel") (T := Tc6) (N := 36) hx hb hts inc6 hown hK hM he84 rfl 6 (by decide) (hts _ kw_726) (fun _ h9 => h9) hv85 d_Mo_stem_117 ?_
      refine lv_iload hx hb d_Mo_stem_120 (lv_at hl 0 rfl) ?_
      refine lv_iconst (v := 1) hx hb d_Mo_stem_122 (by decide) ?_
      refine lv_isub hx hb d_Mo_stem_123 ?_
      obtain ⟨v86, ⟨n87, f88, ha89, hi90, ev86⟩, hwp⟩ := hwp
      refine h_iald hx hb hK hM ha89 rfl hi90 d_Mo_stem_124 ?_
      rw [← ev86]
      refine lv_icmp_le (tgt := 145) hx hb d_Mo_stem_125 (by decide) (fun c91 => ?_) (fun c91 => ?_)
      · replace hwp := hwp.1 c91
        exact tMo_stem_145 C post x0 x1 x2 x3 x4 z71 M53 hwp H locs ls hM hS (lv_sub hl [1, 2, 3, 4, 5, 0] rfl)
      · replace hwp := hwp.2 c91
        refine lv_iload_n hx hb d_Mo_stem_128 rfl (lv_at hl 3 rfl) ?_
        refine lv_aload_n hx hb d_Mo_stem_129 rfl (lv_at hl 1 rfl) ?_
        obtain ⟨a92, ⟨fs93, he94, hv95⟩, hwp⟩ := hwp
        refine h_get (C := "BuckTablesModel") (T := Tc6) (N := 36) hx hb hts inc6 hown hK hM he94 rfl 7 (by decide) (hts _ kw_727) (fun _ h9 => h9) hv95 d_Mo_stem_130 ?_
        refine lv_iload hx hb d_Mo_stem_133 (lv_at hl 0 rfl) ?_
        refine lv_iconst (v := 1) hx hb d_Mo_stem_135 (by decide) ?_
        refine lv_isub hx hb d_Mo_stem_136 ?_
        obtain ⟨v96, ⟨n97, f98, ha99, hi100, ev96⟩, hwp⟩ := hwp
        refine h_iald hx hb hK hM ha99 rfl hi100 d_Mo_stem_137 ?_
        rw [← ev96]
        refine lv_icmp_gt (tgt := 145) hx hb d_Mo_stem_138 (by decide) (fun c101 => ?_) (fun c101 => ?_)
        · replace hwp := hwp.1 c101
          exact tMo_stem_145 C post x0 x1 x2 x3 x4 z71 M53 hwp H locs ls hM hS (lv_sub hl [1, 2, 3, 4, 5, 0] rfl)
        · replace hwp := hwp.2 c101
          refine lv_iconst (v := 1) hx hb d_Mo_stem_141 (by decide) ?_
          refine lv_goto (tgt := 146) hx hb d_Mo_stem_142 (by decide) ?_
          exact tMo_stem_146 C post x0 x1 x2 x3 x4 z71 (1 : Int32) M53 hwp H locs ls hM hS (lv_sub hl [1, 2, 3, 4, 5, 0] rfl)
    · replace hwp := hwp.1 c81
      refine lv_iload_n hx hb d_Mo_stem_103 rfl (lv_at hl 2 rfl) ?_
      refine lv_if_ne (tgt := 111) hx hb d_Mo_stem_104 (by decide) (fun c102 => ?_) (fun c102 => ?_)
      · replace hwp := hwp.2 c102
        refine lv_iconst (v := 0) hx hb d_Mo_stem_111 (by decide) ?_
        refine lv_goto (tgt := 146) hx hb d_Mo_stem_112 (by decide) ?_
        exact tMo_stem_146 C post x0 x1 x2 x3 x4 z71 (0 : Int32) M53 hwp H locs ls hM hS (lv_sub hl [1, 2, 3, 4, 5, 0] rfl)
      · replace hwp := hwp.1 c102
        refine lv_iconst (v := 1) hx hb d_Mo_stem_107 (by decide) ?_
        refine lv_goto (tgt := 146) hx hb d_Mo_stem_108 (by decide) ?_
        exact tMo_stem_146 C post x0 x1 x2 x3 x4 z71 (1 : Int32) M53 hwp H locs ls hM hS (lv_sub hl [1, 2, 3, 4, 5, 0] rfl)
  · replace hwp := hwp.2 c61
    refine lv_iconst (v := 0) hx hb d_Mo_stem_76 (by decide) ?_
    exact W.zret (v := (0 : Int32)) hx hb hr (by decide) (fun t ht hW => ⟨⟨(0 : Int32), M53, rfl, hwp, by show hw D kCl (hTys κ) A M53 t.heap; rw [ht]; exact hM⟩, hS.F ht⟩) hS.2.2 d_Mo_stem_77
def wMo_stem_65 (post : Int32 → Hp → Prop)  (x0 : Nat) (x1 : Int32) (x2 : Int32) (x3 : Int32) (x4 : Int32) (y0 : Nat) (M : Hp) : Prop := (wMo_stem_66 post x0 x1 x2 x3 x4 (2 : Int32) y0 M)
set_option maxRecDepth 100000 in
set_option maxHeartbeats 4000000 in
theorem tMo_stem_65 {p : Program} {l : Launch} {e : Env} {s : State} {m : MethodId} {args : Array Value} {below : List Frame} {meth : Method} {c : Code} {D : va_G} {κ : Nat → ClassId} {A : Nat → Prop} (C : Cx_Mo_stem p s m args meth c D κ A) (post : Int32 → Hp → Prop)  (x0 : Nat) (x1 : Int32) (x2 : Int32) (x3 : Int32) (x4 : Int32) (y0 : Nat) (M : Hp) (hwp : wMo_stem_65 post x0 x1 x2 x3 x4 y0 M) : Y p l e rm_Mo_stem s m args below meth c D kCl (hTys κ) A 7 0 0 (MQ below (va_Qi post (hB D kCl (hTys κ) A) A) args s 0 0 A) M 65 [(0, .ref x0), (1, .int x1), (2, .int x2), (3, .int x3), (4, .int x4)] [.ref y0] := by
  obtain ⟨hx, hb, hml, hr, hown, hts, hlocks, hE, hA⟩ := id C
  have hK := hE.1
  intro H locs ls hM hS hl
  unfold wMo_stem_65 at hwp
  refine lv_iconst (v := 2) hx hb d_Mo_stem_65 (by decide) ?_
  exact tMo_stem_66 C post x0 x1 x2 x3 x4 (2 : Int32) y0 M hwp H locs ls hM hS (lv_sub hl [0, 1, 2, 3, 4] rfl)
def wpMo_stem (self : Nat) (p0 : Int32) (p1 : Int32) (p2 : Int32) (M : Hp) (post : Int32 → Hp → Prop) : Prop := (∃ v103 : Int32, fI M self 6 4 v103 ∧ (∀ z107 : Int32, z107 = (v103 - (1 : Int32)) → (∃ a108 : Nat, fA M self 6 5 a108 ∧ (∃ v112 : Int32, aI M a108 z107 v112 ∧ ((v112 = (60 : Int32) → (wMo_stem_66 post self p0 p1 p2 z107 (1 : Int32) self M)) ∧ (¬ v112 = (60 : Int32) → (wpMo_isIn (p0.toInt64) (0 : Int64) (10000000 : Int64) M (fun (r119 : Int32) (M118 : Hp) => ((r119 = 0 → (wMo_stem_65 post self p0 p1 p2 z107 self M118)) ∧ (¬ r119 = 0 → (wpMo_isIn (p1.toInt64) (0 : Int64) (100000 : Int64) M118 (fun (r122 : Int32) (M121 : Hp) => ((r122 = 0 → (wMo_stem_65 post self p0 p1 p2 z107 self M121)) ∧ (¬ r122 = 0 → (wpMo_isIn (p2.toInt64) (0 : Int64) (100000 : Int64) M121 (fun (r125 : Int32) (M124 : Hp) => ((r125 = 0 → (wMo_stem_65 post self p0 p1 p2 z107 self M124)) ∧ (¬ r125 = 0 → (wMo_stem_66 post self p0 p1 p2 z107 (0 : Int32) self M124)))))))))))))))))))
set_option maxRecDepth 100000 in
set_option maxHeartbeats 4000000 in
theorem eMo_stem {p : Program} {l : Launch} {e : Env} {s : State} {m : MethodId} {args : Array Value} {below : List Frame} {meth : Method} {c : Code} {D : va_G} {κ : Nat → ClassId} {A : Nat → Prop} (C : Cx_Mo_stem p s m args meth c D κ A) (post : Int32 → Hp → Prop) (self : Nat) (p0 : Int32) (p1 : Int32) (p2 : Int32) (M : Hp) (hwp : wpMo_stem self p0 p1 p2 M post) : Y p l e rm_Mo_stem s m args below meth c D kCl (hTys κ) A 7 0 0 (MQ below (va_Qi post (hB D kCl (hTys κ) A) A) args s 0 0 A) M 0 [(0, .ref self), (1, .int p0), (2, .int p1), (3, .int p2)] [] := by
  obtain ⟨hx, hb, hml, hr, hown, hts, hlocks, hE, hA⟩ := id C
  have hK := hE.1
  intro H locs ls hM hS hl
  unfold wpMo_stem at hwp
  refine lv_aload_n hx hb d_Mo_stem_0 rfl (lv_at hl 0 rfl) ?_
  obtain ⟨v103, ⟨fs104, he105, hv106⟩, hwp⟩ := hwp
  refine h_get (C := "BuckTablesModel") (T := Tc6) (N := 36) hx hb hts inc6 hown hK hM he105 rfl 4 (by decide) (hts _ kw_724) (fun _ h9 => h9) hv106 d_Mo_stem_1 ?_
  refine lv_iconst (v := 1) hx hb d_Mo_stem_4 (by decide) ?_
  refine lv_isub hx hb d_Mo_stem_5 ?_
  refine lv_topi (fun z107 ez107 => ?_)
  replace hwp := hwp z107 ez107
  refine lv_istore (lv' := [(4, .int z107), (0, .ref self), (1, .int p0), (2, .int p1), (3, .int p2)]) hx hb d_Mo_stem_6 hl (by decide) rfl (fun ls hl => ?_)
  refine lv_aload_n hx hb d_Mo_stem_8 rfl (lv_at hl 1 rfl) ?_
  refine lv_aload_n hx hb d_Mo_stem_9 rfl (lv_at hl 1 rfl) ?_
  obtain ⟨a108, ⟨fs109, he110, hv111⟩, hwp⟩ := hwp
  refine h_get (C := "BuckTablesModel") (T := Tc6) (N := 36) hx hb hts inc6 hown hK hM he110 rfl 5 (by decide) (hts _ kw_725) (fun _ h9 => h9) hv111 d_Mo_stem_10 ?_
  refine lv_iload hx hb d_Mo_stem_13 (lv_at hl 0 rfl) ?_
  obtain ⟨v112, ⟨n113, f114, ha115, hi116, ev112⟩, hwp⟩ := hwp
  refine h_iald hx hb hK hM ha115 rfl hi116 d_Mo_stem_15 ?_
  rw [← ev112]
  refine lv_bipush (v := 60) hx hb d_Mo_stem_16 (by decide) ?_
  refine lv_icmp_ne (tgt := 25) hx hb d_Mo_stem_18 (by decide) (fun c117 => ?_) (fun c117 => ?_)
  · replace hwp := hwp.2 c117
    refine lv_iload_n hx hb d_Mo_stem_25 rfl (lv_at hl 2 rfl) ?_
    refine lv_i2l hx hb d_Mo_stem_26 rfl ?_
    refine lv_lconst (v := 0) hx hb d_Mo_stem_27 (by decide) ?_
    refine lv_ldc2 (v := (10000000)) hx hb hown (hts _ kw_837) d_Mo_stem_28 ?_
    refine h_calli hM hS hA (va_runS (As := [.long (p0.toInt64), .long (0 : Int64), .long (10000000 : Int64)]) (rest := [.ref self]) ⟨hx, hb, hml, hown, hts⟩ (metMo_isIn l D κ H.size (p0.toInt64) (0 : Int64) (10000000 : Int64) M _ hwp) (cwS 3 hts (gS kw_838 kw_839 kw_8 kw_840) rfl rfl rfl (by decide +kernel) ⟨(Nat.le_of_ble_eq_true rfl), (Nat.le_of_ble_eq_true rfl)⟩) (h_preS hE hM hS) rfl rfl hl.1 rfl (lv_room (Nat.le_of_ble_eq_true rfl)) d_Mo_stem_31 ⟨(Nat.le_of_ble_eq_true rfl), (Nat.le_of_ble_eq_true rfl)⟩) (fun r119 M118 H locs hwp hM hS => ?_)
    refine lv_if_eq (tgt := 65) hx hb d_Mo_stem_34 (by decide) (fun c120 => ?_) (fun c120 => ?_)
    · replace hwp := hwp.1 c120
      exact tMo_stem_65 C post self p0 p1 p2 z107 self M118 hwp H locs ls hM hS (lv_sub hl [1, 2, 3, 4, 0] rfl)
    · replace hwp := hwp.2 c120
      refine lv_iload_n hx hb d_Mo_stem_37 rfl (lv_at hl 3 rfl) ?_
      refine lv_i2l hx hb d_Mo_stem_38 rfl ?_
      refine lv_lconst (v := 0) hx hb d_Mo_stem_39 (by decide) ?_
      refine lv_ldc2 (v := (100000)) hx hb hown (hts _ kw_841) d_Mo_stem_40 ?_
      refine h_calli hM hS hA (va_runS (As := [.long (p1.toInt64), .long (0 : Int64), .long (100000 : Int64)]) (rest := [.ref self]) ⟨hx, hb, hml, hown, hts⟩ (metMo_isIn l D κ H.size (p1.toInt64) (0 : Int64) (100000 : Int64) M118 _ hwp) (cwS 3 hts (gS kw_838 kw_839 kw_8 kw_840) rfl rfl rfl (by decide +kernel) ⟨(Nat.le_of_ble_eq_true rfl), (Nat.le_of_ble_eq_true rfl)⟩) (h_preS hE hM hS) rfl rfl hl.1 rfl (lv_room (Nat.le_of_ble_eq_true rfl)) d_Mo_stem_43 ⟨(Nat.le_of_ble_eq_true rfl), (Nat.le_of_ble_eq_true rfl)⟩) (fun r122 M121 H locs hwp hM hS => ?_)
      refine lv_if_eq (tgt := 65) hx hb d_Mo_stem_46 (by decide) (fun c123 => ?_) (fun c123 => ?_)
      · replace hwp := hwp.1 c123
        exact tMo_stem_65 C post self p0 p1 p2 z107 self M121 hwp H locs ls hM hS (lv_sub hl [1, 2, 3, 4, 0] rfl)
      · replace hwp := hwp.2 c123
        refine lv_iload_n hx hb d_Mo_stem_49 rfl (lv_at hl 4 rfl) ?_
        refine lv_i2l hx hb d_Mo_stem_50 rfl ?_
        refine lv_lconst (v := 0) hx hb d_Mo_stem_51 (by decide) ?_
        refine lv_ldc2 (v := (100000)) hx hb hown (hts _ kw_841) d_Mo_stem_52 ?_
        refine h_calli hM hS hA (va_runS (As := [.long (p2.toInt64), .long (0 : Int64), .long (100000 : Int64)]) (rest := [.ref self]) ⟨hx, hb, hml, hown, hts⟩ (metMo_isIn l D κ H.size (p2.toInt64) (0 : Int64) (100000 : Int64) M121 _ hwp) (cwS 3 hts (gS kw_838 kw_839 kw_8 kw_840) rfl rfl rfl (by decide +kernel) ⟨(Nat.le_of_ble_eq_true rfl), (Nat.le_of_ble_eq_true rfl)⟩) (h_preS hE hM hS) rfl rfl hl.1 rfl (lv_room (Nat.le_of_ble_eq_true rfl)) d_Mo_stem_55 ⟨(Nat.le_of_ble_eq_true rfl), (Nat.le_of_ble_eq_true rfl)⟩) (fun r125 M124 H locs hwp hM hS => ?_)
        refine lv_if_eq (tgt := 65) hx hb d_Mo_stem_58 (by decide) (fun c126 => ?_) (fun c126 => ?_)
        · replace hwp := hwp.1 c126
          exact tMo_stem_65 C post self p0 p1 p2 z107 self M124 hwp H locs ls hM hS (lv_sub hl [1, 2, 3, 4, 0] rfl)
        · replace hwp := hwp.2 c126
          refine lv_iconst (v := 0) hx hb d_Mo_stem_61 (by decide) ?_
          refine lv_goto (tgt := 66) hx hb d_Mo_stem_62 (by decide) ?_
          exact tMo_stem_66 C post self p0 p1 p2 z107 (0 : Int32) self M124 hwp H locs ls hM hS (lv_sub hl [1, 2, 3, 4, 0] rfl)
  · replace hwp := hwp.1 c117
    refine lv_iconst (v := 1) hx hb d_Mo_stem_21 (by decide) ?_
    refine lv_goto (tgt := 66) hx hb d_Mo_stem_22 (by decide) ?_
    exact tMo_stem_66 C post self p0 p1 p2 z107 (1 : Int32) self M hwp H locs ls hM hS (lv_sub hl [1, 2, 3, 4, 0] rfl)
set_option maxRecDepth 100000 in
set_option maxHeartbeats 4000000 in
theorem metMo_stem (l : Launch) (D : va_G) (κ : Nat → ClassId) (sz : Nat) (self : Nat) (p0 : Int32) (p1 : Int32) (p2 : Int32) (M : Hp) (post : Int32 → Hp → Prop) (hwp : wpMo_stem self p0 p1 p2 M post) : Met l y_Mo_stem ws_Mo_stem rm_Mo_stem (hPc D kCl (hTys κ) M sz [.ref self, .int p0, .int p1, .int p2]) (va_Qi post (hB D kCl (hTys κ) (hAx M sz)) (hAx M sz)) 0 0 (hAx M sz) := by
  refine Met.ofW (cc := prog_8_method_6_code) (maxL := 7) (ret := (some .boolean)) (by decide +kernel) rfl ?_
  intro p e s m args below meth c s₁ B hml hv
  obtain ⟨rfl, hsz, hE, hM0⟩ := hv
  have hts : ∀ w ∈ WG, w.before _ s = true := fun w h => atoms_spec (ws := ws_Mo_stem) B.pre w (List.mem_cons_of_mem _ h)
  subst hsz
  have C : Cx_Mo_stem p s m _ meth c D κ (hAx M s.heap.size) := ⟨B.exec, B.bytes, hml, B.returns, findClass_of_methodNamed B.named, hts, B.notSynchronized, hE, fun q h => Or.inr h⟩
  have hl := lv_entry ([.ref self, .int p0, .int p1, .int p2]) (n := 7) (Nat.le_of_ble_eq_true rfl)
  rw [lg_entry_eq]
  generalize (lg_sl ([.ref self, .int p0, .int p1, .int p2]) ++ List.replicate (7 - (lg_sl ([.ref self, .int p0, .int p1, .int p2])).length) Slot.unset).toArray = ls at hl ⊢
  exact eMo_stem C post self p0 p1 p2 M hwp s.heap [] ls (hM0.self (sz := s.heap.size)) va_S.rf hl
abbrev rm_Mo_fault : Room := { frames := 1, cells := 0, slots := 0, locals := 25 }
def Cx_Mo_fault (p : Program) (s : State) (m : MethodId) (args : Array Value) (meth : Method) (c : Code) (D : va_G) (κ : Nat → ClassId) (A : Nat → Prop) : Prop := p.tables.exec = Jvm.exec ∧ c.code = prog_8_method_7_code ∧ c.maxLocals = 6 ∧ meth.sig.returnType = (some .boolean) ∧ s.vm.findClass "BuckTablesModel" = some m.cls ∧ (∀ w ∈ WG, w.before args s = true) ∧ meth.locks = false ∧ hEnv D kCl (hTys κ) A s ∧ (∀ q, s.heap.size ≤ q → A q)
def wMo_fault_81 (post : Int32 → Hp → Prop)   (M : Hp) : Prop := (post (0 : Int32) M)
set_option maxRecDepth 100000 in
set_option maxHeartbeats 4000000 in
theorem tMo_fault_81 {p : Program} {l : Launch} {e : Env} {s : State} {m : MethodId} {args : Array Value} {below : List Frame} {meth : Method} {c : Code} {D : va_G} {κ : Nat → ClassId} {A : Nat → Prop} (C : Cx_Mo_fault p s m args meth c D κ A) (post : Int32 → Hp → Prop)   (M : Hp) (hwp : wMo_fault_81 post  M) : Y p l e rm_Mo_fault s m args below meth c D kCl (hTys κ) A 6 0 0 (MQ below (va_Qi post (hB D kCl (hTys κ) A) A) args s 0 0 A) M 81 [] [] := by
  obtain ⟨hx, hb, hml, hr, hown, hts, hlocks, hE, hA⟩ := id C
  have hK := hE.1
  intro H locs ls hM hS hl
  unfold wMo_fault_81 at hwp
  refine lv_iconst (v := 0) hx hb d_Mo_fault_81 (by decide) ?_
  exact W.zret (v := (0 : Int32)) hx hb hr (by decide) (fun t ht hW => ⟨⟨(0 : Int32), M, rfl, hwp, by show hw D kCl (hTys κ) A M t.heap; rw [ht]; exact hM⟩, hS.F ht⟩) hS.2.2 d_Mo_fault_82
def wMo_fault_66 (post : Int32 → Hp → Prop)  (x0 : Nat) (x1 : Int32) (x2 : Int32) (x3 : Int32) (x4 : Int32) (y0 : Int32) (y1 : Nat) (M : Hp) : Prop := (∃ M1 : Hp, pF M y1 6 0 (.int y0) M1 ∧ (∃ v5 : Int32, fI M1 x0 6 0 v5 ∧ ((0 < v5 → (wMo_fault_81 post M1)) ∧ (¬ 0 < v5 → ((x1 < x2 → (∃ a11 : Nat, fA M1 x0 6 9 a11 ∧ (∃ v15 : Int32, aI M1 a11 x4 v15 ∧ (∀ z20 : Int32, z20 = (((20 : Int32) * x4) + v15) → (∃ a21 : Nat, fA M1 x0 6 10 a21 ∧ (∃ M29 : Hp, sI M1 a21 z20 x1 M29 ∧ (∃ a30 : Nat, fA M29 x0 6 11 a30 ∧ (∃ M38 : Hp, sI M29 a30 z20 x2 M38 ∧ (∃ a39 : Nat, fA M38 x0 6 12 a39 ∧ (∃ M47 : Hp, sI M38 a39 z20 x3 M47 ∧ (∃ a48 : Nat, fA M47 x0 6 9 a48 ∧ (∃ v52 : Int32, aI M47 a48 x4 v52 ∧ (∃ M61 : Hp, sI M47 a48 x4 (v52 + (1 : Int32)) M61 ∧ (hob M61 x0 6 ∧ (wpMo_told x0 (1 : Int32) M61 (fun (r64 : Int32) (M62 : Hp) => ((r64 = 0 ∨ r64 = 1) ∧ post r64 M62))))))))))))))))) ∧ (¬ x1 < x2 → (wMo_fault_81 post M1)))))))
set_option maxRecDepth 100000 in
set_option maxHeartbeats 4000000 in
theorem tMo_fault_66 {p : Program} {l : Launch} {e : Env} {s : State} {m : MethodId} {args : Array Value} {below : List Frame} {meth : Method} {c : Code} {D : va_G} {κ : Nat → ClassId} {A : Nat → Prop} (C : Cx_Mo_fault p s m args meth c D κ A) (post : Int32 → Hp → Prop)  (x0 : Nat) (x1 : Int32) (x2 : Int32) (x3 : Int32) (x4 : Int32) (y0 : Int32) (y1 : Nat) (M : Hp) (hwp : wMo_fault_66 post x0 x1 x2 x3 x4 y0 y1 M) : Y p l e rm_Mo_fault s m args below meth c D kCl (hTys κ) A 6 0 0 (MQ below (va_Qi post (hB D kCl (hTys κ) A) A) args s 0 0 A) M 66 [(0, .ref x0), (1, .int x1), (2, .int x2), (3, .int x3), (4, .int x4)] [.int y0, .ref y1] := by
  obtain ⟨hx, hb, hml, hr, hown, hts, hlocks, hE, hA⟩ := id C
  have hK := hE.1
  intro H locs ls hM hS hl
  unfold wMo_fault_66 at hwp
  obtain ⟨M1, ⟨fs2, he3, hl4, eM1⟩, hwp⟩ := hwp
  refine h_put (C := "BuckTablesModel") (T := Tc6) (N := 36) (v := .int y0) (ty := .int) hx hb hts inc6 tyc6 tyc6_ok nmc6 hown hK hM hS he3 rfl 0 (by decide) (hts _ kw_720) (fun _ h9 => h9) rfl (by decide +kernel) rfl rfl hl4 d_Mo_fault_66 (fun H locs hM hS => ?_)
  rw [← eM1] at hM
  refine lv_aload_n hx hb d_Mo_fault_69 rfl (lv_at hl 0 rfl) ?_
  obtain ⟨v5, ⟨fs6, he7, hv8⟩, hwp⟩ := hwp
  refine h_get (C := "BuckTablesModel") (T := Tc6) (N := 36) hx hb hts inc6 hown hK hM he7 rfl 0 (by decide) (hts _ kw_720) (fun _ h9 => h9) hv8 d_Mo_fault_70 ?_
  refine lv_if_gt (tgt := 81) hx hb d_Mo_fault_73 (by decide) (fun c9 => ?_) (fun c9 => ?_)
  · replace hwp := hwp.1 c9
    exact tMo_fault_81 C post M1 hwp H locs ls hM hS (lv_sub hl [] rfl)
  · replace hwp := hwp.2 c9
    refine lv_iload_n hx hb d_Mo_fault_76 rfl (lv_at hl 2 rfl) ?_
    refine lv_iload_n hx hb d_Mo_fault_77 rfl (lv_at hl 1 rfl) ?_
    refine lv_icmp_gt (tgt := 83) hx hb d_Mo_fault_78 (by decide) (fun c10 => ?_) (fun c10 => ?_)
    · replace hwp := hwp.1 c10
      refine lv_bipush (v := 20) hx hb d_Mo_fault_83 (by decide) ?_
      refine lv_iload hx hb d_Mo_fault_85 (lv_at hl 4 rfl) ?_
      refine lv_imul hx hb d_Mo_fault_87 ?_
      refine lv_aload_n hx hb d_Mo_fault_88 rfl (lv_at hl 0 rfl) ?_
      obtain ⟨a11, ⟨fs12, he13, hv14⟩, hwp⟩ := hwp
      refine h_get (C := "BuckTablesModel") (T := Tc6) (N := 36) hx hb hts inc6 hown hK hM he13 rfl 9 (by decide) (hts _ kw_729) (fun _ h9 => h9) hv14 d_Mo_fault_89 ?_
      refine lv_iload hx hb d_Mo_fault_92 (lv_at hl 4 rfl) ?_
      obtain ⟨v15, ⟨n16, f17, ha18, hi19, ev15⟩, hwp⟩ := hwp
      refine h_iald hx hb hK hM ha18 rfl hi19 d_Mo_fault_94 ?_
      rw [← ev15]
      refine lv_iadd hx hb d_Mo_fault_95 ?_
      refine lv_topi (fun z20 ez20 => ?_)
      replace hwp := hwp z20 ez20
      refine lv_istore (lv' := [(5, .int z20), (0, .ref x0), (1, .int x1), (2, .int x2), (3, .int x3), (4, .int x4)]) hx hb d_Mo_fault_96 hl (by decide) rfl (fun ls hl => ?_)
      refine lv_aload_n hx hb d_Mo_fault_98 rfl (lv_at hl 1 rfl) ?_
      obtain ⟨a21, ⟨fs22, he23, hv24⟩, hwp⟩ := hwp
      refine h_get (C := "BuckTablesModel") (T := Tc6) (N := 36) hx hb hts inc6 hown hK hM he23 rfl 10 (by decide) (hts _ kw_730) (fun _ h9 => h9) hv24 d_Mo_fault_99 ?_
      refine lv_iload hx hb d_Mo_fault_102 (lv_at hl 0 rfl) ?_
      refine lv_iload_n hx hb d_Mo_fault_104 rfl (lv_at hl 2 rfl) ?_
      obtain ⟨M29, ⟨n25, f26, ha27, hi28, eM29⟩, hwp⟩ := hwp
      refine h_iast hx hb hK hM hS ha27 rfl hi28 d_Mo_fault_105 (fun H locs hM hS => ?_)
      rw [← eM29] at hM
      refine lv_aload_n hx hb d_Mo_fault_106 rfl (lv_at hl 1 rfl) ?_
      obtain ⟨a30, ⟨fs31, he32, hv33⟩, hwp⟩ := hwp
      refine h_get (C := "BuckTablesModel") (T := Tc6) (N := 36) hx hb hts inc6 hown hK hM he32 rfl 11 (by decide) (hts _ kw_731) (fun _ h9 => h9) hv33 d_Mo_fault_107 ?_
      refine lv_iload hx hb d_Mo_fault_110 (lv_at hl 0 rfl) ?_
      refine lv_iload_n hx hb d_Mo_fault_112 rfl (lv_at hl 3 rfl) ?_
      obtain ⟨M38, ⟨n34, f35, ha36, hi37, eM38⟩, hwp⟩ := hwp
      refine h_iast hx hb hK hM hS ha36 rfl hi37 d_Mo_fault_113 (fun H locs hM hS => ?_)
      rw [← eM38] at hM
      refine lv_aload_n hx hb d_Mo_fault_114 rfl (lv_at hl 1 rfl) ?_
      obtain ⟨a39, ⟨fs40, he41, hv42⟩, hwp⟩ := hwp
      refine h_get (C := "BuckTablesModel") (T := Tc6) (N := 36) hx hb hts inc6 hown hK hM he41 rfl 12 (by decide) (hts _ kw_732) (fun _ h9 => h9) hv42 d_Mo_fault_115 ?_
      refine lv_iload hx hb d_Mo_fault_118 (lv_at hl 0 rfl) ?_
      refine lv_iload_n hx hb d_Mo_fault_120 rfl (lv_at hl 4 rfl) ?_
      obtain ⟨M47, ⟨n43, f44, ha45, hi46, eM47⟩, hwp⟩ := hwp
      refine h_iast hx hb hK hM hS ha45 rfl hi46 d_Mo_fault_121 (fun H locs hM hS => ?_)
      rw [← eM47] at hM
      refine lv_aload_n hx hb d_Mo_fault_122 rfl (lv_at hl 1 rfl) ?_
      obtain ⟨a48, ⟨fs49, he50, hv51⟩, hwp⟩ := hwp
      refine h_get (C := "BuckTablesModel") (T := Tc6) (N := 36) hx hb hts inc6 hown hK hM he50 rfl 9 (by decide) (hts _ kw_729) (fun _ h9 => h9) hv51 d_Mo_fault_123 ?_
      refine lv_iload hx hb d_Mo_fault_126 (lv_at hl 5 rfl) ?_
      refine lv_dup2_11 hx hb d_Mo_fault_128 rfl rfl ?_
      obtain ⟨v52, ⟨n53, f54, ha55, hi56, ev52⟩, hwp⟩ := hwp
      refine h_iald hx hb hK hM ha55 rfl hi56 d_Mo_fault_129 ?_
      rw [← ev52]
      refine lv_iconst (v := 1) hx hb d_Mo_fault_130 (by decide) ?_
      refine lv_iadd hx hb d_Mo_fault_131 ?_
      obtain ⟨M61, ⟨n57, f58, ha59, hi60, eM61⟩, hwp⟩ := hwp
      refine h_iast hx hb hK hM hS ha59 rfl hi60 d_Mo_fault_132 (fun H locs hM hS => ?_)
      rw [← eM61] at hM
      refine lv_aload_n hx hb d_Mo_fault_133 rfl (lv_at hl 1 rfl) ?_
      refine lv_iconst (v := 1) hx hb d_Mo_fault_134 (by decide) ?_
      obtain ⟨ho63, hwp⟩ := hwp
      refine h_calli hM hS hA (va_runV (As := [.int (1 : Int32)]) (rest := []) ⟨hx, hb, hml, hown, hts⟩ (metMo_told l D κ H.size x0 (1 : Int32) M61 _ hwp) (cwV 1 hts (gV kw_842 kw_844 kp_23 kw_8 kw_845) rfl rfl rfl (by decide +kernel) ⟨(Nat.le_of_ble_eq_true rfl), (Nat.le_of_ble_eq_true rfl)⟩) (h_preV hE hM hS ho63 (r := ("BuckTablesModel", Tc6, 36)) rfl) rfl rfl hl.1 rfl (lv_room (Nat.le_of_ble_eq_true rfl)) d_Mo_fault_135 ⟨(Nat.le_of_ble_eq_true rfl), (Nat.le_of_ble_eq_true rfl)⟩) (fun r64 M62 H locs hwp hM hS => ?_)
      obtain ⟨hz65, hwp⟩ := hwp
      exact W.zret (v := r64) hx hb hr (by rcases hz65 with h | h <;> rw [h] <;> rfl) (fun t ht hW => ⟨⟨r64, M62, rfl, hwp, by show hw D kCl (hTys κ) A M62 t.heap; rw [ht]; exact hM⟩, hS.F ht⟩) hS.2.2 d_Mo_fault_138
    · replace hwp := hwp.2 c10
      exact tMo_fault_81 C post M1 hwp H locs ls hM hS (lv_sub hl [] rfl)
def wMo_fault_65 (post : Int32 → Hp → Prop)  (x0 : Nat) (x1 : Int32) (x2 : Int32) (x3 : Int32) (x4 : Int32) (y0 : Nat) (M : Hp) : Prop := (wMo_fault_66 post x0 x1 x2 x3 x4 (2 : Int32) y0 M)
set_option maxRecDepth 100000 in
set_option maxHeartbeats 4000000 in
theorem tMo_fault_65 {p : Program} {l : Launch} {e : Env} {s : State} {m : MethodId} {args : Array Value} {below : List Frame} {meth : Method} {c : Code} {D : va_G} {κ : Nat → ClassId} {A : Nat → Prop} (C : Cx_Mo_fault p s m args meth c D κ A) (post : Int32 → Hp → Prop)  (x0 : Nat) (x1 : Int32) (x2 : Int32) (x3 : Int32) (x4 : Int32) (y0 : Nat) (M : Hp) (hwp : wMo_fault_65 post x0 x1 x2 x3 x4 y0 M) : Y p l e rm_Mo_fault s m args below meth c D kCl (hTys κ) A 6 0 0 (MQ below (va_Qi post (hB D kCl (hTys κ) A) A) args s 0 0 A) M 65 [(0, .ref x0), (1, .int x1), (2, .int x2), (3, .int x3), (4, .int x4)] [.ref y0] := by
  obtain ⟨hx, hb, hml, hr, hown, hts, hlocks, hE, hA⟩ := id C
  have hK := hE.1
  intro H locs ls hM hS hl
  unfold wMo_fault_65 at hwp
  refine lv_iconst (v := 2) hx hb d_Mo_fault_65 (by decide) ?_
  exact tMo_fault_66 C post x0 x1 x2 x3 x4 (2 : Int32) y0 M hwp H locs ls hM hS (lv_sub hl [0, 1, 2, 3, 4] rfl)
def wpMo_fault (self : Nat) (p0 : Int32) (p1 : Int32) (p2 : Int32) (M : Hp) (post : Int32 → Hp → Prop) : Prop := (∃ v66 : Int32, fI M self 6 4 v66 ∧ (∀ z70 : Int32, z70 = (v66 - (1 : Int32)) → (∃ a71 : Nat, fA M self 6 9 a71 ∧ (∃ v75 : Int32, aI M a71 z70 v75 ∧ ((v75 = (20 : Int32) → (wMo_fault_66 post self p0 p1 p2 z70 (1 : Int32) self M)) ∧ (¬ v75 = (20 : Int32) → (wpMo_isIn (p0.toInt64) (0 : Int64) (10000000 : Int64) M (fun (r82 : Int32) (M81 : Hp) => ((r82 = 0 → (wMo_fault_65 post self p0 p1 p2 z70 self M81)) ∧ (¬ r82 = 0 → (wpMo_isIn (p1.toInt64) (0 : Int64) (10000000 : Int64) M81 (fun (r85 : Int32) (M84 : Hp) => ((r85 = 0 → (wMo_fault_65 post self p0 p1 p2 z70 self M84)) ∧ (¬ r85 = 0 → (wpMo_isIn (p2.toInt64) (0 : Int64) (7 : Int64) M84 (fun (r88 : Int32) (M87 : Hp) => ((r88 = 0 → (wMo_fault_65 post self p0 p1 p2 z70 self M87)) ∧ (¬ r88 = 0 → (wMo_fault_66 post self p0 p1 p2 z70 (0 : Int32) self M87)))))))))))))))))))
set_option maxRecDepth 100000 in
set_option maxHeartbeats 4000000 in
theorem eMo_fault {p : Program} {l : Launch} {e : Env} {s : State} {m : MethodId} {args : Array Value} {below : List Frame} {meth : Method} {c : Code} {D : va_G} {κ : Nat → ClassId} {A : Nat → Prop} (C : Cx_Mo_fault p s m args meth c D κ A) (post : Int32 → Hp → Prop) (self : Nat) (p0 : Int32) (p1 : Int32) (p2 : Int32) (M : Hp) (hwp : wpMo_fault self p0 p1 p2 M post) : Y p l e rm_Mo_fault s m args below meth c D kCl (hTys κ) A 6 0 0 (MQ below (va_Qi post (hB D kCl (hTys κ) A) A) args s 0 0 A) M 0 [(0, .ref self), (1, .int p0), (2, .int p1), (3, .int p2)] [] := by
  obtain ⟨hx, hb, hml, hr, hown, hts, hlocks, hE, hA⟩ := id C
  have hK := hE.1
  intro H locs ls hM hS hl
  unfold wpMo_fault at hwp
  refine lv_aload_n hx hb d_Mo_fault_0 rfl (lv_at hl 0 rfl) ?_
  obtain ⟨v66, ⟨fs67, he68, hv69⟩, hwp⟩ := hwp
  refine h_get (C := "BuckTablesModel") (T := Tc6) (N := 36) hx hb hts inc6 hown hK hM he68 rfl 4 (by decide) (hts _ kw_724) (fun _ h9 => h9) hv69 d_Mo_fault_1 ?_
  refine lv_iconst (v := 1) hx hb d_Mo_fault_4 (by decide) ?_
  refine lv_isub hx hb d_Mo_fault_5 ?_
  refine lv_topi (fun z70 ez70 => ?_)
  replace hwp := hwp z70 ez70
  refine lv_istore (lv' := [(4, .int z70), (0, .ref self), (1, .int p0), (2, .int p1), (3, .int p2)]) hx hb d_Mo_fault_6 hl (by decide) rfl (fun ls hl => ?_)
  refine lv_aload_n hx hb d_Mo_fault_8 rfl (lv_at hl 1 rfl) ?_
  refine lv_aload_n hx hb d_Mo_fault_9 rfl (lv_at hl 1 rfl) ?_
  obtain ⟨a71, ⟨fs72, he73, hv74⟩, hwp⟩ := hwp
  refine h_get (C := "BuckTablesModel") (T := Tc6) (N := 36) hx hb hts inc6 hown hK hM he73 rfl 9 (by decide) (hts _ kw_729) (fun _ h9 => h9) hv74 d_Mo_fault_10 ?_
  refine lv_iload hx hb d_Mo_fault_13 (lv_at hl 0 rfl) ?_
  obtain ⟨v75, ⟨n76, f77, ha78, hi79, ev75⟩, hwp⟩ := hwp
  refine h_iald hx hb hK hM ha78 rfl hi79 d_Mo_fault_15 ?_
  rw [← ev75]
  refine lv_bipush (v := 20) hx hb d_Mo_fault_16 (by decide) ?_
  refine lv_icmp_ne (tgt := 25) hx hb d_Mo_fault_18 (by decide) (fun c80 => ?_) (fun c80 => ?_)
  · replace hwp := hwp.2 c80
    refine lv_iload_n hx hb d_Mo_fault_25 rfl (lv_at hl 2 rfl) ?_
    refine lv_i2l hx hb d_Mo_fault_26 rfl ?_
    refine lv_lconst (v := 0) hx hb d_Mo_fault_27 (by decide) ?_
    refine lv_ldc2 (v := (10000000)) hx hb hown (hts _ kw_837) d_Mo_fault_28 ?_
    refine h_calli hM hS hA (va_runS (As := [.long (p0.toInt64), .long (0 : Int64), .long (10000000 : Int64)]) (rest := [.ref self]) ⟨hx, hb, hml, hown, hts⟩ (metMo_isIn l D κ H.size (p0.toInt64) (0 : Int64) (10000000 : Int64) M _ hwp) (cwS 3 hts (gS kw_838 kw_839 kw_8 kw_840) rfl rfl rfl (by decide +kernel) ⟨(Nat.le_of_ble_eq_true rfl), (Nat.le_of_ble_eq_true rfl)⟩) (h_preS hE hM hS) rfl rfl hl.1 rfl (lv_room (Nat.le_of_ble_eq_true rfl)) d_Mo_fault_31 ⟨(Nat.le_of_ble_eq_true rfl), (Nat.le_of_ble_eq_true rfl)⟩) (fun r82 M81 H locs hwp hM hS => ?_)
    refine lv_if_eq (tgt := 65) hx hb d_Mo_fault_34 (by decide) (fun c83 => ?_) (fun c83 => ?_)
    · replace hwp := hwp.1 c83
      exact tMo_fault_65 C post self p0 p1 p2 z70 self M81 hwp H locs ls hM hS (lv_sub hl [1, 2, 3, 4, 0] rfl)
    · replace hwp := hwp.2 c83
      refine lv_iload_n hx hb d_Mo_fault_37 rfl (lv_at hl 3 rfl) ?_
      refine lv_i2l hx hb d_Mo_fault_38 rfl ?_
      refine lv_lconst (v := 0) hx hb d_Mo_fault_39 (by decide) ?_
      refine lv_ldc2 (v := (10000000)) hx hb hown (hts _ kw_837) d_Mo_fault_40 ?_
      refine h_calli hM hS hA (va_runS (As := [.long (p1.toInt64), .long (0 : Int64), .long (10000000 : Int64)]) (rest := [.ref self]) ⟨hx, hb, hml, hown, hts⟩ (metMo_isIn l D κ H.size (p1.toInt64) (0 : Int64) (10000000 : Int64) M81 _ hwp) (cwS 3 hts (gS kw_838 kw_839 kw_8 kw_840) rfl rfl rfl (by decide +kernel) ⟨(Nat.le_of_ble_eq_true rfl), (Nat.le_of_ble_eq_true rfl)⟩) (h_preS hE hM hS) rfl rfl hl.1 rfl (lv_room (Nat.le_of_ble_eq_true rfl)) d_Mo_fault_43 ⟨(Nat.le_of_ble_eq_true rfl), (Nat.le_of_ble_eq_true rfl)⟩) (fun r85 M84 H locs hwp hM hS => ?_)
      refine lv_if_eq (tgt := 65) hx hb d_Mo_fault_46 (by decide) (fun c86 => ?_) (fun c86 => ?_)
      · replace hwp := hwp.1 c86
        exact tMo_fault_65 C post self p0 p1 p2 z70 self M84 hwp H locs ls hM hS (lv_sub hl [1, 2, 3, 4, 0] rfl)
      · replace hwp := hwp.2 c86
        refine lv_iload_n hx hb d_Mo_fault_49 rfl (lv_at hl 4 rfl) ?_
        refine lv_i2l hx hb d_Mo_fault_50 rfl ?_
        refine lv_lconst (v := 0) hx hb d_Mo_fault_51 (by decide) ?_
        refine lv_ldc2 (v := (7)) hx hb hown (hts _ kw_850) d_Mo_fault_52 ?_
        refine h_calli hM hS hA (va_runS (As := [.long (p2.toInt64), .long (0 : Int64), .long (7 : Int64)]) (rest := [.ref self]) ⟨hx, hb, hml, hown, hts⟩ (metMo_isIn l D κ H.size (p2.toInt64) (0 : Int64) (7 : Int64) M84 _ hwp) (cwS 3 hts (gS kw_838 kw_839 kw_8 kw_840) rfl rfl rfl (by decide +kernel) ⟨(Nat.le_of_ble_eq_true rfl), (Nat.le_of_ble_eq_true rfl)⟩) (h_preS hE hM hS) rfl rfl hl.1 rfl (lv_room (Nat.le_of_ble_eq_true rfl)) d_Mo_fault_55 ⟨(Nat.le_of_ble_eq_true rfl), (Nat.le_of_ble_eq_true rfl)⟩) (fun r88 M87 H locs hwp hM hS => ?_)
        refine lv_if_eq (tgt := 65) hx hb d_Mo_fault_58 (by decide) (fun c89 => ?_) (fun c89 => ?_)
        · replace hwp := hwp.1 c89
          exact tMo_fault_65 C post self p0 p1 p2 z70 self M87 hwp H locs ls hM hS (lv_sub hl [1, 2, 3, 4, 0] rfl)
        · replace hwp := hwp.2 c89
          refine lv_iconst (v := 0) hx hb d_Mo_fault_61 (by decide) ?_
          refine lv_goto (tgt := 66) hx hb d_Mo_fault_62 (by decide) ?_
          exact tMo_fault_66 C post self p0 p1 p2 z70 (0 : Int32) self M87 hwp H locs ls hM hS (lv_sub hl [1, 2, 3, 4, 0] rfl)
  · replace hwp := hwp.1 c80
    refine lv_iconst (v := 1) hx hb d_Mo_fault_21 (by decide) ?_
    refine lv_goto (tgt := 66) hx hb d_Mo_fault_22 (by decide) ?_
    exact tMo_fault_66 C post self p0 p1 p2 z70 (1 : Int32) self M hwp H locs ls hM hS (lv_sub hl [1, 2, 3, 4, 0] rfl)
set_option maxRecDepth 100000 in
set_option maxHeartbeats 4000000 in
theorem metMo_fault (l : Launch) (D : va_G) (κ : Nat → ClassId) (sz : Nat) (self : Nat) (p0 : Int32) (p1 : Int32) (p2 : Int32) (M : Hp) (post : Int32 → Hp → Prop) (hwp : wpMo_fault self p0 p1 p2 M post) : Met l y_Mo_fault ws_Mo_fault rm_Mo_fault (hPc D kCl (hTys κ) M sz [.ref self, .int p0, .int p1, .int p2]) (va_Qi post (hB D kCl (hTys κ) (hAx M sz)) (hAx M sz)) 0 0 (hAx M sz) := by
  refine Met.ofW (cc := prog_8_method_7_code) (maxL := 6) (ret := (some .boolean)) (by decide +kernel) rfl ?_
  intro p e s m args below meth c s₁ B hml hv
  obtain ⟨rfl, hsz, hE, hM0⟩ := hv
  have hts : ∀ w ∈ WG, w.before _ s = true := fun w h => atoms_spec (ws := ws_Mo_fault) B.pre w (List.mem_cons_of_mem _ h)
  subst hsz
  have C : Cx_Mo_fault p s m _ meth c D κ (hAx M s.heap.size) := ⟨B.exec, B.bytes, hml, B.returns, findClass_of_methodNamed B.named, hts, B.notSynchronized, hE, fun q h => Or.inr h⟩
  have hl := lv_entry ([.ref self, .int p0, .int p1, .int p2]) (n := 6) (Nat.le_of_ble_eq_true rfl)
  rw [lg_entry_eq]
  generalize (lg_sl ([.ref self, .int p0, .int p1, .int p2]) ++ List.replicate (6 - (lg_sl ([.ref self, .int p0, .int p1, .int p2])).length) Slot.unset).toArray = ls at hl ⊢
  exact eMo_fault C post self p0 p1 p2 M hwp s.heap [] ls (hM0.self (sz := s.heap.size)) va_S.rf hl
abbrev rm_Mo_stems : Room := { frames := 0, cells := 0, slots := 0, locals := 0 }
def Cx_Mo_stems (p : Program) (s : State) (m : MethodId) (args : Array Value) (meth : Method) (c : Code) (D : va_G) (κ : Nat → ClassId) (A : Nat → Prop) : Prop := p.tables.exec = Jvm.exec ∧ c.code = prog_8_method_8_code ∧ c.maxLocals = 1 ∧ meth.sig.returnType = (some .int) ∧ s.vm.findClass "BuckTablesModel" = some m.cls ∧ (∀ w ∈ WG, w.before args s = true) ∧ meth.locks = false ∧ hEnv D kCl (hTys κ) A s ∧ (∀ q, s.heap.size ≤ q → A q)
def wMo_stems_15 (post : Int32 → Hp → Prop)  (x0 : Nat) (y0 : Int32) (y1 : Nat) (M : Hp) : Prop := (∃ M1 : Hp, pF M y1 6 0 (.int y0) M1 ∧ (∃ v5 : Int32, fI M1 x0 6 0 v5 ∧ ((v5 ≤ 0 → (∃ v10 : Int32, fI M1 x0 6 4 v10 ∧ (∃ M14 : Hp, pF M1 x0 6 4 (.int (v10 + (1 : Int32))) M14 ∧ (∃ M18 : Hp, pF M14 x0 6 33 (.int (0 : Int32)) M18 ∧ (∃ v22 : Int32, fI M18 x0 6 4 v22 ∧ (post v22 M18)))))) ∧ (¬ v5 ≤ 0 → (post (0 : Int32) M1)))))
set_option maxRecDepth 100000 in
set_option maxHeartbeats 4000000 in
theorem tMo_stems_15 {p : Program} {l : Launch} {e : Env} {s : State} {m : MethodId} {args : Array Value} {below : List Frame} {meth : Method} {c : Code} {D : va_G} {κ : Nat → ClassId} {A : Nat → Prop} (C : Cx_Mo_stems p s m args meth c D κ A) (post : Int32 → Hp → Prop)  (x0 : Nat) (y0 : Int32) (y1 : Nat) (M : Hp) (hwp : wMo_stems_15 post x0 y0 y1 M) : Y p l e rm_Mo_stems s m args below meth c D kCl (hTys κ) A 1 0 0 (MQ below (va_Qi post (hB D kCl (hTys κ) A) A) args s 0 0 A) M 15 [(0, .ref x0)] [.int y0, .ref y1] := by
  obtain ⟨hx, hb, hml, hr, hown, hts, hlocks, hE, hA⟩ := id C
  have hK := hE.1
  intro H locs ls hM hS hl
  unfold wMo_stems_15 at hwp
  obtain ⟨M1, ⟨fs2, he3, hl4, eM1⟩, hwp⟩ := hwp
  refine h_put (C := "BuckTablesModel") (T := Tc6) (N := 36) (v := .int y0) (ty := .int) hx hb hts inc6 tyc6 tyc6_ok nmc6 hown hK hM hS he3 rfl 0 (by decide) (hts _ kw_720) (fun _ h9 => h9) rfl (by decide +kernel) rfl rfl hl4 d_Mo_stems_15 (fun H locs hM hS => ?_)
  rw [← eM1] at hM
  refine lv_aload_n hx hb d_Mo_stems_18 rfl (lv_at hl 0 rfl) ?_
  obtain ⟨v5, ⟨fs6, he7, hv8⟩, hwp⟩ := hwp
  refine h_get (C := "BuckTablesModel") (T := Tc6) (N := 36) hx hb hts inc6 hown hK hM he7 rfl 0 (by decide) (hts _ kw_720) (fun _ h9 => h9) hv8 d_Mo_stems_19 ?_
  refine lv_if_le (tgt := 27) hx hb d_Mo_stems_22 (by decide) (fun c9 => ?_) (fun c9 => ?_)
  · replace hwp := hwp.1 c9
    refine lv_aload_n hx hb d_Mo_stems_27 rfl (lv_at hl 0 rfl) ?_
    refine lv_dup hx hb d_Mo_stems_28 rfl ?_
    obtain ⟨v10, ⟨fs11, he12, hv13⟩, hwp⟩ := hwp
    refine h_get (C := "BuckTablesModel") (T := Tc6) (N := 36) hx hb hts inc6 hown hK hM he12 rfl 4 (by decide) (hts _ kw_724) (fun _ h9 => h9) hv13 d_Mo_stems_29 ?_
    refine lv_iconst (v := 1) hx hb d_Mo_stems_32 (by decide) ?_
    refine lv_iadd hx hb d_Mo_stems_33 ?_
    obtain ⟨M14, ⟨fs15, he16, hl17, eM14⟩, hwp⟩ := hwp
    refine h_put (C := "BuckTablesModel") (T := Tc6) (N := 36) (v := .int (v10 + (1 : Int32))) (ty := .int) hx hb hts inc6 tyc6 tyc6_ok nmc6 hown hK hM hS he16 rfl 4 (by decide) (hts _ kw_724) (fun _ h9 => h9) rfl (by decide +kernel) rfl rfl hl17 d_Mo_stems_34 (fun H locs hM hS => ?_)
    rw [← eM14] at hM
    refine lv_aload_n hx hb d_Mo_stems_37 rfl (lv_at hl 0 rfl) ?_
    refine lv_iconst (v := 0) hx hb d_Mo_stems_38 (by decide) ?_
    obtain ⟨M18, ⟨fs19, he20, hl21, eM18⟩, hwp⟩ := hwp
    refine h_put (C := "BuckTablesModel") (T := Tc6) (N := 36) (v := .int (0 : Int32)) (ty := .boolean) hx hb hts inc6 tyc6 tyc6_ok nmc6 hown hK hM hS he20 rfl 33 (by decide) (hts _ kw_753) (fun _ h9 => h9) rfl (by decide +kernel) (by decide) (by decide) hl21 d_Mo_stems_39 (fun H locs hM hS => ?_)
    rw [← eM18] at hM
    refine lv_aload_n hx hb d_Mo_stems_42 rfl (lv_at hl 0 rfl) ?_
    obtain ⟨v22, ⟨fs23, he24, hv25⟩, hwp⟩ := hwp
    refine h_get (C := "BuckTablesModel") (T := Tc6) (N := 36) hx hb hts inc6 hown hK hM he24 rfl 4 (by decide) (hts _ kw_724) (fun _ h9 => h9) hv25 d_Mo_stems_43 ?_
    exact W.iret (v := v22) hx hb hr (fun t ht hW => ⟨⟨v22, M18, rfl, hwp, by show hw D kCl (hTys κ) A M18 t.heap; rw [ht]; exact hM⟩, hS.F ht⟩) hS.2.2 d_Mo_stems_46
  · replace hwp := hwp.2 c9
    refine lv_iconst (v := 0) hx hb d_Mo_stems_25 (by decide) ?_
    exact W.iret (v := (0 : Int32)) hx hb hr (fun t ht hW => ⟨⟨(0 : Int32), M1, rfl, hwp, by show hw D kCl (hTys κ) A M1 t.heap; rw [ht]; exact hM⟩, hS.F ht⟩) hS.2.2 d_Mo_stems_26
def wpMo_stems (self : Nat) (M : Hp) (post : Int32 → Hp → Prop) : Prop := (∃ v26 : Int32, fI M self 6 4 v26 ∧ ((v26 = (6 : Int32) → (wMo_stems_15 post self (1 : Int32) self M)) ∧ (¬ v26 = (6 : Int32) → (wMo_stems_15 post self (0 : Int32) self M))))
set_option maxRecDepth 100000 in
set_option maxHeartbeats 4000000 in
theorem eMo_stems {p : Program} {l : Launch} {e : Env} {s : State} {m : MethodId} {args : Array Value} {below : List Frame} {meth : Method} {c : Code} {D : va_G} {κ : Nat → ClassId} {A : Nat → Prop} (C : Cx_Mo_stems p s m args meth c D κ A) (post : Int32 → Hp → Prop) (self : Nat) (M : Hp) (hwp : wpMo_stems self M post) : Y p l e rm_Mo_stems s m args below meth c D kCl (hTys κ) A 1 0 0 (MQ below (va_Qi post (hB D kCl (hTys κ) A) A) args s 0 0 A) M 0 [(0, .ref self)] [] := by
  obtain ⟨hx, hb, hml, hr, hown, hts, hlocks, hE, hA⟩ := id C
  have hK := hE.1
  intro H locs ls hM hS hl
  unfold wpMo_stems at hwp
  refine lv_aload_n hx hb d_Mo_stems_0 rfl (lv_at hl 0 rfl) ?_
  refine lv_aload_n hx hb d_Mo_stems_1 rfl (lv_at hl 0 rfl) ?_
  obtain ⟨v26, ⟨fs27, he28, hv29⟩, hwp⟩ := hwp
  refine h_get (C := "BuckTablesModel") (T := Tc6) (N := 36) hx hb hts inc6 hown hK hM he28 rfl 4 (by decide) (hts _ kw_724) (fun _ h9 => h9) hv29 d_Mo_stems_2 ?_
  refine lv_bipush (v := 6) hx hb d_Mo_stems_5 (by decide) ?_
  refine lv_icmp_ne (tgt := 14) hx hb d_Mo_stems_7 (by decide) (fun c30 => ?_) (fun c30 => ?_)
  · replace hwp := hwp.2 c30
    refine lv_iconst (v := 0) hx hb d_Mo_stems_14 (by decide) ?_
    exact tMo_stems_15 C post self (0 : Int32) self M hwp H locs ls hM hS (lv_sub hl [0] rfl)
  · replace hwp := hwp.1 c30
    refine lv_iconst (v := 1) hx hb d_Mo_stems_10 (by decide) ?_
    refine lv_goto (tgt := 15) hx hb d_Mo_stems_11 (by decide) ?_
    exact tMo_stems_15 C post self (1 : Int32) self M hwp H locs ls hM hS (lv_sub hl [0] rfl)
set_option maxRecDepth 100000 in
set_option maxHeartbeats 4000000 in
theorem metMo_stems (l : Launch) (D : va_G) (κ : Nat → ClassId) (sz : Nat) (self : Nat) (M : Hp) (post : Int32 → Hp → Prop) (hwp : wpMo_stems self M post) : Met l y_Mo_stems ws_Mo_stems rm_Mo_stems (hPc D kCl (hTys κ) M sz [.ref self]) (va_Qi post (hB D kCl (hTys κ) (hAx M sz)) (hAx M sz)) 0 0 (hAx M sz) := by
  refine Met.ofW (cc := prog_8_method_8_code) (maxL := 1) (ret := (some .int)) (by decide +kernel) rfl ?_
  intro p e s m args below meth c s₁ B hml hv
  obtain ⟨rfl, hsz, hE, hM0⟩ := hv
  have hts : ∀ w ∈ WG, w.before _ s = true := fun w h => atoms_spec (ws := ws_Mo_stems) B.pre w (List.mem_cons_of_mem _ h)
  subst hsz
  have C : Cx_Mo_stems p s m _ meth c D κ (hAx M s.heap.size) := ⟨B.exec, B.bytes, hml, B.returns, findClass_of_methodNamed B.named, hts, B.notSynchronized, hE, fun q h => Or.inr h⟩
  have hl := lv_entry ([.ref self]) (n := 1) (Nat.le_of_ble_eq_true rfl)
  rw [lg_entry_eq]
  generalize (lg_sl ([.ref self]) ++ List.replicate (1 - (lg_sl ([.ref self])).length) Slot.unset).toArray = ls at hl ⊢
  exact eMo_stems C post self M hwp s.heap [] ls (hM0.self (sz := s.heap.size)) va_S.rf hl
abbrev rm_Mo_product : Room := { frames := 1, cells := 0, slots := 0, locals := 25 }
def Cx_Mo_product (p : Program) (s : State) (m : MethodId) (args : Array Value) (meth : Method) (c : Code) (D : va_G) (κ : Nat → ClassId) (A : Nat → Prop) : Prop := p.tables.exec = Jvm.exec ∧ c.code = prog_8_method_9_code ∧ c.maxLocals = 8 ∧ meth.sig.returnType = (some .int) ∧ s.vm.findClass "BuckTablesModel" = some m.cls ∧ (∀ w ∈ WG, w.before args s = true) ∧ meth.locks = false ∧ hEnv D kCl (hTys κ) A s ∧ (∀ q, s.heap.size ≤ q → A q)
def wMo_product_97 (post : Int32 → Hp → Prop)  (x0 : Nat) (x1 : Int32) (x2 : Int32) (x3 : Int32) (x4 : Int32) (x5 : Int64) (y0 : Int32) (y1 : Nat) (M : Hp) : Prop := (∃ M1 : Hp, pF M y1 6 0 (.int y0) M1 ∧ (∃ v5 : Int32, fI M1 x0 6 0 v5 ∧ ((v5 ≤ 0 → (∃ a10 : Nat, fA M1 x0 6 15 a10 ∧ (∃ v14 : Int32, fI M1 x0 6 14 v14 ∧ (∃ M22 : Hp, sI M1 a10 v14 x1 M22 ∧ (∃ a23 : Nat, fA M22 x0 6 16 a23 ∧ (∃ v27 : Int32, fI M22 x0 6 14 v27 ∧ (∃ M35 : Hp, sI M22 a23 v27 x2 M35 ∧ (∃ a36 : Nat, fA M35 x0 6 17 a36 ∧ (∃ v40 : Int32, fI M35 x0 6 14 v40 ∧ (∃ M48 : Hp, sI M35 a36 v40 x3 M48 ∧ (∃ a49 : Nat, fA M48 x0 6 18 a49 ∧ (∃ v53 : Int32, fI M48 x0 6 14 v53 ∧ (∃ M61 : Hp, sI M48 a49 v53 x4 M61 ∧ (∃ a62 : Nat, fA M61 x0 6 19 a62 ∧ (∃ v66 : Int32, fI M61 x0 6 14 v66 ∧ (∃ M74 : Hp, sJ M61 a62 v66 x5 M74 ∧ (∃ v75 : Int32, fI M74 x0 6 14 v75 ∧ (∃ M79 : Hp, pF M74 x0 6 14 (.int (v75 + (1 : Int32))) M79 ∧ (∃ M83 : Hp, pF M79 x0 6 33 (.int (0 : Int32)) M83 ∧ (∃ v87 : Int32, fI M83 x0 6 14 v87 ∧ (post (v87 - (1 : Int32)) M83))))))))))))))))))))) ∧ (¬ v5 ≤ 0 → (post (0 : Int32) M1)))))
set_option maxRecDepth 100000 in
set_option maxHeartbeats 4000000 in
theorem tMo_product_97 {p : Program} {l : Launch} {e : Env} {s : State} {m : MethodId} {args : Array Value} {below : List Frame} {meth : Method} {c : Code} {D : va_G} {κ : Nat → ClassId} {A : Nat → Prop} (C : Cx_Mo_product p s m args meth c D κ A) (post : Int32 → Hp → Prop)  (x0 : Nat) (x1 : Int32) (x2 : Int32) (x3 : Int32) (x4 : Int32) (x5 : Int64) (y0 : Int32) (y1 : Nat) (M : Hp) (hwp : wMo_product_97 post x0 x1 x2 x3 x4 x5 y0 y1 M) : Y p l e rm_Mo_product s m args below meth c D kCl (hTys κ) A 8 0 0 (MQ below (va_Qi post (hB D kCl (hTys κ) A) A) args s 0 0 A) M 97 [(0, .ref x0), (1, .int x1), (2, .int x2), (3, .int x3), (4, .int x4), (5, .long x5)] [.int y0, .ref y1] := by
  obtain ⟨hx, hb, hml, hr, hown, hts, hlocks, hE, hA⟩ := id C
  have hK := hE.1
  intro H locs ls hM hS hl
  unfold wMo_product_97 at hwp
  obtain ⟨M1, ⟨fs2, he3, hl4, eM1⟩, hwp⟩ := hwp
  refine h_put (C := "BuckTablesModel") (T := Tc6) (N := 36) (v := .int y0) (ty := .int) hx hb hts inc6 tyc6 tyc6_ok nmc6 hown hK hM hS he3 rfl 0 (by decide) (hts _ kw_720) (fun _ h9 => h9) rfl (by decide +kernel) rfl rfl hl4 d_Mo_product_97 (fun H locs hM hS => ?_)
  rw [← eM1] at hM
  refine lv_aload_n hx hb d_Mo_product_100 rfl (lv_at hl 0 rfl) ?_
  obtain ⟨v5, ⟨fs6, he7, hv8⟩, hwp⟩ := hwp
  refine h_get (C := "BuckTablesModel") (T := Tc6) (N := 36) hx hb hts inc6 hown hK hM he7 rfl 0 (by decide) (hts _ kw_720) (fun _ h9 => h9) hv8 d_Mo_product_101 ?_
  refine lv_if_le (tgt := 109) hx hb d_Mo_product_104 (by decide) (fun c9 => ?_) (fun c9 => ?_)
  · replace hwp := hwp.1 c9
    refine lv_aload_n hx hb d_Mo_product_109 rfl (lv_at hl 0 rfl) ?_
    obtain ⟨a10, ⟨fs11, he12, hv13⟩, hwp⟩ := hwp
    refine h_get (C := "BuckTablesModel") (T := Tc6) (N := 36) hx hb hts inc6 hown hK hM he12 rfl 15 (by decide) (hts _ kw_735) (fun _ h9 => h9) hv13 d_Mo_product_110 ?_
    refine lv_aload_n hx hb d_Mo_product_113 rfl (lv_at hl 0 rfl) ?_
    obtain ⟨v14, ⟨fs15, he16, hv17⟩, hwp⟩ := hwp
    refine h_get (C := "BuckTablesModel") (T := Tc6) (N := 36) hx hb hts inc6 hown hK hM he16 rfl 14 (by decide) (hts _ kw_734) (fun _ h9 => h9) hv17 d_Mo_product_114 ?_
    refine lv_iload_n hx hb d_Mo_product_117 rfl (lv_at hl 1 rfl) ?_
    obtain ⟨M22, ⟨n18, f19, ha20, hi21, eM22⟩, hwp⟩ := hwp
    refine h_iast hx hb hK hM hS ha20 rfl hi21 d_Mo_product_118 (fun H locs hM hS => ?_)
    rw [← eM22] at hM
    refine lv_aload_n hx hb d_Mo_product_119 rfl (lv_at hl 0 rfl) ?_
    obtain ⟨a23, ⟨fs24, he25, hv26⟩, hwp⟩ := hwp
    refine h_get (C := "BuckTablesModel") (T := Tc6) (N := 36) hx hb hts inc6 hown hK hM he25 rfl 16 (by decide) (hts _ kw_736) (fun _ h9 => h9) hv26 d_Mo_product_120 ?_
    refine lv_aload_n hx hb d_Mo_product_123 rfl (lv_at hl 0 rfl) ?_
    obtain ⟨v27, ⟨fs28, he29, hv30⟩, hwp⟩ := hwp
    refine h_get (C := "BuckTablesModel") (T := Tc6) (N := 36) hx hb hts inc6 hown hK hM he29 rfl 14 (by decide) (hts _ kw_734) (fun _ h9 => h9) hv30 d_Mo_product_124 ?_
    refine lv_iload_n hx hb d_Mo_product_127 rfl (lv_at hl 2 rfl) ?_
    obtain ⟨M35, ⟨n31, f32, ha33, hi34, eM35⟩, hwp⟩ := hwp
    refine h_iast hx hb hK hM hS ha33 rfl hi34 d_Mo_product_128 (fun H locs hM hS => ?_)
    rw [← eM35] at hM
    refine lv_aload_n hx hb d_Mo_product_129 rfl (lv_at hl 0 rfl) ?_
    obtain ⟨a36, ⟨fs37, he38, hv39⟩, hwp⟩ := hwp
    refine h_get (C := "BuckTablesModel") (T := Tc6) (N := 36) hx hb hts inc6 hown hK hM he38 rfl 17 (by decide) (hts _ kw_737) (fun _ h9 => h9) hv39 d_Mo_product_130 ?_
    refine lv_aload_n hx hb d_Mo_product_133 rfl (lv_at hl 0 rfl) ?_
    obtain ⟨v40, ⟨fs41, he42, hv43⟩, hwp⟩ := hwp
    refine h_get (C := "BuckTablesModel") (T := Tc6) (N := 36) hx hb hts inc6 hown hK hM he42 rfl 14 (by decide) (hts _ kw_734) (fun _ h9 => h9) hv43 d_Mo_product_134 ?_
    refine lv_iload_n hx hb d_Mo_product_137 rfl (lv_at hl 3 rfl) ?_
    obtain ⟨M48, ⟨n44, f45, ha46, hi47, eM48⟩, hwp⟩ := hwp
    refine h_iast hx hb hK hM hS ha46 rfl hi47 d_Mo_product_138 (fun H locs hM hS => ?_)
    rw [← eM48] at hM
    refine lv_aload_n hx hb d_Mo_product_139 rfl (lv_at hl 0 rfl) ?_
    obtain ⟨a49, ⟨fs50, he51, hv52⟩, hwp⟩ := hwp
    refine h_get (C := "BuckTablesModel") (T := Tc6) (N := 36) hx hb hts inc6 hown hK hM he51 rfl 18 (by decide) (hts _ kw_738) (fun _ h9 => h9) hv52 d_Mo_product_140 ?_
    refine lv_aload_n hx hb d_Mo_product_143 rfl (lv_at hl 0 rfl) ?_
    obtain ⟨v53, ⟨fs54, he55, hv56⟩, hwp⟩ := hwp
    refine h_get (C := "BuckTablesModel") (T := Tc6) (N := 36) hx hb hts inc6 hown hK hM he55 rfl 14 (by decide) (hts _ kw_734) (fun _ h9 => h9) hv56 d_Mo_product_144 ?_
    refine lv_iload hx hb d_Mo_product_147 (lv_at hl 4 rfl) ?_
    obtain ⟨M61, ⟨n57, f58, ha59, hi60, eM61⟩, hwp⟩ := hwp
    refine h_iast hx hb hK hM hS ha59 rfl hi60 d_Mo_product_149 (fun H locs hM hS => ?_)
    rw [← eM61] at hM
    refine lv_aload_n hx hb d_Mo_product_150 rfl (lv_at hl 0 rfl) ?_
    obtain ⟨a62, ⟨fs63, he64, hv65⟩, hwp⟩ := hwp
    refine h_get (C := "BuckTablesModel") (T := Tc6) (N := 36) hx hb hts inc6 hown hK hM he64 rfl 19 (by decide) (hts _ kw_739) (fun _ h9 => h9) hv65 d_Mo_product_151 ?_
    refine lv_aload_n hx hb d_Mo_product_154 rfl (lv_at hl 0 rfl) ?_
    obtain ⟨v66, ⟨fs67, he68, hv69⟩, hwp⟩ := hwp
    refine h_get (C := "BuckTablesModel") (T := Tc6) (N := 36) hx hb hts inc6 hown hK hM he68 rfl 14 (by decide) (hts _ kw_734) (fun _ h9 => h9) hv69 d_Mo_product_155 ?_
    refine lv_lload hx hb d_Mo_product_158 (lv_at hl 5 rfl) ?_
    obtain ⟨M74, ⟨n70, f71, ha72, hi73, eM74⟩, hwp⟩ := hwp
    refine h_last hx hb hK hM hS ha72 rfl hi73 d_Mo_product_160 (fun H locs hM hS => ?_)
    rw [← eM74] at hM
    refine lv_aload_n hx hb d_Mo_product_161 rfl (lv_at hl 0 rfl) ?_
    refine lv_dup hx hb d_Mo_product_162 rfl ?_
    obtain ⟨v75, ⟨fs76, he77, hv78⟩, hwp⟩ := hwp
    refine h_get (C := "BuckTablesModel") (T := Tc6) (N := 36) hx hb hts inc6 hown hK hM he77 rfl 14 (by decide) (hts _ kw_734) (fun _ h9 => h9) hv78 d_Mo_product_163 ?_
    refine lv_iconst (v := 1) hx hb d_Mo_product_166 (by decide) ?_
    refine lv_iadd hx hb d_Mo_product_167 ?_
    obtain ⟨M79, ⟨fs80, he81, hl82, eM79⟩, hwp⟩ := hwp
    refine h_put (C := "BuckTablesModel") (T := Tc6) (N := 36) (v := .int (v75 + (1 : Int32))) (ty := .int) hx hb hts inc6 tyc6 tyc6_ok nmc6 hown hK hM hS he81 rfl 14 (by decide) (hts _ kw_734) (fun _ h9 => h9) rfl (by decide +kernel) rfl rfl hl82 d_Mo_product_168 (fun H locs hM hS => ?_)
    rw [← eM79] at hM
    refine lv_aload_n hx hb d_Mo_product_171 rfl (lv_at hl 0 rfl) ?_
    refine lv_iconst (v := 0) hx hb d_Mo_product_172 (by decide) ?_
    obtain ⟨M83, ⟨fs84, he85, hl86, eM83⟩, hwp⟩ := hwp
    refine h_put (C := "BuckTablesModel") (T := Tc6) (N := 36) (v := .int (0 : Int32)) (ty := .boolean) hx hb hts inc6 tyc6 tyc6_ok nmc6 hown hK hM hS he85 rfl 33 (by decide) (hts _ kw_753) (fun _ h9 => h9) rfl (by decide +kernel) (by decide) (by decide) hl86 d_Mo_product_173 (fun H locs hM hS => ?_)
    rw [← eM83] at hM
    refine lv_aload_n hx hb d_Mo_product_176 rfl (lv_at hl 0 rfl) ?_
    obtain ⟨v87, ⟨fs88, he89, hv90⟩, hwp⟩ := hwp
    refine h_get (C := "BuckTablesModel") (T := Tc6) (N := 36) hx hb hts inc6 hown hK hM he89 rfl 14 (by decide) (hts _ kw_734) (fun _ h9 => h9) hv90 d_Mo_product_177 ?_
    refine lv_iconst (v := 1) hx hb d_Mo_product_180 (by decide) ?_
    refine lv_isub hx hb d_Mo_product_181 ?_
    exact W.iret (v := (v87 - (1 : Int32))) hx hb hr (fun t ht hW => ⟨⟨(v87 - (1 : Int32)), M83, rfl, hwp, by show hw D kCl (hTys κ) A M83 t.heap; rw [ht]; exact hM⟩, hS.F ht⟩) hS.2.2 d_Mo_product_182
  · replace hwp := hwp.2 c9
    refine lv_iconst (v := 0) hx hb d_Mo_product_107 (by decide) ?_
    exact W.iret (v := (0 : Int32)) hx hb hr (fun t ht hW => ⟨⟨(0 : Int32), M1, rfl, hwp, by show hw D kCl (hTys κ) A M1 t.heap; rw [ht]; exact hM⟩, hS.F ht⟩) hS.2.2 d_Mo_product_108
def wMo_product_71 (post : Int32 → Hp → Prop)  (x0 : Nat) (x1 : Int32) (x2 : Int32) (x3 : Int32) (x4 : Int32) (x5 : Int64) (y0 : Int32) (M : Hp) : Prop := (∃ v91 : Int32, fI M x0 6 14 v91 ∧ ((v91 = (8 : Int32) → (wMo_product_97 post x0 x1 x2 x3 x4 x5 (1 : Int32) x0 M)) ∧ (¬ v91 = (8 : Int32) → ((y0 = 0 → (wMo_product_97 post x0 x1 x2 x3 x4 x5 (2 : Int32) x0 M)) ∧ (¬ y0 = 0 → (wMo_product_97 post x0 x1 x2 x3 x4 x5 (0 : Int32) x0 M))))))
set_option maxRecDepth 100000 in
set_option maxHeartbeats 4000000 in
theorem tMo_product_71 {p : Program} {l : Launch} {e : Env} {s : State} {m : MethodId} {args : Array Value} {below : List Frame} {meth : Method} {c : Code} {D : va_G} {κ : Nat → ClassId} {A : Nat → Prop} (C : Cx_Mo_product p s m args meth c D κ A) (post : Int32 → Hp → Prop)  (x0 : Nat) (x1 : Int32) (x2 : Int32) (x3 : Int32) (x4 : Int32) (x5 : Int64) (y0 : Int32) (M : Hp) (hwp : wMo_product_71 post x0 x1 x2 x3 x4 x5 y0 M) : Y p l e rm_Mo_product s m args below meth c D kCl (hTys κ) A 8 0 0 (MQ below (va_Qi post (hB D kCl (hTys κ) A) A) args s 0 0 A) M 71 [(0, .ref x0), (1, .int x1), (2, .int x2), (3, .int x3), (4, .int x4), (5, .long x5)] [.int y0] := by
  obtain ⟨hx, hb, hml, hr, hown, hts, hlocks, hE, hA⟩ := id C
  have hK := hE.1
  intro H locs ls hM hS hl
  unfold wMo_product_71 at hwp
  refine lv_istore (lv' := [(7, .int y0), (0, .ref x0), (1, .int x1), (2, .int x2), (3, .int x3), (4, .int x4), (5, .long x5)]) hx hb d_Mo_product_71 hl (by decide) rfl (fun ls hl => ?_)
  refine lv_aload_n hx hb d_Mo_product_73 rfl (lv_at hl 1 rfl) ?_
  refine lv_aload_n hx hb d_Mo_product_74 rfl (lv_at hl 1 rfl) ?_
  obtain ⟨v91, ⟨fs92, he93, hv94⟩, hwp⟩ := hwp
  refine h_get (C := "BuckTablesModel") (T := Tc6) (N := 36) hx hb hts inc6 hown hK hM he93 rfl 14 (by decide) (hts _ kw_734) (fun _ h9 => h9) hv94 d_Mo_product_75 ?_
  refine lv_bipush (v := 8) hx hb d_Mo_product_78 (by decide) ?_
  refine lv_icmp_ne (tgt := 87) hx hb d_Mo_product_80 (by decide) (fun c95 => ?_) (fun c95 => ?_)
  · replace hwp := hwp.2 c95
    refine lv_iload hx hb d_Mo_product_87 (lv_at hl 0 rfl) ?_
    refine lv_if_eq (tgt := 96) hx hb d_Mo_product_89 (by decide) (fun c96 => ?_) (fun c96 => ?_)
    · replace hwp := hwp.1 c96
      refine lv_iconst (v := 2) hx hb d_Mo_product_96 (by decide) ?_
      exact tMo_product_97 C post x0 x1 x2 x3 x4 x5 (2 : Int32) x0 M hwp H locs ls hM hS (lv_sub hl [1, 2, 3, 4, 5, 6] rfl)
    · replace hwp := hwp.2 c96
      refine lv_iconst (v := 0) hx hb d_Mo_product_92 (by decide) ?_
      refine lv_goto (tgt := 97) hx hb d_Mo_product_93 (by decide) ?_
      exact tMo_product_97 C post x0 x1 x2 x3 x4 x5 (0 : Int32) x0 M hwp H locs ls hM hS (lv_sub hl [1, 2, 3, 4, 5, 6] rfl)
  · replace hwp := hwp.1 c95
    refine lv_iconst (v := 1) hx hb d_Mo_product_83 (by decide) ?_
    refine lv_goto (tgt := 97) hx hb d_Mo_product_84 (by decide) ?_
    exact tMo_product_97 C post x0 x1 x2 x3 x4 x5 (1 : Int32) x0 M hwp H locs ls hM hS (lv_sub hl [1, 2, 3, 4, 5, 6] rfl)
def wMo_product_70 (post : Int32 → Hp → Prop)  (x0 : Nat) (x1 : Int32) (x2 : Int32) (x3 : Int32) (x4 : Int32) (x5 : Int64) (M : Hp) : Prop := (wMo_product_71 post x0 x1 x2 x3 x4 x5 (0 : Int32) M)
set_option maxRecDepth 100000 in
set_option maxHeartbeats 4000000 in
theorem tMo_product_70 {p : Program} {l : Launch} {e : Env} {s : State} {m : MethodId} {args : Array Value} {below : List Frame} {meth : Method} {c : Code} {D : va_G} {κ : Nat → ClassId} {A : Nat → Prop} (C : Cx_Mo_product p s m args meth c D κ A) (post : Int32 → Hp → Prop)  (x0 : Nat) (x1 : Int32) (x2 : Int32) (x3 : Int32) (x4 : Int32) (x5 : Int64) (M : Hp) (hwp : wMo_product_70 post x0 x1 x2 x3 x4 x5 M) : Y p l e rm_Mo_product s m args below meth c D kCl (hTys κ) A 8 0 0 (MQ below (va_Qi post (hB D kCl (hTys κ) A) A) args s 0 0 A) M 70 [(0, .ref x0), (1, .int x1), (2, .int x2), (3, .int x3), (4, .int x4), (5, .long x5)] [] := by
  obtain ⟨hx, hb, hml, hr, hown, hts, hlocks, hE, hA⟩ := id C
  have hK := hE.1
  intro H locs ls hM hS hl
  unfold wMo_product_70 at hwp
  refine lv_iconst (v := 0) hx hb d_Mo_product_70 (by decide) ?_
  exact tMo_product_71 C post x0 x1 x2 x3 x4 x5 (0 : Int32) M hwp H locs ls hM hS (lv_sub hl [0, 1, 2, 3, 4, 5] rfl)
def wpMo_product (self : Nat) (p0 : Int32) (p1 : Int32) (p2 : Int32) (p3 : Int32) (p4 : Int64) (M : Hp) (post : Int32 → Hp → Prop) : Prop := (wpMo_isIn (p0.toInt64) (1 : Int64) (10000000 : Int64) M (fun (r98 : Int32) (M97 : Hp) => ((r98 = 0 → (wMo_product_70 post self p0 p1 p2 p3 p4 M97)) ∧ (¬ r98 = 0 → (wpMo_isIn (p1.toInt64) (1 : Int64) (10000000 : Int64) M97 (fun (r101 : Int32) (M100 : Hp) => ((r101 = 0 → (wMo_product_70 post self p0 p1 p2 p3 p4 M100)) ∧ (¬ r101 = 0 → ((p1 < p0 → (wMo_product_70 post self p0 p1 p2 p3 p4 M100)) ∧ (¬ p1 < p0 → (wpMo_isIn (p2.toInt64) (0 : Int64) (100000 : Int64) M100 (fun (r105 : Int32) (M104 : Hp) => ((r105 = 0 → (wMo_product_70 post self p0 p1 p2 p3 p4 M104)) ∧ (¬ r105 = 0 → (wpMo_isIn (p3.toInt64) (0 : Int64) (100000 : Int64) M104 (fun (r108 : Int32) (M107 : Hp) => ((r108 = 0 → (wMo_product_70 post self p0 p1 p2 p3 p4 M107)) ∧ (¬ r108 = 0 → (wpMo_isIn p4 (0 : Int64) (100000 : Int64) M107 (fun (r111 : Int32) (M110 : Hp) => ((r111 = 0 → (wMo_product_70 post self p0 p1 p2 p3 p4 M110)) ∧ (¬ r111 = 0 → (wMo_product_71 post self p0 p1 p2 p3 p4 (1 : Int32) M110)))))))))))))))))))))))
set_option maxRecDepth 100000 in
set_option maxHeartbeats 4000000 in
theorem eMo_product {p : Program} {l : Launch} {e : Env} {s : State} {m : MethodId} {args : Array Value} {below : List Frame} {meth : Method} {c : Code} {D : va_G} {κ : Nat → ClassId} {A : Nat → Prop} (C : Cx_Mo_product p s m args meth c D κ A) (post : Int32 → Hp → Prop) (self : Nat) (p0 : Int32) (p1 : Int32) (p2 : Int32) (p3 : Int32) (p4 : Int64) (M : Hp) (hwp : wpMo_product self p0 p1 p2 p3 p4 M post) : Y p l e rm_Mo_product s m args below meth c D kCl (hTys κ) A 8 0 0 (MQ below (va_Qi post (hB D kCl (hTys κ) A) A) args s 0 0 A) M 0 [(0, .ref self), (1, .int p0), (2, .int p1), (3, .int p2), (4, .int p3), (5, .long p4)] [] := by
  obtain ⟨hx, hb, hml, hr, hown, hts, hlocks, hE, hA⟩ := id C
  have hK := hE.1
  intro H locs ls hM hS hl
  unfold wpMo_product at hwp
  refine lv_iload_n hx hb d_Mo_product_0 rfl (lv_at hl 1 rfl) ?_
  refine lv_i2l hx hb d_Mo_product_1 rfl ?_
  refine lv_lconst (v := 1) hx hb d_Mo_product_2 (by decide) ?_
  refine lv_ldc2 (v := (10000000)) hx hb hown (hts _ kw_837) d_Mo_product_3 ?_
  refine h_calli hM hS hA (va_runS (As := [.long (p0.toInt64), .long (1 : Int64), .long (10000000 : Int64)]) (rest := []) ⟨hx, hb, hml, hown, hts⟩ (metMo_isIn l D κ H.size (p0.toInt64) (1 : Int64) (10000000 : Int64) M _ hwp) (cwS 3 hts (gS kw_838 kw_839 kw_8 kw_840) rfl rfl rfl (by decide +kernel) ⟨(Nat.le_of_ble_eq_true rfl), (Nat.le_of_ble_eq_true rfl)⟩) (h_preS hE hM hS) rfl rfl hl.1 rfl (lv_room (Nat.le_of_ble_eq_true rfl)) d_Mo_product_6 ⟨(Nat.le_of_ble_eq_true rfl), (Nat.le_of_ble_eq_true rfl)⟩) (fun r98 M97 H locs hwp hM hS => ?_)
  refine lv_if_eq (tgt := 70) hx hb d_Mo_product_9 (by decide) (fun c99 => ?_) (fun c99 => ?_)
  · replace hwp := hwp.1 c99
    exact tMo_product_70 C post self p0 p1 p2 p3 p4 M97 hwp H locs ls hM hS (lv_sub hl [0, 1, 2, 3, 4, 5] rfl)
  · replace hwp := hwp.2 c99
    refine lv_iload_n hx hb d_Mo_product_12 rfl (lv_at hl 2 rfl) ?_
    refine lv_i2l hx hb d_Mo_product_13 rfl ?_
    refine lv_lconst (v := 1) hx hb d_Mo_product_14 (by decide) ?_
    refine lv_ldc2 (v := (10000000)) hx hb hown (hts _ kw_837) d_Mo_product_15 ?_
    refine h_calli hM hS hA (va_runS (As := [.long (p1.toInt64), .long (1 : Int64), .long (10000000 : Int64)]) (rest := []) ⟨hx, hb, hml, hown, hts⟩ (metMo_isIn l D κ H.size (p1.toInt64) (1 : Int64) (10000000 : Int64) M97 _ hwp) (cwS 3 hts (gS kw_838 kw_839 kw_8 kw_840) rfl rfl rfl (by decide +kernel) ⟨(Nat.le_of_ble_eq_true rfl), (Nat.le_of_ble_eq_true rfl)⟩) (h_preS hE hM hS) rfl rfl hl.1 rfl (lv_room (Nat.le_of_ble_eq_true rfl)) d_Mo_product_18 ⟨(Nat.le_of_ble_eq_true rfl), (Nat.le_of_ble_eq_true rfl)⟩) (fun r101 M100 H locs hwp hM hS => ?_)
    refine lv_if_eq (tgt := 70) hx hb d_Mo_product_21 (by decide) (fun c102 => ?_) (fun c102 => ?_)
    · replace hwp := hwp.1 c102
      exact tMo_product_70 C post self p0 p1 p2 p3 p4 M100 hwp H locs ls hM hS (lv_sub hl [0, 1, 2, 3, 4, 5] rfl)
    · replace hwp := hwp.2 c102
      refine lv_iload_n hx hb d_Mo_product_24 rfl (lv_at hl 1 rfl) ?_
      refine lv_iload_n hx hb d_Mo_product_25 rfl (lv_at hl 2 rfl) ?_
      refine lv_icmp_gt (tgt := 70) hx hb d_Mo_product_26 (by decide) (fun c103 => ?_) (fun c103 => ?_)
      · replace hwp := hwp.1 c103
        exact tMo_product_70 C post self p0 p1 p2 p3 p4 M100 hwp H locs ls hM hS (lv_sub hl [0, 1, 2, 3, 4, 5] rfl)
      · replace hwp := hwp.2 c103
        refine lv_iload_n hx hb d_Mo_product_29 rfl (lv_at hl 3 rfl) ?_
        refine lv_i2l hx hb d_Mo_product_30 rfl ?_
        refine lv_lconst (v := 0) hx hb d_Mo_product_31 (by decide) ?_
        refine lv_ldc2 (v := (100000)) hx hb hown (hts _ kw_841) d_Mo_product_32 ?_
        refine h_calli hM hS hA (va_runS (As := [.long (p2.toInt64), .long (0 : Int64), .long (100000 : Int64)]) (rest := []) ⟨hx, hb, hml, hown, hts⟩ (metMo_isIn l D κ H.size (p2.toInt64) (0 : Int64) (100000 : Int64) M100 _ hwp) (cwS 3 hts (gS kw_838 kw_839 kw_8 kw_840) rfl rfl rfl (by decide +kernel) ⟨(Nat.le_of_ble_eq_true rfl), (Nat.le_of_ble_eq_true rfl)⟩) (h_preS hE hM hS) rfl rfl hl.1 rfl (lv_room (Nat.le_of_ble_eq_true rfl)) d_Mo_product_35 ⟨(Nat.le_of_ble_eq_true rfl), (Nat.le_of_ble_eq_true rfl)⟩) (fun r105 M104 H locs hwp hM hS => ?_)
        refine lv_if_eq (tgt := 70) hx hb d_Mo_product_38 (by decide) (fun c106 => ?_) (fun c106 => ?_)
        · replace hwp := hwp.1 c106
          exact tMo_product_70 C post self p0 p1 p2 p3 p4 M104 hwp H locs ls hM hS (lv_sub hl [0, 1, 2, 3, 4, 5] rfl)
        · replace hwp := hwp.2 c106
          refine lv_iload hx hb d_Mo_product_41 (lv_at hl 4 rfl) ?_
          refine lv_i2l hx hb d_Mo_product_43 rfl ?_
          refine lv_lconst (v := 0) hx hb d_Mo_product_44 (by decide) ?_
          refine lv_ldc2 (v := (100000)) hx hb hown (hts _ kw_841) d_Mo_product_45 ?_
          refine h_calli hM hS hA (va_runS (As := [.long (p3.toInt64), .long (0 : Int64), .long (100000 : Int64)]) (rest := []) ⟨hx, hb, hml, hown, hts⟩ (metMo_isIn l D κ H.size (p3.toInt64) (0 : Int64) (100000 : Int64) M104 _ hwp) (cwS 3 hts (gS kw_838 kw_839 kw_8 kw_840) rfl rfl rfl (by decide +kernel) ⟨(Nat.le_of_ble_eq_true rfl), (Nat.le_of_ble_eq_true rfl)⟩) (h_preS hE hM hS) rfl rfl hl.1 rfl (lv_room (Nat.le_of_ble_eq_true rfl)) d_Mo_product_48 ⟨(Nat.le_of_ble_eq_true rfl), (Nat.le_of_ble_eq_true rfl)⟩) (fun r108 M107 H locs hwp hM hS => ?_)
          refine lv_if_eq (tgt := 70) hx hb d_Mo_product_51 (by decide) (fun c109 => ?_) (fun c109 => ?_)
          · replace hwp := hwp.1 c109
            exact tMo_product_70 C post self p0 p1 p2 p3 p4 M107 hwp H locs ls hM hS (lv_sub hl [0, 1, 2, 3, 4, 5] rfl)
          · replace hwp := hwp.2 c109
            refine lv_lload hx hb d_Mo_product_54 (lv_at hl 5 rfl) ?_
            refine lv_lconst (v := 0) hx hb d_Mo_product_56 (by decide) ?_
            refine lv_ldc2 (v := (100000)) hx hb hown (hts _ kw_841) d_Mo_product_57 ?_
            refine h_calli hM hS hA (va_runS (As := [.long p4, .long (0 : Int64), .long (100000 : Int64)]) (rest := []) ⟨hx, hb, hml, hown, hts⟩ (metMo_isIn l D κ H.size p4 (0 : Int64) (100000 : Int64) M107 _ hwp) (cwS 3 hts (gS kw_838 kw_839 kw_8 kw_840) rfl rfl rfl (by decide +kernel) ⟨(Nat.le_of_ble_eq_true rfl), (Nat.le_of_ble_eq_true rfl)⟩) (h_preS hE hM hS) rfl rfl hl.1 rfl (lv_room (Nat.le_of_ble_eq_true rfl)) d_Mo_product_60 ⟨(Nat.le_of_ble_eq_true rfl), (Nat.le_of_ble_eq_true rfl)⟩) (fun r111 M110 H locs hwp hM hS => ?_)
            refine lv_if_eq (tgt := 70) hx hb d_Mo_product_63 (by decide) (fun c112 => ?_) (fun c112 => ?_)
            · replace hwp := hwp.1 c112
              exact tMo_product_70 C post self p0 p1 p2 p3 p4 M110 hwp H locs ls hM hS (lv_sub hl [0, 1, 2, 3, 4, 5] rfl)
            · replace hwp := hwp.2 c112
              refine lv_iconst (v := 1) hx hb d_Mo_product_66 (by decide) ?_
              refine lv_goto (tgt := 71) hx hb d_Mo_product_67 (by decide) ?_
              exact tMo_product_71 C post self p0 p1 p2 p3 p4 (1 : Int32) M110 hwp H locs ls hM hS (lv_sub hl [0, 1, 2, 3, 4, 5] rfl)
set_option maxRecDepth 100000 in
set_option maxHeartbeats 4000000 in
theorem metMo_product (l : Launch) (D : va_G) (κ : Nat → ClassId) (sz : Nat) (self : Nat) (p0 : Int32) (p1 : Int32) (p2 : Int32) (p3 : Int32) (p4 : Int64) (M : Hp) (post : Int32 → Hp → Prop) (hwp : wpMo_product self p0 p1 p2 p3 p4 M post) : Met l y_Mo_product ws_Mo_product rm_Mo_product (hPc D kCl (hTys κ) M sz [.ref self, .int p0, .int p1, .int p2, .int p3, .long p4]) (va_Qi post (hB D kCl (hTys κ) (hAx M sz)) (hAx M sz)) 0 0 (hAx M sz) := by
  refine Met.ofW (cc := prog_8_method_9_code) (maxL := 8) (ret := (some .int)) (by decide +kernel) rfl ?_
  intro p e s m args below meth c s₁ B hml hv
  obtain ⟨rfl, hsz, hE, hM0⟩ := hv
  have hts : ∀ w ∈ WG, w.before _ s = true := fun w h => atoms_spec (ws := ws_Mo_product) B.pre w (List.mem_cons_of_mem _ h)
  subst hsz
  have C : Cx_Mo_product p s m _ meth c D κ (hAx M s.heap.size) := ⟨B.exec, B.bytes, hml, B.returns, findClass_of_methodNamed B.named, hts, B.notSynchronized, hE, fun q h => Or.inr h⟩
  have hl := lv_entry ([.ref self, .int p0, .int p1, .int p2, .int p3, .long p4]) (n := 8) (Nat.le_of_ble_eq_true rfl)
  rw [lg_entry_eq]
  generalize (lg_sl ([.ref self, .int p0, .int p1, .int p2, .int p3, .long p4]) ++ List.replicate (8 - (lg_sl ([.ref self, .int p0, .int p1, .int p2, .int p3, .long p4])).length) Slot.unset).toArray = ls at hl ⊢
  exact eMo_product C post self p0 p1 p2 p3 p4 M hwp s.heap [] ls (hM0.self (sz := s.heap.size)) va_S.rf hl
