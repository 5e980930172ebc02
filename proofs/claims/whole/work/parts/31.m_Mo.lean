abbrev rm_Mo_init : Room := { frames := 1, cells := 27, slots := 5200, locals := 20 }
def Cx_Mo_init (p : Program) (s : State) (m : MethodId) (args : Array Value) (meth : Method) (c : Code) (D : va_G) (κ : Nat → ClassId) (A : Nat → Prop) : Prop := p.tables.exec = Jvm.exec ∧ c.code = prog_8_method_1_code ∧ c.maxLocals = 3 ∧ meth.sig.returnType = none ∧ s.vm.findClass "BuckTablesModel" = some m.cls ∧ (∀ w ∈ WG, w.before args s = true) ∧ meth.locks = false ∧ hEnv D kCl (hTys κ) A s ∧ (∀ q, s.heap.size ≤ q → A q) ∧ meth.name = "<init>"
def wMo_init_262 (post : Hp → Prop)  : Nat → Nat → Int32 → Hp → Prop
  | 0 => fun _ _ _ => False
  | n + 1 => fun x0 x2 M => (((8 : Int32) ≤ x2 → (post M)) ∧ (¬ (8 : Int32) ≤ x2 → (∃ a2 : Nat, fA M x0 6 21 a2 ∧ (∃ M10 : Hp, sJ M a2 x2 (-1 : Int64) M10 ∧ (∀ z11 : Int32, z11 = x2 + 1 → ((wMo_init_262 post n) x0 z11 M10))))))
set_option maxRecDepth 100000 in
set_option maxHeartbeats 4000000 in
theorem tMo_init_262 {p : Program} {l : Launch} {e : Env} {s : State} {m : MethodId} {args : Array Value} {below : List Frame} {meth : Method} {c : Code} {D : va_G} {κ : Nat → ClassId} {A : Nat → Prop} (C : Cx_Mo_init p s m args meth c D κ A) (post : Hp → Prop)  : ∀ (n : Nat) (x0 : Nat) (x2 : Int32) (M : Hp), wMo_init_262 post n x0 x2 M → Y p l e rm_Mo_init s m args below meth c D kCl (hTys κ) A 3 27 5200 (MQ below (va_Qv post (hB D kCl (hTys κ) A) A) args s 27 5200 A) M 262 [(0, .ref x0), (2, .int x2)] [] := by
  obtain ⟨hx, hb, hml, hr, hown, hts, hlocks, hE, hA, hin⟩ := id C
  have hK := hE.1
  intro n
  induction n with
  | zero => intro x0 x2 M hwp; exact hwp.elim
  | succ n ih =>
    intro x0 x2 M hwp H locs ls hM hS hl
    unfold wMo_init_262 at hwp
    refine lv_iload_n hx hb d_Mo_init_262 rfl (lv_at hl 1 rfl) ?_
    refine lv_bipush (v := 8) hx hb d_Mo_init_263 (by decide) ?_
    refine lv_icmp_ge (tgt := 283) hx hb d_Mo_init_265 (by decide) (fun c1 => ?_) (fun c1 => ?_)
    · replace hwp := hwp.1 c1
      exact W.vret hx hb hr (fun t ht hW => ⟨⟨M, rfl, hwp, by show hw D kCl (hTys κ) A M t.heap; rw [ht]; exact hM⟩, hS.F ht⟩) hS.2.2 d_Mo_init_283
    · replace hwp := hwp.2 c1
      refine lv_aload_n hx hb d_Mo_init_268 rfl (lv_at hl 0 rfl) ?_
      obtain ⟨a2, ⟨fs3, he4, hv5⟩, hwp⟩ := hwp
      refine h_get (C := "BuckTablesModel") (T := Tc6) (N := 36) hx hb hts inc6 hown hK hM he4 rfl 21 (by decide) (hts _ kw_741) (fun _ h9 => h9) hv5 d_Mo_init_269 ?_
      refine lv_iload_n hx hb d_Mo_init_272 rfl (lv_at hl 1 rfl) ?_
      refine lv_ldc2 (v := (-1)) hx hb hown (hts _ kw_719) d_Mo_init_273 ?_
      obtain ⟨M10, ⟨n6, f7, ha8, hi9, eM10⟩, hwp⟩ := hwp
      refine h_last hx hb hK hM hS ha8 rfl hi9 d_Mo_init_276 (fun H locs hM hS => ?_)
      rw [← eM10] at hM
      obtain ⟨z11, ez11⟩ : ∃ y : Int32, y = x2 + 1 := ⟨_, rfl⟩
      replace hwp := hwp z11 ez11
      refine lv_iinc (v := z11) (lv' := [(2, .int z11), (0, .ref x0)]) hx hb d_Mo_init_277 hl (k := 1) rfl (by rw [ez11]; rfl) (by decide) rfl (fun ls hl => ?_)
      refine lv_goto (tgt := 262) hx hb d_Mo_init_280 (by decide) ?_
      exact ih x0 z11 M10 hwp H locs ls hM hS (lv_sub hl [1, 0] rfl)
def wMo_init_257 (post : Hp → Prop)  (x0 : Nat) (y0 : Int32) (y1 : Nat) (M : Hp) : Prop := (∃ M12 : Hp, pF M y1 6 1 (.int y0) M12 ∧ (∃ n16 : Nat, wMo_init_262 post n16 x0 (0 : Int32) M12))
set_option maxRecDepth 100000 in
set_option maxHeartbeats 4000000 in
theorem tMo_init_257 {p : Program} {l : Launch} {e : Env} {s : State} {m : MethodId} {args : Array Value} {below : List Frame} {meth : Method} {c : Code} {D : va_G} {κ : Nat → ClassId} {A : Nat → Prop} (C : Cx_Mo_init p s m args meth c D κ A) (post : Hp → Prop)  (x0 : Nat) (y0 : Int32) (y1 : Nat) (M : Hp) (hwp : wMo_init_257 post x0 y0 y1 M) : Y p l e rm_Mo_init s m args below meth c D kCl (hTys κ) A 3 27 5200 (MQ below (va_Qv post (hB D kCl (hTys κ) A) A) args s 27 5200 A) M 257 [(0, .ref x0)] [.int y0, .ref y1] := by
  obtain ⟨hx, hb, hml, hr, hown, hts, hlocks, hE, hA, hin⟩ := id C
  have hK := hE.1
  intro H locs ls hM hS hl
  unfold wMo_init_257 at hwp
  obtain ⟨M12, ⟨fs13, he14, hl15, eM12⟩, hwp⟩ := hwp
  refine h_putF (C := "BuckTablesModel") (T := Tc6) (N := 36) (v := .int y0) (ty := .int) hx hb hts inc6 tyc6 tyc6_ok nmc6 hown hK hM hS he14 rfl 1 (by decide) (hts _ kw_721) (fun _ h9 => h9) rfl hin rfl (by decide +kernel) rfl rfl hl15 d_Mo_init_257 (fun H locs hM hS => ?_)
  rw [← eM12] at hM
  refine lv_iconst (v := 0) hx hb d_Mo_init_260 (by decide) ?_
  refine lv_istore_n (lv' := [(2, .int (0 : Int32)), (0, .ref x0)]) hx hb d_Mo_init_261 rfl hl (by decide) rfl (fun ls hl => ?_)
  obtain ⟨n16, hwp⟩ := hwp
  exact tMo_init_262 C post n16 x0 (0 : Int32) M12 hwp H locs ls hM hS (lv_sub hl [1, 0] rfl)
def wpMo_init (self : Nat) (p0 : Int32) (M : Hp) (post : Hp → Prop) : Prop := (∃ M17 : Hp, pF M self 6 4 (.int (1 : Int32)) M17 ∧ (∀ a21 : Nat, M17 a21 = none → ∀ M23 : Hp, M23 = va_up M17 a21 (some (.inl (0, 6, .inl (fun _ => 0)))) → (∃ M24 : Hp, pF M23 self 6 5 (.ref a21) M24 ∧ (∀ a28 : Nat, M24 a28 = none → ∀ M30 : Hp, M30 = va_up M24 a28 (some (.inl (0, 360, .inl (fun _ => 0)))) → (∃ M31 : Hp, pF M30 self 6 6 (.ref a28) M31 ∧ (∀ a35 : Nat, M31 a35 = none → ∀ M37 : Hp, M37 = va_up M31 a35 (some (.inl (0, 360, .inl (fun _ => 0)))) → (∃ M38 : Hp, pF M37 self 6 7 (.ref a35) M38 ∧ (∀ a42 : Nat, M38 a42 = none → ∀ M44 : Hp, M44 = va_up M38 a42 (some (.inl (0, 360, .inl (fun _ => 0)))) → (∃ M45 : Hp, pF M44 self 6 8 (.ref a42) M45 ∧ (∀ a49 : Nat, M45 a49 = none → ∀ M51 : Hp, M51 = va_up M45 a49 (some (.inl (0, 6, .inl (fun _ => 0)))) → (∃ M52 : Hp, pF M51 self 6 9 (.ref a49) M52 ∧ (∀ a56 : Nat, M52 a56 = none → ∀ M58 : Hp, M58 = va_up M52 a56 (some (.inl (0, 120, .inl (fun _ => 0)))) → (∃ M59 : Hp, pF M58 self 6 10 (.ref a56) M59 ∧ (∀ a63 : Nat, M59 a63 = none → ∀ M65 : Hp, M65 = va_up M59 a63 (some (.inl (0, 120, .inl (fun _ => 0)))) → (∃ M66 : Hp, pF M65 self 6 11 (.ref a63) M66 ∧ (∀ a70 : Nat, M66 a70 = none → ∀ M72 : Hp, M72 = va_up M66 a70 (some (.inl (0, 120, .inl (fun _ => 0)))) → (∃ M73 : Hp, pF M72 self 6 12 (.ref a70) M73 ∧ (∀ a77 : Nat, M73 a77 = none → ∀ M79 : Hp, M79 = va_up M73 a77 (some (.inl (1, 486, .inl (fun _ => 0)))) → (∃ M80 : Hp, pF M79 self 6 13 (.ref a77) M80 ∧ (∀ a84 : Nat, M80 a84 = none → ∀ M86 : Hp, M86 = va_up M80 a84 (some (.inl (0, 8, .inl (fun _ => 0)))) → (∃ M87 : Hp, pF M86 self 6 15 (.ref a84) M87 ∧ (∀ a91 : Nat, M87 a91 = none → ∀ M93 : Hp, M93 = va_up M87 a91 (some (.inl (0, 8, .inl (fun _ => 0)))) → (∃ M94 : Hp, pF M93 self 6 16 (.ref a91) M94 ∧ (∀ a98 : Nat, M94 a98 = none → ∀ M100 : Hp, M100 = va_up M94 a98 (some (.inl (0, 8, .inl (fun _ => 0)))) → (∃ M101 : Hp, pF M100 self 6 17 (.ref a98) M101 ∧ (∀ a105 : Nat, M101 a105 = none → ∀ M107 : Hp, M107 = va_up M101 a105 (some (.inl (0, 8, .inl (fun _ => 0)))) → (∃ M108 : Hp, pF M107 self 6 18 (.ref a105) M108 ∧ (∀ a112 : Nat, M108 a112 = none → ∀ M114 : Hp, M114 = va_up M108 a112 (some (.inl (2, 8, .inr (.inl (fun _ => 0))))) → (∃ M115 : Hp, pF M114 self 6 19 (.ref a112) M115 ∧ (∀ a119 : Nat, M115 a119 = none → ∀ M121 : Hp, M121 = va_up M115 a119 (some (.inl (1, 64, .inl (fun _ => 0)))) → (∃ M122 : Hp, pF M121 self 6 20 (.ref a119) M122 ∧ (∀ a126 : Nat, M122 a126 = none → ∀ M128 : Hp, M128 = va_up M122 a126 (some (.inl (2, 8, .inr (.inl (fun _ => 0))))) → (∃ M129 : Hp, pF M128 self 6 21 (.ref a126) M129 ∧ (∀ a133 : Nat, M129 a133 = none → ∀ M135 : Hp, M135 = va_up M129 a133 (some (.inl (2, 56, .inr (.inl (fun _ => 0))))) → (∃ M136 : Hp, pF M135 self 6 22 (.ref a133) M136 ∧ (∀ a140 : Nat, M136 a140 = none → ∀ M142 : Hp, M142 = va_up M136 a140 (some (.inl (2, 8, .inr (.inl (fun _ => 0))))) → (∃ M143 : Hp, pF M142 self 6 23 (.ref a140) M143 ∧ (∀ a147 : Nat, M143 a147 = none → ∀ M149 : Hp, M149 = va_up M143 a147 (some (.inl (2, 8, .inr (.inl (fun _ => 0))))) → (∃ M150 : Hp, pF M149 self 6 24 (.ref a147) M150 ∧ (∀ a154 : Nat, M150 a154 = none → ∀ M156 : Hp, M156 = va_up M150 a154 (some (.inl (0, 486, .inl (fun _ => 0)))) → (∃ M157 : Hp, pF M156 self 6 25 (.ref a154) M157 ∧ (∀ a161 : Nat, M157 a161 = none → ∀ M163 : Hp, M163 = va_up M157 a161 (some (.inl (0, 486, .inl (fun _ => 0)))) → (∃ M164 : Hp, pF M163 self 6 26 (.ref a161) M164 ∧ (∀ a168 : Nat, M164 a168 = none → ∀ M170 : Hp, M170 = va_up M164 a168 (some (.inl (0, 486, .inl (fun _ => 0)))) → (∃ M171 : Hp, pF M170 self 6 27 (.ref a168) M171 ∧ (∀ a175 : Nat, M171 a175 = none → ∀ M177 : Hp, M177 = va_up M171 a175 (some (.inl (0, 486, .inl (fun _ => 0)))) → (∃ M178 : Hp, pF M177 self 6 28 (.ref a175) M178 ∧ (∀ a182 : Nat, M178 a182 = none → ∀ M184 : Hp, M184 = va_up M178 a182 (some (.inl (0, 486, .inl (fun _ => 0)))) → (∃ M185 : Hp, pF M184 self 6 29 (.ref a182) M185 ∧ (∀ a189 : Nat, M185 a189 = none → ∀ M191 : Hp, M191 = va_up M185 a189 (some (.inl (0, 486, .inl (fun _ => 0)))) → (∃ M192 : Hp, pF M191 self 6 30 (.ref a189) M192 ∧ (∀ a196 : Nat, M192 a196 = none → ∀ M198 : Hp, M198 = va_up M192 a196 (some (.inl (2, 81, .inr (.inl (fun _ => 0))))) → (∃ M199 : Hp, pF M198 self 6 31 (.ref a196) M199 ∧ (∀ a203 : Nat, M199 a203 = none → ∀ M205 : Hp, M205 = va_up M199 a203 (some (.inl (0, 81, .inl (fun _ => 0)))) → (∃ M206 : Hp, pF M205 self 6 32 (.ref a203) M206 ∧ (((1 : Int32) ≤ p0 → ((p0 ≤ (65536 : Int32) → (wMo_init_257 post self p0 self M206)) ∧ (¬ p0 ≤ (65536 : Int32) → (wMo_init_257 post self (65536 : Int32) self M206)))) ∧ (¬ (1 : Int32) ≤ p0 → (wMo_init_257 post self (1 : Int32) self M206))))))))))))))))))))))))))))))))))))))))))))))))))))))))))
set_option maxRecDepth 100000 in
set_option maxHeartbeats 4000000 in
theorem eMo_init {p : Program} {l : Launch} {e : Env} {s : State} {m : MethodId} {args : Array Value} {below : List Frame} {meth : Method} {c : Code} {D : va_G} {κ : Nat → ClassId} {A : Nat → Prop} (C : Cx_Mo_init p s m args meth c D κ A) (post : Hp → Prop) (self : Nat) (p0 : Int32) (M : Hp) (hwp : wpMo_init self p0 M post) : Y p l e rm_Mo_init s m args below meth c D kCl (hTys κ) A 3 0 0 (MQ below (va_Qv post (hB D kCl (hTys κ) A) A) args s 27 5200 A) M 0 [(0, .ref self), (1, .int p0)] [] := by
  obtain ⟨hx, hb, hml, hr, hown, hts, hlocks, hE, hA, hin⟩ := id C
  have hK := hE.1
  intro H locs ls hM hS hl
  unfold wpMo_init at hwp
  refine lv_aload_n hx hb d_Mo_init_0 rfl (lv_at hl 0 rfl) ?_
  refine W.objInit hx hb hown (hts _ kw_717) (hts _ kw_22) (hts _ kw_23) rfl (by rw [hml]; exact hl.1) rfl d_Mo_init_1 (Nat.le_of_ble_eq_true rfl) (Nat.le_of_ble_eq_true rfl) ?_
  refine (show W _ _ _ _ _ _ _ _ _ _ _ _ _ _ _ (F0 _ 4 _ []) from ?_)
  refine lv_aload_n hx hb d_Mo_init_4 rfl (lv_at hl 0 rfl) ?_
  refine lv_iconst (v := 1) hx hb d_Mo_init_5 (by decide) ?_
  obtain ⟨M17, ⟨fs18, he19, hl20, eM17⟩, hwp⟩ := hwp
  refine h_put (C := "BuckTablesModel") (T := Tc6) (N := 36) (v := .int (1 : Int32)) (ty := .int) hx hb hts inc6 tyc6 tyc6_ok nmc6 hown hK hM hS he19 rfl 4 (by decide) (hts _ kw_724) (fun _ h9 => h9) rfl (by decide +kernel) rfl rfl hl20 d_Mo_init_6 (fun H locs hM hS => ?_)
  rw [← eM17] at hM
  refine lv_aload_n hx hb d_Mo_init_9 rfl (lv_at hl 0 rfl) ?_
  refine lv_bipush (v := 6) hx hb d_Mo_init_10 (by decide) ?_
  refine h_newa (atype := .int) (t := 0) (N' := 6) (a0 := (6, .inl (fun _ => 0))) hx hb (hts _ kw_55) hK hM hS hA rfl (fun _ => rfl) (by decide) (by decide) (by decide) (Nat.le_of_ble_eq_true rfl) (Nat.le_of_ble_eq_true rfl) d_Mo_init_12 (fun a21 H hq22 hM hS => ?_)
  obtain ⟨M23, eM23⟩ : ∃ z : Hp, z = va_up M17 a21 (some (.inl (0, 6, .inl (fun _ => 0)))) := ⟨_, rfl⟩
  rw [← eM23] at hM
  replace hwp := hwp a21 hq22 M23 eM23
  obtain ⟨M24, ⟨fs25, he26, hl27, eM24⟩, hwp⟩ := hwp
  refine h_putF (C := "BuckTablesModel") (T := Tc6) (N := 36) (v := .ref a21) (ty := .array .int) hx hb hts inc6 tyc6 tyc6_ok nmc6 hown hK hM hS he26 rfl 5 (by decide) (hts _ kw_725) (fun _ h9 => h9) rfl hin rfl (by decide +kernel) rfl rfl hl27 d_Mo_init_14 (fun H locs hM hS => ?_)
  rw [← eM24] at hM
  refine lv_aload_n hx hb d_Mo_init_17 rfl (lv_at hl 0 rfl) ?_
  refine lv_sipush (v := 360) hx hb d_Mo_init_18 (by decide) ?_
  refine h_newa (atype := .int) (t := 0) (N' := 360) (a0 := (360, .inl (fun _ => 0))) hx hb (hts _ kw_55) hK hM hS hA rfl (fun _ => rfl) (by decide) (by decide) (by decide) (Nat.le_of_ble_eq_true rfl) (Nat.le_of_ble_eq_true rfl) d_Mo_init_21 (fun a28 H hq29 hM hS => ?_)
  obtain ⟨M30, eM30⟩ : ∃ z : Hp, z = va_up M24 a28 (some (.inl (0, 360, .inl (fun _ => 0)))) := ⟨_, rfl⟩
  rw [← eM30] at hM
  replace hwp := hwp a28 hq29 M30 eM30
  obtain ⟨M31, ⟨fs32, he33, hl34, eM31⟩, hwp⟩ := hwp
  refine h_putF (C := "BuckTablesModel") (T := Tc6) (N := 36) (v := .ref a28) (ty := .array .int) hx hb hts inc6 tyc6 tyc6_ok nmc6 hown hK hM hS he33 rfl 6 (by decide) (hts _ kw_726) (fun _ h9 => h9) rfl hin rfl (by decide +kernel) rfl rfl hl34 d_Mo_init_23 (fun H locs hM hS => ?_)
  rw [← eM31] at hM
  refine lv_aload_n hx hb d_Mo_init_26 rfl (lv_at hl 0 rfl) ?_
  refine lv_sipush (v := 360) hx hb d_Mo_init_27 (by decide) ?_
  refine h_newa (atype := .int) (t := 0) (N' := 360) (a0 := (360, .inl (fun _ => 0))) hx hb (hts _ kw_55) hK hM hS hA rfl (fun _ => rfl) (by decide) (by decide) (by decide) (Nat.le_of_ble_eq_true rfl) (Nat.le_of_ble_eq_true rfl) d_Mo_init_30 (fun a35 H hq36 hM hS => ?_)
  obtain ⟨M37, eM37⟩ : ∃ z : Hp, z = va_up M31 a35 (some (.inl (0, 360, .inl (fun _ => 0)))) := ⟨_, rfl⟩
  rw [← eM37] at hM
  replace hwp := hwp a35 hq36 M37 eM37
  obtain ⟨M38, ⟨fs39, he40, hl41, eM38⟩, hwp⟩ := hwp
  refine h_putF (C := "BuckTablesModel") (T := Tc6) (N := 36) (v := .ref a35) (ty := .array .int) hx hb hts inc6 tyc6 tyc6_ok nmc6 hown hK hM hS he40 rfl 7 (by decide) (hts _ kw_727) (fun _ h9 => h9) rfl hin rfl (by decide +kernel) rfl rfl hl41 d_Mo_init_32 (fun H locs hM hS => ?_)
  rw [← eM38] at hM
  refine lv_aload_n hx hb d_Mo_init_35 rfl (lv_at hl 0 rfl) ?_
  refine lv_sipush (v := 360) hx hb d_Mo_init_36 (by decide) ?_
  refine h_newa (atype := .int) (t := 0) (N' := 360) (a0 := (360, .inl (fun _ => 0))) hx hb (hts _ kw_55) hK hM hS hA rfl (fun _ => rfl) (by decide) (by decide) (by decide) (Nat.le_of_ble_eq_true rfl) (Nat.le_of_ble_eq_true rfl) d_Mo_init_39 (fun a42 H hq43 hM hS => ?_)
  obtain ⟨M44, eM44⟩ : ∃ z : Hp, z = va_up M38 a42 (some (.inl (0, 360, .inl (fun _ => 0)))) := ⟨_, rfl⟩
  rw [← eM44] at hM
  replace hwp := hwp a42 hq43 M44 eM44
  obtain ⟨M45, ⟨fs46, he47, hl48, eM45⟩, hwp⟩ := hwp
  refine h_putF (C := "BuckTablesModel") (T := Tc6) (N := 36) (v := .ref a42) (ty := .array .int) hx hb hts inc6 tyc6 tyc6_ok nmc6 hown hK hM hS he47 rfl 8 (by decide) (hts _ kw_728) (fun _ h9 => h9) rfl hin rfl (by decide +kernel) rfl rfl hl48 d_Mo_init_41 (fun H locs hM hS => ?_)
  rw [← eM45] at hM
  refine lv_aload_n hx hb d_Mo_init_44 rfl (lv_at hl 0 rfl) ?_
  refine lv_bipush (v := 6) hx hb d_Mo_init_45 (by decide) ?_
  refine h_newa (atype := .int) (t := 0) (N' := 6) (a0 := (6, .inl (fun _ => 0))) hx hb (hts _ kw_55) hK hM hS hA rfl (fun _ => rfl) (by decide) (by decide) (by decide) (Nat.le_of_ble_eq_true rfl) (Nat.le_of_ble_eq_true rfl) d_Mo_init_47 (fun a49 H hq50 hM hS => ?_)
  obtain ⟨M51, eM51⟩ : ∃ z : Hp, z = va_up M45 a49 (some (.inl (0, 6, .inl (fun _ => 0)))) := ⟨_, rfl⟩
  rw [← eM51] at hM
  replace hwp := hwp a49 hq50 M51 eM51
  obtain ⟨M52, ⟨fs53, he54, hl55, eM52⟩, hwp⟩ := hwp
  refine h_putF (C := "BuckTablesModel") (T := Tc6) (N := 36) (v := .ref a49) (ty := .array .int) hx hb hts inc6 tyc6 tyc6_ok nmc6 hown hK hM hS he54 rfl 9 (by decide) (hts _ kw_729) (fun _ h9 => h9) rfl hin rfl (by decide +kernel) rfl rfl hl55 d_Mo_init_49 (fun H locs hM hS => ?_)
  rw [← eM52] at hM
  refine lv_aload_n hx hb d_Mo_init_52 rfl (lv_at hl 0 rfl) ?_
  refine lv_bipush (v := 120) hx hb d_Mo_init_53 (by decide) ?_
  refine h_newa (atype := .int) (t := 0) (N' := 120) (a0 := (120, .inl (fun _ => 0))) hx hb (hts _ kw_55) hK hM hS hA rfl (fun _ => rfl) (by decide) (by decide) (by decide) (Nat.le_of_ble_eq_true rfl) (Nat.le_of_ble_eq_true rfl) d_Mo_init_55 (fun a56 H hq57 hM hS => ?_)
  obtain ⟨M58, eM58⟩ : ∃ z : Hp, z = va_up M52 a56 (some (.inl (0, 120, .inl (fun _ => 0)))) := ⟨_, rfl⟩
  rw [← eM58] at hM
  replace hwp := hwp a56 hq57 M58 eM58
  obtain ⟨M59, ⟨fs60, he61, hl62, eM59⟩, hwp⟩ := hwp
  refine h_putF (C := "BuckTablesModel") (T := Tc6) (N := 36) (v := .ref a56) (ty := .array .int) hx hb hts inc6 tyc6 tyc6_ok nmc6 hown hK hM hS he61 rfl 10 (by decide) (hts _ kw_730) (fun _ h9 => h9) rfl hin rfl (by decide +kernel) rfl rfl hl62 d_Mo_init_57 (fun H locs hM hS => ?_)
  rw [← eM59] at hM
  refine lv_aload_n hx hb d_Mo_init_60 rfl (lv_at hl 0 rfl) ?_
  refine lv_bipush (v := 120) hx hb d_Mo_init_61 (by decide) ?_
  refine h_newa (atype := .int) (t := 0) (N' := 120) (a0 := (120, .inl (fun _ => 0))) hx hb (hts _ kw_55) hK hM hS hA rfl (fun _ => rfl) (by decide) (by decide) (by decide) (Nat.le_of_ble_eq_true rfl) (Nat.le_of_ble_eq_true rfl) d_Mo_init_63 (fun a63 H hq64 hM hS => ?_)
  obtain ⟨M65, eM65⟩ : ∃ z : Hp, z = va_up M59 a63 (some (.inl (0, 120, .inl (fun _ => 0)))) := ⟨_, rfl⟩
  rw [← eM65] at hM
  replace hwp := hwp a63 hq64 M65 eM65
  obtain ⟨M66, ⟨fs67, he68, hl69, eM66⟩, hwp⟩ := hwp
  refine h_putF (C := "BuckTablesModel") (T := Tc6) (N := 36) (v := .ref a63) (ty := .array .int) hx hb hts inc6 tyc6 tyc6_ok nmc6 hown hK hM hS he68 rfl 11 (by decide) (hts _ kw_731) (fun _ h9 => h9) rfl hin rfl (by decide +kernel) rfl rfl hl69 d_Mo_init_65 (fun H locs hM hS => ?_)
  rw [← eM66] at hM
  refine lv_aload_n hx hb d_Mo_init_68 rfl (lv_at hl 0 rfl) ?_
  refine lv_bipush (v := 120) hx hb d_Mo_init_69 (by decide) ?_
  refine h_newa (atype := .int) (t := 0) (N' := 120) (a0 := (120, .inl (fun _ => 0))) hx hb (hts _ kw_55) hK hM hS hA rfl (fun _ => rfl) (by decide) (by decide) (by decide) (Nat.le_of_ble_eq_true rfl) (Nat.le_of_ble_eq_true rfl) d_Mo_init_71 (fun a70 H hq71 hM hS => ?_)
  obtain ⟨M72, eM72⟩ : ∃ z : Hp, z = va_up M66 a70 (some (.inl (0, 120, .inl (fun _ => 0)))) := ⟨_, rfl⟩
  rw [← eM72] at hM
  replace hwp := hwp a70 hq71 M72 eM72
  obtain ⟨M73, ⟨fs74, he75, hl76, eM73⟩, hwp⟩ := hwp
  refine h_putF (C := "BuckTablesModel") (T := Tc6) (N := 36) (v := .ref a70) (ty := .array .int) hx hb hts inc6 tyc6 tyc6_ok nmc6 hown hK hM hS he75 rfl 12 (by decide) (hts _ kw_732) (fun _ h9 => h9) rfl hin rfl (by decide +kernel) rfl rfl hl76 d_Mo_init_73 (fun H locs hM hS => ?_)
  rw [← eM73] at hM
  refine lv_aload_n hx hb d_Mo_init_76 rfl (lv_at hl 0 rfl) ?_
  refine lv_sipush (v := 486) hx hb d_Mo_init_77 (by decide) ?_
  refine h_newa (atype := .boolean) (t := 1) (N' := 486) (a0 := (486, .inl (fun _ => 0))) hx hb (hts _ kw_94) hK hM hS hA rfl (fun _ => rfl) (by decide) (by decide) (by decide) (Nat.le_of_ble_eq_true rfl) (Nat.le_of_ble_eq_true rfl) d_Mo_init_80 (fun a77 H hq78 hM hS => ?_)
  obtain ⟨M79, eM79⟩ : ∃ z : Hp, z = va_up M73 a77 (some (.inl (1, 486, .inl (fun _ => 0)))) := ⟨_, rfl⟩
  rw [← eM79] at hM
  replace hwp := hwp a77 hq78 M79 eM79
  obtain ⟨M80, ⟨fs81, he82, hl83, eM80⟩, hwp⟩ := hwp
  refine h_putF (C := "BuckTablesModel") (T := Tc6) (N := 36) (v := .ref a77) (ty := .array .boolean) hx hb hts inc6 tyc6 tyc6_ok nmc6 hown hK hM hS he82 rfl 13 (by decide) (hts _ kw_733) (fun _ h9 => h9) rfl hin rfl (by decide +kernel) rfl rfl hl83 d_Mo_init_82 (fun H locs hM hS => ?_)
  rw [← eM80] at hM
  refine lv_aload_n hx hb d_Mo_init_85 rfl (lv_at hl 0 rfl) ?_
  refine lv_bipush (v := 8) hx hb d_Mo_init_86 (by decide) ?_
  refine h_newa (atype := .int) (t := 0) (N' := 8) (a0 := (8, .inl (fun _ => 0))) hx hb (hts _ kw_55) hK hM hS hA rfl (fun _ => rfl) (by decide) (by decide) (by decide) (Nat.le_of_ble_eq_true rfl) (Nat.le_of_ble_eq_true rfl) d_Mo_init_88 (fun a84 H hq85 hM hS => ?_)
  obtain ⟨M86, eM86⟩ : ∃ z : Hp, z = va_up M80 a84 (some (.inl (0, 8, .inl (fun _ => 0)))) := ⟨_, rfl⟩
  rw [← eM86] at hM
  replace hwp := hwp a84 hq85 M86 eM86
  obtain ⟨M87, ⟨fs88, he89, hl90, eM87⟩, hwp⟩ := hwp
  refine h_putF (C := "BuckTablesModel") (T := Tc6) (N := 36) (v := .ref a84) (ty := .array .int) hx hb hts inc6 tyc6 tyc6_ok nmc6 hown hK hM hS he89 rfl 15 (by decide) (hts _ kw_735) (fun _ h9 => h9) rfl hin rfl (by decide +kernel) rfl rfl hl90 d_Mo_init_90 (fun H locs hM hS => ?_)
  rw [← eM87] at hM
  refine lv_aload_n hx hb d_Mo_init_93 rfl (lv_at hl 0 rfl) ?_
  refine lv_bipush (v := 8) hx hb d_Mo_init_94 (by decide) ?_
  refine h_newa (atype := .int) (t := 0) (N' := 8) (a0 := (8, .inl (fun _ => 0))) hx hb (hts _ kw_55) hK hM hS hA rfl (fun _ => rfl) (by decide) (by decide) (by decide) (Nat.le_of_ble_eq_true rfl) (Nat.le_of_ble_eq_true rfl) d_Mo_init_96 (fun a91 H hq92 hM hS => ?_)
  obtain ⟨M93, eM93⟩ : ∃ z : Hp, z = va_up M87 a91 (some (.inl (0, 8, .inl (fun _ => 0)))) := ⟨_, rfl⟩
  rw [← eM93] at hM
  replace hwp := hwp a91 hq92 M93 eM93
  obtain ⟨M94, ⟨fs95, he96, hl97, eM94⟩, hwp⟩ := hwp
  refine h_putF (C := "BuckTablesModel") (T := Tc6) (N := 36) (v := .ref a91) (ty := .array .int) hx hb hts inc6 tyc6 tyc6_ok nmc6 hown hK hM hS he96 rfl 16 (by decide) (hts _ kw_736) (fun _ h9 => h9) rfl hin rfl (by decide +kernel) rfl rfl hl97 d_Mo_init_98 (fun H locs hM hS => ?_)
  rw [← eM94] at hM
  refine lv_aload_n hx hb d_Mo_init_101 rfl (lv_at hl 0 rfl) ?_
  refine lv_bipush (v := 8) hx hb d_Mo_init_102 (by decide) ?_
  refine h_newa (atype := .int) (t := 0) (N' := 8) (a0 := (8, .inl (fun _ => 0))) hx hb (hts _ kw_55) hK hM hS hA rfl (fun _ => rfl) (by decide) (by decide) (by decide) (Nat.le_of_ble_eq_true rfl) (Nat.le_of_ble_eq_true rfl) d_Mo_init_104 (fun a98 H hq99 hM hS => ?_)
  obtain ⟨M100, eM100⟩ : ∃ z : Hp, z = va_up M94 a98 (some (.inl (0, 8, .inl (fun _ => 0)))) := ⟨_, rfl⟩
  rw [← eM100] at hM
  replace hwp := hwp a98 hq99 M100 eM100
  obtain ⟨M101, ⟨fs102, he103, hl104, eM101⟩, hwp⟩ := hwp
  refine h_putF (C := "BuckTablesModel") (T := Tc6) (N := 36) (v := .ref a98) (ty := .array .int) hx hb hts inc6 tyc6 tyc6_ok nmc6 hown hK hM hS he103 rfl 17 (by decide) (hts _ kw_737) (fun _ h9 => h9) rfl hin rfl (by decide +kernel) rfl rfl hl104 d_Mo_init_106 (fun H locs hM hS => ?_)
  rw [← eM101] at hM
  refine lv_aload_n hx hb d_Mo_init_109 rfl (lv_at hl 0 rfl) ?_
  refine lv_bipush (v := 8) hx hb d_Mo_init_110 (by decide) ?_
  refine h_newa (atype := .int) (t := 0) (N' := 8) (a0 := (8, .inl (fun _ => 0))) hx hb (hts _ kw_55) hK hM hS hA rfl (fun _ => rfl) (by decide) (by decide) (by decide) (Nat.le_of_ble_eq_true rfl) (Nat.le_of_ble_eq_true rfl) d_Mo_init_112 (fun a105 H hq106 hM hS => ?_)
  obtain ⟨M107, eM107⟩ : ∃ z : Hp, z = va_up M101 a105 (some (.inl (0, 8, .inl (fun _ => 0)))) := ⟨_, rfl⟩
  rw [← eM107] at hM
  replace hwp := hwp a105 hq106 M107 eM107
  obtain ⟨M108, ⟨fs109, he110, hl111, eM108⟩, hwp⟩ := hwp
  refine h_putF (C := "BuckTablesModel") (T := Tc6) (N := 36) (v := .ref a105) (ty := .array .int) hx hb hts inc6 tyc6 tyc6_ok nmc6 hown hK hM hS he110 rfl 18 (by decide) (hts _ kw_738) (fun _ h9 => h9) rfl hin rfl (by decide +kernel) rfl rfl hl111 d_Mo_init_114 (fun H locs hM hS => ?_)
  rw [← eM108] at hM
  refine lv_aload_n hx hb d_Mo_init_117 rfl (lv_at hl 0 rfl) ?_
  refine lv_bipush (v := 8) hx hb d_Mo_init_118 (by decide) ?_
  refine h_newa (atype := .long) (t := 2) (N' := 8) (a0 := (8, .inr (.inl (fun _ => 0)))) hx hb (hts _ kw_54) hK hM hS hA rfl (fun _ => rfl) (by decide) (by decide) (by decide) (Nat.le_of_ble_eq_true rfl) (Nat.le_of_ble_eq_true rfl) d_Mo_init_120 (fun a112 H hq113 hM hS => ?_)
  obtain ⟨M114, eM114⟩ : ∃ z : Hp, z = va_up M108 a112 (some (.inl (2, 8, .inr (.inl (fun _ => 0))))) := ⟨_, rfl⟩
  rw [← eM114] at hM
  replace hwp := hwp a112 hq113 M114 eM114
  obtain ⟨M115, ⟨fs116, he117, hl118, eM115⟩, hwp⟩ := hwp
  refine h_putF (C := "BuckTablesModel") (T := Tc6) (N := 36) (v := .ref a112) (ty := .array .long) hx hb hts inc6 tyc6 tyc6_ok nmc6 hown hK hM hS he117 rfl 19 (by decide) (hts _ kw_739) (fun _ h9 => h9) rfl hin rfl (by decide +kernel) rfl rfl hl118 d_Mo_init_122 (fun H locs hM hS => ?_)
  rw [← eM115] at hM
  refine lv_aload_n hx hb d_Mo_init_125 rfl (lv_at hl 0 rfl) ?_
  refine lv_bipush (v := 64) hx hb d_Mo_init_126 (by decide) ?_
  refine h_newa (atype := .boolean) (t := 1) (N' := 64) (a0 := (64, .inl (fun _ => 0))) hx hb (hts _ kw_94) hK hM hS hA rfl (fun _ => rfl) (by decide) (by decide) (by decide) (Nat.le_of_ble_eq_true rfl) (Nat.le_of_ble_eq_true rfl) d_Mo_init_128 (fun a119 H hq120 hM hS => ?_)
  obtain ⟨M121, eM121⟩ : ∃ z : Hp, z = va_up M115 a119 (some (.inl (1, 64, .inl (fun _ => 0)))) := ⟨_, rfl⟩
  rw [← eM121] at hM
  replace hwp := hwp a119 hq120 M121 eM121
  obtain ⟨M122, ⟨fs123, he124, hl125, eM122⟩, hwp⟩ := hwp
  refine h_putF (C := "BuckTablesModel") (T := Tc6) (N := 36) (v := .ref a119) (ty := .array .boolean) hx hb hts inc6 tyc6 tyc6_ok nmc6 hown hK hM hS he124 rfl 20 (by decide) (hts _ kw_740) (fun _ h9 => h9) rfl hin rfl (by decide +kernel) rfl rfl hl125 d_Mo_init_130 (fun H locs hM hS => ?_)
  rw [← eM122] at hM
  refine lv_aload_n hx hb d_Mo_init_133 rfl (lv_at hl 0 rfl) ?_
  refine lv_bipush (v := 8) hx hb d_Mo_init_134 (by decide) ?_
  refine h_newa (atype := .long) (t := 2) (N' := 8) (a0 := (8, .inr (.inl (fun _ => 0)))) hx hb (hts _ kw_54) hK hM hS hA rfl (fun _ => rfl) (by decide) (by decide) (by decide) (Nat.le_of_ble_eq_true rfl) (Nat.le_of_ble_eq_true rfl) d_Mo_init_136 (fun a126 H hq127 hM hS => ?_)
  obtain ⟨M128, eM128⟩ : ∃ z : Hp, z = va_up M122 a126 (some (.inl (2, 8, .inr (.inl (fun _ => 0))))) := ⟨_, rfl⟩
  rw [← eM128] at hM
  replace hwp := hwp a126 hq127 M128 eM128
  obtain ⟨M129, ⟨fs130, he131, hl132, eM129⟩, hwp⟩ := hwp
  refine h_putF (C := "BuckTablesModel") (T := Tc6) (N := 36) (v := .ref a126) (ty := .array .long) hx hb hts inc6 tyc6 tyc6_ok nmc6 hown hK hM hS he131 rfl 21 (by decide) (hts _ kw_741) (fun _ h9 => h9) rfl hin rfl (by decide +kernel) rfl rfl hl132 d_Mo_init_138 (fun H locs hM hS => ?_)
  rw [← eM129] at hM
  refine lv_aload_n hx hb d_Mo_init_141 rfl (lv_at hl 0 rfl) ?_
  refine lv_bipush (v := 56) hx hb d_Mo_init_142 (by decide) ?_
  refine h_newa (atype := .long) (t := 2) (N' := 56) (a0 := (56, .inr (.inl (fun _ => 0)))) hx hb (hts _ kw_54) hK hM hS hA rfl (fun _ => rfl) (by decide) (by decide) (by decide) (Nat.le_of_ble_eq_true rfl) (Nat.le_of_ble_eq_true rfl) d_Mo_init_144 (fun a133 H hq134 hM hS => ?_)
  obtain ⟨M135, eM135⟩ : ∃ z : Hp, z = va_up M129 a133 (some (.inl (2, 56, .inr (.inl (fun _ => 0))))) := ⟨_, rfl⟩
  rw [← eM135] at hM
  replace hwp := hwp a133 hq134 M135 eM135
  obtain ⟨M136, ⟨fs137, he138, hl139, eM136⟩, hwp⟩ := hwp
  refine h_putF (C := "BuckTablesModel") (T := Tc6) (N := 36) (v := .ref a133) (ty := .array .long) hx hb hts inc6 tyc6 tyc6_ok nmc6 hown hK hM hS he138 rfl 22 (by decide) (hts _ kw_742) (fun _ h9 => h9) rfl hin rfl (by decide +kernel) rfl rfl hl139 d_Mo_init_146 (fun H locs hM hS => ?_)
  rw [← eM136] at hM
  refine lv_aload_n hx hb d_Mo_init_149 rfl (lv_at hl 0 rfl) ?_
  refine lv_bipush (v := 8) hx hb d_Mo_init_150 (by decide) ?_
  refine h_newa (atype := .long) (t := 2) (N' := 8) (a0 := (8, .inr (.inl (fun _ => 0)))) hx hb (hts _ kw_54) hK hM hS hA rfl (fun _ => rfl) (by decide) (by decide) (by decide) (Nat.le_of_ble_eq_true rfl) (Nat.le_of_ble_eq_true rfl) d_Mo_init_152 (fun a140 H hq141 hM hS => ?_)
  obtain ⟨M142, eM142⟩ : ∃ z : Hp, z = va_up M136 a140 (some (.inl (2, 8, .inr (.inl (fun _ => 0))))) := ⟨_, rfl⟩
  rw [← eM142] at hM
  replace hwp := hwp a140 hq141 M142 eM142
  obtain ⟨M143, ⟨fs144, he145, hl146, eM143⟩, hwp⟩ := hwp
  refine h_putF (C := "BuckTablesModel") (T := Tc6) (N := 36) (v := .ref a140) (ty := .array .long) hx hb hts inc6 tyc6 tyc6_ok nmc6 hown hK hM hS he145 rfl 23 (by decide) (hts _ kw_743) (fun _ h9 => h9) rfl hin rfl (by decide +kernel) rfl rfl hl146 d_Mo_init_154 (fun H locs hM hS => ?_)
  rw [← eM143] at hM
  refine lv_aload_n hx hb d_Mo_init_157 rfl (lv_at hl 0 rfl) ?_
  refine lv_bipush (v := 8) hx hb d_Mo_init_158 (by decide) ?_
  refine h_newa (atype := .long) (t := 2) (N' := 8) (a0 := (8, .inr (.inl (fun _ => 0)))) hx hb (hts _ kw_54) hK hM hS hA rfl (fun _ => rfl) (by decide) (by decide) (by decide) (Nat.le_of_ble_eq_true rfl) (Nat.le_of_ble_eq_true rfl) d_Mo_init_160 (fun a147 H hq148 hM hS => ?_)
  obtain ⟨M149, eM149⟩ : ∃ z : Hp, z = va_up M143 a147 (some (.inl (2, 8, .inr (.inl (fun _ => 0))))) := ⟨_, rfl⟩
  rw [← eM149] at hM
  replace hwp := hwp a147 hq148 M149 eM149
  obtain ⟨M150, ⟨fs151, he152, hl153, eM150⟩, hwp⟩ := hwp
  refine h_putF (C := "BuckTablesModel") (T := Tc6) (N := 36) (v := .ref a147) (ty := .array .long) hx hb hts inc6 tyc6 tyc6_ok nmc6 hown hK hM hS he152 rfl 24 (by decide) (hts _ kw_744) (fun _ h9 => h9) rfl hin rfl (by decide +kernel) rfl rfl hl153 d_Mo_init_162 (fun H locs hM hS => ?_)
  rw [← eM150] at hM
  refine lv_aload_n hx hb d_Mo_init_165 rfl (lv_at hl 0 rfl) ?_
  refine lv_sipush (v := 486) hx hb d_Mo_init_166 (by decide) ?_
  refine h_newa (atype := .int) (t := 0) (N' := 486) (a0 := (486, .inl (fun _ => 0))) hx hb (hts _ kw_55) hK hM hS hA rfl (fun _ => rfl) (by decide) (by decide) (by decide) (Nat.le_of_ble_eq_true rfl) (Nat.le_of_ble_eq_true rfl) d_Mo_init_169 (fun a154 H hq155 hM hS => ?_)
  obtain ⟨M156, eM156⟩ : ∃ z : Hp, z = va_up M150 a154 (some (.inl (0, 486, .inl (fun _ => 0)))) := ⟨_, rfl⟩
  rw [← eM156] at hM
  replace hwp := hwp a154 hq155 M156 eM156
  obtain ⟨M157, ⟨fs158, he159, hl160, eM157⟩, hwp⟩ := hwp
  refine h_putF (C := "BuckTablesModel") (T := Tc6) (N := 36) (v := .ref a154) (ty := .array .int) hx hb hts inc6 tyc6 tyc6_ok nmc6 hown hK hM hS he159 rfl 25 (by decide) (hts _ kw_745) (fun _ h9 => h9) rfl hin rfl (by decide +kernel) rfl rfl hl160 d_Mo_init_171 (fun H locs hM hS => ?_)
  rw [← eM157] at hM
  refine lv_aload_n hx hb d_Mo_init_174 rfl (lv_at hl 0 rfl) ?_
  refine lv_sipush (v := 486) hx hb d_Mo_init_175 (by decide) ?_
  refine h_newa (atype := .int) (t := 0) (N' := 486) (a0 := (486, .inl (fun _ => 0))) hx hb (hts _ kw_55) hK hM hS hA rfl (fun _ => rfl) (by decide) (by decide) (by decide) (Nat.le_of_ble_eq_true rfl) (Nat.le_of_ble_eq_true rfl) d_Mo_init_178 (fun a161 H hq162 hM hS => ?_)
  obtain ⟨M163, eM163⟩ : ∃ z : Hp, z = va_up M157 a161 (some (.inl (0, 486, .inl (fun _ => 0)))) := ⟨_, rfl⟩
  rw [← eM163] at hM
  replace hwp := hwp a161 hq162 M163 eM163
  obtain ⟨M164, ⟨fs165, he166, hl167, eM164⟩, hwp⟩ := hwp
  refine h_putF (C := "BuckTablesModel") (T := Tc6) (N := 36) (v := .ref a161) (ty := .array .int) hx hb hts inc6 tyc6 tyc6_ok nmc6 hown hK hM hS he166 rfl 26 (by decide) (hts _ kw_746) (fun _ h9 => h9) rfl hin rfl (by decide +kernel) rfl rfl hl167 d_Mo_init_180 (fun H locs hM hS => ?_)
  rw [← eM164] at hM
  refine lv_aload_n hx hb d_Mo_init_183 rfl (lv_at hl 0 rfl) ?_
  refine lv_sipush (v := 486) hx hb d_Mo_init_184 (by decide) ?_
  refine h_newa (atype := .int) (t := 0) (N' := 486) (a0 := (486, .inl (fun _ => 0))) hx hb (hts _ kw_55) hK hM hS hA rfl (fun _ => rfl) (by decide) (by decide) (by decide) (Nat.le_of_ble_eq_true rfl) (Nat.le_of_ble_eq_true rfl) d_Mo_init_187 (fun a168 H hq169 hM hS => ?_)
  obtain ⟨M170, eM170⟩ : ∃ z : Hp, z = va_up M164 a168 (some (.inl (0, 486, .inl (fun _ => 0)))) := ⟨_, rfl⟩
  rw [← eM170] at hM
  replace hwp := hwp a168 hq169 M170 eM170
  obtain ⟨M171, ⟨fs172, he173, hl174, eM171⟩, hwp⟩ := hwp
  refine h_putF (C := "BuckTablesModel") (T := Tc6) (N := 36) (v := .ref a168) (ty := .array .int) hx hb hts inc6 tyc6 tyc6_ok nmc6 hown hK hM hS he173 rfl 27 (by decide) (hts _ kw_747) (fun _ h9 => h9) rfl hin rfl (by decide +kernel) rfl rfl hl174 d_Mo_init_189 (fun H locs hM hS => ?_)
  rw [← eM171] at hM
  refine lv_aload_n hx hb d_Mo_init_192 rfl (lv_at hl 0 rfl) ?_
  refine lv_sipush (v := 486) hx hb d_Mo_init_193 (by decide) ?_
  refine h_newa (atype := .int) (t := 0) (N' := 486) (a0 := (486, .inl (fun _ => 0))) hx hb (hts _ kw_55) hK hM hS hA rfl (fun _ => rfl) (by decide) (by decide) (by decide) (Nat.le_of_ble_eq_true rfl) (Nat.le_of_ble_eq_true rfl) d_Mo_init_196 (fun a175 H hq176 hM hS => ?_)
  obtain ⟨M177, eM177⟩ : ∃ z : Hp, z = va_up M171 a175 (some (.inl (0, 486, .inl (fun _ => 0)))) := ⟨_, rfl⟩
  rw [← eM177] at hM
  replace hwp := hwp a175 hq176 M177 eM177
  obtain ⟨M178, ⟨fs179, he180, hl181, eM178⟩, hwp⟩ := hwp
  refine h_putF (C := "BuckTablesModel") (T := Tc6) (N := 36) (v := .ref a175) (ty := .array .int) hx hb hts inc6 tyc6 tyc6_ok nmc6 hown hK hM hS he180 rfl 28 (by decide) (hts _ kw_748) (fun _ h9 => h9) rfl hin rfl (by decide +kernel) rfl rfl hl181 d_Mo_init_198 (fun H locs hM hS => ?_)
  rw [← eM178] at hM
  refine lv_aload_n hx hb d_Mo_init_201 rfl (lv_at hl 0 rfl) ?_
  refine lv_sipush (v := 486) hx hb d_Mo_init_202 (by decide) ?_
  refine h_newa (atype := .int) (t := 0) (N' := 486) (a0 := (486, .inl (fun _ => 0))) hx hb (hts _ kw_55) hK hM hS hA rfl (fun _ => rfl) (by decide) (by decide) (by decide) (Nat.le_of_ble_eq_true rfl) (Nat.le_of_ble_eq_true rfl) d_Mo_init_205 (fun a182 H hq183 hM hS => ?_)
  obtain ⟨M184, eM184⟩ : ∃ z : Hp, z = va_up M178 a182 (some (.inl (0, 486, .inl (fun _ => 0)))) := ⟨_, rfl⟩
  rw [← eM184] at hM
  replace hwp := hwp a182 hq183 M184 eM184
  obtain ⟨M185, ⟨fs186, he187, hl188, eM185⟩, hwp⟩ := hwp
  refine h_putF (C := "BuckTablesModel") (T := Tc6) (N := 36) (v := .ref a182) (ty := .array .int) hx hb hts inc6 tyc6 tyc6_ok nmc6 hown hK hM hS he187 rfl 29 (by decide) (hts _ kw_749) (fun _ h9 => h9) rfl hin rfl (by decide +kernel) rfl rfl hl188 d_Mo_init_207 (fun H locs hM hS => ?_)
  rw [← eM185] at hM
  refine lv_aload_n hx hb d_Mo_init_210 rfl (lv_at hl 0 rfl) ?_
  refine lv_sipush (v := 486) hx hb d_Mo_init_211 (by decide) ?_
  refine h_newa (atype := .int) (t := 0) (N' := 486) (a0 := (486, .inl (fun _ => 0))) hx hb (hts _ kw_55) hK hM hS hA rfl (fun _ => rfl) (by decide) (by decide) (by decide) (Nat.le_of_ble_eq_true rfl) (Nat.le_of_ble_eq_true rfl) d_Mo_init_214 (fun a189 H hq190 hM hS => ?_)
  obtain ⟨M191, eM191⟩ : ∃ z : Hp, z = va_up M185 a189 (some (.inl (0, 486, .inl (fun _ => 0)))) := ⟨_, rfl⟩
  rw [← eM191] at hM
  replace hwp := hwp a189 hq190 M191 eM191
  obtain ⟨M192, ⟨fs193, he194, hl195, eM192⟩, hwp⟩ := hwp
  refine h_putF (C := "BuckTablesModel") (T := Tc6) (N := 36) (v := .ref a189) (ty := .array .int) hx hb hts inc6 tyc6 tyc6_ok nmc6 hown hK hM hS he194 rfl 30 (by decide) (hts _ kw_750) (fun _ h9 => h9) rfl hin rfl (by decide +kernel) rfl rfl hl195 d_Mo_init_216 (fun H locs hM hS => ?_)
  rw [← eM192] at hM
  refine lv_aload_n hx hb d_Mo_init_219 rfl (lv_at hl 0 rfl) ?_
  refine lv_bipush (v := 81) hx hb d_Mo_init_220 (by decide) ?_
  refine h_newa (atype := .long) (t := 2) (N' := 81) (a0 := (81, .inr (.inl (fun _ => 0)))) hx hb (hts _ kw_54) hK hM hS hA rfl (fun _ => rfl) (by decide) (by decide) (by decide) (Nat.le_of_ble_eq_true rfl) (Nat.le_of_ble_eq_true rfl) d_Mo_init_222 (fun a196 H hq197 hM hS => ?_)
  obtain ⟨M198, eM198⟩ : ∃ z : Hp, z = va_up M192 a196 (some (.inl (2, 81, .inr (.inl (fun _ => 0))))) := ⟨_, rfl⟩
  rw [← eM198] at hM
  replace hwp := hwp a196 hq197 M198 eM198
  obtain ⟨M199, ⟨fs200, he201, hl202, eM199⟩, hwp⟩ := hwp
  refine h_putF (C := "BuckTablesModel") (T := Tc6) (N := 36) (v := .ref a196) (ty := .array .long) hx hb hts inc6 tyc6 tyc6_ok nmc6 hown hK hM hS he201 rfl 31 (by decide) (hts _ kw_751) (fun _ h9 => h9) rfl hin rfl (by decide +kernel) rfl rfl hl202 d_Mo_init_224 (fun H locs hM hS => ?_)
  rw [← eM199] at hM
  refine lv_aload_n hx hb d_Mo_init_227 rfl (lv_at hl 0 rfl) ?_
  refine lv_bipush (v := 81) hx hb d_Mo_init_228 (by decide) ?_
  refine h_newa (atype := .int) (t := 0) (N' := 81) (a0 := (81, .inl (fun _ => 0))) hx hb (hts _ kw_55) hK hM hS hA rfl (fun _ => rfl) (by decide) (by decide) (by decide) (Nat.le_of_ble_eq_true rfl) (Nat.le_of_ble_eq_true rfl) d_Mo_init_230 (fun a203 H hq204 hM hS => ?_)
  obtain ⟨M205, eM205⟩ : ∃ z : Hp, z = va_up M199 a203 (some (.inl (0, 81, .inl (fun _ => 0)))) := ⟨_, rfl⟩
  rw [← eM205] at hM
  replace hwp := hwp a203 hq204 M205 eM205
  obtain ⟨M206, ⟨fs207, he208, hl209, eM206⟩, hwp⟩ := hwp
  refine h_putF (C := "BuckTablesModel") (T := Tc6) (N := 36) (v := .ref a203) (ty := .array .int) hx hb hts inc6 tyc6 tyc6_ok nmc6 hown hK hM hS he208 rfl 32 (by decide) (hts _ kw_752) (fun _ h9 => h9) rfl hin rfl (by decide +kernel) rfl rfl hl209 d_Mo_init_232 (fun H locs hM hS => ?_)
  rw [← eM206] at hM
  refine lv_aload_n hx hb d_Mo_init_235 rfl (lv_at hl 0 rfl) ?_
  refine lv_iload_n hx hb d_Mo_init_236 rfl (lv_at hl 1 rfl) ?_
  refine lv_iconst (v := 1) hx hb d_Mo_init_237 (by decide) ?_
  refine lv_icmp_ge (tgt := 245) hx hb d_Mo_init_238 (by decide) (fun c210 => ?_) (fun c210 => ?_)
  · replace hwp := hwp.1 c210
    refine lv_iload_n hx hb d_Mo_init_245 rfl (lv_at hl 1 rfl) ?_
    refine lv_ldc (v := 65536) hx hb hown (hts _ kw_718) d_Mo_init_246 ?_
    refine lv_icmp_le (tgt := 256) hx hb d_Mo_init_248 (by decide) (fun c211 => ?_) (fun c211 => ?_)
    · replace hwp := hwp.1 c211
      refine lv_iload_n hx hb d_Mo_init_256 rfl (lv_at hl 1 rfl) ?_
      exact tMo_init_257 C post self p0 self M206 hwp H locs ls hM hS (lv_sub hl [0] rfl)
    · replace hwp := hwp.2 c211
      refine lv_ldc (v := 65536) hx hb hown (hts _ kw_718) d_Mo_init_251 ?_
      refine lv_goto (tgt := 257) hx hb d_Mo_init_253 (by decide) ?_
      exact tMo_init_257 C post self (65536 : Int32) self M206 hwp H locs ls hM hS (lv_sub hl [0] rfl)
  · replace hwp := hwp.2 c210
    refine lv_iconst (v := 1) hx hb d_Mo_init_241 (by decide) ?_
    refine lv_goto (tgt := 257) hx hb d_Mo_init_242 (by decide) ?_
    exact tMo_init_257 C post self (1 : Int32) self M206 hwp H locs ls hM hS (lv_sub hl [0] rfl)
set_option maxRecDepth 100000 in
set_option maxHeartbeats 4000000 in
theorem metMo_init (l : Launch) (D : va_G) (κ : Nat → ClassId) (sz : Nat) (self : Nat) (p0 : Int32) (M : Hp) (post : Hp → Prop) (hwp : wpMo_init self p0 M post) : Met l y_Mo_init ws_Mo_init rm_Mo_init (hPc D kCl (hTys κ) M sz [.ref self, .int p0]) (va_Qv post (hB D kCl (hTys κ) (hAx M sz)) (hAx M sz)) 27 5200 (hAx M sz) := by
  refine Met.ofW (cc := prog_8_method_1_code) (maxL := 3) (ret := none) (by decide +kernel) rfl ?_
  intro p e s m args below meth c s₁ B hml hv
  obtain ⟨rfl, hsz, hE, hM0⟩ := hv
  have hts : ∀ w ∈ WG, w.before _ s = true := fun w h => atoms_spec (ws := ws_Mo_init) B.pre w (List.mem_cons_of_mem _ h)
  subst hsz
  have C : Cx_Mo_init p s m _ meth c D κ (hAx M s.heap.size) := ⟨B.exec, B.bytes, hml, B.returns, findClass_of_methodNamed B.named, hts, B.notSynchronized, hE, fun q h => Or.inr h, (name_of_methodNamed B.named B.method).1⟩
  have hl := lv_entry ([.ref self, .int p0]) (n := 3) (Nat.le_of_ble_eq_true rfl)
  rw [lg_entry_eq]
  generalize (lg_sl ([.ref self, .int p0]) ++ List.replicate (3 - (lg_sl ([.ref self, .int p0])).length) Slot.unset).toArray = ls at hl ⊢
  exact eMo_init C post self p0 M hwp s.heap [] ls (hM0.self (sz := s.heap.size)) va_S.rf hl
abbrev rm_Mo_thrown : Room := { frames := 0, cells := 0, slots := 0, locals := 0 }
def Cx_Mo_thrown (p : Program) (s : State) (m : MethodId) (args : Array Value) (meth : Method) (c : Code) (D : va_G) (κ : Nat → ClassId) (A : Nat → Prop) : Prop := p.tables.exec = Jvm.exec ∧ c.code = prog_8_method_2_code ∧ c.maxLocals = 1 ∧ meth.sig.returnType = (some .int) ∧ s.vm.findClass "BuckTablesModel" = some m.cls ∧ (∀ w ∈ WG, w.before args s = true) ∧ meth.locks = false ∧ hEnv D kCl (hTys κ) A s ∧ (∀ q, s.heap.size ≤ q → A q)
def wpMo_thrown (self : Nat) (M : Hp) (post : Int32 → Hp → Prop) : Prop := (∃ v1 : Int32, fI M self 6 0 v1 ∧ (post v1 M))
set_option maxRecDepth 100000 in
set_option maxHeartbeats 4000000 in
theorem eMo_thrown {p : Program} {l : Launch} {e : Env} {s : State} {m : MethodId} {args : Array Value} {below : List Frame} {meth : Method} {c : Code} {D : va_G} {κ : Nat → ClassId} {A : Nat → Prop} (C : Cx_Mo_thrown p s m args meth c D κ A) (post : Int32 → Hp → Prop) (self : Nat) (M : Hp) (hwp : wpMo_thrown self M post) : Y p l e rm_Mo_thrown s m args below meth c D kCl (hTys κ) A 1 0 0 (MQ below (va_Qi post (hB D kCl (hTys κ) A) A) args s 0 0 A) M 0 [(0, .ref self)] [] := by
  obtain ⟨hx, hb, hml, hr, hown, hts, hlocks, hE, hA⟩ := id C
  have hK := hE.1
  intro H locs ls hM hS hl
  unfold wpMo_thrown at hwp
  refine lv_aload_n hx hb d_Mo_thrown_0 rfl (lv_at hl 0 rfl) ?_
  obtain ⟨v1, ⟨fs2, he3, hv4⟩, hwp⟩ := hwp
  refine h_get (C := "BuckTablesModel") (T := Tc6) (N := 36) hx hb hts inc6 hown hK hM he3 rfl 0 (by decide) (hts _ kw_720) (fun _ h9 => h9) hv4 d_Mo_thrown_1 ?_
  exact W.iret (v := v1) hx hb hr (fun t ht hW => ⟨⟨v1, M, rfl, hwp, by show hw D kCl (hTys κ) A M t.heap; rw [ht]; exact hM⟩, hS.F ht⟩) hS.2.2 d_Mo_thrown_4
set_option maxRecDepth 100000 in
set_option maxHeartbeats 4000000 in
theorem metMo_thrown (l : Launch) (D : va_G) (κ : Nat → ClassId) (sz : Nat) (self : Nat) (M : Hp) (post : Int32 → Hp → Prop) (hwp : wpMo_thrown self M post) : Met l y_Mo_thrown ws_Mo_thrown rm_Mo_thrown (hPc D kCl (hTys κ) M sz [.ref self]) (va_Qi post (hB D kCl (hTys κ) (hAx M sz)) (hAx M sz)) 0 0 (hAx M sz) := by
  refine Met.ofW (cc := prog_8_method_2_code) (maxL := 1) (ret := (some .int)) (by decide +kernel) rfl ?_
  intro p e s m args below meth c s₁ B hml hv
  obtain ⟨rfl, hsz, hE, hM0⟩ := hv
  have hts : ∀ w ∈ WG, w.before _ s = true := fun w h => atoms_spec (ws := ws_Mo_thrown) B.pre w (List.mem_cons_of_mem _ h)
  subst hsz
  have C : Cx_Mo_thrown p s m _ meth c D κ (hAx M s.heap.size) := ⟨B.exec, B.bytes, hml, B.returns, findClass_of_methodNamed B.named, hts, B.notSynchronized, hE, fun q h => Or.inr h⟩
  have hl := lv_entry ([.ref self]) (n := 1) (Nat.le_of_ble_eq_true rfl)
  rw [lg_entry_eq]
  generalize (lg_sl ([.ref self]) ++ List.replicate (1 - (lg_sl ([.ref self])).length) Slot.unset).toArray = ls at hl ⊢
  exact eMo_thrown C post self M hwp s.heap [] ls (hM0.self (sz := s.heap.size)) va_S.rf hl
abbrev rm_Mo_isIn : Room := { frames := 0, cells := 0, slots := 0, locals := 0 }
def Cx_Mo_isIn (p : Program) (s : State) (m : MethodId) (args : Array Value) (meth : Method) (c : Code) (D : va_G) (κ : Nat → ClassId) (A : Nat → Prop) : Prop := p.tables.exec = Jvm.exec ∧ c.code = prog_8_method_3_code ∧ c.maxLocals = 6 ∧ meth.sig.returnType = (some .boolean) ∧ s.vm.findClass "BuckTablesModel" = some m.cls ∧ (∀ w ∈ WG, w.before args s = true) ∧ meth.locks = false ∧ hEnv D kCl (hTys κ) A s ∧ (∀ q, s.heap.size ≤ q → A q)
def wMo_isIn_18 (post : Int32 → Hp → Prop)   (y0 : Int32) (M : Hp) : Prop := ((y0 = 0 ∨ y0 = 1) ∧ post y0 M)
set_option maxRecDepth 100000 in
set_option maxHeartbeats 4000000 in
theorem tMo_isIn_18 {p : Program} {l : Launch} {e : Env} {s : State} {m : MethodId} {args : Array Value} {below : List Frame} {meth : Method} {c : Code} {D : va_G} {κ : Nat → ClassId} {A : Nat → Prop} (C : Cx_Mo_isIn p s m args meth c D κ A) (post : Int32 → Hp → Prop)   (y0 : Int32) (M : Hp) (hwp : wMo_isIn_18 post y0 M) : Y p l e rm_Mo_isIn s m args below meth c D kCl (hTys κ) A 6 0 0 (MQ below (va_Qi post (hB D kCl (hTys κ) A) A) args s 0 0 A) M 18 [] [.int y0] := by
  obtain ⟨hx, hb, hml, hr, hown, hts, hlocks, hE, hA⟩ := id C
  have hK := hE.1
  intro H locs ls hM hS hl
  unfold wMo_isIn_18 at hwp
  obtain ⟨hz1, hwp⟩ := hwp
  exact W.zret (v := y0) hx hb hr (by rcases hz1 with h | h <;> rw [h] <;> rfl) (fun t ht hW => ⟨⟨y0, M, rfl, hwp, by show hw D kCl (hTys κ) A M t.heap; rw [ht]; exact hM⟩, hS.F ht⟩) hS.2.2 d_Mo_isIn_18
def wMo_isIn_17 (post : Int32 → Hp → Prop)   (M : Hp) : Prop := (wMo_isIn_18 post (0 : Int32) M)
set_option maxRecDepth 100000 in
set_option maxHeartbeats 4000000 in
theorem tMo_isIn_17 {p : Program} {l : Launch} {e : Env} {s : State} {m : MethodId} {args : Array Value} {below : List Frame} {meth : Method} {c : Code} {D : va_G} {κ : Nat → ClassId} {A : Nat → Prop} (C : Cx_Mo_isIn p s m args meth c D κ A) (post : Int32 → Hp → Prop)   (M : Hp) (hwp : wMo_isIn_17 post  M) : Y p l e rm_Mo_isIn s m args below meth c D kCl (hTys κ) A 6 0 0 (MQ below (va_Qi post (hB D kCl (hTys κ) A) A) args s 0 0 A) M 17 [] [] := by
  obtain ⟨hx, hb, hml, hr, hown, hts, hlocks, hE, hA⟩ := id C
  have hK := hE.1
  intro H locs ls hM hS hl
  unfold wMo_isIn_17 at hwp
  refine lv_iconst (v := 0) hx hb d_Mo_isIn_17 (by decide) ?_
  exact tMo_isIn_18 C post (0 : Int32) M hwp H locs ls hM hS (lv_sub hl [] rfl)
def wpMo_isIn (p0 : Int64) (p1 : Int64) (p2 : Int64) (M : Hp) (post : Int32 → Hp → Prop) : Prop := ((p0 < p1 → (wMo_isIn_17 post M)) ∧ (¬ p0 < p1 → ((p2 < p0 → (wMo_isIn_17 post M)) ∧ (¬ p2 < p0 → (wMo_isIn_18 post (1 : Int32) M)))))
set_option maxRecDepth 100000 in
set_option maxHeartbeats 4000000 in
theorem eMo_isIn {p : Program} {l : Launch} {e : Env} {s : State} {m : MethodId} {args : Array Value} {below : List Frame} {meth : Method} {c : Code} {D : va_G} {κ : Nat → ClassId} {A : Nat → Prop} (C : Cx_Mo_isIn p s m args meth c D κ A) (post : Int32 → Hp → Prop) (p0 : Int64) (p1 : Int64) (p2 : Int64) (M : Hp) (hwp : wpMo_isIn p0 p1 p2 M post) : Y p l e rm_Mo_isIn s m args below meth c D kCl (hTys κ) A 6 0 0 (MQ below (va_Qi post (hB D kCl (hTys κ) A) A) args s 0 0 A) M 0 [(0, .long p0), (2, .long p1), (4, .long p2)] [] := by
  obtain ⟨hx, hb, hml, hr, hown, hts, hlocks, hE, hA⟩ := id C
  have hK := hE.1
  intro H locs ls hM hS hl
  unfold wpMo_isIn at hwp
  refine lv_lload_n hx hb d_Mo_isIn_0 rfl (lv_at hl 0 rfl) ?_
  refine lv_lload_n hx hb d_Mo_isIn_1 rfl (lv_at hl 1 rfl) ?_
  refine W.lcmp hx hb d_Mo_isIn_2 ?_
  refine lv_if_lt (tgt := 17) hx hb d_Mo_isIn_3 (by decide) (fun c2 => ?_) (fun c2 => ?_)
  · replace c2 := (lc_lt _ _).mp c2
    replace hwp := hwp.1 c2
    exact tMo_isIn_17 C post M hwp H locs ls hM hS (lv_sub hl [] rfl)
  · replace c2 := fun h9 => c2 ((lc_lt _ _).mpr h9)
    replace hwp := hwp.2 c2
    refine lv_lload_n hx hb d_Mo_isIn_6 rfl (lv_at hl 0 rfl) ?_
    refine lv_lload hx hb d_Mo_isIn_7 (lv_at hl 2 rfl) ?_
    refine W.lcmp hx hb d_Mo_isIn_9 ?_
    refine lv_if_gt (tgt := 17) hx hb d_Mo_isIn_10 (by decide) (fun c3 => ?_) (fun c3 => ?_)
    · replace c3 := (lc_gt _ _).mp c3
      replace hwp := hwp.1 c3
      exact tMo_isIn_17 C post M hwp H locs ls hM hS (lv_sub hl [] rfl)
    · replace c3 := fun h9 => c3 ((lc_gt _ _).mpr h9)
      replace hwp := hwp.2 c3
      refine lv_iconst (v := 1) hx hb d_Mo_isIn_13 (by decide) ?_
      refine lv_goto (tgt := 18) hx hb d_Mo_isIn_14 (by decide) ?_
      exact tMo_isIn_18 C post (1 : Int32) M hwp H locs ls hM hS (lv_sub hl [] rfl)
set_option maxRecDepth 100000 in
set_option maxHeartbeats 4000000 in
theorem metMo_isIn (l : Launch) (D : va_G) (κ : Nat → ClassId) (sz : Nat) (p0 : Int64) (p1 : Int64) (p2 : Int64) (M : Hp) (post : Int32 → Hp → Prop) (hwp : wpMo_isIn p0 p1 p2 M post) : Met l y_Mo_isIn ws_Mo_isIn rm_Mo_isIn (hPc D kCl (hTys κ) M sz [.long p0, .long p1, .long p2]) (va_Qi post (hB D kCl (hTys κ) (hAx M sz)) (hAx M sz)) 0 0 (hAx M sz) := by
  refine Met.ofW (cc := prog_8_method_3_code) (maxL := 6) (ret := (some .boolean)) (by decide +kernel) rfl ?_
  intro p e s m args below meth c s₁ B hml hv
  obtain ⟨rfl, hsz, hE, hM0⟩ := hv
  have hts : ∀ w ∈ WG, w.before _ s = true := fun w h => atoms_spec (ws := ws_Mo_isIn) B.pre w (List.mem_cons_of_mem _ h)
  subst hsz
  have C : Cx_Mo_isIn p s m _ meth c D κ (hAx M s.heap.size) := ⟨B.exec, B.bytes, hml, B.returns, findClass_of_methodNamed B.named, hts, B.notSynchronized, hE, fun q h => Or.inr h⟩
  have hl := lv_entry ([.long p0, .long p1, .long p2]) (n := 6) (Nat.le_of_ble_eq_true rfl)
  rw [lg_entry_eq]
  generalize (lg_sl ([.long p0, .long p1, .long p2]) ++ List.replicate (6 - (lg_sl ([.long p0, .long p1, .long p2])).length) Slot.unset).toArray = ls at hl ⊢
  exact eMo_isIn C post p0 p1 p2 M hwp s.heap [] ls (hM0.self (sz := s.heap.size)) va_S.rf hl
abbrev rm_Mo_told : Room := { frames := 0, cells := 0, slots := 0, locals := 0 }
def Cx_Mo_told (p : Program) (s : State) (m : MethodId) (args : Array Value) (meth : Method) (c : Code) (D : va_G) (κ : Nat → ClassId) (A : Nat → Prop) : Prop := p.tables.exec = Jvm.exec ∧ c.code = prog_8_method_4_code ∧ c.maxLocals = 2 ∧ meth.sig.returnType = (some .boolean) ∧ s.vm.findClass "BuckTablesModel" = some m.cls ∧ (∀ w ∈ WG, w.before args s = true) ∧ meth.locks = false ∧ hEnv D kCl (hTys κ) A s ∧ (∀ q, s.heap.size ≤ q → A q)
def wMo_told_17 (post : Int32 → Hp → Prop)  (x1 : Int32) (y0 : Int32) (y1 : Nat) (M : Hp) : Prop := ((y0 = 0 ∨ y0 = 1) ∧ (∃ M1 : Hp, pF M y1 6 33 (.int y0) M1 ∧ ((x1 = 0 ∨ x1 = 1) ∧ post x1 M1)))
set_option maxRecDepth 100000 in
set_option maxHeartbeats 4000000 in
theorem tMo_told_17 {p : Program} {l : Launch} {e : Env} {s : State} {m : MethodId} {args : Array Value} {below : List Frame} {meth : Method} {c : Code} {D : va_G} {κ : Nat → ClassId} {A : Nat → Prop} (C : Cx_Mo_told p s m args meth c D κ A) (post : Int32 → Hp → Prop)  (x1 : Int32) (y0 : Int32) (y1 : Nat) (M : Hp) (hwp : wMo_told_17 post x1 y0 y1 M) : Y p l e rm_Mo_told s m args below meth c D kCl (hTys κ) A 2 0 0 (MQ below (va_Qi post (hB D kCl (hTys κ) A) A) args s 0 0 A) M 17 [(1, .int x1)] [.int y0, .ref y1] := by
  obtain ⟨hx, hb, hml, hr, hown, hts, hlocks, hE, hA⟩ := id C
  have hK := hE.1
  intro H locs ls hM hS hl
  unfold wMo_told_17 at hwp
  obtain ⟨hz5, hwp⟩ := hwp
  obtain ⟨M1, ⟨fs2, he3, hl4, eM1⟩, hwp⟩ := hwp
  refine h_put (C := "BuckTablesModel") (T := Tc6) (N := 36) (v := .int y0) (ty := .boolean) hx hb hts inc6 tyc6 tyc6_ok nmc6 hown hK hM hS he3 rfl 33 (by decide) (hts _ kw_753) (fun _ h9 => h9) rfl (by decide +kernel) (by rcases hz5 with h | h <;> rw [h] <;> rfl) (by rcases hz5 with h | h <;> rw [h] <;> rfl) hl4 d_Mo_told_17 (fun H locs hM hS => ?_)
  rw [← eM1] at hM
  refine lv_iload_n hx hb d_Mo_told_20 rfl (lv_at hl 0 rfl) ?_
  obtain ⟨hz6, hwp⟩ := hwp
  exact W.zret (v := x1) hx hb hr (by rcases hz6 with h | h <;> rw [h] <;> rfl) (fun t ht hW => ⟨⟨x1, M1, rfl, hwp, by show hw D kCl (hTys κ) A M1 t.heap; rw [ht]; exact hM⟩, hS.F ht⟩) hS.2.2 d_Mo_told_21
def wMo_told_16 (post : Int32 → Hp → Prop)  (x1 : Int32) (y0 : Nat) (M : Hp) : Prop := (wMo_told_17 post x1 (0 : Int32) y0 M)
set_option maxRecDepth 100000 in
set_option maxHeartbeats 4000000 in
theorem tMo_told_16 {p : Program} {l : Launch} {e : Env} {s : State} {m : MethodId} {args : Array Value} {below : List Frame} {meth : Method} {c : Code} {D : va_G} {κ : Nat → ClassId} {A : Nat → Prop} (C : Cx_Mo_told p s m args meth c D κ A) (post : Int32 → Hp → Prop)  (x1 : Int32) (y0 : Nat) (M : Hp) (hwp : wMo_told_16 post x1 y0 M) : Y p l e rm_Mo_told s m args below meth c D kCl (hTys κ) A 2 0 0 (MQ below (va_Qi post (hB D kCl (hTys κ) A) A) args s 0 0 A) M 16 [(1, .int x1)] [.ref y0] := by
  obtain ⟨hx, hb, hml, hr, hown, hts, hlocks, hE, hA⟩ := id C
  have hK := hE.1
  intro H locs ls hM hS hl
  unfold wMo_told_16 at hwp
  refine lv_iconst (v := 0) hx hb d_Mo_told_16 (by decide) ?_
  exact tMo_told_17 C post x1 (0 : Int32) y0 M hwp H locs ls hM hS (lv_sub hl [0] rfl)
def wpMo_told (self : Nat) (p0 : Int32) (M : Hp) (post : Int32 → Hp → Prop) : Prop := (∃ v7 : Int32, fI M self 6 33 v7 ∧ ((v7 = 0 → (wMo_told_16 post p0 self M)) ∧ (¬ v7 = 0 → ((p0 = 0 → (wMo_told_17 post p0 (1 : Int32) self M)) ∧ (¬ p0 = 0 → (wMo_told_16 post p0 self M))))))
set_option maxRecDepth 100000 in
set_option maxHeartbeats 4000000 in
theorem eMo_told {p : Program} {l : Launch} {e : Env} {s : State} {m : MethodId} {args : Array Value} {below : List Frame} {meth : Method} {c : Code} {D : va_G} {κ : Nat → ClassId} {A : Nat → Prop} (C : Cx_Mo_told p s m args meth c D κ A) (post : Int32 → Hp → Prop) (self : Nat) (p0 : Int32) (M : Hp) (hwp : wpMo_told self p0 M post) : Y p l e rm_Mo_told s m args below meth c D kCl (hTys κ) A 2 0 0 (MQ below (va_Qi post (hB D kCl (hTys κ) A) A) args s 0 0 A) M 0 [(0, .ref self), (1, .int p0)] [] := by
  obtain ⟨hx, hb, hml, hr, hown, hts, hlocks, hE, hA⟩ := id C
  have hK := hE.1
  intro H locs ls hM hS hl
  unfold wpMo_told at hwp
  refine lv_aload_n hx hb d_Mo_told_0 rfl (lv_at hl 0 rfl) ?_
  refine lv_aload_n hx hb d_Mo_told_1 rfl (lv_at hl 0 rfl) ?_
  obtain ⟨v7, ⟨fs8, he9, hv10⟩, hwp⟩ := hwp
  refine h_get (C := "BuckTablesModel") (T := Tc6) (N := 36) hx hb hts inc6 hown hK hM he9 rfl 33 (by decide) (hts _ kw_753) (fun _ h9 => h9) hv10 d_Mo_told_2 ?_
  refine lv_if_eq (tgt := 16) hx hb d_Mo_told_5 (by decide) (fun c11 => ?_) (fun c11 => ?_)
  · replace hwp := hwp.1 c11
    exact tMo_told_16 C post p0 self M hwp H locs ls hM hS (lv_sub hl [1] rfl)
  · replace hwp := hwp.2 c11
    refine lv_iload_n hx hb d_Mo_told_8 rfl (lv_at hl 1 rfl) ?_
    refine lv_if_ne (tgt := 16) hx hb d_Mo_told_9 (by decide) (fun c12 => ?_) (fun c12 => ?_)
    · replace hwp := hwp.2 c12
      exact tMo_told_16 C post p0 self M hwp H locs ls hM hS (lv_sub hl [1] rfl)
    · replace hwp := hwp.1 c12
      refine lv_iconst (v := 1) hx hb d_Mo_told_12 (by decide) ?_
      refine lv_goto (tgt := 17) hx hb d_Mo_told_13 (by decide) ?_
      exact tMo_told_17 C post p0 (1 : Int32) self M hwp H locs ls hM hS (lv_sub hl [1] rfl)
set_option maxRecDepth 100000 in
set_option maxHeartbeats 4000000 in
theorem metMo_told (l : Launch) (D : va_G) (κ : Nat → ClassId) (sz : Nat) (self : Nat) (p0 : Int32) (M : Hp) (post : Int32 → Hp → Prop) (hwp : wpMo_told self p0 M post) : Met l y_Mo_told ws_Mo_told rm_Mo_told (hPc D kCl (hTys κ) M sz [.ref self, .int p0]) (va_Qi post (hB D kCl (hTys κ) (hAx M sz)) (hAx M sz)) 0 0 (hAx M sz) := by
  refine Met.ofW (cc := prog_8_method_4_code) (maxL := 2) (ret := (some .boolean)) (by decide +kernel) rfl ?_
  intro p e s m args below meth c s₁ B hml hv
  obtain ⟨rfl, hsz, hE, hM0⟩ := hv
  have hts : ∀ w ∈ WG, w.before _ s = true := fun w h => atoms_spec (ws := ws_Mo_told) B.pre w (List.mem_cons_of_mem _ h)
  subst hsz
  have C : Cx_Mo_told p s m _ meth c D κ (hAx M s.heap.size) := ⟨B.exec, B.bytes, hml, B.returns, findClass_of_methodNamed B.named, hts, B.notSynchronized, hE, fun q h => Or.inr h⟩
  have hl := lv_entry ([.ref self, .int p0]) (n := 2) (Nat.le_of_ble_eq_true rfl)
  rw [lg_entry_eq]
  generalize (lg_sl ([.ref self, .int p0]) ++ List.replicate (2 - (lg_sl ([.ref self, .int p0])).length) Slot.unset).toArray = ls at hl ⊢
  exact eMo_told C post self p0 M hwp s.heap [] ls (hM0.self (sz := s.heap.size)) va_S.rf hl
abbrev rm_Mo_stepsOf : Room := { frames := 0, cells := 0, slots := 0, locals := 0 }
def Cx_Mo_stepsOf (p : Program) (s : State) (m : MethodId) (args : Array Value) (meth : Method) (c : Code) (D : va_G) (κ : Nat → ClassId) (A : Nat → Prop) : Prop := p.tables.exec = Jvm.exec ∧ c.code = prog_8_method_5_code ∧ c.maxLocals = 2 ∧ meth.sig.returnType = (some .int) ∧ s.vm.findClass "BuckTablesModel" = some m.cls ∧ (∀ w ∈ WG, w.before args s = true) ∧ meth.locks = false ∧ hEnv D kCl (hTys κ) A s ∧ (∀ q, s.heap.size ≤ q → A q)
def wMo_stepsOf_36 (post : Int32 → Hp → Prop)   (y0 : Int32) (M : Hp) : Prop := (post y0 M)
set_option maxRecDepth 100000 in
set_option maxHeartbeats 4000000 in
theorem tMo_stepsOf_36 {p : Program} {l : Launch} {e : Env} {s : State} {m : MethodId} {args : Array Value} {below : List Frame} {meth : Method} {c : Code} {D : va_G} {κ : Nat → ClassId} {A : Nat → Prop} (C : Cx_Mo_stepsOf p s m args meth c D κ A) (post : Int32 → Hp → Prop)   (y0 : Int32) (M : Hp) (hwp : wMo_stepsOf_36 post y0 M) : Y p l e rm_Mo_stepsOf s m args below meth c D kCl (hTys κ) A 2 0 0 (MQ below (va_Qi post (hB D kCl (hTys κ) A) A) args s 0 0 A) M 36 [] [.int y0] := by
  obtain ⟨hx, hb, hml, hr, hown, hts, hlocks, hE, hA⟩ := id C
  have hK := hE.1
  intro H locs ls hM hS hl
  unfold wMo_stepsOf_36 at hwp
  exact W.iret (v := y0) hx hb hr (fun t ht hW => ⟨⟨y0, M, rfl, hwp, by show hw D kCl (hTys κ) A M t.heap; rw [ht]; exact hM⟩, hS.F ht⟩) hS.2.2 d_Mo_stepsOf_36
def wpMo_stepsOf (self : Nat) (p0 : Int32) (M : Hp) (post : Int32 → Hp → Prop) : Prop := (∃ a1 : Nat, fA M self 6 5 a1 ∧ (∃ v5 : Int32, aI M a1 p0 v5 ∧ ((v5 = 0 → (wMo_stepsOf_36 post (0 : Int32) M)) ∧ (¬ v5 = 0 → (∃ a11 : Nat, fA M self 6 6 a11 ∧ (∃ a15 : Nat, fA M self 6 5 a15 ∧ (∃ v19 : Int32, aI M a15 p0 v19 ∧ (∃ v24 : Int32, aI M a11 ((((60 : Int32) * p0) + v19) - (1 : Int32)) v24 ∧ (∃ v29 : Int32, fI M self 6 1 v29 ∧ (¬ v29 = 0 ∧ (wMo_stepsOf_36 post (v24 / v29) M)))))))))))
set_option maxRecDepth 100000 in
set_option maxHeartbeats 4000000 in
theorem eMo_stepsOf {p : Program} {l : Launch} {e : Env} {s : State} {m : MethodId} {args : Array Value} {below : List Frame} {meth : Method} {c : Code} {D : va_G} {κ : Nat → ClassId} {A : Nat → Prop} (C : Cx_Mo_stepsOf p s m args meth c D κ A) (post : Int32 → Hp → Prop) (self : Nat) (p0 : Int32) (M : Hp) (hwp : wpMo_stepsOf self p0 M post) : Y p l e rm_Mo_stepsOf s m args below meth c D kCl (hTys κ) A 2 0 0 (MQ below (va_Qi post (hB D kCl (hTys κ) A) A) args s 0 0 A) M 0 [(0, .ref self), (1, .int p0)] [] := by
  obtain ⟨hx, hb, hml, hr, hown, hts, hlocks, hE, hA⟩ := id C
  have hK := hE.1
  intro H locs ls hM hS hl
  unfold wpMo_stepsOf at hwp
  refine lv_aload_n hx hb d_Mo_stepsOf_0 rfl (lv_at hl 0 rfl) ?_
  obtain ⟨a1, ⟨fs2, he3, hv4⟩, hwp⟩ := hwp
  refine h_get (C := "BuckTablesModel") (T := Tc6) (N := 36) hx hb hts inc6 hown hK hM he3 rfl 5 (by decide) (hts _ kw_725) (fun _ h9 => h9) hv4 d_Mo_stepsOf_1 ?_
  refine lv_iload_n hx hb d_Mo_stepsOf_4 rfl (lv_at hl 1 rfl) ?_
  obtain ⟨v5, ⟨n6, f7, ha8, hi9, ev5⟩, hwp⟩ := hwp
  refine h_iald hx hb hK hM ha8 rfl hi9 d_Mo_stepsOf_5 ?_
  rw [← ev5]
  refine lv_if_ne (tgt := 13) hx hb d_Mo_stepsOf_6 (by decide) (fun c10 => ?_) (fun c10 => ?_)
  · replace hwp := hwp.2 c10
    refine lv_aload_n hx hb d_Mo_stepsOf_13 rfl (lv_at hl 0 rfl) ?_
    obtain ⟨a11, ⟨fs12, he13, hv14⟩, hwp⟩ := hwp
    refine h_get (C := "BuckTablesModel") (T := Tc6) (N := 36) hx hb hts inc6 hown hK hM he13 rfl 6 (by decide) (hts _ kw_726) (fun _ h9 => h9) hv14 d_Mo_stepsOf_14 ?_
    refine lv_bipush (v := 60) hx hb d_Mo_stepsOf_17 (by decide) ?_
    refine lv_iload_n hx hb d_Mo_stepsOf_19 rfl (lv_at hl 1 rfl) ?_
    refine lv_imul hx hb d_Mo_stepsOf_20 ?_
    refine lv_aload_n hx hb d_Mo_stepsOf_21 rfl (lv_at hl 0 rfl) ?_
    obtain ⟨a15, ⟨fs16, he17, hv18⟩, hwp⟩ := hwp
    refine h_get (C := "BuckTablesModel") (T := Tc6) (N := 36) hx hb hts inc6 hown hK hM he17 rfl 5 (by decide) (hts _ kw_725) (fun _ h9 => h9) hv18 d_Mo_stepsOf_22 ?_
    refine lv_iload_n hx hb d_Mo_stepsOf_25 rfl (lv_at hl 1 rfl) ?_
    obtain ⟨v19, ⟨n20, f21, ha22, hi23, ev19⟩, hwp⟩ := hwp
    refine h_iald hx hb hK hM ha22 rfl hi23 d_Mo_stepsOf_26 ?_
    rw [← ev19]
    refine lv_iadd hx hb d_Mo_stepsOf_27 ?_
    refine lv_iconst (v := 1) hx hb d_Mo_stepsOf_28 (by decide) ?_
    refine lv_isub hx hb d_Mo_stepsOf_29 ?_
    obtain ⟨v24, ⟨n25, f26, ha27, hi28, ev24⟩, hwp⟩ := hwp
    refine h_iald hx hb hK hM ha27 rfl hi28 d_Mo_stepsOf_30 ?_
    rw [← ev24]
    refine lv_aload_n hx hb d_Mo_stepsOf_31 rfl (lv_at hl 0 rfl) ?_
    obtain ⟨v29, ⟨fs30, he31, hv32⟩, hwp⟩ := hwp
    refine h_get (C := "BuckTablesModel") (T := Tc6) (N := 36) hx hb hts inc6 hown hK hM he31 rfl 1 (by decide) (hts _ kw_721) (fun _ h9 => h9) hv32 d_Mo_stepsOf_32 ?_
    obtain ⟨h33, hwp⟩ := hwp
    refine lv_idiv hx hb d_Mo_stepsOf_35 h33 ?_
    exact tMo_stepsOf_36 C post (v24 / v29) M hwp H locs ls hM hS (lv_sub hl [] rfl)
  · replace hwp := hwp.1 c10
    refine lv_iconst (v := 0) hx hb d_Mo_stepsOf_9 (by decide) ?_
    refine lv_goto (tgt := 36) hx hb d_Mo_stepsOf_10 (by decide) ?_
    exact tMo_stepsOf_36 C post (0 : Int32) M hwp H locs ls hM hS (lv_sub hl [] rfl)
set_option maxRecDepth 100000 in
set_option maxHeartbeats 4000000 in
theorem metMo_stepsOf (l : Launch) (D : va_G) (κ : Nat → ClassId) (sz : Nat) (self : Nat) (p0 : Int32) (M : Hp) (post : Int32 → Hp → Prop) (hwp : wpMo_stepsOf self p0 M post) : Met l y_Mo_stepsOf ws_Mo_stepsOf rm_Mo_stepsOf (hPc D kCl (hTys κ) M sz [.ref self, .int p0]) (va_Qi post (hB D kCl (hTys κ) (hAx M sz)) (hAx M sz)) 0 0 (hAx M sz) := by
  refine Met.ofW (cc := prog_8_method_5_code) (maxL := 2) (ret := (some .int)) (by decide +kernel) rfl ?_
  intro p e s m args below meth c s₁ B hml hv
  obtain ⟨rfl, hsz, hE, hM0⟩ := hv
  have hts : ∀ w ∈ WG, w.before _ s = true := fun w h => atoms_spec (ws := ws_Mo_stepsOf) B.pre w (List.mem_cons_of_mem _ h)
  subst hsz
  have C : Cx_Mo_stepsOf p s m _ meth c D κ (hAx M s.heap.size) := ⟨B.exec, B.bytes, hml, B.returns, findClass_of_methodNamed B.named, hts, B.notSynchronized, hE, fun q h => Or.inr h⟩
  have hl := lv_entry ([.ref self, .int p0]) (n := 2) (Nat.le_of_ble_eq_true rfl)
  rw [lg_entry_eq]
  generalize (lg_sl ([.ref self, .int p0]) ++ List.replicate (2 - (lg_sl ([.ref self, .int p0])).length) Slot.unset).toArray = ls at hl ⊢
  exact eMo_stepsOf C post self p0 M hwp s.heap [] ls (hM0.self (sz := s.heap.size)) va_S.rf hl
