abbrev rm_La_cell : Room := { frames := 0, cells := 0, slots := 0, locals := 0 }
def Cx_La_cell (p : Program) (s : State) (m : MethodId) (args : Array Value) (meth : Method) (c : Code) (D : va_G) (κ : Nat → ClassId) (A : Nat → Prop) : Prop := p.tables.exec = Jvm.exec ∧ c.code = method_2_code ∧ c.maxLocals = 2 ∧ meth.sig.returnType = (some .int) ∧ s.vm.findClass "BuckTablesLaw" = some m.cls ∧ (∀ w ∈ WG, w.before args s = true) ∧ meth.locks = false ∧ hEnv D kCl (hTys κ) A s ∧ (∀ q, s.heap.size ≤ q → A q)
def wLa_cell_13 (post : Int32 → Hp → Prop)   (y0 : Int32) (M : Hp) : Prop := (post y0 M)
set_option maxRecDepth 100000 in
set_option maxHeartbeats 4000000 in
theorem tLa_cell_13 {p : Program} {l : Launch} {e : Env} {s : State} {m : MethodId} {args : Array Value} {below : List Frame} {meth : Method} {c : Code} {D : va_G} {κ : Nat → ClassId} {A : Nat → Prop} (C : Cx_La_cell p s m args meth c D κ A) (post : Int32 → Hp → Prop)   (y0 : Int32) (M : Hp) (hwp : wLa_cell_13 post y0 M) : Y p l e rm_La_cell s m args below meth c D kCl (hTys κ) A 2 0 0 (MQ below (va_Qi post (hB D kCl (hTys κ) A) A) args s 0 0 A) M 13 [] [.int y0] := by
  obtain ⟨hx, hb, hml, hr, hown, hts, hlocks, hE, hA⟩ := id C
  have hK := hE.1
  intro H locs ls hM hS hl
  unfold wLa_cell_13 at hwp
  exact W.iret (v := y0) hx hb hr (fun t ht hW => ⟨⟨y0, M, rfl, hwp, by show hw D kCl (hTys κ) A M t.heap; rw [ht]; exact hM⟩, hS.F ht⟩) hS.2.2 d_La_cell_13
def wpLa_cell (p0 : Nat) (p1 : Int32) (M : Hp) (post : Int32 → Hp → Prop) : Prop := (∃ n1 : Nat, aL 0 M p0 n1 ∧ (((nI n1) ≤ p1 → (wLa_cell_13 post (0 : Int32) M)) ∧ (¬ (nI n1) ≤ p1 → (∃ v5 : Int32, aI M p0 p1 v5 ∧ (wLa_cell_13 post v5 M)))))
set_option maxRecDepth 100000 in
set_option maxHeartbeats 4000000 in
theorem eLa_cell {p : Program} {l : Launch} {e : Env} {s : State} {m : MethodId} {args : Array Value} {below : List Frame} {meth : Method} {c : Code} {D : va_G} {κ : Nat → ClassId} {A : Nat → Prop} (C : Cx_La_cell p s m args meth c D κ A) (post : Int32 → Hp → Prop) (p0 : Nat) (p1 : Int32) (M : Hp) (hwp : wpLa_cell p0 p1 M post) : Y p l e rm_La_cell s m args below meth c D kCl (hTys κ) A 2 0 0 (MQ below (va_Qi post (hB D kCl (hTys κ) A) A) args s 0 0 A) M 0 [(0, .ref p0), (1, .int p1)] [] := by
  obtain ⟨hx, hb, hml, hr, hown, hts, hlocks, hE, hA⟩ := id C
  have hK := hE.1
  intro H locs ls hM hS hl
  unfold wpLa_cell at hwp
  refine lv_iload_n hx hb d_La_cell_0 rfl (lv_at hl 1 rfl) ?_
  refine lv_aload_n hx hb d_La_cell_1 rfl (lv_at hl 0 rfl) ?_
  obtain ⟨n1, ⟨x2, ha3, en1⟩, hwp⟩ := hwp
  refine h_alen hx hb hK hM ha3 d_La_cell_2 ?_
  rw [en1]
  refine lv_icmp_ge (tgt := 12) hx hb d_La_cell_3 (by decide) (fun c4 => ?_) (fun c4 => ?_)
  · replace hwp := hwp.1 c4
    refine lv_iconst (v := 0) hx hb d_La_cell_12 (by decide) ?_
    exact tLa_cell_13 C post (0 : Int32) M hwp H locs ls hM hS (lv_sub hl [] rfl)
  · replace hwp := hwp.2 c4
    refine lv_aload_n hx hb d_La_cell_6 rfl (lv_at hl 0 rfl) ?_
    refine lv_iload_n hx hb d_La_cell_7 rfl (lv_at hl 1 rfl) ?_
    obtain ⟨v5, ⟨n6, f7, ha8, hi9, ev5⟩, hwp⟩ := hwp
    refine h_iald hx hb hK hM ha8 rfl hi9 d_La_cell_8 ?_
    rw [← ev5]
    refine lv_goto (tgt := 13) hx hb d_La_cell_9 (by decide) ?_
    exact tLa_cell_13 C post v5 M hwp H locs ls hM hS (lv_sub hl [] rfl)
set_option maxRecDepth 100000 in
set_option maxHeartbeats 4000000 in
theorem metLa_cell (l : Launch) (D : va_G) (κ : Nat → ClassId) (sz : Nat) (p0 : Nat) (p1 : Int32) (M : Hp) (post : Int32 → Hp → Prop) (hwp : wpLa_cell p0 p1 M post) : Met l y_La_cell ws_La_cell rm_La_cell (hPc D kCl (hTys κ) M sz [.ref p0, .int p1]) (va_Qi post (hB D kCl (hTys κ) (hAx M sz)) (hAx M sz)) 0 0 (hAx M sz) := by
  refine Met.ofW (cc := method_2_code) (maxL := 2) (ret := (some .int)) (by decide +kernel) rfl ?_
  intro p e s m args below meth c s₁ B hml hv
  obtain ⟨rfl, hsz, hE, hM0⟩ := hv
  have hts : ∀ w ∈ WG, w.before _ s = true := fun w h => atoms_spec (ws := ws_La_cell) B.pre w (List.mem_cons_of_mem _ h)
  subst hsz
  have C : Cx_La_cell p s m _ meth c D κ (hAx M s.heap.size) := ⟨B.exec, B.bytes, hml, B.returns, findClass_of_methodNamed B.named, hts, B.notSynchronized, hE, fun q h => Or.inr h⟩
  have hl := lv_entry ([.ref p0, .int p1]) (n := 2) (Nat.le_of_ble_eq_true rfl)
  rw [lg_entry_eq]
  generalize (lg_sl ([.ref p0, .int p1]) ++ List.replicate (2 - (lg_sl ([.ref p0, .int p1])).length) Slot.unset).toArray = ls at hl ⊢
  exact eLa_cell C post p0 p1 M hwp s.heap [] ls (hM0.self (sz := s.heap.size)) va_S.rf hl
