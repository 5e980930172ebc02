/-! MAKING: what a constructor asks beyond the good words, and arrays of arrays -/
section ZL
variable {s : State} {A : Nat → Prop}
theorem z_nest (hE : hX A s) {own host : String} {i : Nat} {y : MethodName} (hin : Cond.methodLinkNest own i y host ∈ lw_tbl) : va_Nw (.methodLinkNest own i y host) s := by
  obtain ⟨s0, a0, q, h1, h2, h3, h4, h5, h6⟩ := hE
  exact va_Nw.warmM h3 (va_Nw.of rfl (h1 _ hin))
theorem z_ao (hE : hX A s) {C : String} (hin : Cond.arrayOver (.object C) ∈ lw_tbl) : va_AO C s := by
  obtain ⟨s0, a0, q, h1, h2, h3, h4, h5, h6⟩ := hE
  exact va_AO.moved h3.alike (h1 _ hin)
theorem z_aoI (hE : hX A s) (hin : Cond.arrayOver (.array .int) ∈ lw_tbl) (args : Array Value) : (Cond.arrayOver (.array .int)).before args s = true := by
  obtain ⟨s0, a0, q, g1, g2, g3, g4, g5, g6⟩ := hE
  have hvm := g3.alike
  obtain ⟨comp, c, k, h1, h2, h3, h4, h5⟩ := arrayOverA_spec (g1 _ hin)
  obtain ⟨k', hk', he⟩ := hvm.2.2 _ _ h3
  have hbare : s.vm.bare = s0.vm.bare := by first | exact hvm.bare_eq | exact hvm.bare_eq.symm
  have hi := (va_idx_bare s.vm comp).symm
  rw [hbare] at hi
  have hi := hi.trans ((va_idx_bare s0.vm comp).trans h2)
  have hkind : k'.kind = .array comp (.array .int) := by rw [he]; exact h4
  have f1 : s.vm.findClass (FieldType.array .int).toString = some comp := by rw [hvm.findClass]; exact h1
  have f2 : s.vm.findClass ("[" ++ (FieldType.array .int).toString) = some c := by rw [hvm.findClass]; exact h5
  unfold Cond.before Cond.holds
  simp only [Cond.value]
  rw [f1, Option.bind_some]
  refine (congrArg (fun o : Option Nat => (o.bind (fun c => (s.vm.classes[c]?).map fun (k : Class) => match k.kind with | .array _ ty => decide (ty = FieldType.array .int) && decide (s.vm.findClass ("[" ++ (FieldType.array .int).toString) = some c) | _ => false) == some true)) hi).trans ?_
  simp [hk', hkind, f2]
end ZL
/-- new int[n][k]: the outer array at q, its rows behind it -/
def mnaM (M : Hp) (q N K : Nat) : Hp := fun a => if a = q then some (.inl (6, N, .inr (.inr (.inr (.inr (fun i => if i < N then some (q + 1 + i) else none)))))) else if q < a ∧ a < q + 1 + N then some (.inl (0, K, .inl (fun _ => 0))) else M a
theorem z_outer (c : ClassId) (N h0 : Nat) : ∀ i : Nat, Jvm.Free.Multi.outerC c N h0 i = arrV c N (fun j => va_rf (if j < i then some (h0 + 1 + j) else none))
  | 0 => by
    show ({ cls := c, slots := Array.replicate N .null, vm := .none } : Cell) = _
    rw [arrV_new]
    refine congrArg (arrV c N) (funext fun j => ?_)
    simp [va_rf]
  | i + 1 => by
    show (Jvm.Free.Multi.outerC c N h0 i).setSlot i (.ref (h0 + 1 + i)) = _
    rw [z_outer c N h0 i, arrV_store]
    refine congrArg (arrV c N) (funext fun j => ?_)
    by_cases e : j = i
    · subst e
      simp [updV, va_rf]
    · by_cases h : j < i
      · simp [updV, e, h, Nat.lt_succ_of_lt h]
      · simp [updV, e, h, show ¬ j < i + 1 by omega]
section ZM
variable {p : Program} {l : Launch} {e : Env} {R : Room} {s : State} {m : MethodId} {args : Array Value} {below : List Frame} {meth : Method} {c : Code} {H H0 : Heap} {locs : List Loc} {cells slots : Nat} {Q : State → Prop}
variable {D : va_G} {cl : List vw_C} {tys : List (ClassId × FieldType)} {A : Nat → Prop} {M : Hp} {pc : Nat} {ls : Array Slot} {rest : List Value} {cc : ByteArray}
theorem h_mna (hexec : p.tables.exec = Jvm.exec) (hb : c.code = cc) {own : String} {index : Nat} (hown : s.vm.findClass own = some m.cls) (hclink : (Cond.classLink own index ("[" ++ (FieldType.array .int).toString)).before args s = true) (hover : (Cond.arrayOver (.array .int)).before args s = true) (harr : (Cond.arrayClass .int).before args s = true)
    (hK : va_K D cl tys s) (hM : hw D cl tys A M H) (hS : va_S A H0 H locs) (hA : ∀ q, H0.size ≤ q → A q) (ht0 : (tys[0]?).map (·.2) = some .int) (ht6 : (tys[6]?).map (·.2) = some (.array .int)) {n k : Int32} {N' K' : Nat} (hn : ¬ n < 0) (hk : ¬ k < 0) (hN : n.toNatClampNeg = N') (hKK : k.toNatClampNeg = K')
    (hb1 : N' * 4 ≤ 536870912) (hb2 : K' * 4 ≤ 536870912) (hcells : cells + (1 + N') ≤ R.cells) (hslots : slots + (N' + N' * K') ≤ R.slots) (hdg : decode cc pc = .ok (.multianewarray index 2, 4))
    (kk : ∀ (q : Nat) (H1 : Heap), (∀ i : Nat, M (q + i) = none) → hw D cl tys A (mnaM M q N' K') H1 → va_S A H0 H1 locs →
      W p l e R s m args below meth c H1 locs (cells + 1 + N') (slots + N' + N' * K') Q (F0 m (pc + 4) ls (.ref q :: rest))) : W p l e R s m args below meth c H locs cells slots Q (F0 m pc ls (.int k :: .int n :: rest)) := by
  subst hN
  subst hKK
  intro T hT Xs
  obtain ⟨vm₁, cA, comp, -, fA, fC, hO, -, X', step⟩ := Xs.multianewarray2F hexec hown hclink hover harr (g := F0 m pc ls (.int k :: .int n :: rest)) rfl (by rw [hb]; exact hdg) rfl hn hk hb1 hb2 (by omega) rfl rfl hcells hslots
  generalize hF : Jvm.Free.Multi.fill (T.setVm vm₁) cA comp n.toNatClampNeg k.toNatClampNeg (defaultValue .int) n.toNatClampNeg = F at X' step
  have hTh : (T.setVm vm₁).heap = H := hT
  obtain ⟨f1, f2, -, -⟩ := Jvm.Free.Multi.fill_facts (T.setVm vm₁) cA comp n.toNatClampNeg k.toNatClampNeg (defaultValue .int) n.toNatClampNeg
  rw [hF, hTh] at f1 f2
  have hold : ∀ x : Nat, x < H.size → F.heap[x]? = H[x]? := fun x hx => by
    have := Jvm.Free.Multi.fill_old (T.setVm vm₁) cA comp n.toNatClampNeg k.toNatClampNeg (defaultValue .int) (a := x) (by rw [hTh]; exact hx) n.toNatClampNeg
    rw [hF, hTh] at this
    exact this
  have hrow : ∀ j : Nat, j < n.toNatClampNeg → F.heap[H.size + 1 + j]? = some (vp_cell comp (k.toNatClampNeg, .inl (fun _ => 0))) := fun j hj => by
    have := Jvm.Free.Multi.fill_inner (T.setVm vm₁) cA comp n.toNatClampNeg k.toNatClampNeg (defaultValue .int) n.toNatClampNeg j hj
    rw [hF, hTh] at this
    rw [this]
    show some (_ : Cell) = some (arrV comp k.toNatClampNeg (fun _ => .int 0))
    rw [← arrV_new]
    rfl
  rw [z_outer] at f2
  have hq0 : ∃ q, tys[0]? = some q ∧ q.1 = comp := by
    cases htt : tys[0]? with
    | none => rw [htt] at ht0; cases ht0
    | some q =>
      rw [htt] at ht0
      have hq2 : q.2 = .int := Option.some.inj ht0
      have hra := (hK.2 0 q htt).2
      rw [hq2] at hra
      have h9 : s.vm.findClass ("[" ++ (FieldType.int).toString) = some q.1 := hra
      exact ⟨q, rfl, Option.some.inj (h9.symm.trans fC)⟩
  have hq6 : ∃ q, tys[6]? = some q ∧ q.1 = cA := by
    cases htt : tys[6]? with
    | none => rw [htt] at ht6; cases ht6
    | some q =>
      rw [htt] at ht6
      have hq2 : q.2 = .array .int := Option.some.inj ht6
      have hra := (hK.2 6 q htt).2
      rw [hq2] at hra
      have h9 : s.vm.findClass ("[" ++ (FieldType.array .int).toString) = some q.1 := hra
      exact ⟨q, rfl, Option.some.inj (h9.symm.trans fA)⟩
  obtain ⟨q0, hq0, e0⟩ := hq0
  obtain ⟨q6, hq6, e6⟩ := hq6
  have hw1 : hw D cl tys A (mnaM M H.size n.toNatClampNeg k.toNatClampNeg) F.heap := by
    intro a x hx
    unfold mnaM at hx
    by_cases h1 : a = H.size
    · rw [if_pos h1] at hx
      cases hx
      subst h1
      refine ⟨⟨q6, hq6, ?_⟩, hA _ hS.1⟩
      show F.heap[H.size]? = some (vp_cell _ _)
      rw [vp_cell_q, e6]
      exact f2
    · rw [if_neg h1] at hx
      by_cases h2 : H.size < a ∧ a < H.size + 1 + n.toNatClampNeg
      · rw [if_pos h2] at hx
        cases hx
        refine ⟨⟨q0, hq0, ?_⟩, hA _ (Nat.le_trans hS.1 (Nat.le_of_lt h2.1))⟩
        show F.heap[a]? = some (vp_cell _ _)
        rw [e0]
        have h3 := hrow (a - (H.size + 1)) (by omega)
        rw [show H.size + 1 + (a - (H.size + 1)) = a by omega] at h3
        exact h3
      · rw [if_neg h2] at hx
        exact ⟨(hM a x hx).1.kept (hold a (hM a x hx).1.lt), (hM a x hx).2⟩
  obtain ⟨t, a1, b1⟩ := kk H.size F.heap (fun i => hM.fresh (by omega)) hw1 ⟨by rw [f1]; have := hS.1; omega, fun x h1 h2 => (hold x (Nat.lt_of_lt_of_le h1 hS.1)).trans (hS.2.1 x h1 h2), hS.2.2⟩ F rfl X'
  refine ⟨t, step t ?_, b1⟩
  have e : T.heap.size = H.size := by rw [hT]
  rw [e]
  exact a1
end ZM
def sA (t ci : Nat) (M : Hp) (a : Nat) (i : Int32) (v : Nat) (M1 : Hp) : Prop := ∃ (n : Nat) (f : Nat → Option Nat), M a = some (.inl (t, n, .inr (.inr (.inr (.inr f))))) ∧ vp_in i n ∧ hob M v ci ∧ M1 = va_up M a (some (.inl (t, n, .inr (.inr (.inr (.inr (va_up f i.toNatClampNeg (some v))))))))
/-! methods with a table of their own -/
def zTab (hh : List (Nat × Nat × Nat × Nat)) : List ExceptionTableEntry := hh.map (fun q => ⟨q.1, q.2.1, q.2.2.1, q.2.2.2⟩)
theorem zTab_of (t : List ExceptionTableEntry) : zTab (t.map (fun h => (h.startPc, h.endPc, h.handlerPc, h.catchType))) = t := by
  unfold zTab
  rw [List.map_map]
  induction t with
  | nil => rfl
  | cons a t ih => rw [List.map_cons, ih]; rfl
theorem z_table {p : Program} {l : Launch} {x : MethodName} {S : Spec} {code bytes : ByteArray} {maxLocals maxL' : Nat} {ret ret' : Option FieldType} {e : Env} {s s₁ : State} {m : MethodId} {args : Array Value} {below : List Frame} {meth : Method} {c : Code} {hh : List (Nat × Nat × Nat × Nat)}
    (B : BodyLoose p l x S code maxLocals ret e s m args below meth c s₁) (h : (Cond.codeWith x bytes maxL' ret' hh).before args s = true) : c.exceptionTable.toList = zTab hh := by
  obtain ⟨m', meth', c', hn, hm, hc, -, -, htab, -⟩ := Cond.codeWith_spec h
  cases B.named.symm.trans hn
  cases B.method.symm.trans hm
  cases (Stand.of_body B).code.symm.trans hc
  rw [← htab, zTab_of]
/-- the pairs of exceptions that the law's handlers tell apart -/
def ncL : List (String × String) := [("java/lang/IllegalStateException", "java/lang/IllegalArgumentException"), ("java/lang/IllegalStateException", "java/lang/IndexOutOfBoundsException"), ("java/lang/IllegalArgumentException", "java/lang/IllegalStateException"), ("java/lang/IllegalArgumentException", "java/lang/IndexOutOfBoundsException"), ("java/lang/IndexOutOfBoundsException", "java/lang/IllegalStateException"), ("java/lang/IndexOutOfBoundsException", "java/lang/IllegalArgumentException")]
def hNC (U : State) : Prop := ∀ w ∈ ncL, va_Nc w.1 w.2 U
theorem hNC.moved {u U : State} (hvm : u.vm.Alike U.vm) (h : hNC u) : hNC U := fun w hw => va_Nc.moved hvm (h w hw)
theorem z_cast {A : Nat → Prop} {s : State} (hE : hX A s) {C T : String} (hin : Cond.castable C T ∈ lw_tbl) (args : Array Value) : (Cond.castable C T).before args s = true := by
  obtain ⟨s0, a0, q, h1, h2, h3, h4, h5, h6⟩ := hE
  exact xwk_warm (w := .castable C T) rfl h3 (h1 _ hin)
abbrev hPcN (D : va_G) (cl : List vw_C) (tys : List (ClassId × FieldType)) (M : Hp) (sz : Nat) (av : List Value) : Array Value → State → Prop := va_Pc av (fun U => U.heap.size = sz ∧ hEnv D cl tys (hAx M sz) U ∧ hw D cl tys (fun _ => True) M U.heap ∧ hNC U)
section ZW
variable {p : Program} {l : Launch} {e : Env} {R : Room} {s : State} {m : MethodId} {args : Array Value} {below : List Frame} {meth : Method} {c : Code} {H : Heap} {locs : List Loc} {cells slots : Nat} {Q : State → Prop} {T : State}
variable {D : va_G} {cl : List vw_C} {tys : List (ClassId × FieldType)} {A A1 : Nat → Prop} {M : Hp} {mc ms : Nat} {Qc : Array Value → State → Outcome → State → Prop}
variable {y : MethodName} {bytes cc : ByteArray} {maxL nL n index : Nat} {ret : Option FieldType} {ws : List Cond} {rm : Room} {Pc : Array Value → State → Prop} {Ts : List Cond} {own : String} {As rest : List Value} {g : JFrame} {free : Addr → Prop} {hh : List (Nat × Nat × Nat × Nat)}
theorem z_blind {sz : Nat} {As : List Value} : FrameBlind (hPcN D cl tys M sz As) := fun a U g mk q => by
  obtain ⟨q0, q1, ⟨qK, s0, a0, r, h1, h2, h3, h4, h5, h6⟩, qM, qN⟩ := q
  exact ⟨q0, q1, ⟨va_K.moved (u := U) (U := U.calling g mk a) (Vm.Alike.refl U.vm) qK, s0, a0, r, h1, h2, h3, h4, h5, h6⟩, qM, hNC.moved (u := U) (U := U.calling g mk a) (Vm.Alike.refl U.vm) qN⟩
theorem z_preS (hE : hEnv D cl tys A s) (hN : hNC s) (hM : hw D cl tys A M H) (hS : va_S A s.heap H locs) {As : List Value} : PreS s H (hPcN D cl tys M H.size As) As :=
  ⟨z_blind, fun U hU hW => ⟨rfl, by rw [hU], hE.go hM hS hU hW, by rw [hU]; exact hM.weaken (fun _ _ => trivial), hN.moved hW.alike⟩⟩
/-- a static call of a method with a table of its own -/
theorem z_runS (S : CallFix p m c cc nL s args Ts own) (hM : Met l y ws rm Pc Qc mc ms free) (hT9 : ∀ w ∈ ws, ∀ (a' : Array Value) (U : State), s.WarmedH U.vm → w.before a' U = true) (hcw : Cond.codeWith y bytes maxL ret hh ∈ ws) (hrc : rm.cells = mc) (hrs : rm.slots = ms) (hR : rm.frames + 1 ≤ R.frames ∧ 8 + (maxL + 11) + rm.locals ≤ R.locals)
    (hl : (Cond.methodLink own index y).before args s = true) (hstt : (Cond.static y).before args s = true) (hini : (Cond.initialized y.cls).before args s = true) (hd : y.cls ≠ "java/lang/invoke/MethodHandle" ∧ y.cls ≠ "java/lang/invoke/VarHandle" ∧ (parseMethodDescriptor y.desc).map (fun d => d.parameters.length) = some n) (hp : PreS s H Pc As)
    (hg : g.method = m) (hn : As.length = n) (hsize : g.locals.size = nL) (hstack : g.stack = As.reverse ++ rest) (hW8 : 2 * g.monitorRoom + (rest.map fun v => v.category).sum ≤ 8) (hdg : decode cc g.pc = .ok (.invokestatic index, 3)) (hf : cells + mc ≤ R.cells ∧ slots + ms ≤ R.slots) :
    va_Run p l e R s m args below meth c H locs cells slots mc ms g rest (Qc As.toArray) free := by
  obtain ⟨hx, hb, hml, ho, -⟩ := S
  intro T hT X
  have hcode0 : (Cond.codeWith y bytes maxL ret hh).before args s = true := hT9 _ hcw args s (State.WarmedH.refl s)
  obtain ⟨mk, methM, cM, hnamed, hmethM, -, -, -, -, -, -, hsigM⟩ := Cond.codeWith_spec hcode0
  have hstatic : methM.isStatic = true := Cond.static_spec hnamed hmethM hstt
  obtain ⟨kP, hkP, -⟩ := className_of_methodNamed hnamed
  have hinitP : kP.init = .initialized := Cond.initialized_spec (findClass_of_methodNamed hnamed) hkP hini
  have hlen : As.length = methM.sig.parameters.length := by
    have h2 := hd.2.2
    rw [hsigM] at h2
    exact hn.trans (Option.some.inj h2).symm
  obtain ⟨vm₁, X₁, hstep₁⟩ := X.invokestatic hx ho hl hnamed hmethM hstatic hkP hinitP ⟨hd.1, hd.2.1⟩ (g := g) hg (argsL := As) (rest := rest) hlen hstack (by rw [hb]; exact hdg)
  have hP := hp.1 _ _ { g with stack := rest } mk (hp.2 (T.setVm vm₁) hT X₁.warmed)
  have h1 : (headSpec ws rm).pre.before As.toArray (T.setVm vm₁) = true := atoms_intro fun w hw => hT9 w hw _ _ X₁.warmed
  have h2 : (Cond.codeWith y bytes maxL ret hh).before As.toArray (T.setVm vm₁) = true := hT9 _ hcw _ _ X₁.warmed
  have h3 : (Cond.initialized y.cls).before As.toArray (T.setVm vm₁) = true := word_at X₁.warmed (Or.inl (by first | rfl | simp [Cond.onTables, Cond.keeps, Cond.steady])) hini
  have hn1 := X₁.named hnamed
  obtain ⟨mY, methY, cY, hnY, hmY, hcY, -, hlY, -, -, -, -⟩ := Cond.codeWith_spec h2
  cases hn1.symm.trans hnY
  obtain ⟨kY, hkY, -⟩ := className_of_methodNamed hn1
  have hinitY : kY.init = .initialized := Cond.initialized_spec (findClass_of_methodNamed hn1) hkY h3
  have h : At (T.setVm vm₁) ({ g with stack := rest } : JFrame).method c below := by rw [show ({ g with stack := rest } : JFrame).method = m from hg]; exact X₁.here
  have hlo9 : 8 + (maxL + 11) + (headSpec ws rm).room.locals ≤ R.locals := hR.2
  have h4 : cells + (headSpec ws rm).room.cells ≤ R.cells := by rw [show (headSpec ws rm).room.cells = mc from hrc]; exact hf.1
  have h5 : slots + (headSpec ws rm).room.slots ≤ R.slots := by rw [show (headSpec ws rm).room.slots = ms from hrs]; exact hf.2
  have happ : (headSpec ws rm).appliesLoose y e.platform ((T.setVm vm₁).calling { g with stack := rest } mk As.toArray) = true :=
    Spec.appliesLoose_calling (g := { g with stack := rest }) h (show decode c.code g.pc = _ by rw [hb]; exact hdg) hn1 hkY hinitY
      (X₁.room_calling (g := { g with stack := rest }) (R' := (headSpec ws rm).room) (hsize.trans hml.symm) hmY hcY hR.1 (by rw [hlY]; show 2 * g.monitorRoom + (rest.map fun v => v.category).sum + _ + _ ≤ _; omega) h4 h5) h1
  obtain ⟨mid, hmid⟩ := h.above
  have hfr' : ((T.setVm vm₁).setTop { g with stack := rest }).frames = (.java { g with stack := rest } :: mid) ++ below := by rw [State.frames_setTop' _ h.top, hmid]; rfl
  obtain ⟨o, s₂, hsteps, -, hend, hq⟩ := Steps.callFree hM p X₁.admits X₁.cas X₁.clock (acts := []) hfr' happ hP trivial
  rw [State.frames_setTop' _ h.top, X₁.tail] at hend
  obtain ⟨hqc, L, ⟨⟨v, rfl⟩, hW₂, hsm⟩, hL⟩ := hq
  obtain ⟨T', X', -, -, ht⟩ := X₁.outOf (g := { g with stack := rest }) hg (show decode c.code g.pc = .ok (.invokestatic index, 3) by rw [hb]; exact hdg) hend hW₂ hsm
  refine ⟨v, (T.setVm vm₁).calling { g with stack := rest } mk As.toArray, s₂, T', L, hT, X', hL, by rw [ht]; rfl, by rw [ht]; rfl, hqc, ?_⟩
  intro tg h9
  refine hstep₁ _ fun acts => ?_
  rw [doInvoke_state]
  refine hsteps.trans ?_
  rw [ht]
  exact h9
end ZW
