/-! THROWING: methods that return or throw, over the map -/
section XL
variable {p : Program} {l : Launch} {e : Env} {R : Room} {s : State} {m : MethodId} {args : Array Value} {below : List Frame} {meth : Method} {c : Code} {H : Heap} {locs : List Loc} {cells slots : Nat} {Q : State → Prop} {T : State}
variable {D : va_G} {cl : List vw_C} {tys : List (ClassId × FieldType)} {A A1 : Nat → Prop} {M : Hp} {px : String → Hp → Prop} {mc ms : Nat} {Qc : Array Value → State → Outcome → State → Prop}
/-- the method has thrown an E, the map is M1 -/
def xT (D : va_G) (cl : List vw_C) (tys : List (ClassId × FieldType)) (A : Nat → Prop) (px : String → Hp → Prop) (mc ms : Nat) (st : State) (o : Outcome) (t : State) : Prop :=
  ∃ (q : Addr) (E : String) (ce : Cell) (M1 : Hp) (L : List Loc), o = .threw q ∧ px E M1 ∧ hw D cl tys A M1 t.heap ∧ t.heap[q]? = some ce ∧ ce.vm = .none ∧ st.vm.findClass E = some ce.cls ∧ st.WarmedH t.vm ∧ st.sameButNew ({ t with vm := st.vm } : State) L mc ms ∧ (∀ z ∈ L, A z.base) ∧ va_F A st t
def xQ (Qc : Array Value → State → Outcome → State → Prop) (D : va_G) (cl : List vw_C) (tys : List (ClassId × FieldType)) (A : Nat → Prop) (px : String → Hp → Prop) (mc ms : Nat) : Array Value → State → Outcome → State → Prop := fun a st o t =>
  (Qc a st o t ∧ ∃ L, FrameEnd st o t L mc ms ∧ ∀ q ∈ L, A q.base) ∨ xT D cl tys A px mc ms st o t
def xMet (l : Launch) (y : MethodName) (ws : List Cond) (rm : Room) (Pc : Array Value → State → Prop) (Qc : Array Value → State → Outcome → State → Prop) (D : va_G) (cl : List vw_C) (tys : List (ClassId × FieldType)) (A : Nat → Prop) (px : String → Hp → Prop) (mc ms : Nat) : Prop :=
  MetFree l y (headSpec ws rm) Pc (fun _ _ _ _ _ => True) (xQ Qc D cl tys A px mc ms)
def xMQ (below : List Frame) (Qc : Array Value → State → Outcome → State → Prop) (D : va_G) (cl : List vw_C) (tys : List (ClassId × FieldType)) (A : Nat → Prop) (px : String → Hp → Prop) (args : Array Value) (s : State) (mc ms : Nat) : State → Prop := fun t =>
  ∃ o, t.status = .running ∧ Ended t below o ∧ xQ Qc D cl tys A px mc ms args s o t
theorem x_ret {g : JFrame} (k : W p l e R s m args below meth c H locs cells slots (MQ below Qc args s mc ms A) g) : W p l e R s m args below meth c H locs cells slots (xMQ below Qc D cl tys A px args s mc ms) g := by
  intro T hT X
  obtain ⟨t, a, o, h1, h2, h3, h4⟩ := k T hT X
  exact ⟨t, a, o, h1, h2, Or.inl ⟨h3, h4⟩⟩
theorem xMet.ofW {y : MethodName} {ws ws' : List Cond} {rm : Room} {Pc : Array Value → State → Prop} {cc : ByteArray} {maxL : Nat} {ret : Option FieldType}
    (hy : plainName y.cls = true) (hw : ws = Cond.code y cc maxL ret :: ws')
    (body : ∀ p e s m args below meth c s₁, BodyLoose p l y (headSpec ws rm) cc maxL ret e s m args below meth c s₁ → c.maxLocals = maxL → Pc args s →
      W p l e (headSpec ws rm).room s m args below meth c s.heap [] 0 0 (xMQ below Qc D cl tys A px args s mc ms) (entryFrame m args maxL)) : xMet l y ws rm Pc Qc D cl tys A px mc ms := by
  refine MetFree.of_bodyS (code := cc) (maxLocals := maxL) (ret := ret) hy ?_ ?_
  · intro args s m h hn
    obtain ⟨meth, c, h1, h2, h3, h4, h5, h6, -, -⟩ := Cond.code_spec hn (atoms_spec (ws := ws) h _ (by rw [hw]; exact List.mem_cons_self))
    exact ⟨meth, c, h1, h2, h3, h4, h5, h6⟩
  · intro p e s m args below meth c s₁ B hml hP _
    have hh0 : s₁.heap = s.heap := by rw [B.state]; rfl
    obtain ⟨t, a1, o, b1, b2, b3⟩ := body p e s m args below meth c s₁ B hml hP s₁ hh0 (Stand.of_body B)
    exact ⟨t, o, a1, b1, b2, b3⟩
/-- a walk that has come to T stands there as if it began there -/
theorem x_again (X : Stand p l e R s m args below meth c T locs cells slots) {R' : Room} (hf : R'.frames ≤ R.frames) (hl : R'.locals ≤ R.locals) (hc : cells + R'.cells ≤ R.cells) (hs : slots + R'.slots ≤ R.slots) :
    Stand p l e R' ((T.setVm s.vm).setFrames (.invoking m args :: below)) m args below meth c T [] 0 0 := by
  obtain ⟨g₀, hr⟩ := X.frames_eq
  have hcur : (T.setVm s.vm).cur < (T.setVm s.vm).threads.size := State.cur_lt_of_frames hr
  have hF : ((T.setVm s.vm).setFrames (.invoking m args :: below)).frames = .invoking m args :: below := State.frames_setFrames _ hcur
  have hl9 : e.platform.stackLimits (T.setVm s.vm).me = e.platform.stackLimits s.me := X.limits
  have hb9 : (T.setVm s.vm).me.stackBytes = s.me.stackBytes := X.bytes
  refine ⟨X.admits, X.cas, X.clock, hF, ?_, X.hears, X.method, X.code, X.here, X.tail, X.warmed, ?_, ?_, ?_⟩
  · have h := X.room
    have hU : ((T.setVm s.vm).setFrames (.invoking m args :: below)).localsInUse = s.localsInUse := by
      rw [State.localsInUse_invoking hF (meth := meth) (c := c) X.method X.code, State.localsInUse_invoking X.frames X.method X.code]
    simp only [State.hasRoom, Bool.and_eq_true, decide_eq_true_eq] at h ⊢
    obtain ⟨⟨⟨⟨h1, h2, h3, h4, h5, h6⟩, h7⟩, h8⟩, h9⟩ := h
    rw [X.frames, List.length_cons] at h2 h3
    have q1 := X.heapSize
    have q2 := X.used
    simp only [hF, hU, List.length_cons, State.stackLimits_setFrames, State.stackBytes_setFrames, hl9, hb9]
    refine ⟨⟨⟨⟨by omega, by omega, by omega, by omega, by omega, h6⟩, ?_⟩, ?_⟩, X.book⟩
    · show T.heap.size + R'.cells ≤ e.platform.maxCells
      omega
    · show T.slotsUsed + R'.slots ≤ e.platform.maxSlots
      omega
  · rw [State.stackLimits_setFrames]; rfl
  · rw [State.stackBytes_setFrames]; rfl
  · refine ⟨?_, Nat.le_refl _, Nat.le_refl _, ?_, ?_, fun a c9 h9 => ⟨c9, h9, rfl, rfl, fun _ _ => rfl⟩⟩
    · obtain ⟨t, ht, -⟩ := State.frames_cons hr
      show T.setVm s.vm = { ((T.setVm s.vm).setFrames (.invoking m args :: below)).setFrames (T.setVm s.vm).frames with heap := T.heap, slotsUsed := T.slotsUsed }
      rw [State.setFrames_setFrames, State.setFrames_self (show (T.setVm s.vm).threads[(T.setVm s.vm).cur]? = some t from ht)]
      rfl
    · show T.slotsUsed = T.slotsUsed + ((T.heap.toList.drop T.heap.size).map (·.slots.size)).sum
      rw [List.drop_eq_nil_of_le (Nat.le_of_eq Array.length_toList)]
      rfl
    · show ((T.heap.toList.drop T.heap.size).map (·.slots.size)).sum ≤ 0
      rw [List.drop_eq_nil_of_le (Nat.le_of_eq Array.length_toList)]
      exact Nat.le_refl _
/-- nothing of the state's cells has changed, when nothing was written -/
theorem x_same {U : State} {k n : Nat} (h : s.sameButNew ({ U with vm := s.vm } : State) [] k n) : s.heap.size ≤ U.heap.size ∧ ∀ q : Nat, q < s.heap.size → U.heap[q]? = s.heap[q]? := by
  obtain ⟨-, h2, -, -, -, h6⟩ := h
  refine ⟨h2, fun q hq => ?_⟩
  obtain ⟨c', e1, e2, e3, e4⟩ := h6 q _ (Array.getElem?_eq_getElem hq)
  have e5 : U.heap[q]? = some c' := e1
  have h9 : c' = s.heap[q] := by
    rw [e2]
    have hs : c'.slots = s.heap[q].slots := by
      apply Array.ext_getElem?
      intro i
      exact e4 i (fun z => nomatch z)
    rw [hs]
  rw [e5, h9, Array.getElem?_eq_getElem hq]
end XL
section XW
variable {p : Program} {l : Launch} {e : Env} {R : Room} {s : State} {m : MethodId} {args : Array Value} {below : List Frame} {meth : Method} {c : Code} {H : Heap} {locs : List Loc} {cells slots : Nat} {Q : State → Prop} {T : State}
variable {D : va_G} {cl : List vw_C} {tys : List (ClassId × FieldType)} {A A1 : Nat → Prop} {M : Hp} {px : String → Hp → Prop} {mc ms : Nat} {Qc : Array Value → State → Outcome → State → Prop}
/-- words that a warmer form of the tables keeps -/
def xwk : Cond → Bool
  | .castable _ _ => true
  | .declares _ => true
  | w => goodWord w
theorem xwk_warm {w : Cond} (h : xwk w = true) {s0 V : State} (hW : s0.WarmedH V.vm) {a0 a : Array Value} (hb : w.before a0 s0 = true) : w.before a V = true := by
  cases w <;> first | exact va_Nw.use rfl (va_Nw.warmC hW (va_Nw.of rfl hb)) | exact va_Nw.use rfl (va_Nw.warmD hW (va_Nw.of rfl hb)) | exact word_at hW (good_of_word h) hb
theorem x_words (hE : hX A s) (hS : va_S A s.heap H locs) {L : List Cond} (hin : ∀ w ∈ L, (w ∈ lw_tbl ∧ xwk w = true) ∨ w ∈ thrW) {V : State} (hW : s.WarmedH V.vm) (hV : V.heap = H) : ∀ w ∈ L, ∀ a : Array Value, w.before a V = true := by
  obtain ⟨s0, a0, q, h1, h2, h3, h4, h5, h6⟩ := hE
  have hWV : s0.WarmedH V.vm := State.WarmedH.trans h3 hW
  intro w hw a
  rcases hin w hw with ⟨g1, g2⟩ | g
  · exact xwk_warm g2 hWV (h1 w g1)
  · exact h2 V hWV (by rw [hV, hS.2.1 q h5 h4]; exact h6) w g a
theorem x_text (hE : hX A s) {own tx : String} {k : Nat} (hin : Cond.stringRef own k tx ∈ lw_tbl) {cX : ClassId} (hown : s.vm.findClass own = some cX) {V : State} (hW : s.WarmedH V.vm) : ∃ a : Nat, vk_R own k tx a V := by
  obtain ⟨s0, a0, q, h1, h2, h3, h4, h5, h6⟩ := hE
  have hWV : s0.WarmedH V.vm := State.WarmedH.trans h3 hW
  have hown0 : s0.vm.findClass own = some cX := by rw [← hown, h3.alike.findClass]
  have hb := h1 _ hin
  have hb' : (Cond.stringRef own k tx).before #[] s0 = true := hb
  obtain ⟨k9, cf, i, a', hk, hcf, hcp, -, hr, hev'⟩ := Cond.stringRef_spec hown0 hb'
  exact ⟨a', vk_R.warm hWV ⟨hb', hev'⟩⟩
/-- 'throw new E("text")' -/
theorem x_throw {cc : ByteArray} {pc : Nat} {ls : Array Slot} {rest : List Value} (hexec : p.tables.exec = Jvm.exec) (hb : c.code = cc) (hl : l.stackTraces = false) {own cls text : String} {names : List String} {ik is ic : Nat}
    (hown : s.vm.findClass own = some m.cls) (hcls : Bundle.fit cls = true) (hnames : ∀ n ∈ names, Bundle.fit n = true) (hE : hX A s) (hS : va_S A s.heap H locs) (hM : hw D cl tys A M H)
    (hin : ∀ w ∈ Cond.classLink own ik cls :: Cond.initialized cls :: Bundle.ownAtoms own ic cls names, (w ∈ lw_tbl ∧ xwk w = true) ∨ w ∈ thrW) (htx : Cond.stringRef own is text ∈ lw_tbl) (hsize : ls.size = c.maxLocals)
    (d0 : decode cc pc = .ok (.new ik, 3)) (d3 : decode cc (pc + 3) = .ok (.dup, 1)) (d4 : decode cc (pc + 4) = .ok (.ldc is, 2)) (d6 : decode cc (pc + 6) = .ok (.invokespecial ic, 3)) (d9 : decode cc (pc + 9) = .ok (.athrow, 1))
    (hout : ∀ x ∈ c.exceptionTable.toList, covers x (pc + 9) = false)
    (hRframes : names.length + 3 < R.frames) (hRlocals : (rest.map fun v => v.category).sum + (13 * (names.length + 1) + 43) ≤ R.locals) (hRcells : cells + 1 ≤ R.cells) (hRslots : slots + 6 ≤ R.slots) (hlocks : meth.locks = false)
    (hp : px cls M) (hc : cells + 1 ≤ mc) (hs : slots + 6 ≤ ms) :
    W p l e R s m args below meth c H locs cells slots (xMQ below Qc D cl tys A px args s mc ms) (F0 m pc ls rest) := by
  intro T hT X
  have htr : e.platform.stackTraces = false := (show e.platform.stackTraces = l.stackTraces by rw [X.admits.platform]).trans hl
  have Y := x_again X (R' := { frames := R.frames, locals := R.locals, cells := 1, slots := 6 }) (Nat.le_refl _) (Nat.le_refl _) hRcells hRslots
  obtain ⟨s', hA⟩ : ∃ z, z = (T.setVm s.vm).setFrames (.invoking m args :: below) := ⟨_, rfl⟩
  rw [← hA] at Y
  have hvm : s'.vm = s.vm := by rw [hA]; rfl
  have hhp : s'.heap = H := by rw [hA]; exact hT
  have hW0 : s.WarmedH s'.vm := by rw [hvm]; exact State.WarmedH.refl s
  have hall := x_words hE hS hin hW0 hhp
  have hk' : (Cond.classLink own ik cls).before args s' = true := hall _ List.mem_cons_self args
  have hini' : (Cond.initialized cls).before args s' = true := hall _ (List.mem_cons_of_mem _ List.mem_cons_self) args
  have h : ∀ w ∈ Bundle.ownAtoms own ic cls names, w.before args s' = true := fun w hw => hall w (List.mem_cons_of_mem _ (List.mem_cons_of_mem _ hw)) args
  obtain ⟨sa, hstr⟩ := x_text hE htx hown hW0
  have hown' : s'.vm.findClass own = some m.cls := by rw [hvm]; exact hown
  have hins : (Cond.instantiable cls 6).before args s' = true := h _ (by simp [Bundle.ownAtoms])
  obtain ⟨vm₁, cX, kX, hfX, hkX, -, -, X₁, st1⟩ := Y.newCold hexec (own := own) (C := cls) (index := ik) (n := 6) hown' hk' hins hini'
    (g := F0 m pc ls rest) rfl (by rw [hb]; exact d0) (Nat.le_refl _) (Nat.le_refl _)
  generalize hT1 : (T.setVm vm₁).pushCell { cls := cX, slots := kX.instanceTypes.map defaultValue, vm := .none } = T1 at X₁ st1
  have hcat : (Value.ref T.heap.size).category = 1 := rfl
  have hcellA : T1.heap[T.heap.size]? = some (freshCell cX kX) := by rw [← hT1]; exact State.heap_pushCell_size _ _
  have d3' : decode c.code (pc + 3) = .ok (.dup, 1) := by rw [hb]; exact d3
  have d4' : decode c.code (pc + 4) = .ok (.ldc is, 2) := by rw [hb]; exact d4
  obtain ⟨U, hsteps, hrun, hend, hW, hsame, ce, hce, hO⟩ := X₁.ctorThrowS hexec htr (own := own) (cls := cls) (names := names) (ic := ic) hown' hcls hnames h (fun x hx => nomatch hx) hfX hkX hcellA (by rw [hhp, hT]; exact Nat.le_refl _) (msg := .ref sa) rfl
    (g := { method := m, pc := pc + 6, locals := ls, stack := .ref sa :: .ref T.heap.size :: .ref T.heap.size :: rest, locked := none }) rfl hsize rfl rfl (rest := rest) rfl
    (by rw [hb]; exact d6) (by rw [hb]; exact d9) hout hRframes (by simp only [List.map_cons, List.sum_cons, hcat]; omega) hlocks
  obtain ⟨f1, f2⟩ := x_same hsame
  rw [hhp] at f1 f2
  have hWs : s.WarmedH U.vm := State.WarmedH.trans hW0 hW
  have hcl : s.vm.findClass cls = some ce.cls := by
    have h9 := hO.cls
    rw [hvm] at h9
    exact h9
  have hall2 : s.sameButNew ({ U with vm := s.vm } : State) locs mc ms := by
    subst hA
    obtain ⟨e1, e2⟩ := hsame
    rw [State.setFrames_setFrames] at e1
    have h2 : (T.setVm s.vm).sameButNew ({ U with vm := s.vm } : State) [] (0 + 1) (0 + 6) := ⟨e1, e2⟩
    have h3 := X.same.trans h2
    rw [List.append_nil] at h3
    exact h3.mono hc hs
  refine ⟨U, ?_, .threw T.heap.size, hrun, hend, Or.inr ⟨T.heap.size, cls, ce, M, locs, rfl, hp, hM.kept f2, hce, hO.vm, hcl, hWs, hall2, hS.2.2, ⟨Nat.le_trans hS.1 f1, fun q g1 g2 => by rw [f2 q (Nat.lt_of_lt_of_le g1 hS.1)]; exact hS.2.1 q g1 g2⟩⟩⟩
  refine st1 _ ?_
  show Steps p.tables e below (T1.setTop { method := m, pc := pc + 3, locals := ls, stack := .ref T.heap.size :: rest, locked := none }) _
  jvm_step X₁.here [X₁.here.top, hexec, d3', Value.category]
  exact X₁.ldcString hexec (own := own) (text := text) (index := is) (a := sa) hown' hstr.1 hstr.2
    (g := { method := m, pc := pc + 4, locals := ls, stack := .ref T.heap.size :: .ref T.heap.size :: rest, locked := none }) rfl d4' _ hsteps
end XW
section XB
variable {p : Program} {l : Launch} {e : Env} {R : Room} {s : State} {m : MethodId} {args : Array Value} {below : List Frame} {meth : Method} {c : Code} {H : Heap} {locs : List Loc} {cells slots : Nat} {Q : State → Prop} {T : State}
variable {D : va_G} {cl : List vw_C} {tys : List (ClassId × FieldType)} {A A1 : Nat → Prop} {M : Hp} {px : String → Hp → Prop} {mc ms : Nat} {Qc : Array Value → State → Outcome → State → Prop}
variable {y : MethodName} {bytes cc : ByteArray} {maxL nL n index : Nat} {ret : Option FieldType} {ws : List Cond} {rm : Room} {Pc : Array Value → State → Prop} {Ts : List Cond} {own C : String} {b : Addr} {As rest : List Value} {g : JFrame} {a : Array Value} {mk : MethodId}
/-- behind a call: it came back, or it threw -/
def xOut (p : Program) (l : Launch) (e : Env) (R : Room) (s : State) (m : MethodId) (args : Array Value) (below : List Frame) (meth : Method) (c : Code) (locs : List Loc) (cells slots : Nat) (D : va_G) (cl : List vw_C) (tys : List (ClassId × FieldType)) (A1 : Nat → Prop) (px : String → Hp → Prop) (mc ms : Nat) (Qa : Outcome → State → Prop) (st : State) (S0 : State) (g : JFrame) : Prop :=
  (∃ (v : Option Value) (t T' : State) (L : List Loc), Stand p l e R s m args below meth c T' (locs ++ L) (cells + mc) (slots + ms) ∧ (∀ q ∈ L, A1 q.base) ∧ T'.heap = t.heap ∧ T'.vm = t.vm ∧ Qa (.returned v) t ∧ Steps p.tables e below S0 (T'.setTop { g with pc := g.pc + 3, stack := v.toList ++ g.stack })) ∨
  ∃ (q : Addr) (E : String) (ce : Cell) (M1 : Hp) (t T' : State) (L : List Loc), Stand p l e R s m args below meth c T' (locs ++ L) (cells + mc) (slots + ms) ∧ (∀ z ∈ L, A1 z.base) ∧ T'.heap = t.heap ∧ T'.vm = t.vm ∧ px E M1 ∧ hw D cl tys A1 M1 t.heap ∧ t.heap[q]? = some ce ∧ ce.vm = .none ∧ s.vm.findClass E = some ce.cls ∧ va_F A1 st t ∧ Steps p.tables e below S0 ((T'.setTop g).pushFrame (.throwing q))
theorem x_back (hM : xMet l y ws rm Pc Qc D cl tys A1 px mc ms) (hrc : rm.cells = mc) (hrs : rm.slots = ms) (hfr : rm.frames + 1 ≤ R.frames) (hlo : 8 + (maxL + 11) + rm.locals ≤ R.locals)
    (hws : ∀ w ∈ ws, ∀ (a' : Array Value) (U : State), s.WarmedH U.vm → w.before a' U = true) (hcw : Cond.code y bytes maxL ret ∈ ws) (hini : (Cond.initialized y.cls).before args s = true)
    (X : Stand p l e R s m args below meth c T locs cells slots) (hg : g.method = m) (hsize : g.locals.size = c.maxLocals) {ig : Instr} (hdg : decode c.code g.pc = .ok (ig, 3)) (hW8 : 2 * g.monitorRoom + (g.stack.map fun v => v.category).sum ≤ 8)
    (hn : T.methodNamed? y = some mk) (hP : Pc a (T.calling g mk a)) (hc : cells + mc ≤ R.cells) (hs : slots + ms ≤ R.slots) :
    xOut p l e R s m args below meth c locs cells slots D cl tys A1 px mc ms (Qc a (T.calling g mk a)) (T.calling g mk a) (doInvoke e (T.setTop g) [] mk a).1 g := by
  have h1 : (headSpec ws rm).pre.before a T = true := atoms_intro fun w hw => hws w hw _ _ X.warmed
  have h2 : (Cond.code y bytes maxL ret).before a T = true := hws _ hcw _ _ X.warmed
  have h3 : (Cond.initialized y.cls).before a T = true := word_at X.warmed (Or.inl (by first | rfl | simp [Cond.onTables, Cond.keeps, Cond.steady])) hini
  obtain ⟨methY, cY, hmY, hcY, -, hlY, -, -, -, -⟩ := Cond.code_spec hn h2
  obtain ⟨kY, hkY, -⟩ := className_of_methodNamed hn
  have hinitY : kY.init = .initialized := Cond.initialized_spec (findClass_of_methodNamed hn) hkY h3
  have h : At T g.method c below := by rw [hg]; exact X.here
  have hlo9 : 8 + (maxL + 11) + (headSpec ws rm).room.locals ≤ R.locals := hlo
  have h4 : cells + (headSpec ws rm).room.cells ≤ R.cells := by rw [show (headSpec ws rm).room.cells = mc from hrc]; exact hc
  have h5 : slots + (headSpec ws rm).room.slots ≤ R.slots := by rw [show (headSpec ws rm).room.slots = ms from hrs]; exact hs
  have happ : (headSpec ws rm).appliesLoose y e.platform (T.calling g mk a) = true :=
    Spec.appliesLoose_calling (g := g) h hdg hn hkY hinitY
      (X.room_calling (g := g) (R' := (headSpec ws rm).room) hsize hmY hcY hfr (by rw [hlY]; omega) h4 h5) h1
  obtain ⟨mid, hmid⟩ := h.above
  have hfr' : (T.setTop g).frames = (.java g :: mid) ++ below := by rw [State.frames_setTop' g h.top, hmid]; rfl
  obtain ⟨o, s₂, hsteps, -, hend, hq⟩ := Steps.callFree hM p X.admits X.cas X.clock (acts := []) hfr' happ hP trivial
  rw [State.frames_setTop' g h.top, X.tail] at hend
  have hq' : xQ Qc D cl tys A1 px mc ms a (T.calling g mk a) o s₂ := hq
  rcases hq' with ⟨hqc, L, hfe, hL⟩ | ⟨q, E, ce, M1, L, rfl, hpx, hw1, hce, hcv, hcl, hW₂, hsm, hL, hF⟩
  · obtain ⟨⟨v, rfl⟩, hW₂, hsm⟩ := hfe
    obtain ⟨T', X', -, -, ht⟩ := X.outOf hg hdg hend hW₂ hsm
    refine Or.inl ⟨v, s₂, T', L, X', hL, by rw [ht]; rfl, by rw [ht]; rfl, hqc, ?_⟩
    rw [← ht]
    exact hsteps
  · obtain ⟨T', X', -, -, ht⟩ := X.outOfThrown hg hend hW₂ hsm
    have hcl' : s.vm.findClass E = some ce.cls := by
      have h9 : T.vm.findClass E = some ce.cls := hcl
      rw [X.warmed.alike.findClass] at h9
      exact h9
    refine Or.inr ⟨q, E, ce, M1, s₂, T', L, X', hL, by rw [ht]; exact (Stand.throwing_heap _ _ _).symm, by rw [ht]; exact (Stand.throwing_vm _ _ _).symm, hpx, hw1, hce, hcv, hcl', hF, ?_⟩
    rw [← ht]
    exact hsteps
def xRun (p : Program) (l : Launch) (e : Env) (R : Room) (s : State) (m : MethodId) (args : Array Value) (below : List Frame) (meth : Method) (c : Code) (H : Heap) (locs : List Loc) (cells slots : Nat) (D : va_G) (cl : List vw_C) (tys : List (ClassId × FieldType)) (A1 : Nat → Prop) (px : String → Hp → Prop) (mc ms : Nat) (Qa : State → Outcome → State → Prop) (g : JFrame) (rest : List Value) : Prop :=
  ∀ T : State, T.heap = H → Stand p l e R s m args below meth c T locs cells slots → ∃ st : State, st.heap = H ∧ xOut p l e R s m args below meth c locs cells slots D cl tys A1 px mc ms (Qa st) st (T.setTop g) { g with stack := rest }
theorem xOut.pre {Qa : Outcome → State → Prop} {st S0 S1 : State} (h : xOut p l e R s m args below meth c locs cells slots D cl tys A1 px mc ms Qa st S0 g) (k : ∀ t, Steps p.tables e below S0 t → Steps p.tables e below S1 t) : xOut p l e R s m args below meth c locs cells slots D cl tys A1 px mc ms Qa st S1 g := by
  rcases h with ⟨v, t, T', L, h1, h2, h3, h4, h5, h6⟩ | ⟨q, E, ce, M1, t, T', L, h1, h2, h3, h4, h5, h6, h7, h8, h9, h10, h11⟩
  · exact Or.inl ⟨v, t, T', L, h1, h2, h3, h4, h5, k _ h6⟩
  · exact Or.inr ⟨q, E, ce, M1, t, T', L, h1, h2, h3, h4, h5, h6, h7, h8, h9, h10, k _ h11⟩
theorem x_runV (S : CallFix p m c cc nL s args Ts own) (hM : xMet l y ws rm Pc Qc D cl tys A1 px mc ms) (cw : CallW R s args own C index y bytes maxL ret ws rm mc ms n) (hp : PreV s H C b Pc As)
    (hg : g.method = m) (hn : As.length = n) (hsize : g.locals.size = nL) (hstack : g.stack = As.reverse ++ .ref b :: rest) (hW8 : 2 * g.monitorRoom + (rest.map fun v => v.category).sum ≤ 8) (hdg : decode cc g.pc = .ok (.invokevirtual index, 3)) (hf : cells + mc ≤ R.cells ∧ slots + ms ≤ R.slots) :
    xRun p l e R s m args below meth c H locs cells slots D cl tys A1 px mc ms (Qc (Value.ref b :: As).toArray) g rest := by
  obtain ⟨⟨hrc, hrs, hfr, hlo, hws, hcw, hcode, hini, hy, hlen, hl⟩, hin, hse⟩ := cw
  obtain ⟨hx, hb, hml, ho, -⟩ := S
  obtain ⟨hbl, ⟨cellB, hcB, hoB, hclB⟩, hPc⟩ := hp
  intro T hT X
  obtain ⟨mk, methM, hnamed, hmethM, hstM, habM⟩ := Cond.instanceMethod_spec hin
  obtain ⟨methM', cM, hmethM', -, -, -, -, -, -, hsigM⟩ := Cond.code_spec hnamed hcode
  cases hmethM.symm.trans hmethM'
  obtain ⟨c2, r2, m2, q1, q2, q3, q4, kP, hkP, hkPi⟩ := Cond.selects_spec hse
  cases hclB.symm.trans q1
  cases (State.methodFound?_of_named hnamed hy).symm.trans q2
  cases hnamed.symm.trans q3
  have hselP : selectMethod e.platform s.vm cellB.cls mk = .method mk := by rw [Launch.admits_selectMethod X.admits]; exact q4
  obtain ⟨vm₁, X₁, hstep₁⟩ := X.invokevirtual hx ho hl hnamed hmethM hstM hkP hkPi hy (a := b) (cell := cellB) (by rw [hT]; exact hcB)
    (fun z h => by rw [h] at hoB; cases hoB) hselP hmethM habM hkP hkPi (g := g) hg (argsL := As) (rest := rest) (hn.trans (hlen _ hsigM)) hstack (by rw [hb]; exact hdg)
  have hout := x_back (g := { g with stack := rest }) (a := (Value.ref b :: As).toArray) (mk := mk) hM hrc hrs hfr hlo hws hcw hini X₁ hg (hsize.trans hml.symm) (by rw [hb]; exact hdg) hW8 (X₁.named hnamed) (hbl _ _ _ _ (hPc (T.setVm vm₁) hT X₁.warmed)) hf.1 hf.2
  exact ⟨(T.setVm vm₁).calling { g with stack := rest } mk (Value.ref b :: As).toArray, hT, hout.pre (fun t h => hstep₁ _ fun acts => by rw [doInvoke_state]; exact h)⟩
theorem x_runS (S : CallFix p m c cc nL s args Ts own) (hM : xMet l y ws rm Pc Qc D cl tys A1 px mc ms) (cw : CallB R s args own index y bytes maxL ret ws rm mc ms n ∧ (Cond.static y).before args s = true) (hp : PreS s H Pc As)
    (hg : g.method = m) (hn : As.length = n) (hsize : g.locals.size = nL) (hstack : g.stack = As.reverse ++ rest) (hW8 : 2 * g.monitorRoom + (rest.map fun v => v.category).sum ≤ 8) (hdg : decode cc g.pc = .ok (.invokestatic index, 3)) (hf : cells + mc ≤ R.cells ∧ slots + ms ≤ R.slots) :
    xRun p l e R s m args below meth c H locs cells slots D cl tys A1 px mc ms (Qc As.toArray) g rest := by
  obtain ⟨⟨hrc, hrs, hfr, hlo, hws, hcw, hcode, hini, hy, hlen, hl⟩, hstt⟩ := cw
  obtain ⟨hx, hb, hml, ho, -⟩ := S
  intro T hT X
  obtain ⟨mk, hnamed⟩ := Cond.code_named hcode
  obtain ⟨methM, cM, hmethM, -, -, -, -, -, -, hsigM⟩ := Cond.code_spec hnamed hcode
  have hstatic : methM.isStatic = true := Cond.static_spec hnamed hmethM hstt
  obtain ⟨kP, hkP, -⟩ := className_of_methodNamed hnamed
  have hinitP : kP.init = .initialized := Cond.initialized_spec (findClass_of_methodNamed hnamed) hkP hini
  obtain ⟨vm₁, X₁, hstep₁⟩ := X.invokestatic hx ho hl hnamed hmethM hstatic hkP hinitP hy (g := g) hg (argsL := As) (rest := rest) (hn.trans (hlen _ hsigM)) hstack (by rw [hb]; exact hdg)
  have hout := x_back (g := { g with stack := rest }) (a := As.toArray) (mk := mk) hM hrc hrs hfr hlo hws hcw hini X₁ hg (hsize.trans hml.symm) (by rw [hb]; exact hdg) hW8 (X₁.named hnamed) (hp.1 _ _ _ _ (hp.2 (T.setVm vm₁) hT X₁.warmed)) hf.1 hf.2
  exact ⟨(T.setVm vm₁).calling { g with stack := rest } mk As.toArray, hT, hout.pre (fun t h => hstep₁ _ fun acts => by rw [doInvoke_state]; exact h)⟩
end XB
section XC
variable {p : Program} {l : Launch} {e : Env} {R : Room} {s : State} {m : MethodId} {args : Array Value} {below : List Frame} {meth : Method} {c : Code} {H H0 : Heap} {locs : List Loc} {cells slots : Nat} {Q : State → Prop} {T : State}
variable {D : va_G} {cl : List vw_C} {tys : List (ClassId × FieldType)} {A A1 : Nat → Prop} {M : Hp} {px : String → Hp → Prop} {mc ms pc : Nat} {Qc : Array Value → State → Outcome → State → Prop} {ls : Array Slot} {st0 rest : List Value} {av : Array Value}
/-- q is thrown over the frame g -/
def xW (p : Program) (l : Launch) (e : Env) (R : Room) (s : State) (m : MethodId) (args : Array Value) (below : List Frame) (meth : Method) (c : Code) (H : Heap) (locs : List Loc) (cells slots : Nat) (Q : State → Prop) (g : JFrame) (q : Addr) : Prop :=
  ∀ T : State, T.heap = H → Stand p l e R s m args below meth c T locs cells slots → ∃ t, Steps p.tables e below ((T.setTop g).pushFrame (.throwing q)) t ∧ Q t
theorem x_keep {st t T' : State} {L : List Loc} (h0 : st.heap = H) (e1 : T'.heap = t.heap) (hS : va_S A H0 H locs) (hsub : ∀ q, A1 q → A q) (hL : ∀ q ∈ L, A1 q.base) (hF : va_F A1 st t) : va_S A H0 T'.heap (locs ++ L) := by
  obtain ⟨hz, hk⟩ := hF
  rw [h0] at hz hk
  refine ⟨Nat.le_trans hS.1 (by rw [e1]; exact hz), fun q h1 h2 => ?_, fun q hq => ?_⟩
  · rw [e1, hk q (Nat.lt_of_lt_of_le h1 hS.1) (fun z => h2 (hsub q z))]
    exact hS.2.1 q h1 h2
  · rcases List.mem_append.mp hq with h | h
    · exact hS.2.2 q h
    · exact hsub _ (hL q h)
/-- what goes on behind a throw -/
abbrev xK (p : Program) (l : Launch) (e : Env) (R : Room) (s : State) (m : MethodId) (args : Array Value) (below : List Frame) (meth : Method) (c : Code) (D : va_G) (cl : List vw_C) (tys : List (ClassId × FieldType)) (A : Nat → Prop) (px : String → Hp → Prop) (cells slots : Nat) (Q : State → Prop) (g : JFrame) : Prop :=
  ∀ (E : String) (M1 : Hp) (q : Addr) (ce : Cell) (H1 : Heap) (locs1 : List Loc), px E M1 → hw D cl tys A M1 H1 → va_S A s.heap H1 locs1 → H1[q]? = some ce → ce.vm = .none → s.vm.findClass E = some ce.cls → xW p l e R s m args below meth c H1 locs1 cells slots Q g q
theorem x_thrown (hM : hw D cl tys A M H) (hS : va_S A s.heap H locs) (hA : ∀ q, s.heap.size ≤ q → A q) {st S0 : State} (hst : st.heap = H) {g : JFrame}
    (kx : xK p l e R s m args below meth c D cl tys A px (cells + mc) (slots + ms) Q g)
    (h : ∃ (q : Addr) (E : String) (ce : Cell) (M1 : Hp) (t T' : State) (L : List Loc), Stand p l e R s m args below meth c T' (locs ++ L) (cells + mc) (slots + ms) ∧ (∀ z ∈ L, hAx M H.size z.base) ∧ T'.heap = t.heap ∧ T'.vm = t.vm ∧ px E M1 ∧ hw D cl tys (hAx M H.size) M1 t.heap ∧ t.heap[q]? = some ce ∧ ce.vm = .none ∧ s.vm.findClass E = some ce.cls ∧ va_F (hAx M H.size) st t ∧ Steps p.tables e below S0 ((T'.setTop g).pushFrame (.throwing q))) : ∃ t, Steps p.tables e below S0 t ∧ Q t := by
  obtain ⟨q, E, ce, M1, t, T', L, X', hL, e1, e2, hpx, hw1, hce, hcv, hcl, hF, stp⟩ := h
  have hsub := hAx.sub hM hS hA
  obtain ⟨t2, a1, b1⟩ := kx E M1 q ce T'.heap (locs ++ L) hpx (by rw [e1]; exact hw.weaken hw1 hsub) (x_keep hst e1 hS hsub hL hF) (by rw [e1]; exact hce) hcv hcl T' rfl X'
  exact ⟨t2, stp.trans a1, b1⟩
theorem h_xcalli {post : Int32 → Hp → Prop} (hM : hw D cl tys A M H) (hS : va_S A s.heap H locs) (hA : ∀ q, s.heap.size ≤ q → A q)
    (hr : xRun p l e R s m args below meth c H locs cells slots D cl tys (hAx M H.size) px mc ms (va_Qi post (hB D cl tys (hAx M H.size)) (hAx M H.size) av) (F0 m pc ls st0) rest)
    (kx : xK p l e R s m args below meth c D cl tys A px (cells + mc) (slots + ms) Q (F0 m pc ls rest))
    (kk : ∀ (r : Int32) (M1 : Hp) (H1 : Heap) (locs1 : List Loc), post r M1 → hw D cl tys A M1 H1 → va_S A s.heap H1 locs1 → W p l e R s m args below meth c H1 locs1 (cells + mc) (slots + ms) Q (F0 m (pc + 3) ls (.int r :: rest))) : W p l e R s m args below meth c H locs cells slots Q (F0 m pc ls st0) := by
  intro T hT X
  obtain ⟨st, hst, h⟩ := hr T hT X
  have hsub := hAx.sub hM hS hA
  rcases h with ⟨v, t, T', L, X', hL, e1, e2, ⟨⟨r, M1, hv, hp, hb⟩, hF⟩, stp⟩ | h
  · cases hv
    obtain ⟨t2, a1, b1⟩ := kk r M1 T'.heap (locs ++ L) hp (by rw [e1]; exact hw.weaken hb hsub) (x_keep hst e1 hS hsub hL hF) T' rfl X'
    exact ⟨t2, stp.trans a1, b1⟩
  · exact x_thrown hM hS hA hst kx h
theorem h_xcalll {post : Int64 → Hp → Prop} (hM : hw D cl tys A M H) (hS : va_S A s.heap H locs) (hA : ∀ q, s.heap.size ≤ q → A q)
    (hr : xRun p l e R s m args below meth c H locs cells slots D cl tys (hAx M H.size) px mc ms (va_Ql post (hB D cl tys (hAx M H.size)) (hAx M H.size) av) (F0 m pc ls st0) rest)
    (kx : xK p l e R s m args below meth c D cl tys A px (cells + mc) (slots + ms) Q (F0 m pc ls rest))
    (kk : ∀ (r : Int64) (M1 : Hp) (H1 : Heap) (locs1 : List Loc), post r M1 → hw D cl tys A M1 H1 → va_S A s.heap H1 locs1 → W p l e R s m args below meth c H1 locs1 (cells + mc) (slots + ms) Q (F0 m (pc + 3) ls (.long r :: rest))) : W p l e R s m args below meth c H locs cells slots Q (F0 m pc ls st0) := by
  intro T hT X
  obtain ⟨st, hst, h⟩ := hr T hT X
  have hsub := hAx.sub hM hS hA
  rcases h with ⟨v, t, T', L, X', hL, e1, e2, ⟨⟨r, M1, hv, hp, hb⟩, hF⟩, stp⟩ | h
  · cases hv
    obtain ⟨t2, a1, b1⟩ := kk r M1 T'.heap (locs ++ L) hp (by rw [e1]; exact hw.weaken hb hsub) (x_keep hst e1 hS hsub hL hF) T' rfl X'
    exact ⟨t2, stp.trans a1, b1⟩
  · exact x_thrown hM hS hA hst kx h
theorem h_xcallv {post : Hp → Prop} (hM : hw D cl tys A M H) (hS : va_S A s.heap H locs) (hA : ∀ q, s.heap.size ≤ q → A q)
    (hr : xRun p l e R s m args below meth c H locs cells slots D cl tys (hAx M H.size) px mc ms (va_Qv post (hB D cl tys (hAx M H.size)) (hAx M H.size) av) (F0 m pc ls st0) rest)
    (kx : xK p l e R s m args below meth c D cl tys A px (cells + mc) (slots + ms) Q (F0 m pc ls rest))
    (kk : ∀ (M1 : Hp) (H1 : Heap) (locs1 : List Loc), post M1 → hw D cl tys A M1 H1 → va_S A s.heap H1 locs1 → W p l e R s m args below meth c H1 locs1 (cells + mc) (slots + ms) Q (F0 m (pc + 3) ls rest)) : W p l e R s m args below meth c H locs cells slots Q (F0 m pc ls st0) := by
  intro T hT X
  obtain ⟨st, hst, h⟩ := hr T hT X
  have hsub := hAx.sub hM hS hA
  rcases h with ⟨v, t, T', L, X', hL, e1, e2, ⟨⟨M1, hv, hp, hb⟩, hF⟩, stp⟩ | h
  · cases hv
    obtain ⟨t2, a1, b1⟩ := kk M1 T'.heap (locs ++ L) hp (by rw [e1]; exact hw.weaken hb hsub) (x_keep hst e1 hS hsub hL hF) T' rfl X'
    exact ⟨t2, stp.trans a1, b1⟩
  · exact x_thrown hM hS hA hst kx h
theorem h_xcallr {post : Nat → Hp → Prop} (hM : hw D cl tys A M H) (hS : va_S A s.heap H locs) (hA : ∀ q, s.heap.size ≤ q → A q)
    (hr : xRun p l e R s m args below meth c H locs cells slots D cl tys (hAx M H.size) px mc ms (va_Qr (fun u : Nat × Hp => post u.1 u.2) (fun u a t => u.1 = a ∧ hB D cl tys (hAx M H.size) u.2 t) (hAx M H.size) av) (F0 m pc ls st0) rest)
    (kx : xK p l e R s m args below meth c D cl tys A px (cells + mc) (slots + ms) Q (F0 m pc ls rest))
    (kk : ∀ (r : Nat) (M1 : Hp) (H1 : Heap) (locs1 : List Loc), post r M1 → hw D cl tys A M1 H1 → va_S A s.heap H1 locs1 → W p l e R s m args below meth c H1 locs1 (cells + mc) (slots + ms) Q (F0 m (pc + 3) ls (.ref r :: rest))) : W p l e R s m args below meth c H locs cells slots Q (F0 m pc ls st0) := by
  intro T hT X
  obtain ⟨st, hst, h⟩ := hr T hT X
  have hsub := hAx.sub hM hS hA
  rcases h with ⟨v, t, T', L, X', hL, e1, e2, ⟨⟨u, ra, hv, hp, hra, hb⟩, hF⟩, stp⟩ | h
  · cases hv
    obtain ⟨r, M1⟩ := u
    obtain rfl : r = ra := hra
    obtain ⟨t2, a1, b1⟩ := kk r M1 T'.heap (locs ++ L) hp (by rw [e1]; exact hw.weaken hb hsub) (x_keep hst e1 hS hsub hL hF) T' rfl X'
    exact ⟨t2, stp.trans a1, b1⟩
  · exact x_thrown hM hS hA hst kx h
/-- it leaves this method too -/
theorem x_out {E : String} {ce : Cell} {q : Addr} (hout : ∀ x ∈ c.exceptionTable.toList, covers x pc = false) (hlocks : meth.locks = false) (hM : hw D cl tys A M H) (hS : va_S A s.heap H locs) (hp : px E M) (hcell : H[q]? = some ce) (hv : ce.vm = .none) (hcl : s.vm.findClass E = some ce.cls) (hc : cells ≤ mc) (hs : slots ≤ ms) :
    xW p l e R s m args below meth c H locs cells slots (xMQ below Qc D cl tys A px args s mc ms) (F0 m pc ls rest) q := by
  intro T hT X
  obtain ⟨hwalk, hrun, hend, hW, hsame⟩ := X.leaveThrown q (g := F0 m pc ls rest) rfl rfl rfl hout
  have hh : (T.setFrames (.throwing q :: below)).heap = H := hT
  exact ⟨_, hwalk, .threw q, hrun, hend, Or.inr ⟨q, E, ce, M, locs, rfl, hp, by rw [hh]; exact hM, by rw [hh]; exact hcell, hv, hcl, hW, hsame.mono hc hs, hS.2.2, ⟨by rw [hh]; exact hS.1, fun z g1 g2 => by rw [hh]; exact hS.2.1 z g1 g2⟩⟩⟩
/-- caught by the row x of the method's table -/
theorem x_catch {own name : String} {E : String} {ce : Cell} {q : Addr} (hown : s.vm.findClass own = some m.cls) (pre : List ExceptionTableEntry) (x : ExceptionTableEntry) (suf : List ExceptionTableEntry) (hsplit : c.exceptionTable.toList = pre ++ x :: suf)
    (hpass : ∀ z ∈ pre, covers z pc = false ∨ (z.catchType ≠ 0 ∧ ∃ nm : String, (Cond.classLink own z.catchType nm).before args s = true ∧ va_Nc E nm s)) (hx : covers x pc = true) (h0 : x.catchType ≠ 0)
    (hlink : (Cond.classLink own x.catchType name).before args s = true) (hcast : (Cond.castable E name).before args s = true) (hcell : H[q]? = some ce) (hv : ce.vm = .none) (hcl : s.vm.findClass E = some ce.cls)
    (kk : W p l e R s m args below meth c H locs cells slots Q (F0 m x.handlerPc ls [.ref q])) : xW p l e R s m args below meth c H locs cells slots Q (F0 m pc ls rest) q := by
  intro T hT X
  have hpl : e.platform.magicAccessors = ({} : Platform).magicAccessors := by rw [X.admits.platform]
  obtain ⟨c3, c4, hc3, hc4, hasg⟩ := Cond.castable_spec hcast
  cases Option.some.inj (hc3.symm.trans hcl)
  obtain ⟨c5, hc5, hcl5⟩ := Cond.classLink_spec hown hlink e.platform hpl
  cases Option.some.inj (hc4.symm.trans hc5)
  obtain ⟨vm', X', st⟩ := X.thenCaughtThrough q (g := F0 m pc ls rest) rfl (Steps.refl _) (by rw [hT]; exact hcell) (by rw [hv]; rfl) (by obtain ⟨k9, h9, -⟩ := Vm.findClass_spec hcl; exact ⟨k9, h9⟩) pre x suf hsplit
    (fun z hz => by
      rcases hpass z hz with h | ⟨hz0, nm, hl1, hn1⟩
      · exact Or.inl h
      · obtain ⟨c6, hc6, hcl6⟩ := Cond.classLink_spec hown hl1 e.platform hpl
        obtain ⟨a8, b8, h1, h2, h3⟩ := hn1
        cases Option.some.inj (h1.symm.trans hcl)
        cases Option.some.inj (h2.symm.trans hc6)
        exact Or.inr ⟨hz0, _, hcl6, h3⟩) hx (Or.inr ⟨h0, c4, hcl5, hasg⟩)
  obtain ⟨t, a1, b1⟩ := kk (T.setVm vm') hT X'
  exact ⟨t, st.trans a1, b1⟩
end XC
theorem x_empty {c : Code} (h : c.exceptionTable.isEmpty = true) {pc : Nat} : ∀ x ∈ c.exceptionTable.toList, covers x pc = false := by
  intro x hx
  have h0 : c.exceptionTable = #[] := Array.isEmpty_iff.mp h
  rw [h0] at hx
  exact absurd hx (by simp)
section XCopy
variable {p : Program} {l : Launch} {e : Env} {R : Room} {s : State} {m : MethodId} {args : Array Value} {below : List Frame} {meth : Method} {c : Code} {H H0 : Heap} {locs : List Loc} {cells slots : Nat} {Q : State → Prop}
variable {D : va_G} {cl : List vw_C} {tys : List (ClassId × FieldType)} {A : Nat → Prop} {M : Hp} {pc a a0 : Nat} {ls : Array Slot} {rest : List Value} {cc : ByteArray}
def cI (M : Hp) (a0 : Nat) (sp : Int32) (a : Nat) (dp n : Int32) (M1 : Hp) : Prop := ∃ (n0 n1 : Nat) (f g : Nat → Int32), M a0 = some (.inl (0, n0, .inl f)) ∧ M a = some (.inl (0, n1, .inl g)) ∧ ¬ sp < 0 ∧ ¬ dp < 0 ∧ ¬ n < 0 ∧ sp.toNatClampNeg + n.toNatClampNeg ≤ n0 ∧ dp.toNatClampNeg + n.toNatClampNeg ≤ n1 ∧ M1 = va_up M a (some (.inl (0, n1, .inl (va_cpy f g sp.toNatClampNeg dp.toNatClampNeg n.toNatClampNeg))))
theorem h_copyi (hexec : p.tables.exec = Jvm.exec) (hb : c.code = cc) (hml : c.maxLocals = ls.size) {own : String} {index : Nat} (hown : s.vm.findClass own = some m.cls) (hlink : (Cond.methodLink own index arraycopyName).before args s = true) (hnat : (Cond.native arraycopyName).before args s = true) (hstat : (Cond.static arraycopyName).before args s = true) (hini : (Cond.initialized "java/lang/System").before args s = true)
    (hK : va_K D cl tys s) (hM : hw D cl tys A M H) (hS : va_S A H0 H locs) (ht : (tys[0]?).map (·.2) = some .int) {sp dp n : Int32} {M1 : Hp} (hcp : cI M a0 sp a dp n M1)
    (hframes : 1 ≤ R.frames) (hlocals : (rest.map fun v => v.category).sum + (nativeFrameWords "java/lang/System" "arraycopy" 5 + 11) ≤ R.locals) (hdg : decode cc pc = .ok (.invokestatic index, 3))
    (kk : ∀ (H1 : Heap) (locs1 : List Loc), hw D cl tys A M1 H1 → va_S A H0 H1 locs1 → W p l e R s m args below meth c H1 locs1 cells slots Q (F0 m (pc + 3) ls rest)) : W p l e R s m args below meth c H locs cells slots Q (F0 m pc ls (.int n :: .int dp :: .ref a :: .int sp :: .ref a0 :: rest)) := by
  obtain ⟨n0, n1, f, g, ha0, ha1, h1, h2, h3, h4, h5, rfl⟩ := hcp
  have nn : ∀ z : Int32, ¬ z < 0 → z.toInt = (z.toNatClampNeg : Int) := by
    intro z hz
    have hz0 : (0 : Int) ≤ z.toInt := by
      have := Int32.not_lt.mp hz
      simpa using Int32.le_iff_toInt_le.mp this
    show z.toInt = ((z.toInt.toNat : Nat) : Int)
    omega
  obtain ⟨⟨q0, g0, hc0⟩, -⟩ := hM a0 _ ha0
  obtain ⟨⟨q1, g1, hc1⟩, hAa⟩ := hM a _ ha1
  have hq : q0 = q1 := Option.some.inj (g0.symm.trans g1)
  subst hq
  have h1' := h_ty g0 rfl ht
  obtain ⟨cA, cT⟩ := q0
  have hc0 : H[a0]? = some (vp_cell cA (n0, .inl f)) := hc0
  have hc1 : H[a]? = some (vp_cell cA (n1, .inl g)) := hc1
  intro T hT X
  obtain ⟨-, k0, hk0, cm0, hkk0⟩ := (hK.2 0 _ h1').1 n0 (fun j => .int (f j))
  obtain ⟨-, k1, hk1, cm1, hkk1⟩ := (hK.2 0 _ h1').1 n1 (fun j => .int (g j))
  obtain ⟨vm', X', step⟩ := X.arraycopy hexec hown hlink hnat hstat hini (src := a0) (dst := a) (cs := vp_cell cA (n0, .inl f)) (cd := vp_cell cA (n1, .inl g)) (srcPos := sp) (destPos := dp) (n := n) (by rw [hT]; exact hc0) (by rw [hT]; exact hc1)
    (fun _ h => by cases h) (fun _ h => by cases h) (fun h => by cases h) (fun h => by cases h) hk0 hk1 hkk0 hkk1 (by simp [refKind]) h1 h2 h3
    (by rw [nn sp h1, nn n h3]; show ¬ _ > ((arrV cA n0 (fun j => .int (f j))).slots.size : Int); rw [arrV_size]; omega)
    (by rw [nn dp h2, nn n h3]; show ¬ _ > ((arrV cA n1 (fun j => .int (g j))).slots.size : Int); rw [arrV_size]; omega)
    (fun vm₁ _ i hi => by
      have e : (vp_cell cA (n0, .inl f)).slots.getD (sp.toNatClampNeg + i) .null = .int (f (sp.toNatClampNeg + i)) := by
        show (arrV cA n0 (fun j => .int (f j))).slots.getD _ _ = _
        rw [Array.getD_eq_getD_getElem?, arrV_read _ _ (by omega)]
        rfl
      refine ⟨?_, ?_⟩
      · rw [e]
        rfl
      · rw [e]
        exact trivial)
    (g := F0 m pc ls (.int n :: .int dp :: .ref a :: .int sp :: .ref a0 :: rest)) rfl (by rw [hml]) (rest := rest) rfl (by rw [hb]; exact hdg) hframes (by show 2 * 0 + _ + _ ≤ _; omega)
  have e1 : copied (vp_cell cA (n0, .inl f)) (vp_cell cA (n1, .inl g)) sp dp n = vp_cell cA (n1, .inl (va_cpy f g sp.toNatClampNeg dp.toNatClampNeg n.toNatClampNeg)) := va_copied (fun z => .int z) cA cA f g h4
  rw [e1] at X' step
  have hl : a < H.size := (Array.getElem?_eq_some_iff.mp hc1).1
  have hheap : ((T.setVm vm').setCell a (vp_cell cA (n1, .inl (va_cpy f g sp.toNatClampNeg dp.toNatClampNeg n.toNatClampNeg)))).heap = H.setIfInBounds a (vp_cell cA (n1, .inl (va_cpy f g sp.toNatClampNeg dp.toNatClampNeg n.toNatClampNeg))) := by rw [← hT]; rfl
  have oq : ∀ q : Nat, q ≠ a → (H.setIfInBounds a (vp_cell cA (n1, .inl (va_cpy f g sp.toNatClampNeg dp.toNatClampNeg n.toNatClampNeg))))[q]? = H[q]? := fun q hq => by simp [Array.getElem?_setIfInBounds, Ne.symm hq]
  obtain ⟨t, a1, b1⟩ := kk _ _ (hM.set hAa ⟨_, g0, show (H.setIfInBounds a _)[a]? = some _ by simp [Array.getElem?_setIfInBounds, hl]⟩ oq) ⟨by simp; exact hS.1, fun q y1 y2 => by
      rw [oq q (fun e => y2 (by rw [e]; exact hAa))]
      exact hS.2.1 q y1 y2, fun q hq => by
      rcases List.mem_append.mp hq with h | h
      · exact hS.2.2 q h
      · obtain ⟨z, -, hz⟩ := List.mem_map.mp h
        rw [← hz]
        exact hAa⟩ _ hheap X'
  exact ⟨t, step t a1, b1⟩
end XCopy
