
/-! WHERE ALL BEGINS -/
theorem z_st {s : State} {args : Array Value} {C n d : String} (hl : (Cond.laysStatic C n d).before args s = true) (hr : (Cond.isRef (.static C n d)).before args s = true) :
    ∃ (c : ClassId) (k : Class) (a : Nat), s.vm.findClass C = some c ∧ s.vm.classes[c]? = some k ∧ k.statics = some a ∧ a < s.heap.size ∧ ∀ V : State, s.WarmedH V.vm → V.heap[a]? = s.heap[a]? → ∀ ar : Array Value, (Cond.laysStatic C n d).before ar V = true ∧ (Cond.isRef (.static C n d)).before ar V = true := by
  obtain ⟨c, k, i, f, a, cell, hc, hi, hst, ha, hcell, hs, hcls, hlt, hty⟩ := Cond.laysStatic_spec hl
  refine ⟨c, k, a, hc, (State.fieldFound?_spec hi).1, ha, (Array.getElem?_eq_some_iff.mp hcell).1, fun V hW hV ar => ?_⟩
  have hvm := hW.alike
  obtain ⟨k', hi9, he⟩ := State.fieldFound?_setVm hvm hi
  have hi' : V.fieldFound? C n d = some (c, k', i, f) := hi9
  have ha' : k'.statics = some a := by rw [he]; exact ha
  have hcell' : V.heap[a]? = some cell := by rw [hV]; exact hcell
  refine ⟨?_, ?_⟩
  · show (Cond.laysStatic C n d).holds ar V none V [] = true
    exact Cond.laysStatic_of (by rw [hvm.findClass]; exact hc) hi' hst ha' hcell' hs hcls hlt (by rw [he]; exact hty)
  · cases hv : (Term.static C n d).eval args s none [] s with
    | none => simp [Cond.before, Cond.holds, Cond.value, hv] at hr
    | some w =>
      obtain ⟨hst2, a2, cell2, ha2, hcell2, -, hslot⟩ := Term.static_spec hi hv
      cases ha.symm.trans ha2
      cases hcell.symm.trans hcell2
      have he2 : (Term.static C n d).eval ar V none [] V = some w := by
        simp [Term.eval, State.fieldNamed?, hi', hst, ha', hcell', hs, hslot]
      simp only [Cond.before, Cond.holds, Cond.value, hv] at hr
      simp only [Cond.before, Cond.holds, Cond.value, he2]
      cases w <;> first | rfl | (simp at hr)
theorem z_thr {s : State} {args : Array Value} (h : ∀ w ∈ thrW, w.before args s = true) : ∃ q : Nat, q < s.heap.size ∧ thrOk s q := by
  obtain ⟨c, k, a, h1, h2, h3, h4, h5⟩ := z_st (h _ (by simp [thrW] : Cond.laysStatic "java/lang/Throwable" "UNASSIGNED_STACK" "[Ljava/lang/StackTraceElement;" ∈ thrW)) (h _ (by simp [thrW]))
  obtain ⟨c2, k2, a2, g1, g2, g3, g4, g5⟩ := z_st (h _ (by simp [thrW] : Cond.laysStatic "java/lang/Throwable" "SUPPRESSED_SENTINEL" "Ljava/util/List;" ∈ thrW)) (h _ (by simp [thrW]))
  cases h1.symm.trans g1
  cases h2.symm.trans g2
  cases h3.symm.trans g3
  refine ⟨a, h4, fun V hW hV w hw ar => ?_⟩
  have q1 := h5 V hW hV ar
  have q2 := g5 V hW hV ar
  simp only [thrW, List.mem_cons, List.not_mem_nil, or_false] at hw
  rcases hw with rfl | rfl | rfl | rfl
  · exact q1.2
  · exact q2.2
  · exact q1.1
  · exact q2.1
theorem z_arr {s : State} {args : Array Value} {t : FieldType} (h : (Cond.arrayClass t).before args s = true) (ho : ∀ C, t ≠ .object C) : ∃ c : ClassId, ArrOfT s c t ∧ va_RA s c t := by
  obtain ⟨c, k, comp, h1, h2, h3⟩ := Cond.arrayClass_spec h
  refine ⟨c, fun N z => ⟨(fun q hq => by cases hq), k, h2, comp, h3⟩, ?_⟩
  cases t <;> first | exact h1 | exact absurd rfl (ho _)
theorem z_arrO {s : State} {args : Array Value} {C : String} (h : (Cond.arrayOver (.object C)).before args s = true) : ∃ c : ClassId, ArrOfT s c (.object C) ∧ va_RA s c (.object C) := by
  obtain ⟨comp, c, k, h1, -, h3, h4, h5⟩ := Cond.arrayOver_spec h
  exact ⟨c, fun N z => ⟨(fun q hq => by cases hq), k, h3, comp, h4⟩, k, comp, h3, h4, h1, h5⟩
theorem z_arrA {s : State} {args : Array Value} (h : (Cond.arrayOver (.array .int)).before args s = true) : ∃ c : ClassId, ArrOfT s c (.array .int) ∧ va_RA s c (.array .int) := by
  obtain ⟨comp, c, k, h1, -, h3, h4, h5⟩ := arrayOverA_spec h
  exact ⟨c, fun N z => ⟨(fun q hq => by cases hq), k, h3, comp, h4⟩, h5⟩
/-- the pure statement of the law: what is left when the machine is walked -/
def LawPure : Prop := ∀ (L : Nat) (xs : Nat → Int32), L ≤ 3585 → wpLa_law (fun _ => none) (L, xs)
set_option maxHeartbeats 4000000 in
set_option maxRecDepth 100000 in
theorem whole_start {p : Program} {e : Env} {s : State} {m : MethodId} {below : List Frame} {meth : Method} {c : Code} (l : Launch) (hst : l.stackTraces = false) (hpure : LawPure) {b L : Nat} {xs : Nat → Int32} (hL : L ≤ 3585) (C0 : lw_At p s m meth c b L xs) : W p l e room_1 s m #[Value.ref b] below meth c s.heap [] 0 0 (lw_Z below #[Value.ref b] s) (entryFrame m ([Value.ref b] : List Value).toArray 8) := by
  obtain ⟨hx, hb, hr, hml, hown, htsA, hXx, hbl, hlocks, hgv⟩ := C0
  have hts : ∀ w ∈ WG, w.before #[Value.ref b] s = true := fun w h => htsA w (List.mem_filter.mp h).1
  obtain ⟨c0, iS0, hKn0⟩ := u_known (C := "BuckTables") (T := Tc0) (N := 12) (n := 12) hts inc0 (hts _ kw_17)
  obtain ⟨c1, iS1, hKn1⟩ := u_known (C := "BuckTables$Stem") (T := Tc1) (N := 12) (n := 12) hts inc1 (hts _ kw_102)
  obtain ⟨c2, iS2, hKn2⟩ := u_known (C := "BuckTables$Product") (T := Tc2) (N := 10) (n := 10) hts inc2 (hts _ kw_152)
  obtain ⟨c3, iS3, hKn3⟩ := u_known (C := "BuckTables$Window") (T := Tc3) (N := 3) (n := 3) hts inc3 (hts _ kw_36)
  obtain ⟨c4, iS4, hKn4⟩ := u_known (C := "BuckTables$Cutter") (T := Tc4) (N := 4) (n := 4) hts inc4 (hts _ kw_29)
  obtain ⟨c5, iS5, hKn5⟩ := u_known (C := "BuckTables$Plan") (T := Tc5) (N := 5) (n := 5) hts inc5 (hts _ kw_70)
  obtain ⟨c6, iS6, hKn6⟩ := u_known (C := "BuckTablesModel") (T := Tc6) (N := 36) (n := 36) hts inc6 (hts _ kw_713)
  obtain ⟨dC, dI, hKc⟩ : ∃ (dC : Nat → ClassId) (dI : Nat → Nat → Nat), ∀ (k : Nat) (q : vw_C), kCl[k]? = some q → u_Kn s q.1 q.2.1 q.2.2 (dC k) (dI k) := by
    refine ⟨fun k => match k with | 0 => c0 | 1 => c1 | 2 => c2 | 3 => c3 | 4 => c4 | 5 => c5 | _ => c6, fun k => match k with | 0 => iS0 | 1 => iS1 | 2 => iS2 | 3 => iS3 | 4 => iS4 | 5 => iS5 | _ => iS6, ?_⟩
    intro k q hq
    match k, hq with
    | 0, hq => cases hq; exact hKn0
    | 1, hq => cases hq; exact hKn1
    | 2, hq => cases hq; exact hKn2
    | 3, hq => cases hq; exact hKn3
    | 4, hq => cases hq; exact hKn4
    | 5, hq => cases hq; exact hKn5
    | 6, hq => cases hq; exact hKn6
    | k + 7, hq => simp [kCl] at hq
  obtain ⟨k0, hk0⟩ := z_arr (t := .int) (hts _ kw_55) (fun C h => by cases h)
  obtain ⟨k1, hk1⟩ := z_arr (t := .boolean) (hts _ kw_94) (fun C h => by cases h)
  obtain ⟨k2, hk2⟩ := z_arr (t := .long) (hts _ kw_54) (fun C h => by cases h)
  obtain ⟨k3, hk3⟩ := z_arrO (C := "BuckTables$Stem") (htsA _ (List.mem_append_right _ (List.mem_of_getElem? (i := 25) (by decide +kernel))))
  obtain ⟨k4, hk4⟩ := z_arrO (C := "BuckTables$Product") (htsA _ (List.mem_append_right _ (List.mem_of_getElem? (i := 27) (by decide +kernel))))
  obtain ⟨k5, hk5⟩ := z_arrO (C := "BuckTables$Window") (htsA _ (List.mem_append_right _ (List.mem_of_getElem? (i := 35) (by decide +kernel))))
  obtain ⟨k6, hk6⟩ := z_arrA (htsA _ (List.mem_append_right _ (List.mem_of_getElem? (i := 108) (by decide +kernel))))
  obtain ⟨κ, hκ⟩ : ∃ κ : Nat → ClassId, ∀ (k : Nat) (q : ClassId × FieldType), (hTys κ)[k]? = some q → ArrOfT s q.1 q.2 ∧ va_RA s q.1 q.2 := by
    refine ⟨fun k => match k with | 0 => k0 | 1 => k1 | 2 => k2 | 3 => k3 | 4 => k4 | 5 => k5 | _ => k6, ?_⟩
    intro k q hq
    match k, hq with
    | 0, hq => cases hq; exact hk0
    | 1, hq => cases hq; exact hk1
    | 2, hq => cases hq; exact hk2
    | 3, hq => cases hq; exact hk3
    | 4, hq => cases hq; exact hk4
    | 5, hq => cases hq; exact hk5
    | 6, hq => cases hq; exact hk6
    | k + 7, hq => simp [hTys] at hq
  have hfl := flat_of_before _ hgv
  have hthr : ∀ w ∈ thrW, w.before #[Value.ref b] s = true := by
    intro w hw
    simp only [thrW, List.mem_cons, List.not_mem_nil, or_false] at hw
    rcases hw with rfl | rfl | rfl | rfl
    · exact hfl _ (by decide +kernel)
    · exact hfl _ (by decide +kernel)
    · exact (htsA _ (List.mem_append_right _ (List.mem_of_getElem? (i := 375) (by decide +kernel))))
    · exact (htsA _ (List.mem_append_right _ (List.mem_of_getElem? (i := 377) (by decide +kernel))))
  obtain ⟨q, hq1, hq2⟩ := z_thr hthr
  have hNc : hNC s := by
    intro w hw
    simp only [ncL, List.mem_cons, List.not_mem_nil, or_false] at hw
    rcases hw with rfl | rfl | rfl | rfl | rfl | rfl <;> exact va_Nc.of (hfl _ (by decide +kernel))
  have hE : hEnv (dC, dI) kCl (hTys κ) (fun q : Nat => s.heap.size ≤ q) s := ⟨⟨hKc, hκ⟩, s, _, q, htsA, hq2, State.WarmedH.refl s, Nat.not_le.mpr hq1, hq1, rfl⟩
  have hl := lv_entry ([.ref b]) (n := 8) (Nat.le_of_ble_eq_true rfl)
  rw [lg_entry_eq]
  generalize (lg_sl ([.ref b]) ++ List.replicate (8 - (lg_sl ([.ref b])).length) Slot.unset).toArray = ls at hl ⊢
  exact eLa_law (D := (dC, dI)) (κ := κ) (A := fun q : Nat => s.heap.size ≤ q) ⟨hx, hb, hml, hr, hown, hts, hlocks, hE, fun _ h => h, hNc, fun _ h => h⟩ hst (L, xs) ⟨hXx, hbl, Nat.not_le.mpr hbl⟩ (fun _ => none) (hpure L xs hL) s.heap [] ls (fun a x h => by cases h) va_S.rf hl
-- ===== YOUR PART ENDS =====
set_option maxHeartbeats 4000000 in
theorem lw_walk (l : Launch) (hst : l.stackTraces = false) (hpure : LawPure) (b : Addr) (xs : List Int32) : MetFree l x (headSpec (Jvm.Cond.code x code maxLocals ret :: tables_1) room_1) (lw_P b xs) (fun _ _ _ _ _ => True) lw_Q := by
  refine MetFree.of_bodyS (code := code) (maxLocals := maxLocals) (ret := ret) (by decide) ?_ ?_
  · intro args s m h hn
    obtain ⟨meth, c, h1, h2, h3, h4, h5, h6, -, -⟩ := Cond.code_spec hn (atoms_spec (ws := Jvm.Cond.code x code maxLocals ret :: tables_1) h _ List.mem_cons_self)
    exact ⟨meth, c, h1, h2, h3, h4, h5, h6⟩
  · intro p e s m args below meth c s₁ B hml0 hP _
    obtain ⟨rfl, hx, hbd, hgv⟩ := hP
    obtain ⟨scr, harrAt, hlist, hof, hsmall⟩ := hx
    obtain ⟨hcb, hkn, -, -⟩ := State.arrayAt?_spec harrAt
    have hown : s.vm.findClass R_law = some m.cls := findClass_of_methodNamed B.named
    have hts0 : ∀ c ∈ (Jvm.Cond.code x code maxLocals ret :: tables_1), c.before #[Value.ref b] s = true := atoms_spec (ws := Jvm.Cond.code x code maxLocals ret :: tables_1) B.pre
    have hts : ∀ w ∈ lw_tbl, w.before #[Value.ref b] s = true := k2_hts_sels lw_privs (fun w hw => hts0 w (List.mem_cons_of_mem _ hw)) lw_privs_ok
    have hml : c.maxLocals = 8 := B.maxLocals_eq (hts0 _ List.mem_cons_self)
    have X₀ : Stand p l e room_1 s m #[Value.ref b] below meth c s₁ [] 0 0 := Stand.of_body B
    have hh0 : s₁.heap = s.heap := by rw [B.state]; rfl
    have hsz : scr.slots.size = xs.length := by rw [← Array.length_toList, hlist, List.length_map]
    have hval : ∀ j : Nat, j < xs.length → scr.slots[j]? = some (.int (xs.getD j 0)) := fun j hj => by
      rw [← Array.getElem?_toList, hlist]
      simp [hj]
    have hbl : b < s.heap.size := (Array.getElem?_eq_some_iff.mp hcb).1
    have hX : va_X b xs.length (fun j => xs.getD j 0) s s.heap := ⟨scr, hcb, hof, hkn, hsz, hval⟩
    have K : W p l e room_1 s m #[Value.ref b] below meth c s₁.heap [] 0 0 (lw_Z below #[Value.ref b] s) (entryFrame m ([Value.ref b] : List Value).toArray 8) := by
      rw [hh0]
      exact whole_start l hst hpure hbd ⟨B.exec, B.bytes, B.returns, hml, hown, hts, hX, hbl, B.notSynchronized, hgv⟩
    obtain ⟨t, a1, o, b1, b2, b3⟩ := K s₁ rfl X₀
    exact ⟨t, o, a1, b1, b2, b3⟩
theorem lw_pre_spec {args : Array Value} {s : State} (h : (Jvm.Cond.and given_1 narrow_1).before args s = true) (hr : rest_1_c.before args s = true) : ∃ (b : Addr) (xs : List Int32), lw_P b xs args s := by
  have hs := flat_of_before _ h
  have hq := flat_of_before _ hr
  have hc : (Cond.count 1).before args s = true := hs _ (by decide +kernel)
  have harr : (Cond.arrayOf (.arg 0) .int).before args s = true := hs _ (by decide +kernel)
  have hle : (Cond.le (.length (.arg 0)) (.int 3585)).before args s = true := hs _ (by decide +kernel)
  have hlen : (Cond.isInt (.length (.arg 0))).before args s = true := hq _ (by decide +kernel)
  have hall : (Cond.all (.arg 0) (.isInt (.elem (.arg 0) (.index 0)))).before args s = true := hq _ (by decide +kernel)
  obtain ⟨b, xs, hb, hx⟩ := State.ints_of_pre rfl harr hlen hall
  have hsm : xs.length < 2 ^ 31 := hx.choose_spec.2.2.2
  have hev : (Term.length (.arg 0)).eval args s none [] s = some (.int xs.length.toInt32) := hx.length_eval hb
  have hv := Cond.le_ints hev (show (Term.int 3585).eval args s none [] s = some (.int 3585) from rfl)
  have hd : xs.length.toInt32 ≤ 3585 := by
    simpa [Cond.before, Cond.holds, hv] using hle
  have hN : xs.length ≤ 3585 := (Int32.ofNat_le_ofNat hsm (by decide)).mp (show Int32.ofNat xs.length ≤ Int32.ofNat 3585 from hd)
  exact ⟨b, xs, Cond.one_arg hc (show args[0]? = some (.ref b) from hb), hx, hN, h⟩
theorem lw_comes (l : Launch) (hst : l.stackTraces = false) (hpure : LawPure) : Comes l x (Jvm.Cond.code x code maxLocals ret :: tables_1) room_1 (fun tb e args s => Calls_1 tb e args s ∧ rest_1 tb e args s ∧ Pre_1 tb e args s)
    (fun _ _ args s o t => lw_Q args s o t) := by
  intro p e ha hc hk s m args below hf hfit hheap happ hpre
  obtain ⟨b, xs, hP⟩ := lw_pre_spec hpre.2.2 hpre.2.1
  obtain ⟨k, o, h1, h2, h3, hQ⟩ := lw_walk l hst hpure b xs p e ha hc hk s m args below hf ((Spec.applies_iff_loose hf).mp happ).1 hP trivial
  exact ⟨k, o, h1, h2, h3, hQ⟩
theorem lw_frame {s t : State} {o : Outcome} {args : Array Value} (h : Framed s o t [] 601024 7293000) :
    Framed s o t (fieldLocs frame_1_writes args s ++ arrayLocs frame_1_arrays args s ++ staticLocs frame_1_statics s) 601024 7293000 := h
theorem lw_limb (hpure : LawPure) (L : Cond) (hL : ∀ (args : Array Value) (s t : State), L.after args s (.returned (some (.int 1))) t = true) :
    ArmFor flags0 classFile x code maxLocals ret World_1 tables_1 room_1 Calls_1 rest_1 Pre_1
      (fun tb e a s o t => postC L tb e a s o t ∧ Framed s o t (fieldLocs frame_1_writes a s ++ arrayLocs frame_1_arrays a s ++ staticLocs frame_1_statics s) 601024 7293000) := by
  intro l hfl _ _ p e ha hc hk s m args below hf hfit hheap happ hpre
  obtain ⟨k, o, h1, h2, h3, rfl, hF⟩ := lw_comes l (by unfold Launch.stackTraces; rw [hfl]; decide +kernel) hpure p e ha hc hk s m args below hf hfit hheap happ hpre
  exact ⟨k, _, h1, h2, h3, hL args s _, lw_frame hF⟩
theorem i_vc_open (hpure : LawPure) : Claimed_1_1 ∧ Claimed_1_2 := ⟨lw_limb hpure limb_1_1 (fun args s t => by simp [limb_1_1, Cond.after, Cond.holds, Cond.value]), lw_limb hpure limb_1_2 (fun args s t => Cond.after_iff.mpr (by
  first | (rw [show limb_1_2 = Cond.eq .result (.int 1) from rfl, Cond.eq_ints (x := 1) (y := 1) rfl rfl]; simp; done) | (simp [limb_1_2, Cond.value, Term.eval]; done)))⟩
