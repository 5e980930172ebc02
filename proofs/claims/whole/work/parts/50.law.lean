/-! THE SCRIPT, and the law's 'cell' -/
def zScr (b : Nat) (post : Nat × (Nat → Int32)) (A : Nat → Prop) (s : State) : Prop := va_X b post.1 post.2 s s.heap ∧ b < s.heap.size ∧ ¬ A b
def zCell (post : Nat × (Nat → Int32)) : Int32 := if Int32.ofNat post.1 ≤ 0 then 0 else post.2 0
abbrev rm_La_cell : Room := { frames := 0, cells := 0, slots := 0, locals := 0 }
set_option maxRecDepth 100000 in
set_option maxHeartbeats 4000000 in
theorem met_cell (l : Launch) (b : Nat) (post : Nat × (Nat → Int32)) : Met l y_La_cell ws_La_cell rm_La_cell (va_Pc [.ref b, .int 0] (fun U => va_X b post.1 post.2 U U.heap)) (QcRead (zCell post)) 0 0 (fun _ => False) := by
  refine Met.ofW (cc := method_2_code) (maxL := 2) (ret := (some .int)) (by decide) rfl ?_
  intro p e s m args below meth c s₁ B hml hv
  obtain ⟨rfl, hXx⟩ := hv
  have hx := B.exec
  have hb := B.bytes
  have hr := B.returns
  have hlocks := B.notSynchronized
  have hS : va_S (fun _ => False) s.heap s.heap [] := va_S.rf
  have hbl : b < s.heap.size := by
    obtain ⟨scr, h1, -⟩ := hXx
    exact (Array.getElem?_eq_some_iff.mp h1).1
  have hl := lv_entry ([.ref b, .int 0]) (n := 2) (Nat.le_of_ble_eq_true rfl)
  rw [lg_entry_eq]
  generalize (lg_sl ([.ref b, .int 0]) ++ List.replicate (2 - (lg_sl ([.ref b, .int 0])).length) Slot.unset).toArray = ls at hl ⊢
  have hl : lv_has ls 2 [(0, .ref b), (1, .int 0)] := hl
  refine lv_iload_n hx hb d_La_cell_0 rfl (lv_at hl 1 rfl) ?_
  refine lv_aload_n hx hb d_La_cell_1 rfl (lv_at hl 0 rfl) ?_
  refine va_slen (A := fun _ => False) hx hb hXx hbl (fun h => h) hS d_La_cell_2 ?_
  refine lv_icmp_ge (tgt := 12) hx hb d_La_cell_3 (by decide) (fun hc => ?_) (fun hc => ?_)
  · refine lv_iconst (v := 0) hx hb d_La_cell_12 (by decide) ?_
    exact W.iret (v := 0) hx hb hr (fun t ht hW => ⟨by unfold zCell; rw [if_pos hc], ht⟩) (fun q h => nomatch h) d_La_cell_13
  · have hin : vp_in 0 post.1 := by
      intro h
      rcases h with h | h
      · exact absurd h (by decide)
      · have h0 : post.1 = 0 := Nat.le_zero.mp h
        rw [h0] at hc
        exact hc (by decide)
    refine lv_aload_n hx hb d_La_cell_6 rfl (lv_at hl 0 rfl) ?_
    refine lv_iload_n hx hb d_La_cell_7 rfl (lv_at hl 1 rfl) ?_
    refine va_sld (A := fun _ => False) hx hb hXx hbl (fun h => h) hS hin d_La_cell_8 ?_
    refine lv_goto (tgt := 13) hx hb d_La_cell_9 (by decide) ?_
    exact W.iret (v := post.2 (0 : Int32).toNatClampNeg) hx hb hr (fun t ht hW => ⟨by unfold zCell; rw [if_neg hc]; rfl, ht⟩) (fun q h => nomatch h) d_La_cell_13
theorem z_scr {b : Nat} {post : Nat × (Nat → Int32)} {A : Nat → Prop} {s : State} {H : Heap} {locs : List Loc} (h : zScr b post A s) (hS : va_S A s.heap H locs) : PreS s H (va_Pc [.ref b, .int 0] (fun U => va_X b post.1 post.2 U U.heap)) [.ref b, .int 0] := by
  refine ⟨fun a U g mk q => ?_, fun U hU hW => ⟨rfl, ?_⟩⟩
  · obtain ⟨q0, q1⟩ := q
    exact ⟨q0, va_X.moved (u := U) (U := U.calling g mk a) (Vm.Alike.refl U.vm) q1⟩
  · show va_X b post.1 post.2 U U.heap
    rw [hU]
    exact va_X.moved hW.alike (h.1.kept (hS.2.1 b h.2.1 h.2.2))
def Cx_La_law (p : Program) (s : State) (m : MethodId) (args : Array Value) (meth : Method) (c : Code) (D : va_G) (κ : Nat → ClassId) (A : Nat → Prop) : Prop := p.tables.exec = Jvm.exec ∧ c.code = code ∧ c.maxLocals = 8 ∧ meth.sig.returnType = ret ∧ s.vm.findClass "BuckTablesLaw" = some m.cls ∧ (∀ w ∈ WG, w.before args s = true) ∧ meth.locks = false ∧ hEnv D kCl (hTys κ) A s ∧ (∀ q, s.heap.size ≤ q → A q) ∧ hNC s ∧ (∀ q, A q → s.heap.size ≤ q)
def wLa_law_1451 (post : Nat × (Nat → Int32)) (k33 : Nat → Nat → Nat → Int32 → Nat → Nat → Hp → Prop) (x1 : Nat) (x2 : Nat) (x3 : Nat) (x4 : Int32) (kc : Nat) (ks : Nat) (M : Hp) : Prop := (∀ z1 : Int32, z1 = x4 + 7 → (k33 x1 x2 x3 z1 kc ks M))
set_option maxRecDepth 100000 in
set_option maxHeartbeats 4000000 in
theorem tLa_law_1451 {p : Program} {l : Launch} {e : Env} {s : State} {m : MethodId} {below : List Frame} {meth : Method} {c : Code} {D : va_G} {κ : Nat → ClassId} {A : Nat → Prop} {b : Nat} (C : Cx_La_law p s m #[Value.ref b] meth c D κ A) (hst : l.stackTraces = false) (post : Nat × (Nat → Int32)) (hscr : zScr b post A s) (k33 : Nat → Nat → Nat → Int32 → Nat → Nat → Hp → Prop) (hk33 : ∀ (x1 : Nat) (x2 : Nat) (x3 : Nat) (x4 : Int32) (kc : Nat) (ks : Nat) (M : Hp), k33 x1 x2 x3 x4 kc ks M → Y p l e room_1 s m #[Value.ref b] below meth c D kCl (hTys κ) A 8 kc ks (lw_Z below #[Value.ref b] s) M 33 [(0, .ref b), (1, .ref x1), (2, .ref x2), (3, .ref x3), (4, .int x4)] []) (x1 : Nat) (x2 : Nat) (x3 : Nat) (x4 : Int32) (kc : Nat) (ks : Nat) (M : Hp) (hwp : wLa_law_1451 post k33 x1 x2 x3 x4 kc ks M) : Y p l e room_1 s m #[Value.ref b] below meth c D kCl (hTys κ) A 8 kc ks (lw_Z below #[Value.ref b] s) M 1451 [(0, .ref b), (1, .ref x1), (2, .ref x2), (3, .ref x3), (4, .int x4)] [] := by
  obtain ⟨hx, hb, hml, hr, hown, hts, hlocks, hE, hA, hNc, hAn⟩ := id C
  have hK := hE.1
  intro H locs ls hM hS hl
  unfold wLa_law_1451 at hwp
  obtain ⟨z1, ez1⟩ : ∃ y : Int32, y = x4 + 7 := ⟨_, rfl⟩
  replace hwp := hwp z1 ez1
  refine lv_iinc (v := z1) (lv' := [(4, .int z1), (0, .ref b), (1, .ref x1), (2, .ref x2), (3, .ref x3)]) hx hb d_La_law_1451 hl (k := 4) rfl (by rw [ez1]; rfl) (by decide) rfl (fun ls hl => ?_)
  refine lv_goto (tgt := 33) hx hb d_La_law_1454 (by decide) ?_
  exact hk33 x1 x2 x3 z1 kc ks M hwp H locs ls hM hS (lv_sub hl [1, 2, 3, 4, 0] rfl)
def wLa_law_1448 (post : Nat × (Nat → Int32)) (k33 : Nat → Nat → Nat → Int32 → Nat → Nat → Hp → Prop) (x1 : Nat) (x2 : Nat) (x3 : Nat) (x4 : Int32) (kc : Nat) (ks : Nat) (M : Hp) : Prop := (wLa_law_1451 post k33 x1 x2 x3 x4 kc ks M)
set_option maxRecDepth 100000 in
set_option maxHeartbeats 4000000 in
theorem tLa_law_1448 {p : Program} {l : Launch} {e : Env} {s : State} {m : MethodId} {below : List Frame} {meth : Method} {c : Code} {D : va_G} {κ : Nat → ClassId} {A : Nat → Prop} {b : Nat} (C : Cx_La_law p s m #[Value.ref b] meth c D κ A) (hst : l.stackTraces = false) (post : Nat × (Nat → Int32)) (hscr : zScr b post A s) (k33 : Nat → Nat → Nat → Int32 → Nat → Nat → Hp → Prop) (hk33 : ∀ (x1 : Nat) (x2 : Nat) (x3 : Nat) (x4 : Int32) (kc : Nat) (ks : Nat) (M : Hp), k33 x1 x2 x3 x4 kc ks M → Y p l e room_1 s m #[Value.ref b] below meth c D kCl (hTys κ) A 8 kc ks (lw_Z below #[Value.ref b] s) M 33 [(0, .ref b), (1, .ref x1), (2, .ref x2), (3, .ref x3), (4, .int x4)] []) (x1 : Nat) (x2 : Nat) (x3 : Nat) (x4 : Int32) (kc : Nat) (ks : Nat) (M : Hp) (hwp : wLa_law_1448 post k33 x1 x2 x3 x4 kc ks M) : Y p l e room_1 s m #[Value.ref b] below meth c D kCl (hTys κ) A 8 kc ks (lw_Z below #[Value.ref b] s) M 1448 [(0, .ref b), (1, .ref x1), (2, .ref x2), (3, .ref x3), (4, .int x4)] [] := by
  obtain ⟨hx, hb, hml, hr, hown, hts, hlocks, hE, hA, hNc, hAn⟩ := id C
  have hK := hE.1
  intro H locs ls hM hS hl
  unfold wLa_law_1448 at hwp
  refine lv_goto (tgt := 1451) hx hb d_La_law_1448 (by decide) ?_
  exact tLa_law_1451 C hst post hscr k33 hk33 x1 x2 x3 x4 kc ks M hwp H locs ls hM hS (lv_sub hl [0, 1, 2, 3, 4] rfl)
def wLa_law_1442 (post : Nat × (Nat → Int32)) (k33 : Nat → Nat → Nat → Int32 → Nat → Nat → Hp → Prop) (x1 : Nat) (x2 : Nat) (x3 : Nat) (x4 : Int32) (y0 : Int64) (y1 : Int64) (kc : Nat) (ks : Nat) (M : Hp) : Prop := ((y1 = y0 → (wLa_law_1448 post k33 x1 x2 x3 x4 kc ks M)) ∧ (¬ y1 = y0 → False))
set_option maxRecDepth 100000 in
set_option maxHeartbeats 4000000 in
theorem tLa_law_1442 {p : Program} {l : Launch} {e : Env} {s : State} {m : MethodId} {below : List Frame} {meth : Method} {c : Code} {D : va_G} {κ : Nat → ClassId} {A : Nat → Prop} {b : Nat} (C : Cx_La_law p s m #[Value.ref b] meth c D κ A) (hst : l.stackTraces = false) (post : Nat × (Nat → Int32)) (hscr : zScr b post A s) (k33 : Nat → Nat → Nat → Int32 → Nat → Nat → Hp → Prop) (hk33 : ∀ (x1 : Nat) (x2 : Nat) (x3 : Nat) (x4 : Int32) (kc : Nat) (ks : Nat) (M : Hp), k33 x1 x2 x3 x4 kc ks M → Y p l e room_1 s m #[Value.ref b] below meth c D kCl (hTys κ) A 8 kc ks (lw_Z below #[Value.ref b] s) M 33 [(0, .ref b), (1, .ref x1), (2, .ref x2), (3, .ref x3), (4, .int x4)] []) (x1 : Nat) (x2 : Nat) (x3 : Nat) (x4 : Int32) (y0 : Int64) (y1 : Int64) (kc : Nat) (ks : Nat) (M : Hp) (hwp : wLa_law_1442 post k33 x1 x2 x3 x4 y0 y1 kc ks M) : Y p l e room_1 s m #[Value.ref b] below meth c D kCl (hTys κ) A 8 kc ks (lw_Z below #[Value.ref b] s) M 1442 [(0, .ref b), (1, .ref x1), (2, .ref x2), (3, .ref x3), (4, .int x4)] [.long y0, .long y1] := by
  obtain ⟨hx, hb, hml, hr, hown, hts, hlocks, hE, hA, hNc, hAn⟩ := id C
  have hK := hE.1
  intro H locs ls hM hS hl
  unfold wLa_law_1442 at hwp
  refine W.lcmp hx hb d_La_law_1442 ?_
  refine lv_if_eq (tgt := 1448) hx hb d_La_law_1443 (by decide) (fun c2 => ?_) (fun c2 => ?_)
  · replace c2 := (lc_eq _ _).mp c2
    replace hwp := hwp.1 c2
    exact tLa_law_1448 C hst post hscr k33 hk33 x1 x2 x3 x4 kc ks M hwp H locs ls hM hS (lv_sub hl [0, 1, 2, 3, 4] rfl)
  · replace c2 := fun h9 => c2 ((lc_eq _ _).mpr h9)
    replace hwp := hwp.2 c2
    refine lv_iconst (v := 0) hx hb d_La_law_1446 (by decide) ?_
    exact hwp.elim
def wLa_law_1397 (post : Nat × (Nat → Int32)) (k33 : Nat → Nat → Nat → Int32 → Nat → Nat → Hp → Prop) (x1 : Nat) (x2 : Nat) (x3 : Nat) (x4 : Int32) (kc : Nat) (ks : Nat) (M : Hp) : Prop := (wLa_law_1451 post k33 x1 x2 x3 x4 kc ks M)
set_option maxRecDepth 100000 in
set_option maxHeartbeats 4000000 in
theorem tLa_law_1397 {p : Program} {l : Launch} {e : Env} {s : State} {m : MethodId} {below : List Frame} {meth : Method} {c : Code} {D : va_G} {κ : Nat → ClassId} {A : Nat → Prop} {b : Nat} (C : Cx_La_law p s m #[Value.ref b] meth c D κ A) (hst : l.stackTraces = false) (post : Nat × (Nat → Int32)) (hscr : zScr b post A s) (k33 : Nat → Nat → Nat → Int32 → Nat → Nat → Hp → Prop) (hk33 : ∀ (x1 : Nat) (x2 : Nat) (x3 : Nat) (x4 : Int32) (kc : Nat) (ks : Nat) (M : Hp), k33 x1 x2 x3 x4 kc ks M → Y p l e room_1 s m #[Value.ref b] below meth c D kCl (hTys κ) A 8 kc ks (lw_Z below #[Value.ref b] s) M 33 [(0, .ref b), (1, .ref x1), (2, .ref x2), (3, .ref x3), (4, .int x4)] []) (x1 : Nat) (x2 : Nat) (x3 : Nat) (x4 : Int32) (kc : Nat) (ks : Nat) (M : Hp) (hwp : wLa_law_1397 post k33 x1 x2 x3 x4 kc ks M) : Y p l e room_1 s m #[Value.ref b] below meth c D kCl (hTys κ) A 8 kc ks (lw_Z below #[Value.ref b] s) M 1397 [(0, .ref b), (1, .ref x1), (2, .ref x2), (3, .ref x3), (4, .int x4)] [] := by
  obtain ⟨hx, hb, hml, hr, hown, hts, hlocks, hE, hA, hNc, hAn⟩ := id C
  have hK := hE.1
  intro H locs ls hM hS hl
  unfold wLa_law_1397 at hwp
  refine lv_goto (tgt := 1451) hx hb d_La_law_1397 (by decide) ?_
  exact tLa_law_1451 C hst post hscr k33 hk33 x1 x2 x3 x4 kc ks M hwp H locs ls hM hS (lv_sub hl [0, 1, 2, 3, 4] rfl)
def wLa_law_1341 (post : Nat × (Nat → Int32)) (k33 : Nat → Nat → Nat → Int32 → Nat → Nat → Hp → Prop) (x1 : Nat) (x2 : Nat) (x3 : Nat) (x4 : Int32) (kc : Nat) (ks : Nat) (M : Hp) : Prop := (wLa_law_1451 post k33 x1 x2 x3 x4 kc ks M)
set_option maxRecDepth 100000 in
set_option maxHeartbeats 4000000 in
theorem tLa_law_1341 {p : Program} {l : Launch} {e : Env} {s : State} {m : MethodId} {below : List Frame} {meth : Method} {c : Code} {D : va_G} {κ : Nat → ClassId} {A : Nat → Prop} {b : Nat} (C : Cx_La_law p s m #[Value.ref b] meth c D κ A) (hst : l.stackTraces = false) (post : Nat × (Nat → Int32)) (hscr : zScr b post A s) (k33 : Nat → Nat → Nat → Int32 → Nat → Nat → Hp → Prop) (hk33 : ∀ (x1 : Nat) (x2 : Nat) (x3 : Nat) (x4 : Int32) (kc : Nat) (ks : Nat) (M : Hp), k33 x1 x2 x3 x4 kc ks M → Y p l e room_1 s m #[Value.ref b] below meth c D kCl (hTys κ) A 8 kc ks (lw_Z below #[Value.ref b] s) M 33 [(0, .ref b), (1, .ref x1), (2, .ref x2), (3, .ref x3), (4, .int x4)] []) (x1 : Nat) (x2 : Nat) (x3 : Nat) (x4 : Int32) (kc : Nat) (ks : Nat) (M : Hp) (hwp : wLa_law_1341 post k33 x1 x2 x3 x4 kc ks M) : Y p l e room_1 s m #[Value.ref b] below meth c D kCl (hTys κ) A 8 kc ks (lw_Z below #[Value.ref b] s) M 1341 [(0, .ref b), (1, .ref x1), (2, .ref x2), (3, .ref x3), (4, .int x4)] [] := by
  obtain ⟨hx, hb, hml, hr, hown, hts, hlocks, hE, hA, hNc, hAn⟩ := id C
  have hK := hE.1
  intro H locs ls hM hS hl
  unfold wLa_law_1341 at hwp
  refine lv_goto (tgt := 1451) hx hb d_La_law_1341 (by decide) ?_
  exact tLa_law_1451 C hst post hscr k33 hk33 x1 x2 x3 x4 kc ks M hwp H locs ls hM hS (lv_sub hl [0, 1, 2, 3, 4] rfl)
def wLa_law_1274 (post : Nat × (Nat → Int32)) (k33 : Nat → Nat → Nat → Int32 → Nat → Nat → Hp → Prop) (x1 : Nat) (x2 : Nat) (x3 : Nat) (x4 : Int32) (kc : Nat) (ks : Nat) (M : Hp) : Prop := (wLa_law_1451 post k33 x1 x2 x3 x4 kc ks M)
set_option maxRecDepth 100000 in
set_option maxHeartbeats 4000000 in
theorem tLa_law_1274 {p : Program} {l : Launch} {e : Env} {s : State} {m : MethodId} {below : List Frame} {meth : Method} {c : Code} {D : va_G} {κ : Nat → ClassId} {A : Nat → Prop} {b : Nat} (C : Cx_La_law p s m #[Value.ref b] meth c D κ A) (hst : l.stackTraces = false) (post : Nat × (Nat → Int32)) (hscr : zScr b post A s) (k33 : Nat → Nat → Nat → Int32 → Nat → Nat → Hp → Prop) (hk33 : ∀ (x1 : Nat) (x2 : Nat) (x3 : Nat) (x4 : Int32) (kc : Nat) (ks : Nat) (M : Hp), k33 x1 x2 x3 x4 kc ks M → Y p l e room_1 s m #[Value.ref b] below meth c D kCl (hTys κ) A 8 kc ks (lw_Z below #[Value.ref b] s) M 33 [(0, .ref b), (1, .ref x1), (2, .ref x2), (3, .ref x3), (4, .int x4)] []) (x1 : Nat) (x2 : Nat) (x3 : Nat) (x4 : Int32) (kc : Nat) (ks : Nat) (M : Hp) (hwp : wLa_law_1274 post k33 x1 x2 x3 x4 kc ks M) : Y p l e room_1 s m #[Value.ref b] below meth c D kCl (hTys κ) A 8 kc ks (lw_Z below #[Value.ref b] s) M 1274 [(0, .ref b), (1, .ref x1), (2, .ref x2), (3, .ref x3), (4, .int x4)] [] := by
  obtain ⟨hx, hb, hml, hr, hown, hts, hlocks, hE, hA, hNc, hAn⟩ := id C
  have hK := hE.1
  intro H locs ls hM hS hl
  unfold wLa_law_1274 at hwp
  refine lv_goto (tgt := 1451) hx hb d_La_law_1274 (by decide) ?_
  exact tLa_law_1451 C hst post hscr k33 hk33 x1 x2 x3 x4 kc ks M hwp H locs ls hM hS (lv_sub hl [0, 1, 2, 3, 4] rfl)
def wLa_law_1231 (post : Nat × (Nat → Int32)) (k33 : Nat → Nat → Nat → Int32 → Nat → Nat → Hp → Prop) (x1 : Nat) (x2 : Nat) (x3 : Nat) (x4 : Int32) (kc : Nat) (ks : Nat) (M : Hp) : Prop := (wLa_law_1451 post k33 x1 x2 x3 x4 kc ks M)
set_option maxRecDepth 100000 in
set_option maxHeartbeats 4000000 in
theorem tLa_law_1231 {p : Program} {l : Launch} {e : Env} {s : State} {m : MethodId} {below : List Frame} {meth : Method} {c : Code} {D : va_G} {κ : Nat → ClassId} {A : Nat → Prop} {b : Nat} (C : Cx_La_law p s m #[Value.ref b] meth c D κ A) (hst : l.stackTraces = false) (post : Nat × (Nat → Int32)) (hscr : zScr b post A s) (k33 : Nat → Nat → Nat → Int32 → Nat → Nat → Hp → Prop) (hk33 : ∀ (x1 : Nat) (x2 : Nat) (x3 : Nat) (x4 : Int32) (kc : Nat) (ks : Nat) (M : Hp), k33 x1 x2 x3 x4 kc ks M → Y p l e room_1 s m #[Value.ref b] below meth c D kCl (hTys κ) A 8 kc ks (lw_Z below #[Value.ref b] s) M 33 [(0, .ref b), (1, .ref x1), (2, .ref x2), (3, .ref x3), (4, .int x4)] []) (x1 : Nat) (x2 : Nat) (x3 : Nat) (x4 : Int32) (kc : Nat) (ks : Nat) (M : Hp) (hwp : wLa_law_1231 post k33 x1 x2 x3 x4 kc ks M) : Y p l e room_1 s m #[Value.ref b] below meth c D kCl (hTys κ) A 8 kc ks (lw_Z below #[Value.ref b] s) M 1231 [(0, .ref b), (1, .ref x1), (2, .ref x2), (3, .ref x3), (4, .int x4)] [] := by
  obtain ⟨hx, hb, hml, hr, hown, hts, hlocks, hE, hA, hNc, hAn⟩ := id C
  have hK := hE.1
  intro H locs ls hM hS hl
  unfold wLa_law_1231 at hwp
  refine lv_goto (tgt := 1451) hx hb d_La_law_1231 (by decide) ?_
  exact tLa_law_1451 C hst post hscr k33 hk33 x1 x2 x3 x4 kc ks M hwp H locs ls hM hS (lv_sub hl [0, 1, 2, 3, 4] rfl)
def wLa_law_1163 (post : Nat × (Nat → Int32)) (k33 : Nat → Nat → Nat → Int32 → Nat → Nat → Hp → Prop) (x1 : Nat) (x2 : Nat) (x3 : Nat) (x4 : Int32) (kc : Nat) (ks : Nat) (M : Hp) : Prop := (wLa_law_1451 post k33 x1 x2 x3 x4 kc ks M)
set_option maxRecDepth 100000 in
set_option maxHeartbeats 4000000 in
theorem tLa_law_1163 {p : Program} {l : Launch} {e : Env} {s : State} {m : MethodId} {below : List Frame} {meth : Method} {c : Code} {D : va_G} {κ : Nat → ClassId} {A : Nat → Prop} {b : Nat} (C : Cx_La_law p s m #[Value.ref b] meth c D κ A) (hst : l.stackTraces = false) (post : Nat × (Nat → Int32)) (hscr : zScr b post A s) (k33 : Nat → Nat → Nat → Int32 → Nat → Nat → Hp → Prop) (hk33 : ∀ (x1 : Nat) (x2 : Nat) (x3 : Nat) (x4 : Int32) (kc : Nat) (ks : Nat) (M : Hp), k33 x1 x2 x3 x4 kc ks M → Y p l e room_1 s m #[Value.ref b] below meth c D kCl (hTys κ) A 8 kc ks (lw_Z below #[Value.ref b] s) M 33 [(0, .ref b), (1, .ref x1), (2, .ref x2), (3, .ref x3), (4, .int x4)] []) (x1 : Nat) (x2 : Nat) (x3 : Nat) (x4 : Int32) (kc : Nat) (ks : Nat) (M : Hp) (hwp : wLa_law_1163 post k33 x1 x2 x3 x4 kc ks M) : Y p l e room_1 s m #[Value.ref b] below meth c D kCl (hTys κ) A 8 kc ks (lw_Z below #[Value.ref b] s) M 1163 [(0, .ref b), (1, .ref x1), (2, .ref x2), (3, .ref x3), (4, .int x4)] [] := by
  obtain ⟨hx, hb, hml, hr, hown, hts, hlocks, hE, hA, hNc, hAn⟩ := id C
  have hK := hE.1
  intro H locs ls hM hS hl
  unfold wLa_law_1163 at hwp
  refine lv_goto (tgt := 1451) hx hb d_La_law_1163 (by decide) ?_
  exact tLa_law_1451 C hst post hscr k33 hk33 x1 x2 x3 x4 kc ks M hwp H locs ls hM hS (lv_sub hl [0, 1, 2, 3, 4] rfl)
def wLa_law_1095 (post : Nat × (Nat → Int32)) (k33 : Nat → Nat → Nat → Int32 → Nat → Nat → Hp → Prop) (x1 : Nat) (x2 : Nat) (x3 : Nat) (x4 : Int32) (kc : Nat) (ks : Nat) (M : Hp) : Prop := (wLa_law_1451 post k33 x1 x2 x3 x4 kc ks M)
set_option maxRecDepth 100000 in
set_option maxHeartbeats 4000000 in
theorem tLa_law_1095 {p : Program} {l : Launch} {e : Env} {s : State} {m : MethodId} {below : List Frame} {meth : Method} {c : Code} {D : va_G} {κ : Nat → ClassId} {A : Nat → Prop} {b : Nat} (C : Cx_La_law p s m #[Value.ref b] meth c D κ A) (hst : l.stackTraces = false) (post : Nat × (Nat → Int32)) (hscr : zScr b post A s) (k33 : Nat → Nat → Nat → Int32 → Nat → Nat → Hp → Prop) (hk33 : ∀ (x1 : Nat) (x2 : Nat) (x3 : Nat) (x4 : Int32) (kc : Nat) (ks : Nat) (M : Hp), k33 x1 x2 x3 x4 kc ks M → Y p l e room_1 s m #[Value.ref b] below meth c D kCl (hTys κ) A 8 kc ks (lw_Z below #[Value.ref b] s) M 33 [(0, .ref b), (1, .ref x1), (2, .ref x2), (3, .ref x3), (4, .int x4)] []) (x1 : Nat) (x2 : Nat) (x3 : Nat) (x4 : Int32) (kc : Nat) (ks : Nat) (M : Hp) (hwp : wLa_law_1095 post k33 x1 x2 x3 x4 kc ks M) : Y p l e room_1 s m #[Value.ref b] below meth c D kCl (hTys κ) A 8 kc ks (lw_Z below #[Value.ref b] s) M 1095 [(0, .ref b), (1, .ref x1), (2, .ref x2), (3, .ref x3), (4, .int x4)] [] := by
  obtain ⟨hx, hb, hml, hr, hown, hts, hlocks, hE, hA, hNc, hAn⟩ := id C
  have hK := hE.1
  intro H locs ls hM hS hl
  unfold wLa_law_1095 at hwp
  refine lv_goto (tgt := 1451) hx hb d_La_law_1095 (by decide) ?_
  exact tLa_law_1451 C hst post hscr k33 hk33 x1 x2 x3 x4 kc ks M hwp H locs ls hM hS (lv_sub hl [0, 1, 2, 3, 4] rfl)
def wLa_law_1052 (post : Nat × (Nat → Int32)) (k33 : Nat → Nat → Nat → Int32 → Nat → Nat → Hp → Prop) (x1 : Nat) (x2 : Nat) (x3 : Nat) (x4 : Int32) (kc : Nat) (ks : Nat) (M : Hp) : Prop := (wLa_law_1451 post k33 x1 x2 x3 x4 kc ks M)
set_option maxRecDepth 100000 in
set_option maxHeartbeats 4000000 in
theorem tLa_law_1052 {p : Program} {l : Launch} {e : Env} {s : State} {m : MethodId} {below : List Frame} {meth : Method} {c : Code} {D : va_G} {κ : Nat → ClassId} {A : Nat → Prop} {b : Nat} (C : Cx_La_law p s m #[Value.ref b] meth c D κ A) (hst : l.stackTraces = false) (post : Nat × (Nat → Int32)) (hscr : zScr b post A s) (k33 : Nat → Nat → Nat → Int32 → Nat → Nat → Hp → Prop) (hk33 : ∀ (x1 : Nat) (x2 : Nat) (x3 : Nat) (x4 : Int32) (kc : Nat) (ks : Nat) (M : Hp), k33 x1 x2 x3 x4 kc ks M → Y p l e room_1 s m #[Value.ref b] below meth c D kCl (hTys κ) A 8 kc ks (lw_Z below #[Value.ref b] s) M 33 [(0, .ref b), (1, .ref x1), (2, .ref x2), (3, .ref x3), (4, .int x4)] []) (x1 : Nat) (x2 : Nat) (x3 : Nat) (x4 : Int32) (kc : Nat) (ks : Nat) (M : Hp) (hwp : wLa_law_1052 post k33 x1 x2 x3 x4 kc ks M) : Y p l e room_1 s m #[Value.ref b] below meth c D kCl (hTys κ) A 8 kc ks (lw_Z below #[Value.ref b] s) M 1052 [(0, .ref b), (1, .ref x1), (2, .ref x2), (3, .ref x3), (4, .int x4)] [] := by
  obtain ⟨hx, hb, hml, hr, hown, hts, hlocks, hE, hA, hNc, hAn⟩ := id C
  have hK := hE.1
  intro H locs ls hM hS hl
  unfold wLa_law_1052 at hwp
  refine lv_goto (tgt := 1451) hx hb d_La_law_1052 (by decide) ?_
  exact tLa_law_1451 C hst post hscr k33 hk33 x1 x2 x3 x4 kc ks M hwp H locs ls hM hS (lv_sub hl [0, 1, 2, 3, 4] rfl)
def wLa_law_983 (post : Nat × (Nat → Int32)) (k33 : Nat → Nat → Nat → Int32 → Nat → Nat → Hp → Prop) (x1 : Nat) (x2 : Nat) (x3 : Nat) (x4 : Int32) (kc : Nat) (ks : Nat) (M : Hp) : Prop := (wLa_law_1451 post k33 x1 x2 x3 x4 kc ks M)
set_option maxRecDepth 100000 in
set_option maxHeartbeats 4000000 in
theorem tLa_law_983 {p : Program} {l : Launch} {e : Env} {s : State} {m : MethodId} {below : List Frame} {meth : Method} {c : Code} {D : va_G} {κ : Nat → ClassId} {A : Nat → Prop} {b : Nat} (C : Cx_La_law p s m #[Value.ref b] meth c D κ A) (hst : l.stackTraces = false) (post : Nat × (Nat → Int32)) (hscr : zScr b post A s) (k33 : Nat → Nat → Nat → Int32 → Nat → Nat → Hp → Prop) (hk33 : ∀ (x1 : Nat) (x2 : Nat) (x3 : Nat) (x4 : Int32) (kc : Nat) (ks : Nat) (M : Hp), k33 x1 x2 x3 x4 kc ks M → Y p l e room_1 s m #[Value.ref b] below meth c D kCl (hTys κ) A 8 kc ks (lw_Z below #[Value.ref b] s) M 33 [(0, .ref b), (1, .ref x1), (2, .ref x2), (3, .ref x3), (4, .int x4)] []) (x1 : Nat) (x2 : Nat) (x3 : Nat) (x4 : Int32) (kc : Nat) (ks : Nat) (M : Hp) (hwp : wLa_law_983 post k33 x1 x2 x3 x4 kc ks M) : Y p l e room_1 s m #[Value.ref b] below meth c D kCl (hTys κ) A 8 kc ks (lw_Z below #[Value.ref b] s) M 983 [(0, .ref b), (1, .ref x1), (2, .ref x2), (3, .ref x3), (4, .int x4)] [] := by
  obtain ⟨hx, hb, hml, hr, hown, hts, hlocks, hE, hA, hNc, hAn⟩ := id C
  have hK := hE.1
  intro H locs ls hM hS hl
  unfold wLa_law_983 at hwp
  refine lv_goto (tgt := 1451) hx hb d_La_law_983 (by decide) ?_
  exact tLa_law_1451 C hst post hscr k33 hk33 x1 x2 x3 x4 kc ks M hwp H locs ls hM hS (lv_sub hl [0, 1, 2, 3, 4] rfl)
def wLa_law_977 (post : Nat × (Nat → Int32)) (k33 : Nat → Nat → Nat → Int32 → Nat → Nat → Hp → Prop) (x1 : Nat) (x2 : Nat) (x3 : Nat) (x4 : Int32) (y0 : Int64) (y1 : Int64) (kc : Nat) (ks : Nat) (M : Hp) : Prop := ((y1 = y0 → (wLa_law_983 post k33 x1 x2 x3 x4 kc ks M)) ∧ (¬ y1 = y0 → False))
set_option maxRecDepth 100000 in
set_option maxHeartbeats 4000000 in
theorem tLa_law_977 {p : Program} {l : Launch} {e : Env} {s : State} {m : MethodId} {below : List Frame} {meth : Method} {c : Code} {D : va_G} {κ : Nat → ClassId} {A : Nat → Prop} {b : Nat} (C : Cx_La_law p s m #[Value.ref b] meth c D κ A) (hst : l.stackTraces = false) (post : Nat × (Nat → Int32)) (hscr : zScr b post A s) (k33 : Nat → Nat → Nat → Int32 → Nat → Nat → Hp → Prop) (hk33 : ∀ (x1 : Nat) (x2 : Nat) (x3 : Nat) (x4 : Int32) (kc : Nat) (ks : Nat) (M : Hp), k33 x1 x2 x3 x4 kc ks M → Y p l e room_1 s m #[Value.ref b] below meth c D kCl (hTys κ) A 8 kc ks (lw_Z below #[Value.ref b] s) M 33 [(0, .ref b), (1, .ref x1), (2, .ref x2), (3, .ref x3), (4, .int x4)] []) (x1 : Nat) (x2 : Nat) (x3 : Nat) (x4 : Int32) (y0 : Int64) (y1 : Int64) (kc : Nat) (ks : Nat) (M : Hp) (hwp : wLa_law_977 post k33 x1 x2 x3 x4 y0 y1 kc ks M) : Y p l e room_1 s m #[Value.ref b] below meth c D kCl (hTys κ) A 8 kc ks (lw_Z below #[Value.ref b] s) M 977 [(0, .ref b), (1, .ref x1), (2, .ref x2), (3, .ref x3), (4, .int x4)] [.long y0, .long y1] := by
  obtain ⟨hx, hb, hml, hr, hown, hts, hlocks, hE, hA, hNc, hAn⟩ := id C
  have hK := hE.1
  intro H locs ls hM hS hl
  unfold wLa_law_977 at hwp
  refine W.lcmp hx hb d_La_law_977 ?_
  refine lv_if_eq (tgt := 983) hx hb d_La_law_978 (by decide) (fun c3 => ?_) (fun c3 => ?_)
  · replace c3 := (lc_eq _ _).mp c3
    replace hwp := hwp.1 c3
    exact tLa_law_983 C hst post hscr k33 hk33 x1 x2 x3 x4 kc ks M hwp H locs ls hM hS (lv_sub hl [0, 1, 2, 3, 4] rfl)
  · replace c3 := fun h9 => c3 ((lc_eq _ _).mpr h9)
    replace hwp := hwp.2 c3
    refine lv_iconst (v := 0) hx hb d_La_law_981 (by decide) ?_
    exact hwp.elim
def wLa_law_864 (post : Nat × (Nat → Int32)) (k33 : Nat → Nat → Nat → Int32 → Nat → Nat → Hp → Prop) (x1 : Nat) (x2 : Nat) (x3 : Nat) (x4 : Int32) (kc : Nat) (ks : Nat) (M : Hp) : Prop := (wLa_law_1451 post k33 x1 x2 x3 x4 kc ks M)
set_option maxRecDepth 100000 in
set_option maxHeartbeats 4000000 in
theorem tLa_law_864 {p : Program} {l : Launch} {e : Env} {s : State} {m : MethodId} {below : List Frame} {meth : Method} {c : Code} {D : va_G} {κ : Nat → ClassId} {A : Nat → Prop} {b : Nat} (C : Cx_La_law p s m #[Value.ref b] meth c D κ A) (hst : l.stackTraces = false) (post : Nat × (Nat → Int32)) (hscr : zScr b post A s) (k33 : Nat → Nat → Nat → Int32 → Nat → Nat → Hp → Prop) (hk33 : ∀ (x1 : Nat) (x2 : Nat) (x3 : Nat) (x4 : Int32) (kc : Nat) (ks : Nat) (M : Hp), k33 x1 x2 x3 x4 kc ks M → Y p l e room_1 s m #[Value.ref b] below meth c D kCl (hTys κ) A 8 kc ks (lw_Z below #[Value.ref b] s) M 33 [(0, .ref b), (1, .ref x1), (2, .ref x2), (3, .ref x3), (4, .int x4)] []) (x1 : Nat) (x2 : Nat) (x3 : Nat) (x4 : Int32) (kc : Nat) (ks : Nat) (M : Hp) (hwp : wLa_law_864 post k33 x1 x2 x3 x4 kc ks M) : Y p l e room_1 s m #[Value.ref b] below meth c D kCl (hTys κ) A 8 kc ks (lw_Z below #[Value.ref b] s) M 864 [(0, .ref b), (1, .ref x1), (2, .ref x2), (3, .ref x3), (4, .int x4)] [] := by
  obtain ⟨hx, hb, hml, hr, hown, hts, hlocks, hE, hA, hNc, hAn⟩ := id C
  have hK := hE.1
  intro H locs ls hM hS hl
  unfold wLa_law_864 at hwp
  refine lv_goto (tgt := 1451) hx hb d_La_law_864 (by decide) ?_
  exact tLa_law_1451 C hst post hscr k33 hk33 x1 x2 x3 x4 kc ks M hwp H locs ls hM hS (lv_sub hl [0, 1, 2, 3, 4] rfl)
def wLa_law_858 (post : Nat × (Nat → Int32)) (k33 : Nat → Nat → Nat → Int32 → Nat → Nat → Hp → Prop) (x1 : Nat) (x2 : Nat) (x3 : Nat) (x4 : Int32) (y0 : Int64) (y1 : Int64) (kc : Nat) (ks : Nat) (M : Hp) : Prop := ((y1 = y0 → (wLa_law_864 post k33 x1 x2 x3 x4 kc ks M)) ∧ (¬ y1 = y0 → False))
set_option maxRecDepth 100000 in
set_option maxHeartbeats 4000000 in
theorem tLa_law_858 {p : Program} {l : Launch} {e : Env} {s : State} {m : MethodId} {below : List Frame} {meth : Method} {c : Code} {D : va_G} {κ : Nat → ClassId} {A : Nat → Prop} {b : Nat} (C : Cx_La_law p s m #[Value.ref b] meth c D κ A) (hst : l.stackTraces = false) (post : Nat × (Nat → Int32)) (hscr : zScr b post A s) (k33 : Nat → Nat → Nat → Int32 → Nat → Nat → Hp → Prop) (hk33 : ∀ (x1 : Nat) (x2 : Nat) (x3 : Nat) (x4 : Int32) (kc : Nat) (ks : Nat) (M : Hp), k33 x1 x2 x3 x4 kc ks M → Y p l e room_1 s m #[Value.ref b] below meth c D kCl (hTys κ) A 8 kc ks (lw_Z below #[Value.ref b] s) M 33 [(0, .ref b), (1, .ref x1), (2, .ref x2), (3, .ref x3), (4, .int x4)] []) (x1 : Nat) (x2 : Nat) (x3 : Nat) (x4 : Int32) (y0 : Int64) (y1 : Int64) (kc : Nat) (ks : Nat) (M : Hp) (hwp : wLa_law_858 post k33 x1 x2 x3 x4 y0 y1 kc ks M) : Y p l e room_1 s m #[Value.ref b] below meth c D kCl (hTys κ) A 8 kc ks (lw_Z below #[Value.ref b] s) M 858 [(0, .ref b), (1, .ref x1), (2, .ref x2), (3, .ref x3), (4, .int x4)] [.long y0, .long y1] := by
  obtain ⟨hx, hb, hml, hr, hown, hts, hlocks, hE, hA, hNc, hAn⟩ := id C
  have hK := hE.1
  intro H locs ls hM hS hl
  unfold wLa_law_858 at hwp
  refine W.lcmp hx hb d_La_law_858 ?_
  refine lv_if_eq (tgt := 864) hx hb d_La_law_859 (by decide) (fun c4 => ?_) (fun c4 => ?_)
  · replace c4 := (lc_eq _ _).mp c4
    replace hwp := hwp.1 c4
    exact tLa_law_864 C hst post hscr k33 hk33 x1 x2 x3 x4 kc ks M hwp H locs ls hM hS (lv_sub hl [0, 1, 2, 3, 4] rfl)
  · replace c4 := fun h9 => c4 ((lc_eq _ _).mpr h9)
    replace hwp := hwp.2 c4
    refine lv_iconst (v := 0) hx hb d_La_law_862 (by decide) ?_
    exact hwp.elim
def wLa_law_757 (post : Nat × (Nat → Int32)) (k33 : Nat → Nat → Nat → Int32 → Nat → Nat → Hp → Prop) (x1 : Nat) (x2 : Nat) (x3 : Nat) (x4 : Int32) (kc : Nat) (ks : Nat) (M : Hp) : Prop := (wLa_law_1451 post k33 x1 x2 x3 x4 kc ks M)
set_option maxRecDepth 100000 in
set_option maxHeartbeats 4000000 in
theorem tLa_law_757 {p : Program} {l : Launch} {e : Env} {s : State} {m : MethodId} {below : List Frame} {meth : Method} {c : Code} {D : va_G} {κ : Nat → ClassId} {A : Nat → Prop} {b : Nat} (C : Cx_La_law p s m #[Value.ref b] meth c D κ A) (hst : l.stackTraces = false) (post : Nat × (Nat → Int32)) (hscr : zScr b post A s) (k33 : Nat → Nat → Nat → Int32 → Nat → Nat → Hp → Prop) (hk33 : ∀ (x1 : Nat) (x2 : Nat) (x3 : Nat) (x4 : Int32) (kc : Nat) (ks : Nat) (M : Hp), k33 x1 x2 x3 x4 kc ks M → Y p l e room_1 s m #[Value.ref b] below meth c D kCl (hTys κ) A 8 kc ks (lw_Z below #[Value.ref b] s) M 33 [(0, .ref b), (1, .ref x1), (2, .ref x2), (3, .ref x3), (4, .int x4)] []) (x1 : Nat) (x2 : Nat) (x3 : Nat) (x4 : Int32) (kc : Nat) (ks : Nat) (M : Hp) (hwp : wLa_law_757 post k33 x1 x2 x3 x4 kc ks M) : Y p l e room_1 s m #[Value.ref b] below meth c D kCl (hTys κ) A 8 kc ks (lw_Z below #[Value.ref b] s) M 757 [(0, .ref b), (1, .ref x1), (2, .ref x2), (3, .ref x3), (4, .int x4)] [] := by
  obtain ⟨hx, hb, hml, hr, hown, hts, hlocks, hE, hA, hNc, hAn⟩ := id C
  have hK := hE.1
  intro H locs ls hM hS hl
  unfold wLa_law_757 at hwp
  refine lv_goto (tgt := 1451) hx hb d_La_law_757 (by decide) ?_
  exact tLa_law_1451 C hst post hscr k33 hk33 x1 x2 x3 x4 kc ks M hwp H locs ls hM hS (lv_sub hl [0, 1, 2, 3, 4] rfl)
def wLa_law_751 (post : Nat × (Nat → Int32)) (k33 : Nat → Nat → Nat → Int32 → Nat → Nat → Hp → Prop) (x1 : Nat) (x2 : Nat) (x3 : Nat) (x4 : Int32) (y0 : Int64) (y1 : Int64) (kc : Nat) (ks : Nat) (M : Hp) : Prop := ((y1 = y0 → (wLa_law_757 post k33 x1 x2 x3 x4 kc ks M)) ∧ (¬ y1 = y0 → False))
set_option maxRecDepth 100000 in
set_option maxHeartbeats 4000000 in
theorem tLa_law_751 {p : Program} {l : Launch} {e : Env} {s : State} {m : MethodId} {below : List Frame} {meth : Method} {c : Code} {D : va_G} {κ : Nat → ClassId} {A : Nat → Prop} {b : Nat} (C : Cx_La_law p s m #[Value.ref b] meth c D κ A) (hst : l.stackTraces = false) (post : Nat × (Nat → Int32)) (hscr : zScr b post A s) (k33 : Nat → Nat → Nat → Int32 → Nat → Nat → Hp → Prop) (hk33 : ∀ (x1 : Nat) (x2 : Nat) (x3 : Nat) (x4 : Int32) (kc : Nat) (ks : Nat) (M : Hp), k33 x1 x2 x3 x4 kc ks M → Y p l e room_1 s m #[Value.ref b] below meth c D kCl (hTys κ) A 8 kc ks (lw_Z below #[Value.ref b] s) M 33 [(0, .ref b), (1, .ref x1), (2, .ref x2), (3, .ref x3), (4, .int x4)] []) (x1 : Nat) (x2 : Nat) (x3 : Nat) (x4 : Int32) (y0 : Int64) (y1 : Int64) (kc : Nat) (ks : Nat) (M : Hp) (hwp : wLa_law_751 post k33 x1 x2 x3 x4 y0 y1 kc ks M) : Y p l e room_1 s m #[Value.ref b] below meth c D kCl (hTys κ) A 8 kc ks (lw_Z below #[Value.ref b] s) M 751 [(0, .ref b), (1, .ref x1), (2, .ref x2), (3, .ref x3), (4, .int x4)] [.long y0, .long y1] := by
  obtain ⟨hx, hb, hml, hr, hown, hts, hlocks, hE, hA, hNc, hAn⟩ := id C
  have hK := hE.1
  intro H locs ls hM hS hl
  unfold wLa_law_751 at hwp
  refine W.lcmp hx hb d_La_law_751 ?_
  refine lv_if_eq (tgt := 757) hx hb d_La_law_752 (by decide) (fun c5 => ?_) (fun c5 => ?_)
  · replace c5 := (lc_eq _ _).mp c5
    replace hwp := hwp.1 c5
    exact tLa_law_757 C hst post hscr k33 hk33 x1 x2 x3 x4 kc ks M hwp H locs ls hM hS (lv_sub hl [0, 1, 2, 3, 4] rfl)
  · replace c5 := fun h9 => c5 ((lc_eq _ _).mpr h9)
    replace hwp := hwp.2 c5
    refine lv_iconst (v := 0) hx hb d_La_law_755 (by decide) ?_
    exact hwp.elim
def wLa_law_694 (post : Nat × (Nat → Int32)) (k33 : Nat → Nat → Nat → Int32 → Nat → Nat → Hp → Prop) (x1 : Nat) (x2 : Nat) (x3 : Nat) (x4 : Int32) (kc : Nat) (ks : Nat) (M : Hp) : Prop := (wLa_law_1451 post k33 x1 x2 x3 x4 kc ks M)
set_option maxRecDepth 100000 in
set_option maxHeartbeats 4000000 in
theorem tLa_law_694 {p : Program} {l : Launch} {e : Env} {s : State} {m : MethodId} {below : List Frame} {meth : Method} {c : Code} {D : va_G} {κ : Nat → ClassId} {A : Nat → Prop} {b : Nat} (C : Cx_La_law p s m #[Value.ref b] meth c D κ A) (hst : l.stackTraces = false) (post : Nat × (Nat → Int32)) (hscr : zScr b post A s) (k33 : Nat → Nat → Nat → Int32 → Nat → Nat → Hp → Prop) (hk33 : ∀ (x1 : Nat) (x2 : Nat) (x3 : Nat) (x4 : Int32) (kc : Nat) (ks : Nat) (M : Hp), k33 x1 x2 x3 x4 kc ks M → Y p l e room_1 s m #[Value.ref b] below meth c D kCl (hTys κ) A 8 kc ks (lw_Z below #[Value.ref b] s) M 33 [(0, .ref b), (1, .ref x1), (2, .ref x2), (3, .ref x3), (4, .int x4)] []) (x1 : Nat) (x2 : Nat) (x3 : Nat) (x4 : Int32) (kc : Nat) (ks : Nat) (M : Hp) (hwp : wLa_law_694 post k33 x1 x2 x3 x4 kc ks M) : Y p l e room_1 s m #[Value.ref b] below meth c D kCl (hTys κ) A 8 kc ks (lw_Z below #[Value.ref b] s) M 694 [(0, .ref b), (1, .ref x1), (2, .ref x2), (3, .ref x3), (4, .int x4)] [] := by
  obtain ⟨hx, hb, hml, hr, hown, hts, hlocks, hE, hA, hNc, hAn⟩ := id C
  have hK := hE.1
  intro H locs ls hM hS hl
  unfold wLa_law_694 at hwp
  refine lv_goto (tgt := 1451) hx hb d_La_law_694 (by decide) ?_
  exact tLa_law_1451 C hst post hscr k33 hk33 x1 x2 x3 x4 kc ks M hwp H locs ls hM hS (lv_sub hl [0, 1, 2, 3, 4] rfl)
def wLa_law_688 (post : Nat × (Nat → Int32)) (k33 : Nat → Nat → Nat → Int32 → Nat → Nat → Hp → Prop) (x1 : Nat) (x2 : Nat) (x3 : Nat) (x4 : Int32) (y0 : Int64) (y1 : Int64) (kc : Nat) (ks : Nat) (M : Hp) : Prop := ((y1 = y0 → (wLa_law_694 post k33 x1 x2 x3 x4 kc ks M)) ∧ (¬ y1 = y0 → False))
set_option maxRecDepth 100000 in
set_option maxHeartbeats 4000000 in
theorem tLa_law_688 {p : Program} {l : Launch} {e : Env} {s : State} {m : MethodId} {below : List Frame} {meth : Method} {c : Code} {D : va_G} {κ : Nat → ClassId} {A : Nat → Prop} {b : Nat} (C : Cx_La_law p s m #[Value.ref b] meth c D κ A) (hst : l.stackTraces = false) (post : Nat × (Nat → Int32)) (hscr : zScr b post A s) (k33 : Nat → Nat → Nat → Int32 → Nat → Nat → Hp → Prop) (hk33 : ∀ (x1 : Nat) (x2 : Nat) (x3 : Nat) (x4 : Int32) (kc : Nat) (ks : Nat) (M : Hp), k33 x1 x2 x3 x4 kc ks M → Y p l e room_1 s m #[Value.ref b] below meth c D kCl (hTys κ) A 8 kc ks (lw_Z below #[Value.ref b] s) M 33 [(0, .ref b), (1, .ref x1), (2, .ref x2), (3, .ref x3), (4, .int x4)] []) (x1 : Nat) (x2 : Nat) (x3 : Nat) (x4 : Int32) (y0 : Int64) (y1 : Int64) (kc : Nat) (ks : Nat) (M : Hp) (hwp : wLa_law_688 post k33 x1 x2 x3 x4 y0 y1 kc ks M) : Y p l e room_1 s m #[Value.ref b] below meth c D kCl (hTys κ) A 8 kc ks (lw_Z below #[Value.ref b] s) M 688 [(0, .ref b), (1, .ref x1), (2, .ref x2), (3, .ref x3), (4, .int x4)] [.long y0, .long y1] := by
  obtain ⟨hx, hb, hml, hr, hown, hts, hlocks, hE, hA, hNc, hAn⟩ := id C
  have hK := hE.1
  intro H locs ls hM hS hl
  unfold wLa_law_688 at hwp
  refine W.lcmp hx hb d_La_law_688 ?_
  refine lv_if_eq (tgt := 694) hx hb d_La_law_689 (by decide) (fun c6 => ?_) (fun c6 => ?_)
  · replace c6 := (lc_eq _ _).mp c6
    replace hwp := hwp.1 c6
    exact tLa_law_694 C hst post hscr k33 hk33 x1 x2 x3 x4 kc ks M hwp H locs ls hM hS (lv_sub hl [0, 1, 2, 3, 4] rfl)
  · replace c6 := fun h9 => c6 ((lc_eq _ _).mpr h9)
    replace hwp := hwp.2 c6
    refine lv_iconst (v := 0) hx hb d_La_law_692 (by decide) ?_
    exact hwp.elim
def wLa_law_631 (post : Nat × (Nat → Int32)) (k33 : Nat → Nat → Nat → Int32 → Nat → Nat → Hp → Prop) (x1 : Nat) (x2 : Nat) (x3 : Nat) (x4 : Int32) (kc : Nat) (ks : Nat) (M : Hp) : Prop := (wLa_law_1451 post k33 x1 x2 x3 x4 kc ks M)
set_option maxRecDepth 100000 in
set_option maxHeartbeats 4000000 in
theorem tLa_law_631 {p : Program} {l : Launch} {e : Env} {s : State} {m : MethodId} {below : List Frame} {meth : Method} {c : Code} {D : va_G} {κ : Nat → ClassId} {A : Nat → Prop} {b : Nat} (C : Cx_La_law p s m #[Value.ref b] meth c D κ A) (hst : l.stackTraces = false) (post : Nat × (Nat → Int32)) (hscr : zScr b post A s) (k33 : Nat → Nat → Nat → Int32 → Nat → Nat → Hp → Prop) (hk33 : ∀ (x1 : Nat) (x2 : Nat) (x3 : Nat) (x4 : Int32) (kc : Nat) (ks : Nat) (M : Hp), k33 x1 x2 x3 x4 kc ks M → Y p l e room_1 s m #[Value.ref b] below meth c D kCl (hTys κ) A 8 kc ks (lw_Z below #[Value.ref b] s) M 33 [(0, .ref b), (1, .ref x1), (2, .ref x2), (3, .ref x3), (4, .int x4)] []) (x1 : Nat) (x2 : Nat) (x3 : Nat) (x4 : Int32) (kc : Nat) (ks : Nat) (M : Hp) (hwp : wLa_law_631 post k33 x1 x2 x3 x4 kc ks M) : Y p l e room_1 s m #[Value.ref b] below meth c D kCl (hTys κ) A 8 kc ks (lw_Z below #[Value.ref b] s) M 631 [(0, .ref b), (1, .ref x1), (2, .ref x2), (3, .ref x3), (4, .int x4)] [] := by
  obtain ⟨hx, hb, hml, hr, hown, hts, hlocks, hE, hA, hNc, hAn⟩ := id C
  have hK := hE.1
  intro H locs ls hM hS hl
  unfold wLa_law_631 at hwp
  refine lv_goto (tgt := 1451) hx hb d_La_law_631 (by decide) ?_
  exact tLa_law_1451 C hst post hscr k33 hk33 x1 x2 x3 x4 kc ks M hwp H locs ls hM hS (lv_sub hl [0, 1, 2, 3, 4] rfl)
def wLa_law_625 (post : Nat × (Nat → Int32)) (k33 : Nat → Nat → Nat → Int32 → Nat → Nat → Hp → Prop) (x1 : Nat) (x2 : Nat) (x3 : Nat) (x4 : Int32) (y0 : Int64) (y1 : Int64) (kc : Nat) (ks : Nat) (M : Hp) : Prop := ((y1 = y0 → (wLa_law_631 post k33 x1 x2 x3 x4 kc ks M)) ∧ (¬ y1 = y0 → False))
set_option maxRecDepth 100000 in
set_option maxHeartbeats 4000000 in
theorem tLa_law_625 {p : Program} {l : Launch} {e : Env} {s : State} {m : MethodId} {below : List Frame} {meth : Method} {c : Code} {D : va_G} {κ : Nat → ClassId} {A : Nat → Prop} {b : Nat} (C : Cx_La_law p s m #[Value.ref b] meth c D κ A) (hst : l.stackTraces = false) (post : Nat × (Nat → Int32)) (hscr : zScr b post A s) (k33 : Nat → Nat → Nat → Int32 → Nat → Nat → Hp → Prop) (hk33 : ∀ (x1 : Nat) (x2 : Nat) (x3 : Nat) (x4 : Int32) (kc : Nat) (ks : Nat) (M : Hp), k33 x1 x2 x3 x4 kc ks M → Y p l e room_1 s m #[Value.ref b] below meth c D kCl (hTys κ) A 8 kc ks (lw_Z below #[Value.ref b] s) M 33 [(0, .ref b), (1, .ref x1), (2, .ref x2), (3, .ref x3), (4, .int x4)] []) (x1 : Nat) (x2 : Nat) (x3 : Nat) (x4 : Int32) (y0 : Int64) (y1 : Int64) (kc : Nat) (ks : Nat) (M : Hp) (hwp : wLa_law_625 post k33 x1 x2 x3 x4 y0 y1 kc ks M) : Y p l e room_1 s m #[Value.ref b] below meth c D kCl (hTys κ) A 8 kc ks (lw_Z below #[Value.ref b] s) M 625 [(0, .ref b), (1, .ref x1), (2, .ref x2), (3, .ref x3), (4, .int x4)] [.long y0, .long y1] := by
  obtain ⟨hx, hb, hml, hr, hown, hts, hlocks, hE, hA, hNc, hAn⟩ := id C
  have hK := hE.1
  intro H locs ls hM hS hl
  unfold wLa_law_625 at hwp
  refine W.lcmp hx hb d_La_law_625 ?_
  refine lv_if_eq (tgt := 631) hx hb d_La_law_626 (by decide) (fun c7 => ?_) (fun c7 => ?_)
  · replace c7 := (lc_eq _ _).mp c7
    replace hwp := hwp.1 c7
    exact tLa_law_631 C hst post hscr k33 hk33 x1 x2 x3 x4 kc ks M hwp H locs ls hM hS (lv_sub hl [0, 1, 2, 3, 4] rfl)
  · replace c7 := fun h9 => c7 ((lc_eq _ _).mpr h9)
    replace hwp := hwp.2 c7
    refine lv_iconst (v := 0) hx hb d_La_law_629 (by decide) ?_
    exact hwp.elim
def wLa_law_568 (post : Nat × (Nat → Int32)) (k33 : Nat → Nat → Nat → Int32 → Nat → Nat → Hp → Prop) (x1 : Nat) (x2 : Nat) (x3 : Nat) (x4 : Int32) (kc : Nat) (ks : Nat) (M : Hp) : Prop := (wLa_law_1451 post k33 x1 x2 x3 x4 kc ks M)
set_option maxRecDepth 100000 in
set_option maxHeartbeats 4000000 in
theorem tLa_law_568 {p : Program} {l : Launch} {e : Env} {s : State} {m : MethodId} {below : List Frame} {meth : Method} {c : Code} {D : va_G} {κ : Nat → ClassId} {A : Nat → Prop} {b : Nat} (C : Cx_La_law p s m #[Value.ref b] meth c D κ A) (hst : l.stackTraces = false) (post : Nat × (Nat → Int32)) (hscr : zScr b post A s) (k33 : Nat → Nat → Nat → Int32 → Nat → Nat → Hp → Prop) (hk33 : ∀ (x1 : Nat) (x2 : Nat) (x3 : Nat) (x4 : Int32) (kc : Nat) (ks : Nat) (M : Hp), k33 x1 x2 x3 x4 kc ks M → Y p l e room_1 s m #[Value.ref b] below meth c D kCl (hTys κ) A 8 kc ks (lw_Z below #[Value.ref b] s) M 33 [(0, .ref b), (1, .ref x1), (2, .ref x2), (3, .ref x3), (4, .int x4)] []) (x1 : Nat) (x2 : Nat) (x3 : Nat) (x4 : Int32) (kc : Nat) (ks : Nat) (M : Hp) (hwp : wLa_law_568 post k33 x1 x2 x3 x4 kc ks M) : Y p l e room_1 s m #[Value.ref b] below meth c D kCl (hTys κ) A 8 kc ks (lw_Z below #[Value.ref b] s) M 568 [(0, .ref b), (1, .ref x1), (2, .ref x2), (3, .ref x3), (4, .int x4)] [] := by
  obtain ⟨hx, hb, hml, hr, hown, hts, hlocks, hE, hA, hNc, hAn⟩ := id C
  have hK := hE.1
  intro H locs ls hM hS hl
  unfold wLa_law_568 at hwp
  refine lv_goto (tgt := 1451) hx hb d_La_law_568 (by decide) ?_
  exact tLa_law_1451 C hst post hscr k33 hk33 x1 x2 x3 x4 kc ks M hwp H locs ls hM hS (lv_sub hl [0, 1, 2, 3, 4] rfl)
def wLa_law_562 (post : Nat × (Nat → Int32)) (k33 : Nat → Nat → Nat → Int32 → Nat → Nat → Hp → Prop) (x1 : Nat) (x2 : Nat) (x3 : Nat) (x4 : Int32) (y0 : Int64) (y1 : Int64) (kc : Nat) (ks : Nat) (M : Hp) : Prop := ((y1 = y0 → (wLa_law_568 post k33 x1 x2 x3 x4 kc ks M)) ∧ (¬ y1 = y0 → False))
set_option maxRecDepth 100000 in
set_option maxHeartbeats 4000000 in
theorem tLa_law_562 {p : Program} {l : Launch} {e : Env} {s : State} {m : MethodId} {below : List Frame} {meth : Method} {c : Code} {D : va_G} {κ : Nat → ClassId} {A : Nat → Prop} {b : Nat} (C : Cx_La_law p s m #[Value.ref b] meth c D κ A) (hst : l.stackTraces = false) (post : Nat × (Nat → Int32)) (hscr : zScr b post A s) (k33 : Nat → Nat → Nat → Int32 → Nat → Nat → Hp → Prop) (hk33 : ∀ (x1 : Nat) (x2 : Nat) (x3 : Nat) (x4 : Int32) (kc : Nat) (ks : Nat) (M : Hp), k33 x1 x2 x3 x4 kc ks M → Y p l e room_1 s m #[Value.ref b] below meth c D kCl (hTys κ) A 8 kc ks (lw_Z below #[Value.ref b] s) M 33 [(0, .ref b), (1, .ref x1), (2, .ref x2), (3, .ref x3), (4, .int x4)] []) (x1 : Nat) (x2 : Nat) (x3 : Nat) (x4 : Int32) (y0 : Int64) (y1 : Int64) (kc : Nat) (ks : Nat) (M : Hp) (hwp : wLa_law_562 post k33 x1 x2 x3 x4 y0 y1 kc ks M) : Y p l e room_1 s m #[Value.ref b] below meth c D kCl (hTys κ) A 8 kc ks (lw_Z below #[Value.ref b] s) M 562 [(0, .ref b), (1, .ref x1), (2, .ref x2), (3, .ref x3), (4, .int x4)] [.long y0, .long y1] := by
  obtain ⟨hx, hb, hml, hr, hown, hts, hlocks, hE, hA, hNc, hAn⟩ := id C
  have hK := hE.1
  intro H locs ls hM hS hl
  unfold wLa_law_562 at hwp
  refine W.lcmp hx hb d_La_law_562 ?_
  refine lv_if_eq (tgt := 568) hx hb d_La_law_563 (by decide) (fun c8 => ?_) (fun c8 => ?_)
  · replace c8 := (lc_eq _ _).mp c8
    replace hwp := hwp.1 c8
    exact tLa_law_568 C hst post hscr k33 hk33 x1 x2 x3 x4 kc ks M hwp H locs ls hM hS (lv_sub hl [0, 1, 2, 3, 4] rfl)
  · replace c8 := fun h9 => c8 ((lc_eq _ _).mpr h9)
    replace hwp := hwp.2 c8
    refine lv_iconst (v := 0) hx hb d_La_law_566 (by decide) ?_
    exact hwp.elim
def wLa_law_493 (post : Nat × (Nat → Int32)) (k33 : Nat → Nat → Nat → Int32 → Nat → Nat → Hp → Prop) (x1 : Nat) (x2 : Nat) (x3 : Nat) (x4 : Int32) (kc : Nat) (ks : Nat) (M : Hp) : Prop := (wLa_law_1451 post k33 x1 x2 x3 x4 kc ks M)
set_option maxRecDepth 100000 in
set_option maxHeartbeats 4000000 in
theorem tLa_law_493 {p : Program} {l : Launch} {e : Env} {s : State} {m : MethodId} {below : List Frame} {meth : Method} {c : Code} {D : va_G} {κ : Nat → ClassId} {A : Nat → Prop} {b : Nat} (C : Cx_La_law p s m #[Value.ref b] meth c D κ A) (hst : l.stackTraces = false) (post : Nat × (Nat → Int32)) (hscr : zScr b post A s) (k33 : Nat → Nat → Nat → Int32 → Nat → Nat → Hp → Prop) (hk33 : ∀ (x1 : Nat) (x2 : Nat) (x3 : Nat) (x4 : Int32) (kc : Nat) (ks : Nat) (M : Hp), k33 x1 x2 x3 x4 kc ks M → Y p l e room_1 s m #[Value.ref b] below meth c D kCl (hTys κ) A 8 kc ks (lw_Z below #[Value.ref b] s) M 33 [(0, .ref b), (1, .ref x1), (2, .ref x2), (3, .ref x3), (4, .int x4)] []) (x1 : Nat) (x2 : Nat) (x3 : Nat) (x4 : Int32) (kc : Nat) (ks : Nat) (M : Hp) (hwp : wLa_law_493 post k33 x1 x2 x3 x4 kc ks M) : Y p l e room_1 s m #[Value.ref b] below meth c D kCl (hTys κ) A 8 kc ks (lw_Z below #[Value.ref b] s) M 493 [(0, .ref b), (1, .ref x1), (2, .ref x2), (3, .ref x3), (4, .int x4)] [] := by
  obtain ⟨hx, hb, hml, hr, hown, hts, hlocks, hE, hA, hNc, hAn⟩ := id C
  have hK := hE.1
  intro H locs ls hM hS hl
  unfold wLa_law_493 at hwp
  refine lv_goto (tgt := 1451) hx hb d_La_law_493 (by decide) ?_
  exact tLa_law_1451 C hst post hscr k33 hk33 x1 x2 x3 x4 kc ks M hwp H locs ls hM hS (lv_sub hl [0, 1, 2, 3, 4] rfl)
def wLa_law_355 (post : Nat × (Nat → Int32)) (k33 : Nat → Nat → Nat → Int32 → Nat → Nat → Hp → Prop) (x1 : Nat) (x2 : Nat) (x3 : Nat) (x4 : Int32) (kc : Nat) (ks : Nat) (M : Hp) : Prop := (wLa_law_1451 post k33 x1 x2 x3 x4 kc ks M)
set_option maxRecDepth 100000 in
set_option maxHeartbeats 4000000 in
theorem tLa_law_355 {p : Program} {l : Launch} {e : Env} {s : State} {m : MethodId} {below : List Frame} {meth : Method} {c : Code} {D : va_G} {κ : Nat → ClassId} {A : Nat → Prop} {b : Nat} (C : Cx_La_law p s m #[Value.ref b] meth c D κ A) (hst : l.stackTraces = false) (post : Nat × (Nat → Int32)) (hscr : zScr b post A s) (k33 : Nat → Nat → Nat → Int32 → Nat → Nat → Hp → Prop) (hk33 : ∀ (x1 : Nat) (x2 : Nat) (x3 : Nat) (x4 : Int32) (kc : Nat) (ks : Nat) (M : Hp), k33 x1 x2 x3 x4 kc ks M → Y p l e room_1 s m #[Value.ref b] below meth c D kCl (hTys κ) A 8 kc ks (lw_Z below #[Value.ref b] s) M 33 [(0, .ref b), (1, .ref x1), (2, .ref x2), (3, .ref x3), (4, .int x4)] []) (x1 : Nat) (x2 : Nat) (x3 : Nat) (x4 : Int32) (kc : Nat) (ks : Nat) (M : Hp) (hwp : wLa_law_355 post k33 x1 x2 x3 x4 kc ks M) : Y p l e room_1 s m #[Value.ref b] below meth c D kCl (hTys κ) A 8 kc ks (lw_Z below #[Value.ref b] s) M 355 [(0, .ref b), (1, .ref x1), (2, .ref x2), (3, .ref x3), (4, .int x4)] [] := by
  obtain ⟨hx, hb, hml, hr, hown, hts, hlocks, hE, hA, hNc, hAn⟩ := id C
  have hK := hE.1
  intro H locs ls hM hS hl
  unfold wLa_law_355 at hwp
  refine lv_goto (tgt := 1451) hx hb d_La_law_355 (by decide) ?_
  exact tLa_law_1451 C hst post hscr k33 hk33 x1 x2 x3 x4 kc ks M hwp H locs ls hM hS (lv_sub hl [0, 1, 2, 3, 4] rfl)
def wLa_law_311 (post : Nat × (Nat → Int32)) (k33 : Nat → Nat → Nat → Int32 → Nat → Nat → Hp → Prop) (x1 : Nat) (x2 : Nat) (x3 : Nat) (x4 : Int32) (kc : Nat) (ks : Nat) (M : Hp) : Prop := (wLa_law_1451 post k33 x1 x2 x3 x4 kc ks M)
set_option maxRecDepth 100000 in
set_option maxHeartbeats 4000000 in
theorem tLa_law_311 {p : Program} {l : Launch} {e : Env} {s : State} {m : MethodId} {below : List Frame} {meth : Method} {c : Code} {D : va_G} {κ : Nat → ClassId} {A : Nat → Prop} {b : Nat} (C : Cx_La_law p s m #[Value.ref b] meth c D κ A) (hst : l.stackTraces = false) (post : Nat × (Nat → Int32)) (hscr : zScr b post A s) (k33 : Nat → Nat → Nat → Int32 → Nat → Nat → Hp → Prop) (hk33 : ∀ (x1 : Nat) (x2 : Nat) (x3 : Nat) (x4 : Int32) (kc : Nat) (ks : Nat) (M : Hp), k33 x1 x2 x3 x4 kc ks M → Y p l e room_1 s m #[Value.ref b] below meth c D kCl (hTys κ) A 8 kc ks (lw_Z below #[Value.ref b] s) M 33 [(0, .ref b), (1, .ref x1), (2, .ref x2), (3, .ref x3), (4, .int x4)] []) (x1 : Nat) (x2 : Nat) (x3 : Nat) (x4 : Int32) (kc : Nat) (ks : Nat) (M : Hp) (hwp : wLa_law_311 post k33 x1 x2 x3 x4 kc ks M) : Y p l e room_1 s m #[Value.ref b] below meth c D kCl (hTys κ) A 8 kc ks (lw_Z below #[Value.ref b] s) M 311 [(0, .ref b), (1, .ref x1), (2, .ref x2), (3, .ref x3), (4, .int x4)] [] := by
  obtain ⟨hx, hb, hml, hr, hown, hts, hlocks, hE, hA, hNc, hAn⟩ := id C
  have hK := hE.1
  intro H locs ls hM hS hl
  unfold wLa_law_311 at hwp
  refine lv_goto (tgt := 1451) hx hb d_La_law_311 (by decide) ?_
  exact tLa_law_1451 C hst post hscr k33 hk33 x1 x2 x3 x4 kc ks M hwp H locs ls hM hS (lv_sub hl [0, 1, 2, 3, 4] rfl)
def wLa_law_305 (post : Nat × (Nat → Int32)) (k33 : Nat → Nat → Nat → Int32 → Nat → Nat → Hp → Prop) (x1 : Nat) (x2 : Nat) (x3 : Nat) (x4 : Int32) (y0 : Int64) (y1 : Int64) (kc : Nat) (ks : Nat) (M : Hp) : Prop := ((y1 = y0 → (wLa_law_311 post k33 x1 x2 x3 x4 kc ks M)) ∧ (¬ y1 = y0 → False))
set_option maxRecDepth 100000 in
set_option maxHeartbeats 4000000 in
theorem tLa_law_305 {p : Program} {l : Launch} {e : Env} {s : State} {m : MethodId} {below : List Frame} {meth : Method} {c : Code} {D : va_G} {κ : Nat → ClassId} {A : Nat → Prop} {b : Nat} (C : Cx_La_law p s m #[Value.ref b] meth c D κ A) (hst : l.stackTraces = false) (post : Nat × (Nat → Int32)) (hscr : zScr b post A s) (k33 : Nat → Nat → Nat → Int32 → Nat → Nat → Hp → Prop) (hk33 : ∀ (x1 : Nat) (x2 : Nat) (x3 : Nat) (x4 : Int32) (kc : Nat) (ks : Nat) (M : Hp), k33 x1 x2 x3 x4 kc ks M → Y p l e room_1 s m #[Value.ref b] below meth c D kCl (hTys κ) A 8 kc ks (lw_Z below #[Value.ref b] s) M 33 [(0, .ref b), (1, .ref x1), (2, .ref x2), (3, .ref x3), (4, .int x4)] []) (x1 : Nat) (x2 : Nat) (x3 : Nat) (x4 : Int32) (y0 : Int64) (y1 : Int64) (kc : Nat) (ks : Nat) (M : Hp) (hwp : wLa_law_305 post k33 x1 x2 x3 x4 y0 y1 kc ks M) : Y p l e room_1 s m #[Value.ref b] below meth c D kCl (hTys κ) A 8 kc ks (lw_Z below #[Value.ref b] s) M 305 [(0, .ref b), (1, .ref x1), (2, .ref x2), (3, .ref x3), (4, .int x4)] [.long y0, .long y1] := by
  obtain ⟨hx, hb, hml, hr, hown, hts, hlocks, hE, hA, hNc, hAn⟩ := id C
  have hK := hE.1
  intro H locs ls hM hS hl
  unfold wLa_law_305 at hwp
  refine W.lcmp hx hb d_La_law_305 ?_
  refine lv_if_eq (tgt := 311) hx hb d_La_law_306 (by decide) (fun c9 => ?_) (fun c9 => ?_)
  · replace c9 := (lc_eq _ _).mp c9
    replace hwp := hwp.1 c9
    exact tLa_law_311 C hst post hscr k33 hk33 x1 x2 x3 x4 kc ks M hwp H locs ls hM hS (lv_sub hl [0, 1, 2, 3, 4] rfl)
  · replace c9 := fun h9 => c9 ((lc_eq _ _).mpr h9)
    replace hwp := hwp.2 c9
    refine lv_iconst (v := 0) hx hb d_La_law_309 (by decide) ?_
    exact hwp.elim
def wLa_law_224 (post : Nat × (Nat → Int32)) (k33 : Nat → Nat → Nat → Int32 → Nat → Nat → Hp → Prop) (x1 : Nat) (x2 : Nat) (x3 : Nat) (x4 : Int32) (kc : Nat) (ks : Nat) (M : Hp) : Prop := (wLa_law_1451 post k33 x1 x2 x3 x4 kc ks M)
set_option maxRecDepth 100000 in
set_option maxHeartbeats 4000000 in
theorem tLa_law_224 {p : Program} {l : Launch} {e : Env} {s : State} {m : MethodId} {below : List Frame} {meth : Method} {c : Code} {D : va_G} {κ : Nat → ClassId} {A : Nat → Prop} {b : Nat} (C : Cx_La_law p s m #[Value.ref b] meth c D κ A) (hst : l.stackTraces = false) (post : Nat × (Nat → Int32)) (hscr : zScr b post A s) (k33 : Nat → Nat → Nat → Int32 → Nat → Nat → Hp → Prop) (hk33 : ∀ (x1 : Nat) (x2 : Nat) (x3 : Nat) (x4 : Int32) (kc : Nat) (ks : Nat) (M : Hp), k33 x1 x2 x3 x4 kc ks M → Y p l e room_1 s m #[Value.ref b] below meth c D kCl (hTys κ) A 8 kc ks (lw_Z below #[Value.ref b] s) M 33 [(0, .ref b), (1, .ref x1), (2, .ref x2), (3, .ref x3), (4, .int x4)] []) (x1 : Nat) (x2 : Nat) (x3 : Nat) (x4 : Int32) (kc : Nat) (ks : Nat) (M : Hp) (hwp : wLa_law_224 post k33 x1 x2 x3 x4 kc ks M) : Y p l e room_1 s m #[Value.ref b] below meth c D kCl (hTys κ) A 8 kc ks (lw_Z below #[Value.ref b] s) M 224 [(0, .ref b), (1, .ref x1), (2, .ref x2), (3, .ref x3), (4, .int x4)] [] := by
  obtain ⟨hx, hb, hml, hr, hown, hts, hlocks, hE, hA, hNc, hAn⟩ := id C
  have hK := hE.1
  intro H locs ls hM hS hl
  unfold wLa_law_224 at hwp
  refine lv_goto (tgt := 1451) hx hb d_La_law_224 (by decide) ?_
  exact tLa_law_1451 C hst post hscr k33 hk33 x1 x2 x3 x4 kc ks M hwp H locs ls hM hS (lv_sub hl [0, 1, 2, 3, 4] rfl)
def wLa_law_218 (post : Nat × (Nat → Int32)) (k33 : Nat → Nat → Nat → Int32 → Nat → Nat → Hp → Prop) (x1 : Nat) (x2 : Nat) (x3 : Nat) (x4 : Int32) (y0 : Int64) (y1 : Int64) (kc : Nat) (ks : Nat) (M : Hp) : Prop := ((y1 = y0 → (wLa_law_224 post k33 x1 x2 x3 x4 kc ks M)) ∧ (¬ y1 = y0 → False))
set_option maxRecDepth 100000 in
set_option maxHeartbeats 4000000 in
theorem tLa_law_218 {p : Program} {l : Launch} {e : Env} {s : State} {m : MethodId} {below : List Frame} {meth : Method} {c : Code} {D : va_G} {κ : Nat → ClassId} {A : Nat → Prop} {b : Nat} (C : Cx_La_law p s m #[Value.ref b] meth c D κ A) (hst : l.stackTraces = false) (post : Nat × (Nat → Int32)) (hscr : zScr b post A s) (k33 : Nat → Nat → Nat → Int32 → Nat → Nat → Hp → Prop) (hk33 : ∀ (x1 : Nat) (x2 : Nat) (x3 : Nat) (x4 : Int32) (kc : Nat) (ks : Nat) (M : Hp), k33 x1 x2 x3 x4 kc ks M → Y p l e room_1 s m #[Value.ref b] below meth c D kCl (hTys κ) A 8 kc ks (lw_Z below #[Value.ref b] s) M 33 [(0, .ref b), (1, .ref x1), (2, .ref x2), (3, .ref x3), (4, .int x4)] []) (x1 : Nat) (x2 : Nat) (x3 : Nat) (x4 : Int32) (y0 : Int64) (y1 : Int64) (kc : Nat) (ks : Nat) (M : Hp) (hwp : wLa_law_218 post k33 x1 x2 x3 x4 y0 y1 kc ks M) : Y p l e room_1 s m #[Value.ref b] below meth c D kCl (hTys κ) A 8 kc ks (lw_Z below #[Value.ref b] s) M 218 [(0, .ref b), (1, .ref x1), (2, .ref x2), (3, .ref x3), (4, .int x4)] [.long y0, .long y1] := by
  obtain ⟨hx, hb, hml, hr, hown, hts, hlocks, hE, hA, hNc, hAn⟩ := id C
  have hK := hE.1
  intro H locs ls hM hS hl
  unfold wLa_law_218 at hwp
  refine W.lcmp hx hb d_La_law_218 ?_
  refine lv_if_eq (tgt := 224) hx hb d_La_law_219 (by decide) (fun c10 => ?_) (fun c10 => ?_)
  · replace c10 := (lc_eq _ _).mp c10
    replace hwp := hwp.1 c10
    exact tLa_law_224 C hst post hscr k33 hk33 x1 x2 x3 x4 kc ks M hwp H locs ls hM hS (lv_sub hl [0, 1, 2, 3, 4] rfl)
  · replace c10 := fun h9 => c10 ((lc_eq _ _).mpr h9)
    replace hwp := hwp.2 c10
    refine lv_iconst (v := 0) hx hb d_La_law_222 (by decide) ?_
    exact hwp.elim
def wLa_law_33 (post : Nat × (Nat → Int32))  : Nat → Nat → Nat → Nat → Int32 → Nat → Nat → Hp → Prop
  | 0 => fun _ _ _ _ _ _ _ => False
  | n + 1 => fun x1 x2 x3 x4 kc ks M => ((((Int32.ofNat post.1) - (7 : Int32)) < x4 → (kc ≤ 601024 ∧ ks ≤ 7293000)) ∧ (¬ ((Int32.ofNat post.1) - (7 : Int32)) < x4 → (vp_in x4 post.1 ∧ ((((post.2 x4.toNatClampNeg) &&& (31 : Int32)).toInt = 0 → (vp_in (x4 + (1 : Int32)) post.1 ∧ (vp_in (x4 + (2 : Int32)) post.1 ∧ (vp_in (x4 + (3 : Int32)) post.1 ∧ (kc + 1 ≤ 601024 ∧ ks + 6 ≤ 7293000 ∧ (wpLa_stem x1 (post.2 (x4 + (1 : Int32)).toNatClampNeg) (post.2 (x4 + (2 : Int32)).toNatClampNeg) (post.2 (x4 + (3 : Int32)).toNatClampNeg) x3 M (fun (r21 : Int32) (M18 : Hp) => (vp_in (x4 + (1 : Int32)) post.1 ∧ (vp_in (x4 + (2 : Int32)) post.1 ∧ (vp_in (x4 + (3 : Int32)) post.1 ∧ ((kc + 1) + 0 ≤ 601024 ∧ (ks + 6) + 0 ≤ 7293000 ∧ (hob M18 x2 6 ∧ (wpMo_stem x2 (post.2 (x4 + (1 : Int32)).toNatClampNeg) (post.2 (x4 + (2 : Int32)).toNatClampNeg) (post.2 (x4 + (3 : Int32)).toNatClampNeg) M18 (fun (r29 : Int32) (M25 : Hp) => (((kc + 1) + 0) + 0 ≤ 601024 ∧ ((ks + 6) + 0) + 0 ≤ 7293000 ∧ (hob M25 x2 6 ∧ (wpMo_thrown x2 M25 (fun (r34 : Int32) (M30 : Hp) => ((r34 = r21 → ((r21 = 0 → (∃ v37 : Int64, aJ M30 x3 (0 : Int32) v37 ∧ ((r29 = 0 → (wLa_law_218 post (wLa_law_33 post n) x1 x2 x3 x4 (0 : Int64) v37 (((kc + 1) + 0) + 0) (((ks + 6) + 0) + 0) M30)) ∧ (¬ r29 = 0 → (wLa_law_218 post (wLa_law_33 post n) x1 x2 x3 x4 (1 : Int64) v37 (((kc + 1) + 0) + 0) (((ks + 6) + 0) + 0) M30))))) ∧ (¬ r21 = 0 → (wLa_law_224 post (wLa_law_33 post n) x1 x2 x3 x4 (((kc + 1) + 0) + 0) (((ks + 6) + 0) + 0) M30)))) ∧ (¬ r34 = r21 → False)))))))))))))))))))) ∧ (((post.2 x4.toNatClampNeg) &&& (31 : Int32)).toInt = 1 → (vp_in (x4 + (1 : Int32)) post.1 ∧ (vp_in (x4 + (2 : Int32)) post.1 ∧ (vp_in (x4 + (3 : Int32)) post.1 ∧ (kc + 1 ≤ 601024 ∧ ks + 6 ≤ 7293000 ∧ (wpLa_fault x1 (post.2 (x4 + (1 : Int32)).toNatClampNeg) (post.2 (x4 + (2 : Int32)).toNatClampNeg) (post.2 (x4 + (3 : Int32)).toNatClampNeg) x3 M (fun (r49 : Int32) (M46 : Hp) => (vp_in (x4 + (1 : Int32)) post.1 ∧ (vp_in (x4 + (2 : Int32)) post.1 ∧ (vp_in (x4 + (3 : Int32)) post.1 ∧ ((kc + 1) + 0 ≤ 601024 ∧ (ks + 6) + 0 ≤ 7293000 ∧ (hob M46 x2 6 ∧ (wpMo_fault x2 (post.2 (x4 + (1 : Int32)).toNatClampNeg) (post.2 (x4 + (2 : Int32)).toNatClampNeg) (post.2 (x4 + (3 : Int32)).toNatClampNeg) M46 (fun (r57 : Int32) (M53 : Hp) => (((kc + 1) + 0) + 0 ≤ 601024 ∧ ((ks + 6) + 0) + 0 ≤ 7293000 ∧ (hob M53 x2 6 ∧ (wpMo_thrown x2 M53 (fun (r62 : Int32) (M58 : Hp) => ((r62 = r49 → ((r49 = 0 → (∃ v65 : Int64, aJ M58 x3 (0 : Int32) v65 ∧ ((r57 = 0 → (wLa_law_305 post (wLa_law_33 post n) x1 x2 x3 x4 (0 : Int64) v65 (((kc + 1) + 0) + 0) (((ks + 6) + 0) + 0) M58)) ∧ (¬ r57 = 0 → (wLa_law_305 post (wLa_law_33 post n) x1 x2 x3 x4 (1 : Int64) v65 (((kc + 1) + 0) + 0) (((ks + 6) + 0) + 0) M58))))) ∧ (¬ r49 = 0 → (wLa_law_311 post (wLa_law_33 post n) x1 x2 x3 x4 (((kc + 1) + 0) + 0) (((ks + 6) + 0) + 0) M58)))) ∧ (¬ r62 = r49 → False)))))))))))))))))))) ∧ (((post.2 x4.toNatClampNeg) &&& (31 : Int32)).toInt = 2 → (kc + 1 ≤ 601024 ∧ ks + 6 ≤ 7293000 ∧ (wpLa_stems x1 x3 M (fun (r74 : Int32) (M71 : Hp) => ((kc + 1) + 0 ≤ 601024 ∧ (ks + 6) + 0 ≤ 7293000 ∧ (hob M71 x2 6 ∧ (wpMo_stems x2 M71 (fun (r79 : Int32) (M75 : Hp) => (((kc + 1) + 0) + 0 ≤ 601024 ∧ ((ks + 6) + 0) + 0 ≤ 7293000 ∧ (hob M75 x2 6 ∧ (wpMo_thrown x2 M75 (fun (r84 : Int32) (M80 : Hp) => ((r84 = r74 → ((r74 = 0 → (∃ v87 : Int64, aJ M80 x3 (0 : Int32) v87 ∧ ((v87 = (r79.toInt64) → (wLa_law_355 post (wLa_law_33 post n) x1 x2 x3 x4 (((kc + 1) + 0) + 0) (((ks + 6) + 0) + 0) M80)) ∧ (¬ v87 = (r79.toInt64) → False)))) ∧ (¬ r74 = 0 → (wLa_law_355 post (wLa_law_33 post n) x1 x2 x3 x4 (((kc + 1) + 0) + 0) (((ks + 6) + 0) + 0) M80)))) ∧ (¬ r84 = r74 → False)))))))))))))) ∧ (((post.2 x4.toNatClampNeg) &&& (31 : Int32)).toInt = 3 → (vp_in (x4 + (1 : Int32)) post.1 ∧ (vp_in (x4 + (2 : Int32)) post.1 ∧ (vp_in (x4 + (3 : Int32)) post.1 ∧ (vp_in (x4 + (4 : Int32)) post.1 ∧ (vp_in (x4 + (5 : Int32)) post.1 ∧ (vp_in (x4 + (6 : Int32)) post.1 ∧ (kc + 1 ≤ 601024 ∧ ks + 6 ≤ 7293000 ∧ (wpLa_product x1 (post.2 (x4 + (1 : Int32)).toNatClampNeg) (post.2 (x4 + (2 : Int32)).toNatClampNeg) (post.2 (x4 + (3 : Int32)).toNatClampNeg) (post.2 (x4 + (4 : Int32)).toNatClampNeg) ((((post.2 (x4 + (5 : Int32)).toNatClampNeg).toInt64) <<< ((32 : Int32).toInt64 &&& 63)) ||| (((post.2 (x4 + (6 : Int32)).toNatClampNeg).toInt64) &&& (4294967295 : Int64))) x3 M (fun (r102 : Int32) (M99 : Hp) => (vp_in (x4 + (1 : Int32)) post.1 ∧ (vp_in (x4 + (2 : Int32)) post.1 ∧ (vp_in (x4 + (3 : Int32)) post.1 ∧ (vp_in (x4 + (4 : Int32)) post.1 ∧ (vp_in (x4 + (5 : Int32)) post.1 ∧ (vp_in (x4 + (6 : Int32)) post.1 ∧ ((kc + 1) + 0 ≤ 601024 ∧ (ks + 6) + 0 ≤ 7293000 ∧ (hob M99 x2 6 ∧ (wpMo_product x2 (post.2 (x4 + (1 : Int32)).toNatClampNeg) (post.2 (x4 + (2 : Int32)).toNatClampNeg) (post.2 (x4 + (3 : Int32)).toNatClampNeg) (post.2 (x4 + (4 : Int32)).toNatClampNeg) ((((post.2 (x4 + (5 : Int32)).toNatClampNeg).toInt64) <<< ((32 : Int32).toInt64 &&& 63)) ||| (((post.2 (x4 + (6 : Int32)).toNatClampNeg).toInt64) &&& (4294967295 : Int64))) M99 (fun (r113 : Int32) (M109 : Hp) => (((kc + 1) + 0) + 0 ≤ 601024 ∧ ((ks + 6) + 0) + 0 ≤ 7293000 ∧ (hob M109 x2 6 ∧ (wpMo_thrown x2 M109 (fun (r118 : Int32) (M114 : Hp) => ((r118 = r102 → ((r102 = 0 → (∃ v121 : Int64, aJ M114 x3 (0 : Int32) v121 ∧ ((v121 = (r113.toInt64) → (wLa_law_493 post (wLa_law_33 post n) x1 x2 x3 x4 (((kc + 1) + 0) + 0) (((ks + 6) + 0) + 0) M114)) ∧ (¬ v121 = (r113.toInt64) → False)))) ∧ (¬ r102 = 0 → (wLa_law_493 post (wLa_law_33 post n) x1 x2 x3 x4 (((kc + 1) + 0) + 0) (((ks + 6) + 0) + 0) M114)))) ∧ (¬ r118 = r102 → False)))))))))))))))))))))))))) ∧ (((post.2 x4.toNatClampNeg) &&& (31 : Int32)).toInt = 4 → (vp_in (x4 + (1 : Int32)) post.1 ∧ (vp_in (x4 + (2 : Int32)) post.1 ∧ (kc + 2 ≤ 601024 ∧ ks + 12 ≤ 7293000 ∧ (wpLa_bars x1 (post.2 (x4 + (1 : Int32)).toNatClampNeg) (post.2 (x4 + (2 : Int32)).toNatClampNeg) x3 M (fun (r132 : Int32) (M129 : Hp) => (vp_in (x4 + (1 : Int32)) post.1 ∧ (vp_in (x4 + (2 : Int32)) post.1 ∧ ((kc + 2) + 0 ≤ 601024 ∧ (ks + 12) + 0 ≤ 7293000 ∧ (hob M129 x2 6 ∧ (wpMo_bars x2 (post.2 (x4 + (1 : Int32)).toNatClampNeg) (post.2 (x4 + (2 : Int32)).toNatClampNeg) M129 (fun (r139 : Int32) (M135 : Hp) => (((kc + 2) + 0) + 0 ≤ 601024 ∧ ((ks + 12) + 0) + 0 ≤ 7293000 ∧ (hob M135 x2 6 ∧ (wpMo_thrown x2 M135 (fun (r144 : Int32) (M140 : Hp) => ((r144 = r132 → ((r132 = 0 → (∃ v147 : Int64, aJ M140 x3 (0 : Int32) v147 ∧ ((r139 = 0 → (wLa_law_562 post (wLa_law_33 post n) x1 x2 x3 x4 (0 : Int64) v147 (((kc + 2) + 0) + 0) (((ks + 12) + 0) + 0) M140)) ∧ (¬ r139 = 0 → (wLa_law_562 post (wLa_law_33 post n) x1 x2 x3 x4 (1 : Int64) v147 (((kc + 2) + 0) + 0) (((ks + 12) + 0) + 0) M140))))) ∧ (¬ r132 = 0 → (wLa_law_568 post (wLa_law_33 post n) x1 x2 x3 x4 (((kc + 2) + 0) + 0) (((ks + 12) + 0) + 0) M140)))) ∧ (¬ r144 = r132 → False)))))))))))))))))) ∧ (((post.2 x4.toNatClampNeg) &&& (31 : Int32)).toInt = 5 → (vp_in (x4 + (1 : Int32)) post.1 ∧ (kc + 1 ≤ 601024 ∧ ks + 6 ≤ 7293000 ∧ (wpLa_force x1 (post.2 (x4 + (1 : Int32)).toNatClampNeg) x3 M (fun (r157 : Int32) (M154 : Hp) => (vp_in (x4 + (1 : Int32)) post.1 ∧ ((kc + 1) + 0 ≤ 601024 ∧ (ks + 6) + 0 ≤ 7293000 ∧ (hob M154 x2 6 ∧ (wpMo_force x2 (post.2 (x4 + (1 : Int32)).toNatClampNeg) M154 (fun (r163 : Int32) (M159 : Hp) => (((kc + 1) + 0) + 0 ≤ 601024 ∧ ((ks + 6) + 0) + 0 ≤ 7293000 ∧ (hob M159 x2 6 ∧ (wpMo_thrown x2 M159 (fun (r168 : Int32) (M164 : Hp) => ((r168 = r157 → ((r157 = 0 → (∃ v171 : Int64, aJ M164 x3 (0 : Int32) v171 ∧ ((r163 = 0 → (wLa_law_625 post (wLa_law_33 post n) x1 x2 x3 x4 (0 : Int64) v171 (((kc + 1) + 0) + 0) (((ks + 6) + 0) + 0) M164)) ∧ (¬ r163 = 0 → (wLa_law_625 post (wLa_law_33 post n) x1 x2 x3 x4 (1 : Int64) v171 (((kc + 1) + 0) + 0) (((ks + 6) + 0) + 0) M164))))) ∧ (¬ r157 = 0 → (wLa_law_631 post (wLa_law_33 post n) x1 x2 x3 x4 (((kc + 1) + 0) + 0) (((ks + 6) + 0) + 0) M164)))) ∧ (¬ r168 = r157 → False)))))))))))))))) ∧ (((post.2 x4.toNatClampNeg) &&& (31 : Int32)).toInt = 6 → (vp_in (x4 + (1 : Int32)) post.1 ∧ (kc + 1 ≤ 601024 ∧ ks + 6 ≤ 7293000 ∧ (wpLa_margin x1 (post.2 (x4 + (1 : Int32)).toNatClampNeg) x3 M (fun (r181 : Int32) (M178 : Hp) => (vp_in (x4 + (1 : Int32)) post.1 ∧ ((kc + 1) + 0 ≤ 601024 ∧ (ks + 6) + 0 ≤ 7293000 ∧ (hob M178 x2 6 ∧ (wpMo_margin x2 (post.2 (x4 + (1 : Int32)).toNatClampNeg) M178 (fun (r187 : Int32) (M183 : Hp) => (((kc + 1) + 0) + 0 ≤ 601024 ∧ ((ks + 6) + 0) + 0 ≤ 7293000 ∧ (hob M183 x2 6 ∧ (wpMo_thrown x2 M183 (fun (r192 : Int32) (M188 : Hp) => ((r192 = r181 → ((r181 = 0 → (∃ v195 : Int64, aJ M188 x3 (0 : Int32) v195 ∧ ((r187 = 0 → (wLa_law_688 post (wLa_law_33 post n) x1 x2 x3 x4 (0 : Int64) v195 (((kc + 1) + 0) + 0) (((ks + 6) + 0) + 0) M188)) ∧ (¬ r187 = 0 → (wLa_law_688 post (wLa_law_33 post n) x1 x2 x3 x4 (1 : Int64) v195 (((kc + 1) + 0) + 0) (((ks + 6) + 0) + 0) M188))))) ∧ (¬ r181 = 0 → (wLa_law_694 post (wLa_law_33 post n) x1 x2 x3 x4 (((kc + 1) + 0) + 0) (((ks + 6) + 0) + 0) M188)))) ∧ (¬ r192 = r181 → False)))))))))))))))) ∧ (((post.2 x4.toNatClampNeg) &&& (31 : Int32)).toInt = 7 → (vp_in (x4 + (1 : Int32)) post.1 ∧ (kc + 1 ≤ 601024 ∧ ks + 6 ≤ 7293000 ∧ (wpLa_saw x1 (post.2 (x4 + (1 : Int32)).toNatClampNeg) x3 M (fun (r205 : Int32) (M202 : Hp) => (vp_in (x4 + (1 : Int32)) post.1 ∧ ((kc + 1) + 0 ≤ 601024 ∧ (ks + 6) + 0 ≤ 7293000 ∧ (hob M202 x2 6 ∧ (wpMo_saw x2 (post.2 (x4 + (1 : Int32)).toNatClampNeg) M202 (fun (r211 : Int32) (M207 : Hp) => (((kc + 1) + 0) + 0 ≤ 601024 ∧ ((ks + 6) + 0) + 0 ≤ 7293000 ∧ (hob M207 x2 6 ∧ (wpMo_thrown x2 M207 (fun (r216 : Int32) (M212 : Hp) => ((r216 = r205 → ((r205 = 0 → (∃ v219 : Int64, aJ M212 x3 (0 : Int32) v219 ∧ ((r211 = 0 → (wLa_law_751 post (wLa_law_33 post n) x1 x2 x3 x4 (0 : Int64) v219 (((kc + 1) + 0) + 0) (((ks + 6) + 0) + 0) M212)) ∧ (¬ r211 = 0 → (wLa_law_751 post (wLa_law_33 post n) x1 x2 x3 x4 (1 : Int64) v219 (((kc + 1) + 0) + 0) (((ks + 6) + 0) + 0) M212))))) ∧ (¬ r205 = 0 → (wLa_law_757 post (wLa_law_33 post n) x1 x2 x3 x4 (((kc + 1) + 0) + 0) (((ks + 6) + 0) + 0) M212)))) ∧ (¬ r216 = r205 → False)))))))))))))))) ∧ (((post.2 x4.toNatClampNeg) &&& (31 : Int32)).toInt = 8 → (vp_in (x4 + (1 : Int32)) post.1 ∧ (vp_in (x4 + (2 : Int32)) post.1 ∧ (vp_in (x4 + (3 : Int32)) post.1 ∧ (kc + 2 ≤ 601024 ∧ ks + 12 ≤ 7293000 ∧ (wpLa_limit x1 (post.2 (x4 + (1 : Int32)).toNatClampNeg) ((((post.2 (x4 + (2 : Int32)).toNatClampNeg).toInt64) <<< ((32 : Int32).toInt64 &&& 63)) ||| (((post.2 (x4 + (3 : Int32)).toNatClampNeg).toInt64) &&& (4294967295 : Int64))) x3 M (fun (r231 : Int32) (M228 : Hp) => (vp_in (x4 + (1 : Int32)) post.1 ∧ (vp_in (x4 + (2 : Int32)) post.1 ∧ (vp_in (x4 + (3 : Int32)) post.1 ∧ ((kc + 2) + 0 ≤ 601024 ∧ (ks + 12) + 0 ≤ 7293000 ∧ (hob M228 x2 6 ∧ (wpMo_limit x2 (post.2 (x4 + (1 : Int32)).toNatClampNeg) ((((post.2 (x4 + (2 : Int32)).toNatClampNeg).toInt64) <<< ((32 : Int32).toInt64 &&& 63)) ||| (((post.2 (x4 + (3 : Int32)).toNatClampNeg).toInt64) &&& (4294967295 : Int64))) M228 (fun (r239 : Int32) (M235 : Hp) => (((kc + 2) + 0) + 0 ≤ 601024 ∧ ((ks + 12) + 0) + 0 ≤ 7293000 ∧ (hob M235 x2 6 ∧ (wpMo_thrown x2 M235 (fun (r244 : Int32) (M240 : Hp) => ((r244 = r231 → ((r231 = 0 → (∃ v247 : Int64, aJ M240 x3 (0 : Int32) v247 ∧ ((r239 = 0 → (wLa_law_858 post (wLa_law_33 post n) x1 x2 x3 x4 (0 : Int64) v247 (((kc + 2) + 0) + 0) (((ks + 12) + 0) + 0) M240)) ∧ (¬ r239 = 0 → (wLa_law_858 post (wLa_law_33 post n) x1 x2 x3 x4 (1 : Int64) v247 (((kc + 2) + 0) + 0) (((ks + 12) + 0) + 0) M240))))) ∧ (¬ r231 = 0 → (wLa_law_864 post (wLa_law_33 post n) x1 x2 x3 x4 (((kc + 2) + 0) + 0) (((ks + 12) + 0) + 0) M240)))) ∧ (¬ r244 = r231 → False)))))))))))))))))))) ∧ (((post.2 x4.toNatClampNeg) &&& (31 : Int32)).toInt = 9 → (vp_in (x4 + (1 : Int32)) post.1 ∧ (vp_in (x4 + (2 : Int32)) post.1 ∧ (vp_in (x4 + (3 : Int32)) post.1 ∧ (vp_in (x4 + (4 : Int32)) post.1 ∧ (kc + 2 ≤ 601024 ∧ ks + 12 ≤ 7293000 ∧ (wpLa_wish x1 (post.2 (x4 + (1 : Int32)).toNatClampNeg) (post.2 (x4 + (2 : Int32)).toNatClampNeg) ((((post.2 (x4 + (3 : Int32)).toNatClampNeg).toInt64) <<< ((32 : Int32).toInt64 &&& 63)) ||| (((post.2 (x4 + (4 : Int32)).toNatClampNeg).toInt64) &&& (4294967295 : Int64))) x3 M (fun (r260 : Int32) (M257 : Hp) => (vp_in (x4 + (1 : Int32)) post.1 ∧ (vp_in (x4 + (2 : Int32)) post.1 ∧ (vp_in (x4 + (3 : Int32)) post.1 ∧ (vp_in (x4 + (4 : Int32)) post.1 ∧ ((kc + 2) + 0 ≤ 601024 ∧ (ks + 12) + 0 ≤ 7293000 ∧ (hob M257 x2 6 ∧ (wpMo_wish x2 (post.2 (x4 + (1 : Int32)).toNatClampNeg) (post.2 (x4 + (2 : Int32)).toNatClampNeg) ((((post.2 (x4 + (3 : Int32)).toNatClampNeg).toInt64) <<< ((32 : Int32).toInt64 &&& 63)) ||| (((post.2 (x4 + (4 : Int32)).toNatClampNeg).toInt64) &&& (4294967295 : Int64))) M257 (fun (r269 : Int32) (M265 : Hp) => (((kc + 2) + 0) + 0 ≤ 601024 ∧ ((ks + 12) + 0) + 0 ≤ 7293000 ∧ (hob M265 x2 6 ∧ (wpMo_thrown x2 M265 (fun (r274 : Int32) (M270 : Hp) => ((r274 = r260 → ((r260 = 0 → (∃ v277 : Int64, aJ M270 x3 (0 : Int32) v277 ∧ ((r269 = 0 → (wLa_law_977 post (wLa_law_33 post n) x1 x2 x3 x4 (0 : Int64) v277 (((kc + 2) + 0) + 0) (((ks + 12) + 0) + 0) M270)) ∧ (¬ r269 = 0 → (wLa_law_977 post (wLa_law_33 post n) x1 x2 x3 x4 (1 : Int64) v277 (((kc + 2) + 0) + 0) (((ks + 12) + 0) + 0) M270))))) ∧ (¬ r260 = 0 → (wLa_law_983 post (wLa_law_33 post n) x1 x2 x3 x4 (((kc + 2) + 0) + 0) (((ks + 12) + 0) + 0) M270)))) ∧ (¬ r274 = r260 → False)))))))))))))))))))))) ∧ (((post.2 x4.toNatClampNeg) &&& (31 : Int32)).toInt = 10 → (kc + 0 ≤ 601024 ∧ ks + 0 ≤ 7293000 ∧ (hob M x1 0 ∧ (wpBT_run x1 M (fun (r287 : Int32) (M283 : Hp) => ((kc + 0) + 0 ≤ 601024 ∧ (ks + 0) + 0 ≤ 7293000 ∧ (hob M283 x2 6 ∧ (wpMo_run x2 M283 (fun (r292 : Int32) (M288 : Hp) => ((r287 = r292 → (wLa_law_1451 post (wLa_law_33 post n) x1 x2 x3 x4 ((kc + 0) + 0) ((ks + 0) + 0) M288)) ∧ (¬ r287 = r292 → False))))))))))) ∧ (((post.2 x4.toNatClampNeg) &&& (31 : Int32)).toInt = 11 → (vp_in (x4 + (1 : Int32)) post.1 ∧ (kc + 1 ≤ 601024 ∧ ks + 6 ≤ 7293000 ∧ (wpLa_priced x1 (post.2 (x4 + (1 : Int32)).toNatClampNeg) x3 M (fun (r298 : Int32) (M295 : Hp) => (vp_in (x4 + (1 : Int32)) post.1 ∧ ((kc + 1) + 0 ≤ 601024 ∧ (ks + 6) + 0 ≤ 7293000 ∧ (hob M295 x2 6 ∧ (wpMo_priced x2 (post.2 (x4 + (1 : Int32)).toNatClampNeg) M295 (fun (r304 : Int32) (M300 : Hp) => (((kc + 1) + 0) + 0 ≤ 601024 ∧ ((ks + 6) + 0) + 0 ≤ 7293000 ∧ (hob M300 x2 6 ∧ (wpMo_thrown x2 M300 (fun (r309 : Int32) (M305 : Hp) => ((r309 = r298 → ((r298 = 0 → (∃ v312 : Int64, aJ M305 x3 (0 : Int32) v312 ∧ ((v312 = (r304.toInt64) → (wLa_law_1052 post (wLa_law_33 post n) x1 x2 x3 x4 (((kc + 1) + 0) + 0) (((ks + 6) + 0) + 0) M305)) ∧ (¬ v312 = (r304.toInt64) → False)))) ∧ (¬ r298 = 0 → (wLa_law_1052 post (wLa_law_33 post n) x1 x2 x3 x4 (((kc + 1) + 0) + 0) (((ks + 6) + 0) + 0) M305)))) ∧ (¬ r309 = r298 → False)))))))))))))))) ∧ (((post.2 x4.toNatClampNeg) &&& (31 : Int32)).toInt = 12 → (kc + 1 ≤ 601024 ∧ ks + 6 ≤ 7293000 ∧ (wpLa_worth x1 x3 M (fun (r321 : Int32) (M318 : Hp) => ((kc + 1) + 0 ≤ 601024 ∧ (ks + 6) + 0 ≤ 7293000 ∧ (hob M318 x2 6 ∧ (wpMo_worth x2 M318 (fun (r326 : Int64) (M322 : Hp) => (((kc + 1) + 0) + 0 ≤ 601024 ∧ ((ks + 6) + 0) + 0 ≤ 7293000 ∧ (hob M322 x2 6 ∧ (wpMo_thrown x2 M322 (fun (r331 : Int32) (M327 : Hp) => ((r331 = r321 → ((r321 = 0 → (∃ v334 : Int64, aJ M327 x3 (0 : Int32) v334 ∧ ((v334 = r326 → (wLa_law_1095 post (wLa_law_33 post n) x1 x2 x3 x4 (((kc + 1) + 0) + 0) (((ks + 6) + 0) + 0) M327)) ∧ (¬ v334 = r326 → False)))) ∧ (¬ r321 = 0 → (wLa_law_1095 post (wLa_law_33 post n) x1 x2 x3 x4 (((kc + 1) + 0) + 0) (((ks + 6) + 0) + 0) M327)))) ∧ (¬ r331 = r321 → False)))))))))))))) ∧ (((post.2 x4.toNatClampNeg) &&& (31 : Int32)).toInt = 13 → (vp_in (x4 + (1 : Int32)) post.1 ∧ (vp_in (x4 + (2 : Int32)) post.1 ∧ (kc + 3 ≤ 601024 ∧ ks + 18 ≤ 7293000 ∧ (wpLa_log x1 (post.2 (x4 + (1 : Int32)).toNatClampNeg) (post.2 (x4 + (2 : Int32)).toNatClampNeg) x3 M (fun (r345 : Int32) (M342 : Hp) => (vp_in (x4 + (1 : Int32)) post.1 ∧ (vp_in (x4 + (2 : Int32)) post.1 ∧ ((kc + 3) + 0 ≤ 601024 ∧ (ks + 18) + 0 ≤ 7293000 ∧ (hob M342 x2 6 ∧ (wpMo_log x2 (post.2 (x4 + (1 : Int32)).toNatClampNeg) (post.2 (x4 + (2 : Int32)).toNatClampNeg) M342 (fun (r352 : Int32) (M348 : Hp) => (((kc + 3) + 0) + 0 ≤ 601024 ∧ ((ks + 18) + 0) + 0 ≤ 7293000 ∧ (hob M348 x2 6 ∧ (wpMo_thrown x2 M348 (fun (r357 : Int32) (M353 : Hp) => ((r357 = r345 → ((r345 = 0 → (∃ v360 : Int64, aJ M353 x3 (0 : Int32) v360 ∧ ((v360 = (r352.toInt64) → (wLa_law_1163 post (wLa_law_33 post n) x1 x2 x3 x4 (((kc + 3) + 0) + 0) (((ks + 18) + 0) + 0) M353)) ∧ (¬ v360 = (r352.toInt64) → False)))) ∧ (¬ r345 = 0 → (wLa_law_1163 post (wLa_law_33 post n) x1 x2 x3 x4 (((kc + 3) + 0) + 0) (((ks + 18) + 0) + 0) M353)))) ∧ (¬ r357 = r345 → False)))))))))))))))))) ∧ (((post.2 x4.toNatClampNeg) &&& (31 : Int32)).toInt = 14 → (vp_in (x4 + (1 : Int32)) post.1 ∧ (vp_in (x4 + (2 : Int32)) post.1 ∧ (kc + 3 ≤ 601024 ∧ ks + 18 ≤ 7293000 ∧ (wpLa_fuel x1 (post.2 (x4 + (1 : Int32)).toNatClampNeg) (post.2 (x4 + (2 : Int32)).toNatClampNeg) x3 M (fun (r371 : Int32) (M368 : Hp) => (vp_in (x4 + (1 : Int32)) post.1 ∧ (vp_in (x4 + (2 : Int32)) post.1 ∧ ((kc + 3) + 0 ≤ 601024 ∧ (ks + 18) + 0 ≤ 7293000 ∧ (hob M368 x2 6 ∧ (wpMo_fuel x2 (post.2 (x4 + (1 : Int32)).toNatClampNeg) (post.2 (x4 + (2 : Int32)).toNatClampNeg) M368 (fun (r378 : Int32) (M374 : Hp) => (((kc + 3) + 0) + 0 ≤ 601024 ∧ ((ks + 18) + 0) + 0 ≤ 7293000 ∧ (hob M374 x2 6 ∧ (wpMo_thrown x2 M374 (fun (r383 : Int32) (M379 : Hp) => ((r383 = r371 → ((r371 = 0 → (∃ v386 : Int64, aJ M379 x3 (0 : Int32) v386 ∧ ((v386 = (r378.toInt64) → (wLa_law_1231 post (wLa_law_33 post n) x1 x2 x3 x4 (((kc + 3) + 0) + 0) (((ks + 18) + 0) + 0) M379)) ∧ (¬ v386 = (r378.toInt64) → False)))) ∧ (¬ r371 = 0 → (wLa_law_1231 post (wLa_law_33 post n) x1 x2 x3 x4 (((kc + 3) + 0) + 0) (((ks + 18) + 0) + 0) M379)))) ∧ (¬ r383 = r371 → False)))))))))))))))))) ∧ (((post.2 x4.toNatClampNeg) &&& (31 : Int32)).toInt = 15 → (kc + 1 ≤ 601024 ∧ ks + 6 ≤ 7293000 ∧ (wpLa_bound x1 x3 M (fun (r395 : Int32) (M392 : Hp) => ((kc + 1) + 0 ≤ 601024 ∧ (ks + 6) + 0 ≤ 7293000 ∧ (hob M392 x2 6 ∧ (wpMo_bound x2 M392 (fun (r400 : Int64) (M396 : Hp) => (((kc + 1) + 0) + 0 ≤ 601024 ∧ ((ks + 6) + 0) + 0 ≤ 7293000 ∧ (hob M396 x2 6 ∧ (wpMo_thrown x2 M396 (fun (r405 : Int32) (M401 : Hp) => ((r405 = r395 → ((r395 = 0 → (∃ v408 : Int64, aJ M401 x3 (0 : Int32) v408 ∧ ((v408 = r400 → (wLa_law_1274 post (wLa_law_33 post n) x1 x2 x3 x4 (((kc + 1) + 0) + 0) (((ks + 6) + 0) + 0) M401)) ∧ (¬ v408 = r400 → False)))) ∧ (¬ r395 = 0 → (wLa_law_1274 post (wLa_law_33 post n) x1 x2 x3 x4 (((kc + 1) + 0) + 0) (((ks + 6) + 0) + 0) M401)))) ∧ (¬ r405 = r395 → False)))))))))))))) ∧ (((post.2 x4.toNatClampNeg) &&& (31 : Int32)).toInt = 16 → (vp_in (x4 + (1 : Int32)) post.1 ∧ (vp_in (x4 + (2 : Int32)) post.1 ∧ (kc + 3 ≤ 601024 ∧ ks + 18 ≤ 7293000 ∧ (wpLa_price x1 (post.2 (x4 + (1 : Int32)).toNatClampNeg) (post.2 (x4 + (2 : Int32)).toNatClampNeg) x3 M (fun (r419 : Int32) (M416 : Hp) => (vp_in (x4 + (1 : Int32)) post.1 ∧ (vp_in (x4 + (2 : Int32)) post.1 ∧ ((kc + 3) + 0 ≤ 601024 ∧ (ks + 18) + 0 ≤ 7293000 ∧ (hob M416 x2 6 ∧ (wpMo_price x2 (post.2 (x4 + (1 : Int32)).toNatClampNeg) (post.2 (x4 + (2 : Int32)).toNatClampNeg) M416 (fun (r426 : Int64) (M422 : Hp) => (((kc + 3) + 0) + 0 ≤ 601024 ∧ ((ks + 18) + 0) + 0 ≤ 7293000 ∧ (hob M422 x2 6 ∧ (wpMo_thrown x2 M422 (fun (r431 : Int32) (M427 : Hp) => ((r431 = r419 → ((r419 = 0 → (∃ v434 : Int64, aJ M427 x3 (0 : Int32) v434 ∧ ((v434 = r426 → (wLa_law_1341 post (wLa_law_33 post n) x1 x2 x3 x4 (((kc + 3) + 0) + 0) (((ks + 18) + 0) + 0) M427)) ∧ (¬ v434 = r426 → False)))) ∧ (¬ r419 = 0 → (wLa_law_1341 post (wLa_law_33 post n) x1 x2 x3 x4 (((kc + 3) + 0) + 0) (((ks + 18) + 0) + 0) M427)))) ∧ (¬ r431 = r419 → False)))))))))))))))))) ∧ (((post.2 x4.toNatClampNeg) &&& (31 : Int32)).toInt = 17 → (vp_in (x4 + (1 : Int32)) post.1 ∧ (kc + 2 ≤ 601024 ∧ ks + 12 ≤ 7293000 ∧ (wpLa_override x1 (post.2 (x4 + (1 : Int32)).toNatClampNeg) x3 M (fun (r444 : Int32) (M441 : Hp) => (vp_in (x4 + (1 : Int32)) post.1 ∧ ((kc + 2) + 0 ≤ 601024 ∧ (ks + 12) + 0 ≤ 7293000 ∧ (hob M441 x2 6 ∧ (wpMo_override x2 (post.2 (x4 + (1 : Int32)).toNatClampNeg) M441 (fun (r450 : Int32) (M446 : Hp) => (((kc + 2) + 0) + 0 ≤ 601024 ∧ ((ks + 12) + 0) + 0 ≤ 7293000 ∧ (hob M446 x2 6 ∧ (wpMo_thrown x2 M446 (fun (r455 : Int32) (M451 : Hp) => ((r455 = r444 → ((r444 = 0 → (∃ v458 : Int64, aJ M451 x3 (0 : Int32) v458 ∧ ((v458 = (r450.toInt64) → (wLa_law_1397 post (wLa_law_33 post n) x1 x2 x3 x4 (((kc + 2) + 0) + 0) (((ks + 12) + 0) + 0) M451)) ∧ (¬ v458 = (r450.toInt64) → False)))) ∧ (¬ r444 = 0 → (wLa_law_1397 post (wLa_law_33 post n) x1 x2 x3 x4 (((kc + 2) + 0) + 0) (((ks + 12) + 0) + 0) M451)))) ∧ (¬ r455 = r444 → False)))))))))))))))) ∧ (((post.2 x4.toNatClampNeg) &&& (31 : Int32)).toInt = 18 → (kc + 1 ≤ 601024 ∧ ks + 6 ≤ 7293000 ∧ (wpLa_greatest x1 x3 M (fun (r467 : Int32) (M464 : Hp) => ((kc + 1) + 0 ≤ 601024 ∧ (ks + 6) + 0 ≤ 7293000 ∧ (hob M464 x2 6 ∧ (wpMo_greatest x2 M464 (fun (r472 : Int32) (M468 : Hp) => (((kc + 1) + 0) + 0 ≤ 601024 ∧ ((ks + 6) + 0) + 0 ≤ 7293000 ∧ (hob M468 x2 6 ∧ (wpMo_thrown x2 M468 (fun (r477 : Int32) (M473 : Hp) => ((r477 = r467 → ((r467 = 0 → (∃ v480 : Int64, aJ M473 x3 (0 : Int32) v480 ∧ ((r472 = 0 → (wLa_law_1442 post (wLa_law_33 post n) x1 x2 x3 x4 (0 : Int64) v480 (((kc + 1) + 0) + 0) (((ks + 6) + 0) + 0) M473)) ∧ (¬ r472 = 0 → (wLa_law_1442 post (wLa_law_33 post n) x1 x2 x3 x4 (1 : Int64) v480 (((kc + 1) + 0) + 0) (((ks + 6) + 0) + 0) M473))))) ∧ (¬ r467 = 0 → (wLa_law_1448 post (wLa_law_33 post n) x1 x2 x3 x4 (((kc + 1) + 0) + 0) (((ks + 6) + 0) + 0) M473)))) ∧ (¬ r477 = r467 → False)))))))))))))) ∧ ((((post.2 x4.toNatClampNeg) &&& (31 : Int32)).toInt < 0 ∨ 18 < ((post.2 x4.toNatClampNeg) &&& (31 : Int32)).toInt) → (wLa_law_1451 post (wLa_law_33 post n) x1 x2 x3 x4 kc ks M))))))
set_option maxRecDepth 100000 in
set_option maxHeartbeats 4000000 in
theorem tLa_law_33 {p : Program} {l : Launch} {e : Env} {s : State} {m : MethodId} {below : List Frame} {meth : Method} {c : Code} {D : va_G} {κ : Nat → ClassId} {A : Nat → Prop} {b : Nat} (C : Cx_La_law p s m #[Value.ref b] meth c D κ A) (hst : l.stackTraces = false) (post : Nat × (Nat → Int32)) (hscr : zScr b post A s)  : ∀ (n : Nat) (x1 : Nat) (x2 : Nat) (x3 : Nat) (x4 : Int32) (kc : Nat) (ks : Nat) (M : Hp), wLa_law_33 post n x1 x2 x3 x4 kc ks M → Y p l e room_1 s m #[Value.ref b] below meth c D kCl (hTys κ) A 8 kc ks (lw_Z below #[Value.ref b] s) M 33 [(0, .ref b), (1, .ref x1), (2, .ref x2), (3, .ref x3), (4, .int x4)] [] := by
  obtain ⟨hx, hb, hml, hr, hown, hts, hlocks, hE, hA, hNc, hAn⟩ := id C
  have hK := hE.1
  intro n
  induction n with
  | zero => intro x1 x2 x3 x4 kc ks M hwp; exact hwp.elim
  | succ n ih =>
    intro x1 x2 x3 x4 kc ks M hwp H locs ls hM hS hl
    unfold wLa_law_33 at hwp
    refine lv_iload hx hb d_La_law_33 (lv_at hl 4 rfl) ?_
    refine lv_aload_n hx hb d_La_law_35 rfl (lv_at hl 0 rfl) ?_
    refine va_slen hx hb hscr.1 hscr.2.1 hscr.2.2 hS d_La_law_36 ?_
    refine lv_bipush (v := 7) hx hb d_La_law_37 (by decide) ?_
    refine lv_isub hx hb d_La_law_39 ?_
    refine lv_icmp_gt (tgt := 1457) hx hb d_La_law_40 (by decide) (fun c11 => ?_) (fun c11 => ?_)
    · replace hwp := hwp.1 c11
      refine lv_iconst (v := 1) hx hb d_La_law_1457 (by decide) ?_
      obtain ⟨hc12, hs13⟩ := hwp
      refine va_forget (fun q hq => hAn _ (hS.2.2 q hq)) ?_
      refine W.widen (k := 601024) (n := 7293000) hc12 hs13 ?_
      exact lw_ret hx hb hr hlocks d_La_law_1458
    · replace hwp := hwp.2 c11
      refine lv_aload_n hx hb d_La_law_43 rfl (lv_at hl 0 rfl) ?_
      refine lv_iload hx hb d_La_law_44 (lv_at hl 4 rfl) ?_
      obtain ⟨hi14, hwp⟩ := hwp
      refine va_sld hx hb hscr.1 hscr.2.1 hscr.2.2 hS hi14 d_La_law_46 ?_
      refine lv_bipush (v := 31) hx hb d_La_law_47 (by decide) ?_
      refine lv_iand hx hb d_La_law_49 ?_
      rcases (show ((post.2 x4.toNatClampNeg) &&& (31 : Int32)).toInt = 0 ∨ ((post.2 x4.toNatClampNeg) &&& (31 : Int32)).toInt = 1 ∨ ((post.2 x4.toNatClampNeg) &&& (31 : Int32)).toInt = 2 ∨ ((post.2 x4.toNatClampNeg) &&& (31 : Int32)).toInt = 3 ∨ ((post.2 x4.toNatClampNeg) &&& (31 : Int32)).toInt = 4 ∨ ((post.2 x4.toNatClampNeg) &&& (31 : Int32)).toInt = 5 ∨ ((post.2 x4.toNatClampNeg) &&& (31 : Int32)).toInt = 6 ∨ ((post.2 x4.toNatClampNeg) &&& (31 : Int32)).toInt = 7 ∨ ((post.2 x4.toNatClampNeg) &&& (31 : Int32)).toInt = 8 ∨ ((post.2 x4.toNatClampNeg) &&& (31 : Int32)).toInt = 9 ∨ ((post.2 x4.toNatClampNeg) &&& (31 : Int32)).toInt = 10 ∨ ((post.2 x4.toNatClampNeg) &&& (31 : Int32)).toInt = 11 ∨ ((post.2 x4.toNatClampNeg) &&& (31 : Int32)).toInt = 12 ∨ ((post.2 x4.toNatClampNeg) &&& (31 : Int32)).toInt = 13 ∨ ((post.2 x4.toNatClampNeg) &&& (31 : Int32)).toInt = 14 ∨ ((post.2 x4.toNatClampNeg) &&& (31 : Int32)).toInt = 15 ∨ ((post.2 x4.toNatClampNeg) &&& (31 : Int32)).toInt = 16 ∨ ((post.2 x4.toNatClampNeg) &&& (31 : Int32)).toInt = 17 ∨ ((post.2 x4.toNatClampNeg) &&& (31 : Int32)).toInt = 18 ∨ (((post.2 x4.toNatClampNeg) &&& (31 : Int32)).toInt < 0 ∨ 18 < ((post.2 x4.toNatClampNeg) &&& (31 : Int32)).toInt) by omega) with hk9 | hk9 | hk9 | hk9 | hk9 | hk9 | hk9 | hk9 | hk9 | hk9 | hk9 | hk9 | hk9 | hk9 | hk9 | hk9 | hk9 | hk9 | hk9 | hk9
      · replace hwp := hwp.1 hk9
        refine lv_tableIn (tgt := 140) hx hb d_La_law_50 (by omega) (by omega) (show _ = some (90 : Int) by rw [hk9]; rfl) (by decide) ?_
        refine lv_aload_n hx hb d_La_law_140 rfl (lv_at hl 1 rfl) ?_
        refine lv_aload_n hx hb d_La_law_141 rfl (lv_at hl 0 rfl) ?_
        refine lv_iload hx hb d_La_law_142 (lv_at hl 4 rfl) ?_
        refine lv_iconst (v := 1) hx hb d_La_law_144 (by decide) ?_
        refine lv_iadd hx hb d_La_law_145 ?_
        obtain ⟨hi15, hwp⟩ := hwp
        refine va_sld hx hb hscr.1 hscr.2.1 hscr.2.2 hS hi15 d_La_law_146 ?_
        refine lv_aload_n hx hb d_La_law_147 rfl (lv_at hl 0 rfl) ?_
        refine lv_iload hx hb d_La_law_148 (lv_at hl 4 rfl) ?_
        refine lv_iconst (v := 2) hx hb d_La_law_150 (by decide) ?_
        refine lv_iadd hx hb d_La_law_151 ?_
        obtain ⟨hi16, hwp⟩ := hwp
        refine va_sld hx hb hscr.1 hscr.2.1 hscr.2.2 hS hi16 d_La_law_152 ?_
        refine lv_aload_n hx hb d_La_law_153 rfl (lv_at hl 0 rfl) ?_
        refine lv_iload hx hb d_La_law_154 (lv_at hl 4 rfl) ?_
        refine lv_iconst (v := 3) hx hb d_La_law_156 (by decide) ?_
        refine lv_iadd hx hb d_La_law_157 ?_
        obtain ⟨hi17, hwp⟩ := hwp
        refine va_sld hx hb hscr.1 hscr.2.1 hscr.2.2 hS hi17 d_La_law_158 ?_
        refine lv_aload_n hx hb d_La_law_159 rfl (lv_at hl 3 rfl) ?_
        obtain ⟨hc19, hs20, hwp⟩ := hwp
        refine h_calli hM hS hA (z_runS (n := 5) (As := [.ref x1, .int (post.2 (x4 + (1 : Int32)).toNatClampNeg), .int (post.2 (x4 + (2 : Int32)).toNatClampNeg), .int (post.2 (x4 + (3 : Int32)).toNatClampNeg), .ref x3]) (rest := []) ⟨hx, hb, hml, hown, hts⟩ (metLa_stem l hst D κ H.size x1 (post.2 (x4 + (1 : Int32)).toNatClampNeg) (post.2 (x4 + (2 : Int32)).toNatClampNeg) (post.2 (x4 + (3 : Int32)).toNatClampNeg) x3 M _ hwp) (pay_in hts (gcons kw_337 wg_good)) List.mem_cons_self rfl rfl ⟨(Nat.le_of_ble_eq_true rfl), (Nat.le_of_ble_eq_true rfl)⟩ (hts _ kw_335) (hts _ kw_336) (hts _ kw_0) (by decide +kernel) (z_preS hE hNc hM hS) rfl rfl hl.1 rfl (lv_room (Nat.le_of_ble_eq_true rfl)) d_La_law_160 ⟨hc19, hs20⟩) (fun r21 M18 H locs hwp hM hS => ?_)
        refine lv_istore (lv' := [(5, .int r21), (0, .ref b), (1, .ref x1), (2, .ref x2), (3, .ref x3), (4, .int x4)]) hx hb d_La_law_163 hl (by decide) rfl (fun ls hl => ?_)
        refine lv_aload_n hx hb d_La_law_165 rfl (lv_at hl 3 rfl) ?_
        refine lv_aload_n hx hb d_La_law_166 rfl (lv_at hl 1 rfl) ?_
        refine lv_iload hx hb d_La_law_167 (lv_at hl 5 rfl) ?_
        refine lv_iconst (v := 1) hx hb d_La_law_169 (by decide) ?_
        refine lv_iadd hx hb d_La_law_170 ?_
        obtain ⟨hi22, hwp⟩ := hwp
        refine va_sld hx hb hscr.1 hscr.2.1 hscr.2.2 hS hi22 d_La_law_171 ?_
        refine lv_aload_n hx hb d_La_law_172 rfl (lv_at hl 1 rfl) ?_
        refine lv_iload hx hb d_La_law_173 (lv_at hl 5 rfl) ?_
        refine lv_iconst (v := 2) hx hb d_La_law_175 (by decide) ?_
        refine lv_iadd hx hb d_La_law_176 ?_
        obtain ⟨hi23, hwp⟩ := hwp
        refine va_sld hx hb hscr.1 hscr.2.1 hscr.2.2 hS hi23 d_La_law_177 ?_
        refine lv_aload_n hx hb d_La_law_178 rfl (lv_at hl 1 rfl) ?_
        refine lv_iload hx hb d_La_law_179 (lv_at hl 5 rfl) ?_
        refine lv_iconst (v := 3) hx hb d_La_law_181 (by decide) ?_
        refine lv_iadd hx hb d_La_law_182 ?_
        obtain ⟨hi24, hwp⟩ := hwp
        refine va_sld hx hb hscr.1 hscr.2.1 hscr.2.2 hS hi24 d_La_law_183 ?_
        obtain ⟨hc27, hs28, hwp⟩ := hwp
        obtain ⟨ho26, hwp⟩ := hwp
        refine h_calli hM hS hA (va_runV (As := [.int (post.2 (x4 + (1 : Int32)).toNatClampNeg), .int (post.2 (x4 + (2 : Int32)).toNatClampNeg), .int (post.2 (x4 + (3 : Int32)).toNatClampNeg)]) (rest := []) ⟨hx, hb, hml, hown, hts⟩ (metMo_stem l D κ H.size x2 (post.2 (x4 + (1 : Int32)).toNatClampNeg) (post.2 (x4 + (2 : Int32)).toNatClampNeg) (post.2 (x4 + (3 : Int32)).toNatClampNeg) M18 _ hwp) (cwV 3 hts (gV kw_833 kw_834 kw_835 kw_8 kw_836) rfl rfl rfl (by decide +kernel) ⟨(Nat.le_of_ble_eq_true rfl), (Nat.le_of_ble_eq_true rfl)⟩) (h_preV hE hM hS ho26 (r := ("BuckTablesModel", Tc6, 36)) rfl) rfl rfl hl.1 rfl (lv_room (Nat.le_of_ble_eq_true rfl)) d_La_law_184 ⟨hc27, hs28⟩) (fun r29 M25 H locs hwp hM hS => ?_)
        refine lv_istore (lv' := [(6, .int r29), (5, .int r21), (0, .ref b), (1, .ref x1), (2, .ref x2), (3, .ref x3), (4, .int x4)]) hx hb d_La_law_187 hl (by decide) rfl (fun ls hl => ?_)
        refine lv_aload_n hx hb d_La_law_189 rfl (lv_at hl 4 rfl) ?_
        obtain ⟨hc32, hs33, hwp⟩ := hwp
        obtain ⟨ho31, hwp⟩ := hwp
        refine h_calli hM hS hA (va_runV (As := []) (rest := []) ⟨hx, hb, hml, hown, hts⟩ (metMo_thrown l D κ H.size x2 M25 _ hwp) (cwV 0 hts (gV kw_829 kw_830 kw_831 kw_8 kw_832) rfl rfl rfl (by decide +kernel) ⟨(Nat.le_of_ble_eq_true rfl), (Nat.le_of_ble_eq_true rfl)⟩) (h_preV hE hM hS ho31 (r := ("BuckTablesModel", Tc6, 36)) rfl) rfl rfl hl.1 rfl (lv_room (Nat.le_of_ble_eq_true rfl)) d_La_law_190 ⟨hc32, hs33⟩) (fun r34 M30 H locs hwp hM hS => ?_)
        refine lv_iload hx hb d_La_law_193 (lv_at hl 1 rfl) ?_
        refine lv_icmp_eq (tgt := 200) hx hb d_La_law_195 (by decide) (fun c35 => ?_) (fun c35 => ?_)
        · replace hwp := hwp.1 c35
          refine lv_iload hx hb d_La_law_200 (lv_at hl 1 rfl) ?_
          refine lv_if_ne (tgt := 224) hx hb d_La_law_202 (by decide) (fun c36 => ?_) (fun c36 => ?_)
          · replace hwp := hwp.2 c36
            exact tLa_law_224 C hst post hscr (wLa_law_33 post n) ih x1 x2 x3 x4 (((kc + 1) + 0) + 0) (((ks + 6) + 0) + 0) M30 hwp H locs ls hM hS (lv_sub hl [2, 3, 4, 5, 6] rfl)
          · replace hwp := hwp.1 c36
            refine lv_aload_n hx hb d_La_law_205 rfl (lv_at hl 5 rfl) ?_
            refine lv_iconst (v := 0) hx hb d_La_law_206 (by decide) ?_
            obtain ⟨v37, ⟨n38, f39, ha40, hi41, ev37⟩, hwp⟩ := hwp
            refine h_lald hx hb hK hM ha40 rfl hi41 d_La_law_207 ?_
            rw [← ev37]
            refine lv_iload hx hb d_La_law_208 (lv_at hl 0 rfl) ?_
            refine lv_if_eq (tgt := 217) hx hb d_La_law_210 (by decide) (fun c42 => ?_) (fun c42 => ?_)
            · replace hwp := hwp.1 c42
              refine lv_lconst (v := 0) hx hb d_La_law_217 (by decide) ?_
              exact tLa_law_218 C hst post hscr (wLa_law_33 post n) ih x1 x2 x3 x4 (0 : Int64) v37 (((kc + 1) + 0) + 0) (((ks + 6) + 0) + 0) M30 hwp H locs ls hM hS (lv_sub hl [2, 3, 4, 5, 6] rfl)
            · replace hwp := hwp.2 c42
              refine lv_lconst (v := 1) hx hb d_La_law_213 (by decide) ?_
              refine lv_goto (tgt := 218) hx hb d_La_law_214 (by decide) ?_
              exact tLa_law_218 C hst post hscr (wLa_law_33 post n) ih x1 x2 x3 x4 (1 : Int64) v37 (((kc + 1) + 0) + 0) (((ks + 6) + 0) + 0) M30 hwp H locs ls hM hS (lv_sub hl [2, 3, 4, 5, 6] rfl)
        · replace hwp := hwp.2 c35
          refine lv_iconst (v := 0) hx hb d_La_law_198 (by decide) ?_
          exact hwp.elim
      · replace hwp := hwp.2.1 hk9
        refine lv_tableIn (tgt := 227) hx hb d_La_law_50 (by omega) (by omega) (show _ = some (177 : Int) by rw [hk9]; rfl) (by decide) ?_
        refine lv_aload_n hx hb d_La_law_227 rfl (lv_at hl 1 rfl) ?_
        refine lv_aload_n hx hb d_La_law_228 rfl (lv_at hl 0 rfl) ?_
        refine lv_iload hx hb d_La_law_229 (lv_at hl 4 rfl) ?_
        refine lv_iconst (v := 1) hx hb d_La_law_231 (by decide) ?_
        refine lv_iadd hx hb d_La_law_232 ?_
        obtain ⟨hi43, hwp⟩ := hwp
        refine va_sld hx hb hscr.1 hscr.2.1 hscr.2.2 hS hi43 d_La_law_233 ?_
        refine lv_aload_n hx hb d_La_law_234 rfl (lv_at hl 0 rfl) ?_
        refine lv_iload hx hb d_La_law_235 (lv_at hl 4 rfl) ?_
        refine lv_iconst (v := 2) hx hb d_La_law_237 (by decide) ?_
        refine lv_iadd hx hb d_La_law_238 ?_
        obtain ⟨hi44, hwp⟩ := hwp
        refine va_sld hx hb hscr.1 hscr.2.1 hscr.2.2 hS hi44 d_La_law_239 ?_
        refine lv_aload_n hx hb d_La_law_240 rfl (lv_at hl 0 rfl) ?_
        refine lv_iload hx hb d_La_law_241 (lv_at hl 4 rfl) ?_
        refine lv_iconst (v := 3) hx hb d_La_law_243 (by decide) ?_
        refine lv_iadd hx hb d_La_law_244 ?_
        obtain ⟨hi45, hwp⟩ := hwp
        refine va_sld hx hb hscr.1 hscr.2.1 hscr.2.2 hS hi45 d_La_law_245 ?_
        refine lv_aload_n hx hb d_La_law_246 rfl (lv_at hl 3 rfl) ?_
        obtain ⟨hc47, hs48, hwp⟩ := hwp
        refine h_calli hM hS hA (z_runS (n := 5) (As := [.ref x1, .int (post.2 (x4 + (1 : Int32)).toNatClampNeg), .int (post.2 (x4 + (2 : Int32)).toNatClampNeg), .int (post.2 (x4 + (3 : Int32)).toNatClampNeg), .ref x3]) (rest := []) ⟨hx, hb, hml, hown, hts⟩ (metLa_fault l hst D κ H.size x1 (post.2 (x4 + (1 : Int32)).toNatClampNeg) (post.2 (x4 + (2 : Int32)).toNatClampNeg) (post.2 (x4 + (3 : Int32)).toNatClampNeg) x3 M _ hwp) (pay_in hts (gcons kw_447 wg_good)) List.mem_cons_self rfl rfl ⟨(Nat.le_of_ble_eq_true rfl), (Nat.le_of_ble_eq_true rfl)⟩ (hts _ kw_445) (hts _ kw_446) (hts _ kw_0) (by decide +kernel) (z_preS hE hNc hM hS) rfl rfl hl.1 rfl (lv_room (Nat.le_of_ble_eq_true rfl)) d_La_law_247 ⟨hc47, hs48⟩) (fun r49 M46 H locs hwp hM hS => ?_)
        refine lv_istore (lv' := [(5, .int r49), (0, .ref b), (1, .ref x1), (2, .ref x2), (3, .ref x3), (4, .int x4)]) hx hb d_La_law_250 hl (by decide) rfl (fun ls hl => ?_)
        refine lv_aload_n hx hb d_La_law_252 rfl (lv_at hl 3 rfl) ?_
        refine lv_aload_n hx hb d_La_law_253 rfl (lv_at hl 1 rfl) ?_
        refine lv_iload hx hb d_La_law_254 (lv_at hl 5 rfl) ?_
        refine lv_iconst (v := 1) hx hb d_La_law_256 (by decide) ?_
        refine lv_iadd hx hb d_La_law_257 ?_
        obtain ⟨hi50, hwp⟩ := hwp
        refine va_sld hx hb hscr.1 hscr.2.1 hscr.2.2 hS hi50 d_La_law_258 ?_
        refine lv_aload_n hx hb d_La_law_259 rfl (lv_at hl 1 rfl) ?_
        refine lv_iload hx hb d_La_law_260 (lv_at hl 5 rfl) ?_
        refine lv_iconst (v := 2) hx hb d_La_law_262 (by decide) ?_
        refine lv_iadd hx hb d_La_law_263 ?_
        obtain ⟨hi51, hwp⟩ := hwp
        refine va_sld hx hb hscr.1 hscr.2.1 hscr.2.2 hS hi51 d_La_law_264 ?_
        refine lv_aload_n hx hb d_La_law_265 rfl (lv_at hl 1 rfl) ?_
        refine lv_iload hx hb d_La_law_266 (lv_at hl 5 rfl) ?_
        refine lv_iconst (v := 3) hx hb d_La_law_268 (by decide) ?_
        refine lv_iadd hx hb d_La_law_269 ?_
        obtain ⟨hi52, hwp⟩ := hwp
        refine va_sld hx hb hscr.1 hscr.2.1 hscr.2.2 hS hi52 d_La_law_270 ?_
        obtain ⟨hc55, hs56, hwp⟩ := hwp
        obtain ⟨ho54, hwp⟩ := hwp
        refine h_calli hM hS hA (va_runV (As := [.int (post.2 (x4 + (1 : Int32)).toNatClampNeg), .int (post.2 (x4 + (2 : Int32)).toNatClampNeg), .int (post.2 (x4 + (3 : Int32)).toNatClampNeg)]) (rest := []) ⟨hx, hb, hml, hown, hts⟩ (metMo_fault l D κ H.size x2 (post.2 (x4 + (1 : Int32)).toNatClampNeg) (post.2 (x4 + (2 : Int32)).toNatClampNeg) (post.2 (x4 + (3 : Int32)).toNatClampNeg) M46 _ hwp) (cwV 3 hts (gV kw_846 kw_847 kw_848 kw_8 kw_849) rfl rfl rfl (by decide +kernel) ⟨(Nat.le_of_ble_eq_true rfl), (Nat.le_of_ble_eq_true rfl)⟩) (h_preV hE hM hS ho54 (r := ("BuckTablesModel", Tc6, 36)) rfl) rfl rfl hl.1 rfl (lv_room (Nat.le_of_ble_eq_true rfl)) d_La_law_271 ⟨hc55, hs56⟩) (fun r57 M53 H locs hwp hM hS => ?_)
        refine lv_istore (lv' := [(6, .int r57), (5, .int r49), (0, .ref b), (1, .ref x1), (2, .ref x2), (3, .ref x3), (4, .int x4)]) hx hb d_La_law_274 hl (by decide) rfl (fun ls hl => ?_)
        refine lv_aload_n hx hb d_La_law_276 rfl (lv_at hl 4 rfl) ?_
        obtain ⟨hc60, hs61, hwp⟩ := hwp
        obtain ⟨ho59, hwp⟩ := hwp
        refine h_calli hM hS hA (va_runV (As := []) (rest := []) ⟨hx, hb, hml, hown, hts⟩ (metMo_thrown l D κ H.size x2 M53 _ hwp) (cwV 0 hts (gV kw_829 kw_830 kw_831 kw_8 kw_832) rfl rfl rfl (by decide +kernel) ⟨(Nat.le_of_ble_eq_true rfl), (Nat.le_of_ble_eq_true rfl)⟩) (h_preV hE hM hS ho59 (r := ("BuckTablesModel", Tc6, 36)) rfl) rfl rfl hl.1 rfl (lv_room (Nat.le_of_ble_eq_true rfl)) d_La_law_277 ⟨hc60, hs61⟩) (fun r62 M58 H locs hwp hM hS => ?_)
        refine lv_iload hx hb d_La_law_280 (lv_at hl 1 rfl) ?_
        refine lv_icmp_eq (tgt := 287) hx hb d_La_law_282 (by decide) (fun c63 => ?_) (fun c63 => ?_)
        · replace hwp := hwp.1 c63
          refine lv_iload hx hb d_La_law_287 (lv_at hl 1 rfl) ?_
          refine lv_if_ne (tgt := 311) hx hb d_La_law_289 (by decide) (fun c64 => ?_) (fun c64 => ?_)
          · replace hwp := hwp.2 c64
            exact tLa_law_311 C hst post hscr (wLa_law_33 post n) ih x1 x2 x3 x4 (((kc + 1) + 0) + 0) (((ks + 6) + 0) + 0) M58 hwp H locs ls hM hS (lv_sub hl [2, 3, 4, 5, 6] rfl)
          · replace hwp := hwp.1 c64
            refine lv_aload_n hx hb d_La_law_292 rfl (lv_at hl 5 rfl) ?_
            refine lv_iconst (v := 0) hx hb d_La_law_293 (by decide) ?_
            obtain ⟨v65, ⟨n66, f67, ha68, hi69, ev65⟩, hwp⟩ := hwp
            refine h_lald hx hb hK hM ha68 rfl hi69 d_La_law_294 ?_
            rw [← ev65]
            refine lv_iload hx hb d_La_law_295 (lv_at hl 0 rfl) ?_
            refine lv_if_eq (tgt := 304) hx hb d_La_law_297 (by decide) (fun c70 => ?_) (fun c70 => ?_)
            · replace hwp := hwp.1 c70
              refine lv_lconst (v := 0) hx hb d_La_law_304 (by decide) ?_
              exact tLa_law_305 C hst post hscr (wLa_law_33 post n) ih x1 x2 x3 x4 (0 : Int64) v65 (((kc + 1) + 0) + 0) (((ks + 6) + 0) + 0) M58 hwp H locs ls hM hS (lv_sub hl [2, 3, 4, 5, 6] rfl)
            · replace hwp := hwp.2 c70
              refine lv_lconst (v := 1) hx hb d_La_law_300 (by decide) ?_
              refine lv_goto (tgt := 305) hx hb d_La_law_301 (by decide) ?_
              exact tLa_law_305 C hst post hscr (wLa_law_33 post n) ih x1 x2 x3 x4 (1 : Int64) v65 (((kc + 1) + 0) + 0) (((ks + 6) + 0) + 0) M58 hwp H locs ls hM hS (lv_sub hl [2, 3, 4, 5, 6] rfl)
        · replace hwp := hwp.2 c63
          refine lv_iconst (v := 0) hx hb d_La_law_285 (by decide) ?_
          exact hwp.elim
      · replace hwp := hwp.2.2.1 hk9
        refine lv_tableIn (tgt := 314) hx hb d_La_law_50 (by omega) (by omega) (show _ = some (264 : Int) by rw [hk9]; rfl) (by decide) ?_
        refine lv_aload_n hx hb d_La_law_314 rfl (lv_at hl 1 rfl) ?_
        refine lv_aload_n hx hb d_La_law_315 rfl (lv_at hl 3 rfl) ?_
        obtain ⟨hc72, hs73, hwp⟩ := hwp
        refine h_calli hM hS hA (z_runS (n := 2) (As := [.ref x1, .ref x3]) (rest := []) ⟨hx, hb, hml, hown, hts⟩ (metLa_stems l hst D κ H.size x1 x3 M _ hwp) (pay_in hts (gcons kw_461 wg_good)) List.mem_cons_self rfl rfl ⟨(Nat.le_of_ble_eq_true rfl), (Nat.le_of_ble_eq_true rfl)⟩ (hts _ kw_459) (hts _ kw_460) (hts _ kw_0) (by decide +kernel) (z_preS hE hNc hM hS) rfl rfl hl.1 rfl (lv_room (Nat.le_of_ble_eq_true rfl)) d_La_law_316 ⟨hc72, hs73⟩) (fun r74 M71 H locs hwp hM hS => ?_)
        refine lv_istore (lv' := [(5, .int r74), (0, .ref b), (1, .ref x1), (2, .ref x2), (3, .ref x3), (4, .int x4)]) hx hb d_La_law_319 hl (by decide) rfl (fun ls hl => ?_)
        refine lv_aload_n hx hb d_La_law_321 rfl (lv_at hl 3 rfl) ?_
        obtain ⟨hc77, hs78, hwp⟩ := hwp
        obtain ⟨ho76, hwp⟩ := hwp
        refine h_calli hM hS hA (va_runV (As := []) (rest := []) ⟨hx, hb, hml, hown, hts⟩ (metMo_stems l D κ H.size x2 M71 _ hwp) (cwV 0 hts (gV kw_851 kw_852 kw_853 kw_8 kw_854) rfl rfl rfl (by decide +kernel) ⟨(Nat.le_of_ble_eq_true rfl), (Nat.le_of_ble_eq_true rfl)⟩) (h_preV hE hM hS ho76 (r := ("BuckTablesModel", Tc6, 36)) rfl) rfl rfl hl.1 rfl (lv_room (Nat.le_of_ble_eq_true rfl)) d_La_law_322 ⟨hc77, hs78⟩) (fun r79 M75 H locs hwp hM hS => ?_)
        refine lv_istore (lv' := [(6, .int r79), (5, .int r74), (0, .ref b), (1, .ref x1), (2, .ref x2), (3, .ref x3), (4, .int x4)]) hx hb d_La_law_325 hl (by decide) rfl (fun ls hl => ?_)
        refine lv_aload_n hx hb d_La_law_327 rfl (lv_at hl 4 rfl) ?_
        obtain ⟨hc82, hs83, hwp⟩ := hwp
        obtain ⟨ho81, hwp⟩ := hwp
        refine h_calli hM hS hA (va_runV (As := []) (rest := []) ⟨hx, hb, hml, hown, hts⟩ (metMo_thrown l D κ H.size x2 M75 _ hwp) (cwV 0 hts (gV kw_829 kw_830 kw_831 kw_8 kw_832) rfl rfl rfl (by decide +kernel) ⟨(Nat.le_of_ble_eq_true rfl), (Nat.le_of_ble_eq_true rfl)⟩) (h_preV hE hM hS ho81 (r := ("BuckTablesModel", Tc6, 36)) rfl) rfl rfl hl.1 rfl (lv_room (Nat.le_of_ble_eq_true rfl)) d_La_law_328 ⟨hc82, hs83⟩) (fun r84 M80 H locs hwp hM hS => ?_)
        refine lv_iload hx hb d_La_law_331 (lv_at hl 1 rfl) ?_
        refine lv_icmp_eq (tgt := 338) hx hb d_La_law_333 (by decide) (fun c85 => ?_) (fun c85 => ?_)
        · replace hwp := hwp.1 c85
          refine lv_iload hx hb d_La_law_338 (lv_at hl 1 rfl) ?_
          refine lv_if_ne (tgt := 355) hx hb d_La_law_340 (by decide) (fun c86 => ?_) (fun c86 => ?_)
          · replace hwp := hwp.2 c86
            exact tLa_law_355 C hst post hscr (wLa_law_33 post n) ih x1 x2 x3 x4 (((kc + 1) + 0) + 0) (((ks + 6) + 0) + 0) M80 hwp H locs ls hM hS (lv_sub hl [2, 3, 4, 5, 6] rfl)
          · replace hwp := hwp.1 c86
            refine lv_aload_n hx hb d_La_law_343 rfl (lv_at hl 5 rfl) ?_
            refine lv_iconst (v := 0) hx hb d_La_law_344 (by decide) ?_
            obtain ⟨v87, ⟨n88, f89, ha90, hi91, ev87⟩, hwp⟩ := hwp
            refine h_lald hx hb hK hM ha90 rfl hi91 d_La_law_345 ?_
            rw [← ev87]
            refine lv_iload hx hb d_La_law_346 (lv_at hl 0 rfl) ?_
            refine lv_i2l hx hb d_La_law_348 rfl ?_
            refine W.lcmp hx hb d_La_law_349 ?_
            refine lv_if_eq (tgt := 355) hx hb d_La_law_350 (by decide) (fun c92 => ?_) (fun c92 => ?_)
            · replace c92 := (lc_eq _ _).mp c92
              replace hwp := hwp.1 c92
              exact tLa_law_355 C hst post hscr (wLa_law_33 post n) ih x1 x2 x3 x4 (((kc + 1) + 0) + 0) (((ks + 6) + 0) + 0) M80 hwp H locs ls hM hS (lv_sub hl [2, 3, 4, 5, 6] rfl)
            · replace c92 := fun h9 => c92 ((lc_eq _ _).mpr h9)
              replace hwp := hwp.2 c92
              refine lv_iconst (v := 0) hx hb d_La_law_353 (by decide) ?_
              exact hwp.elim
        · replace hwp := hwp.2 c85
          refine lv_iconst (v := 0) hx hb d_La_law_336 (by decide) ?_
          exact hwp.elim
      · replace hwp := hwp.2.2.2.1 hk9
        refine lv_tableIn (tgt := 358) hx hb d_La_law_50 (by omega) (by omega) (show _ = some (308 : Int) by rw [hk9]; rfl) (by decide) ?_
        refine lv_aload_n hx hb d_La_law_358 rfl (lv_at hl 1 rfl) ?_
        refine lv_aload_n hx hb d_La_law_359 rfl (lv_at hl 0 rfl) ?_
        refine lv_iload hx hb d_La_law_360 (lv_at hl 4 rfl) ?_
        refine lv_iconst (v := 1) hx hb d_La_law_362 (by decide) ?_
        refine lv_iadd hx hb d_La_law_363 ?_
        obtain ⟨hi93, hwp⟩ := hwp
        refine va_sld hx hb hscr.1 hscr.2.1 hscr.2.2 hS hi93 d_La_law_364 ?_
        refine lv_aload_n hx hb d_La_law_365 rfl (lv_at hl 0 rfl) ?_
        refine lv_iload hx hb d_La_law_366 (lv_at hl 4 rfl) ?_
        refine lv_iconst (v := 2) hx hb d_La_law_368 (by decide) ?_
        refine lv_iadd hx hb d_La_law_369 ?_
        obtain ⟨hi94, hwp⟩ := hwp
        refine va_sld hx hb hscr.1 hscr.2.1 hscr.2.2 hS hi94 d_La_law_370 ?_
        refine lv_aload_n hx hb d_La_law_371 rfl (lv_at hl 0 rfl) ?_
        refine lv_iload hx hb d_La_law_372 (lv_at hl 4 rfl) ?_
        refine lv_iconst (v := 3) hx hb d_La_law_374 (by decide) ?_
        refine lv_iadd hx hb d_La_law_375 ?_
        obtain ⟨hi95, hwp⟩ := hwp
        refine va_sld hx hb hscr.1 hscr.2.1 hscr.2.2 hS hi95 d_La_law_376 ?_
        refine lv_aload_n hx hb d_La_law_377 rfl (lv_at hl 0 rfl) ?_
        refine lv_iload hx hb d_La_law_378 (lv_at hl 4 rfl) ?_
        refine lv_iconst (v := 4) hx hb d_La_law_380 (by decide) ?_
        refine lv_iadd hx hb d_La_law_381 ?_
        obtain ⟨hi96, hwp⟩ := hwp
        refine va_sld hx hb hscr.1 hscr.2.1 hscr.2.2 hS hi96 d_La_law_382 ?_
        refine lv_aload_n hx hb d_La_law_383 rfl (lv_at hl 0 rfl) ?_
        refine lv_iload hx hb d_La_law_384 (lv_at hl 4 rfl) ?_
        refine lv_iconst (v := 5) hx hb d_La_law_386 (by decide) ?_
        refine lv_iadd hx hb d_La_law_387 ?_
        obtain ⟨hi97, hwp⟩ := hwp
        refine va_sld hx hb hscr.1 hscr.2.1 hscr.2.2 hS hi97 d_La_law_388 ?_
        refine lv_i2l hx hb d_La_law_389 rfl ?_
        refine lv_bipush (v := 32) hx hb d_La_law_390 (by decide) ?_
        refine lv_lshl hx hb d_La_law_392 rfl ?_
        refine lv_aload_n hx hb d_La_law_393 rfl (lv_at hl 0 rfl) ?_
        refine lv_iload hx hb d_La_law_394 (lv_at hl 4 rfl) ?_
        refine lv_bipush (v := 6) hx hb d_La_law_396 (by decide) ?_
        refine lv_iadd hx hb d_La_law_398 ?_
        obtain ⟨hi98, hwp⟩ := hwp
        refine va_sld hx hb hscr.1 hscr.2.1 hscr.2.2 hS hi98 d_La_law_399 ?_
        refine lv_i2l hx hb d_La_law_400 rfl ?_
        refine lv_ldc2 (v := (4294967295)) hx hb hown (hts _ kw_1026) d_La_law_401 ?_
        refine lv_land hx hb d_La_law_404 ?_
        refine lv_lor hx hb d_La_law_405 ?_
        refine lv_aload_n hx hb d_La_law_406 rfl (lv_at hl 3 rfl) ?_
        obtain ⟨hc100, hs101, hwp⟩ := hwp
        refine h_calli hM hS hA (z_runS (n := 7) (As := [.ref x1, .int (post.2 (x4 + (1 : Int32)).toNatClampNeg), .int (post.2 (x4 + (2 : Int32)).toNatClampNeg), .int (post.2 (x4 + (3 : Int32)).toNatClampNeg), .int (post.2 (x4 + (4 : Int32)).toNatClampNeg), .long ((((post.2 (x4 + (5 : Int32)).toNatClampNeg).toInt64) <<< ((32 : Int32).toInt64 &&& 63)) ||| (((post.2 (x4 + (6 : Int32)).toNatClampNeg).toInt64) &&& (4294967295 : Int64))), .ref x3]) (rest := []) ⟨hx, hb, hml, hown, hts⟩ (metLa_product l hst D κ H.size x1 (post.2 (x4 + (1 : Int32)).toNatClampNeg) (post.2 (x4 + (2 : Int32)).toNatClampNeg) (post.2 (x4 + (3 : Int32)).toNatClampNeg) (post.2 (x4 + (4 : Int32)).toNatClampNeg) ((((post.2 (x4 + (5 : Int32)).toNatClampNeg).toInt64) <<< ((32 : Int32).toInt64 &&& 63)) ||| (((post.2 (x4 + (6 : Int32)).toNatClampNeg).toInt64) &&& (4294967295 : Int64))) x3 M _ hwp) (pay_in hts (gcons kw_469 wg_good)) List.mem_cons_self rfl rfl ⟨(Nat.le_of_ble_eq_true rfl), (Nat.le_of_ble_eq_true rfl)⟩ (hts _ kw_467) (hts _ kw_468) (hts _ kw_0) (by decide +kernel) (z_preS hE hNc hM hS) rfl rfl hl.1 rfl (lv_room (Nat.le_of_ble_eq_true rfl)) d_La_law_407 ⟨hc100, hs101⟩) (fun r102 M99 H locs hwp hM hS => ?_)
        refine lv_istore (lv' := [(5, .int r102), (0, .ref b), (1, .ref x1), (2, .ref x2), (3, .ref x3), (4, .int x4)]) hx hb d_La_law_410 hl (by decide) rfl (fun ls hl => ?_)
        refine lv_aload_n hx hb d_La_law_412 rfl (lv_at hl 3 rfl) ?_
        refine lv_aload_n hx hb d_La_law_413 rfl (lv_at hl 1 rfl) ?_
        refine lv_iload hx hb d_La_law_414 (lv_at hl 5 rfl) ?_
        refine lv_iconst (v := 1) hx hb d_La_law_416 (by decide) ?_
        refine lv_iadd hx hb d_La_law_417 ?_
        obtain ⟨hi103, hwp⟩ := hwp
        refine va_sld hx hb hscr.1 hscr.2.1 hscr.2.2 hS hi103 d_La_law_418 ?_
        refine lv_aload_n hx hb d_La_law_419 rfl (lv_at hl 1 rfl) ?_
        refine lv_iload hx hb d_La_law_420 (lv_at hl 5 rfl) ?_
        refine lv_iconst (v := 2) hx hb d_La_law_422 (by decide) ?_
        refine lv_iadd hx hb d_La_law_423 ?_
        obtain ⟨hi104, hwp⟩ := hwp
        refine va_sld hx hb hscr.1 hscr.2.1 hscr.2.2 hS hi104 d_La_law_424 ?_
        refine lv_aload_n hx hb d_La_law_425 rfl (lv_at hl 1 rfl) ?_
        refine lv_iload hx hb d_La_law_426 (lv_at hl 5 rfl) ?_
        refine lv_iconst (v := 3) hx hb d_La_law_428 (by decide) ?_
        refine lv_iadd hx hb d_La_law_429 ?_
        obtain ⟨hi105, hwp⟩ := hwp
        refine va_sld hx hb hscr.1 hscr.2.1 hscr.2.2 hS hi105 d_La_law_430 ?_
        refine lv_aload_n hx hb d_La_law_431 rfl (lv_at hl 1 rfl) ?_
        refine lv_iload hx hb d_La_law_432 (lv_at hl 5 rfl) ?_
        refine lv_iconst (v := 4) hx hb d_La_law_434 (by decide) ?_
        refine lv_iadd hx hb d_La_law_435 ?_
        obtain ⟨hi106, hwp⟩ := hwp
        refine va_sld hx hb hscr.1 hscr.2.1 hscr.2.2 hS hi106 d_La_law_436 ?_
        refine lv_aload_n hx hb d_La_law_437 rfl (lv_at hl 1 rfl) ?_
        refine lv_iload hx hb d_La_law_438 (lv_at hl 5 rfl) ?_
        refine lv_iconst (v := 5) hx hb d_La_law_440 (by decide) ?_
        refine lv_iadd hx hb d_La_law_441 ?_
        obtain ⟨hi107, hwp⟩ := hwp
        refine va_sld hx hb hscr.1 hscr.2.1 hscr.2.2 hS hi107 d_La_law_442 ?_
        refine lv_i2l hx hb d_La_law_443 rfl ?_
        refine lv_bipush (v := 32) hx hb d_La_law_444 (by decide) ?_
        refine lv_lshl hx hb d_La_law_446 rfl ?_
        refine lv_aload_n hx hb d_La_law_447 rfl (lv_at hl 1 rfl) ?_
        refine lv_iload hx hb d_La_law_448 (lv_at hl 5 rfl) ?_
        refine lv_bipush (v := 6) hx hb d_La_law_450 (by decide) ?_
        refine lv_iadd hx hb d_La_law_452 ?_
        obtain ⟨hi108, hwp⟩ := hwp
        refine va_sld hx hb hscr.1 hscr.2.1 hscr.2.2 hS hi108 d_La_law_453 ?_
        refine lv_i2l hx hb d_La_law_454 rfl ?_
        refine lv_ldc2 (v := (4294967295)) hx hb hown (hts _ kw_1026) d_La_law_455 ?_
        refine lv_land hx hb d_La_law_458 ?_
        refine lv_lor hx hb d_La_law_459 ?_
        obtain ⟨hc111, hs112, hwp⟩ := hwp
        obtain ⟨ho110, hwp⟩ := hwp
        refine h_calli hM hS hA (va_runV (As := [.int (post.2 (x4 + (1 : Int32)).toNatClampNeg), .int (post.2 (x4 + (2 : Int32)).toNatClampNeg), .int (post.2 (x4 + (3 : Int32)).toNatClampNeg), .int (post.2 (x4 + (4 : Int32)).toNatClampNeg), .long ((((post.2 (x4 + (5 : Int32)).toNatClampNeg).toInt64) <<< ((32 : Int32).toInt64 &&& 63)) ||| (((post.2 (x4 + (6 : Int32)).toNatClampNeg).toInt64) &&& (4294967295 : Int64)))]) (rest := []) ⟨hx, hb, hml, hown, hts⟩ (metMo_product l D κ H.size x2 (post.2 (x4 + (1 : Int32)).toNatClampNeg) (post.2 (x4 + (2 : Int32)).toNatClampNeg) (post.2 (x4 + (3 : Int32)).toNatClampNeg) (post.2 (x4 + (4 : Int32)).toNatClampNeg) ((((post.2 (x4 + (5 : Int32)).toNatClampNeg).toInt64) <<< ((32 : Int32).toInt64 &&& 63)) ||| (((post.2 (x4 + (6 : Int32)).toNatClampNeg).toInt64) &&& (4294967295 : Int64))) M99 _ hwp) (cwV 5 hts (gV kw_855 kw_856 kw_857 kw_8 kw_858) rfl rfl rfl (by decide +kernel) ⟨(Nat.le_of_ble_eq_true rfl), (Nat.le_of_ble_eq_true rfl)⟩) (h_preV hE hM hS ho110 (r := ("BuckTablesModel", Tc6, 36)) rfl) rfl rfl hl.1 rfl (lv_room (Nat.le_of_ble_eq_true rfl)) d_La_law_460 ⟨hc111, hs112⟩) (fun r113 M109 H locs hwp hM hS => ?_)
        refine lv_istore (lv' := [(6, .int r113), (5, .int r102), (0, .ref b), (1, .ref x1), (2, .ref x2), (3, .ref x3), (4, .int x4)]) hx hb d_La_law_463 hl (by decide) rfl (fun ls hl => ?_)
        refine lv_aload_n hx hb d_La_law_465 rfl (lv_at hl 4 rfl) ?_
        obtain ⟨hc116, hs117, hwp⟩ := hwp
        obtain ⟨ho115, hwp⟩ := hwp
        refine h_calli hM hS hA (va_runV (As := []) (rest := []) ⟨hx, hb, hml, hown, hts⟩ (metMo_thrown l D κ H.size x2 M109 _ hwp) (cwV 0 hts (gV kw_829 kw_830 kw_831 kw_8 kw_832) rfl rfl rfl (by decide +kernel) ⟨(Nat.le_of_ble_eq_true rfl), (Nat.le_of_ble_eq_true rfl)⟩) (h_preV hE hM hS ho115 (r := ("BuckTablesModel", Tc6, 36)) rfl) rfl rfl hl.1 rfl (lv_room (Nat.le_of_ble_eq_true rfl)) d_La_law_466 ⟨hc116, hs117⟩) (fun r118 M114 H locs hwp hM hS => ?_)
        refine lv_iload hx hb d_La_law_469 (lv_at hl 1 rfl) ?_
        refine lv_icmp_eq (tgt := 476) hx hb d_La_law_471 (by decide) (fun c119 => ?_) (fun c119 => ?_)
        · replace hwp := hwp.1 c119
          refine lv_iload hx hb d_La_law_476 (lv_at hl 1 rfl) ?_
          refine lv_if_ne (tgt := 493) hx hb d_La_law_478 (by decide) (fun c120 => ?_) (fun c120 => ?_)
          · replace hwp := hwp.2 c120
            exact tLa_law_493 C hst post hscr (wLa_law_33 post n) ih x1 x2 x3 x4 (((kc + 1) + 0) + 0) (((ks + 6) + 0) + 0) M114 hwp H locs ls hM hS (lv_sub hl [2, 3, 4, 5, 6] rfl)
          · replace hwp := hwp.1 c120
            refine lv_aload_n hx hb d_La_law_481 rfl (lv_at hl 5 rfl) ?_
            refine lv_iconst (v := 0) hx hb d_La_law_482 (by decide) ?_
            obtain ⟨v121, ⟨n122, f123, ha124, hi125, ev121⟩, hwp⟩ := hwp
            refine h_lald hx hb hK hM ha124 rfl hi125 d_La_law_483 ?_
            rw [← ev121]
            refine lv_iload hx hb d_La_law_484 (lv_at hl 0 rfl) ?_
            refine lv_i2l hx hb d_La_law_486 rfl ?_
            refine W.lcmp hx hb d_La_law_487 ?_
            refine lv_if_eq (tgt := 493) hx hb d_La_law_488 (by decide) (fun c126 => ?_) (fun c126 => ?_)
            · replace c126 := (lc_eq _ _).mp c126
              replace hwp := hwp.1 c126
              exact tLa_law_493 C hst post hscr (wLa_law_33 post n) ih x1 x2 x3 x4 (((kc + 1) + 0) + 0) (((ks + 6) + 0) + 0) M114 hwp H locs ls hM hS (lv_sub hl [2, 3, 4, 5, 6] rfl)
            · replace c126 := fun h9 => c126 ((lc_eq _ _).mpr h9)
              replace hwp := hwp.2 c126
              refine lv_iconst (v := 0) hx hb d_La_law_491 (by decide) ?_
              exact hwp.elim
        · replace hwp := hwp.2 c119
          refine lv_iconst (v := 0) hx hb d_La_law_474 (by decide) ?_
          exact hwp.elim
      · replace hwp := hwp.2.2.2.2.1 hk9
        refine lv_tableIn (tgt := 496) hx hb d_La_law_50 (by omega) (by omega) (show _ = some (446 : Int) by rw [hk9]; rfl) (by decide) ?_
        refine lv_aload_n hx hb d_La_law_496 rfl (lv_at hl 1 rfl) ?_
        refine lv_aload_n hx hb d_La_law_497 rfl (lv_at hl 0 rfl) ?_
        refine lv_iload hx hb d_La_law_498 (lv_at hl 4 rfl) ?_
        refine lv_iconst (v := 1) hx hb d_La_law_500 (by decide) ?_
        refine lv_iadd hx hb d_La_law_501 ?_
        obtain ⟨hi127, hwp⟩ := hwp
        refine va_sld hx hb hscr.1 hscr.2.1 hscr.2.2 hS hi127 d_La_law_502 ?_
        refine lv_aload_n hx hb d_La_law_503 rfl (lv_at hl 0 rfl) ?_
        refine lv_iload hx hb d_La_law_504 (lv_at hl 4 rfl) ?_
        refine lv_iconst (v := 2) hx hb d_La_law_506 (by decide) ?_
        refine lv_iadd hx hb d_La_law_507 ?_
        obtain ⟨hi128, hwp⟩ := hwp
        refine va_sld hx hb hscr.1 hscr.2.1 hscr.2.2 hS hi128 d_La_law_508 ?_
        refine lv_aload_n hx hb d_La_law_509 rfl (lv_at hl 3 rfl) ?_
        obtain ⟨hc130, hs131, hwp⟩ := hwp
        refine h_calli hM hS hA (z_runS (n := 4) (As := [.ref x1, .int (post.2 (x4 + (1 : Int32)).toNatClampNeg), .int (post.2 (x4 + (2 : Int32)).toNatClampNeg), .ref x3]) (rest := []) ⟨hx, hb, hml, hown, hts⟩ (metLa_bars l hst D κ H.size x1 (post.2 (x4 + (1 : Int32)).toNatClampNeg) (post.2 (x4 + (2 : Int32)).toNatClampNeg) x3 M _ hwp) (pay_in hts (gcons kw_484 wg_good)) List.mem_cons_self rfl rfl ⟨(Nat.le_of_ble_eq_true rfl), (Nat.le_of_ble_eq_true rfl)⟩ (hts _ kw_482) (hts _ kw_483) (hts _ kw_0) (by decide +kernel) (z_preS hE hNc hM hS) rfl rfl hl.1 rfl (lv_room (Nat.le_of_ble_eq_true rfl)) d_La_law_510 ⟨hc130, hs131⟩) (fun r132 M129 H locs hwp hM hS => ?_)
        refine lv_istore (lv' := [(5, .int r132), (0, .ref b), (1, .ref x1), (2, .ref x2), (3, .ref x3), (4, .int x4)]) hx hb d_La_law_513 hl (by decide) rfl (fun ls hl => ?_)
        refine lv_aload_n hx hb d_La_law_515 rfl (lv_at hl 3 rfl) ?_
        refine lv_aload_n hx hb d_La_law_516 rfl (lv_at hl 1 rfl) ?_
        refine lv_iload hx hb d_La_law_517 (lv_at hl 5 rfl) ?_
        refine lv_iconst (v := 1) hx hb d_La_law_519 (by decide) ?_
        refine lv_iadd hx hb d_La_law_520 ?_
        obtain ⟨hi133, hwp⟩ := hwp
        refine va_sld hx hb hscr.1 hscr.2.1 hscr.2.2 hS hi133 d_La_law_521 ?_
        refine lv_aload_n hx hb d_La_law_522 rfl (lv_at hl 1 rfl) ?_
        refine lv_iload hx hb d_La_law_523 (lv_at hl 5 rfl) ?_
        refine lv_iconst (v := 2) hx hb d_La_law_525 (by decide) ?_
        refine lv_iadd hx hb d_La_law_526 ?_
        obtain ⟨hi134, hwp⟩ := hwp
        refine va_sld hx hb hscr.1 hscr.2.1 hscr.2.2 hS hi134 d_La_law_527 ?_
        obtain ⟨hc137, hs138, hwp⟩ := hwp
        obtain ⟨ho136, hwp⟩ := hwp
        refine h_calli hM hS hA (va_runV (As := [.int (post.2 (x4 + (1 : Int32)).toNatClampNeg), .int (post.2 (x4 + (2 : Int32)).toNatClampNeg)]) (rest := []) ⟨hx, hb, hml, hown, hts⟩ (metMo_bars l D κ H.size x2 (post.2 (x4 + (1 : Int32)).toNatClampNeg) (post.2 (x4 + (2 : Int32)).toNatClampNeg) M129 _ hwp) (cwV 2 hts (gV kw_859 kw_860 kw_861 kw_8 kw_862) rfl rfl rfl (by decide +kernel) ⟨(Nat.le_of_ble_eq_true rfl), (Nat.le_of_ble_eq_true rfl)⟩) (h_preV hE hM hS ho136 (r := ("BuckTablesModel", Tc6, 36)) rfl) rfl rfl hl.1 rfl (lv_room (Nat.le_of_ble_eq_true rfl)) d_La_law_528 ⟨hc137, hs138⟩) (fun r139 M135 H locs hwp hM hS => ?_)
        refine lv_istore (lv' := [(6, .int r139), (5, .int r132), (0, .ref b), (1, .ref x1), (2, .ref x2), (3, .ref x3), (4, .int x4)]) hx hb d_La_law_531 hl (by decide) rfl (fun ls hl => ?_)
        refine lv_aload_n hx hb d_La_law_533 rfl (lv_at hl 4 rfl) ?_
        obtain ⟨hc142, hs143, hwp⟩ := hwp
        obtain ⟨ho141, hwp⟩ := hwp
        refine h_calli hM hS hA (va_runV (As := []) (rest := []) ⟨hx, hb, hml, hown, hts⟩ (metMo_thrown l D κ H.size x2 M135 _ hwp) (cwV 0 hts (gV kw_829 kw_830 kw_831 kw_8 kw_832) rfl rfl rfl (by decide +kernel) ⟨(Nat.le_of_ble_eq_true rfl), (Nat.le_of_ble_eq_true rfl)⟩) (h_preV hE hM hS ho141 (r := ("BuckTablesModel", Tc6, 36)) rfl) rfl rfl hl.1 rfl (lv_room (Nat.le_of_ble_eq_true rfl)) d_La_law_534 ⟨hc142, hs143⟩) (fun r144 M140 H locs hwp hM hS => ?_)
        refine lv_iload hx hb d_La_law_537 (lv_at hl 1 rfl) ?_
        refine lv_icmp_eq (tgt := 544) hx hb d_La_law_539 (by decide) (fun c145 => ?_) (fun c145 => ?_)
        · replace hwp := hwp.1 c145
          refine lv_iload hx hb d_La_law_544 (lv_at hl 1 rfl) ?_
          refine lv_if_ne (tgt := 568) hx hb d_La_law_546 (by decide) (fun c146 => ?_) (fun c146 => ?_)
          · replace hwp := hwp.2 c146
            exact tLa_law_568 C hst post hscr (wLa_law_33 post n) ih x1 x2 x3 x4 (((kc + 2) + 0) + 0) (((ks + 12) + 0) + 0) M140 hwp H locs ls hM hS (lv_sub hl [2, 3, 4, 5, 6] rfl)
          · replace hwp := hwp.1 c146
            refine lv_aload_n hx hb d_La_law_549 rfl (lv_at hl 5 rfl) ?_
            refine lv_iconst (v := 0) hx hb d_La_law_550 (by decide) ?_
            obtain ⟨v147, ⟨n148, f149, ha150, hi151, ev147⟩, hwp⟩ := hwp
            refine h_lald hx hb hK hM ha150 rfl hi151 d_La_law_551 ?_
            rw [← ev147]
            refine lv_iload hx hb d_La_law_552 (lv_at hl 0 rfl) ?_
            refine lv_if_eq (tgt := 561) hx hb d_La_law_554 (by decide) (fun c152 => ?_) (fun c152 => ?_)
            · replace hwp := hwp.1 c152
              refine lv_lconst (v := 0) hx hb d_La_law_561 (by decide) ?_
              exact tLa_law_562 C hst post hscr (wLa_law_33 post n) ih x1 x2 x3 x4 (0 : Int64) v147 (((kc + 2) + 0) + 0) (((ks + 12) + 0) + 0) M140 hwp H locs ls hM hS (lv_sub hl [2, 3, 4, 5, 6] rfl)
            · replace hwp := hwp.2 c152
              refine lv_lconst (v := 1) hx hb d_La_law_557 (by decide) ?_
              refine lv_goto (tgt := 562) hx hb d_La_law_558 (by decide) ?_
              exact tLa_law_562 C hst post hscr (wLa_law_33 post n) ih x1 x2 x3 x4 (1 : Int64) v147 (((kc + 2) + 0) + 0) (((ks + 12) + 0) + 0) M140 hwp H locs ls hM hS (lv_sub hl [2, 3, 4, 5, 6] rfl)
        · replace hwp := hwp.2 c145
          refine lv_iconst (v := 0) hx hb d_La_law_542 (by decide) ?_
          exact hwp.elim
      · replace hwp := hwp.2.2.2.2.2.1 hk9
        refine lv_tableIn (tgt := 571) hx hb d_La_law_50 (by omega) (by omega) (show _ = some (521 : Int) by rw [hk9]; rfl) (by decide) ?_
        refine lv_aload_n hx hb d_La_law_571 rfl (lv_at hl 1 rfl) ?_
        refine lv_aload_n hx hb d_La_law_572 rfl (lv_at hl 0 rfl) ?_
        refine lv_iload hx hb d_La_law_573 (lv_at hl 4 rfl) ?_
        refine lv_iconst (v := 1) hx hb d_La_law_575 (by decide) ?_
        refine lv_iadd hx hb d_La_law_576 ?_
        obtain ⟨hi153, hwp⟩ := hwp
        refine va_sld hx hb hscr.1 hscr.2.1 hscr.2.2 hS hi153 d_La_law_577 ?_
        refine lv_aload_n hx hb d_La_law_578 rfl (lv_at hl 3 rfl) ?_
        obtain ⟨hc155, hs156, hwp⟩ := hwp
        refine h_calli hM hS hA (z_runS (n := 3) (As := [.ref x1, .int (post.2 (x4 + (1 : Int32)).toNatClampNeg), .ref x3]) (rest := []) ⟨hx, hb, hml, hown, hts⟩ (metLa_force l hst D κ H.size x1 (post.2 (x4 + (1 : Int32)).toNatClampNeg) x3 M _ hwp) (pay_in hts (gcons kw_513 wg_good)) List.mem_cons_self rfl rfl ⟨(Nat.le_of_ble_eq_true rfl), (Nat.le_of_ble_eq_true rfl)⟩ (hts _ kw_511) (hts _ kw_512) (hts _ kw_0) (by decide +kernel) (z_preS hE hNc hM hS) rfl rfl hl.1 rfl (lv_room (Nat.le_of_ble_eq_true rfl)) d_La_law_579 ⟨hc155, hs156⟩) (fun r157 M154 H locs hwp hM hS => ?_)
        refine lv_istore (lv' := [(5, .int r157), (0, .ref b), (1, .ref x1), (2, .ref x2), (3, .ref x3), (4, .int x4)]) hx hb d_La_law_582 hl (by decide) rfl (fun ls hl => ?_)
        refine lv_aload_n hx hb d_La_law_584 rfl (lv_at hl 3 rfl) ?_
        refine lv_aload_n hx hb d_La_law_585 rfl (lv_at hl 1 rfl) ?_
        refine lv_iload hx hb d_La_law_586 (lv_at hl 5 rfl) ?_
        refine lv_iconst (v := 1) hx hb d_La_law_588 (by decide) ?_
        refine lv_iadd hx hb d_La_law_589 ?_
        obtain ⟨hi158, hwp⟩ := hwp
        refine va_sld hx hb hscr.1 hscr.2.1 hscr.2.2 hS hi158 d_La_law_590 ?_
        obtain ⟨hc161, hs162, hwp⟩ := hwp
        obtain ⟨ho160, hwp⟩ := hwp
        refine h_calli hM hS hA (va_runV (As := [.int (post.2 (x4 + (1 : Int32)).toNatClampNeg)]) (rest := []) ⟨hx, hb, hml, hown, hts⟩ (metMo_force l D κ H.size x2 (post.2 (x4 + (1 : Int32)).toNatClampNeg) M154 _ hwp) (cwV 1 hts (gV kw_867 kw_868 kw_869 kw_8 kw_870) rfl rfl rfl (by decide +kernel) ⟨(Nat.le_of_ble_eq_true rfl), (Nat.le_of_ble_eq_true rfl)⟩) (h_preV hE hM hS ho160 (r := ("BuckTablesModel", Tc6, 36)) rfl) rfl rfl hl.1 rfl (lv_room (Nat.le_of_ble_eq_true rfl)) d_La_law_591 ⟨hc161, hs162⟩) (fun r163 M159 H locs hwp hM hS => ?_)
        refine lv_istore (lv' := [(6, .int r163), (5, .int r157), (0, .ref b), (1, .ref x1), (2, .ref x2), (3, .ref x3), (4, .int x4)]) hx hb d_La_law_594 hl (by decide) rfl (fun ls hl => ?_)
        refine lv_aload_n hx hb d_La_law_596 rfl (lv_at hl 4 rfl) ?_
        obtain ⟨hc166, hs167, hwp⟩ := hwp
        obtain ⟨ho165, hwp⟩ := hwp
        refine h_calli hM hS hA (va_runV (As := []) (rest := []) ⟨hx, hb, hml, hown, hts⟩ (metMo_thrown l D κ H.size x2 M159 _ hwp) (cwV 0 hts (gV kw_829 kw_830 kw_831 kw_8 kw_832) rfl rfl rfl (by decide +kernel) ⟨(Nat.le_of_ble_eq_true rfl), (Nat.le_of_ble_eq_true rfl)⟩) (h_preV hE hM hS ho165 (r := ("BuckTablesModel", Tc6, 36)) rfl) rfl rfl hl.1 rfl (lv_room (Nat.le_of_ble_eq_true rfl)) d_La_law_597 ⟨hc166, hs167⟩) (fun r168 M164 H locs hwp hM hS => ?_)
        refine lv_iload hx hb d_La_law_600 (lv_at hl 1 rfl) ?_
        refine lv_icmp_eq (tgt := 607) hx hb d_La_law_602 (by decide) (fun c169 => ?_) (fun c169 => ?_)
        · replace hwp := hwp.1 c169
          refine lv_iload hx hb d_La_law_607 (lv_at hl 1 rfl) ?_
          refine lv_if_ne (tgt := 631) hx hb d_La_law_609 (by decide) (fun c170 => ?_) (fun c170 => ?_)
          · replace hwp := hwp.2 c170
            exact tLa_law_631 C hst post hscr (wLa_law_33 post n) ih x1 x2 x3 x4 (((kc + 1) + 0) + 0) (((ks + 6) + 0) + 0) M164 hwp H locs ls hM hS (lv_sub hl [2, 3, 4, 5, 6] rfl)
          · replace hwp := hwp.1 c170
            refine lv_aload_n hx hb d_La_law_612 rfl (lv_at hl 5 rfl) ?_
            refine lv_iconst (v := 0) hx hb d_La_law_613 (by decide) ?_
            obtain ⟨v171, ⟨n172, f173, ha174, hi175, ev171⟩, hwp⟩ := hwp
            refine h_lald hx hb hK hM ha174 rfl hi175 d_La_law_614 ?_
            rw [← ev171]
            refine lv_iload hx hb d_La_law_615 (lv_at hl 0 rfl) ?_
            refine lv_if_eq (tgt := 624) hx hb d_La_law_617 (by decide) (fun c176 => ?_) (fun c176 => ?_)
            · replace hwp := hwp.1 c176
              refine lv_lconst (v := 0) hx hb d_La_law_624 (by decide) ?_
              exact tLa_law_625 C hst post hscr (wLa_law_33 post n) ih x1 x2 x3 x4 (0 : Int64) v171 (((kc + 1) + 0) + 0) (((ks + 6) + 0) + 0) M164 hwp H locs ls hM hS (lv_sub hl [2, 3, 4, 5, 6] rfl)
            · replace hwp := hwp.2 c176
              refine lv_lconst (v := 1) hx hb d_La_law_620 (by decide) ?_
              refine lv_goto (tgt := 625) hx hb d_La_law_621 (by decide) ?_
              exact tLa_law_625 C hst post hscr (wLa_law_33 post n) ih x1 x2 x3 x4 (1 : Int64) v171 (((kc + 1) + 0) + 0) (((ks + 6) + 0) + 0) M164 hwp H locs ls hM hS (lv_sub hl [2, 3, 4, 5, 6] rfl)
        · replace hwp := hwp.2 c169
          refine lv_iconst (v := 0) hx hb d_La_law_605 (by decide) ?_
          exact hwp.elim
      · replace hwp := hwp.2.2.2.2.2.2.1 hk9
        refine lv_tableIn (tgt := 634) hx hb d_La_law_50 (by omega) (by omega) (show _ = some (584 : Int) by rw [hk9]; rfl) (by decide) ?_
        refine lv_aload_n hx hb d_La_law_634 rfl (lv_at hl 1 rfl) ?_
        refine lv_aload_n hx hb d_La_law_635 rfl (lv_at hl 0 rfl) ?_
        refine lv_iload hx hb d_La_law_636 (lv_at hl 4 rfl) ?_
        refine lv_iconst (v := 1) hx hb d_La_law_638 (by decide) ?_
        refine lv_iadd hx hb d_La_law_639 ?_
        obtain ⟨hi177, hwp⟩ := hwp
        refine va_sld hx hb hscr.1 hscr.2.1 hscr.2.2 hS hi177 d_La_law_640 ?_
        refine lv_aload_n hx hb d_La_law_641 rfl (lv_at hl 3 rfl) ?_
        obtain ⟨hc179, hs180, hwp⟩ := hwp
        refine h_calli hM hS hA (z_runS (n := 3) (As := [.ref x1, .int (post.2 (x4 + (1 : Int32)).toNatClampNeg), .ref x3]) (rest := []) ⟨hx, hb, hml, hown, hts⟩ (metLa_margin l hst D κ H.size x1 (post.2 (x4 + (1 : Int32)).toNatClampNeg) x3 M _ hwp) (pay_in hts (gcons kw_529 wg_good)) List.mem_cons_self rfl rfl ⟨(Nat.le_of_ble_eq_true rfl), (Nat.le_of_ble_eq_true rfl)⟩ (hts _ kw_527) (hts _ kw_528) (hts _ kw_0) (by decide +kernel) (z_preS hE hNc hM hS) rfl rfl hl.1 rfl (lv_room (Nat.le_of_ble_eq_true rfl)) d_La_law_642 ⟨hc179, hs180⟩) (fun r181 M178 H locs hwp hM hS => ?_)
        refine lv_istore (lv' := [(5, .int r181), (0, .ref b), (1, .ref x1), (2, .ref x2), (3, .ref x3), (4, .int x4)]) hx hb d_La_law_645 hl (by decide) rfl (fun ls hl => ?_)
        refine lv_aload_n hx hb d_La_law_647 rfl (lv_at hl 3 rfl) ?_
        refine lv_aload_n hx hb d_La_law_648 rfl (lv_at hl 1 rfl) ?_
        refine lv_iload hx hb d_La_law_649 (lv_at hl 5 rfl) ?_
        refine lv_iconst (v := 1) hx hb d_La_law_651 (by decide) ?_
        refine lv_iadd hx hb d_La_law_652 ?_
        obtain ⟨hi182, hwp⟩ := hwp
        refine va_sld hx hb hscr.1 hscr.2.1 hscr.2.2 hS hi182 d_La_law_653 ?_
        obtain ⟨hc185, hs186, hwp⟩ := hwp
        obtain ⟨ho184, hwp⟩ := hwp
        refine h_calli hM hS hA (va_runV (As := [.int (post.2 (x4 + (1 : Int32)).toNatClampNeg)]) (rest := []) ⟨hx, hb, hml, hown, hts⟩ (metMo_margin l D κ H.size x2 (post.2 (x4 + (1 : Int32)).toNatClampNeg) M178 _ hwp) (cwV 1 hts (gV kw_879 kw_880 kw_881 kw_8 kw_882) rfl rfl rfl (by decide +kernel) ⟨(Nat.le_of_ble_eq_true rfl), (Nat.le_of_ble_eq_true rfl)⟩) (h_preV hE hM hS ho184 (r := ("BuckTablesModel", Tc6, 36)) rfl) rfl rfl hl.1 rfl (lv_room (Nat.le_of_ble_eq_true rfl)) d_La_law_654 ⟨hc185, hs186⟩) (fun r187 M183 H locs hwp hM hS => ?_)
        refine lv_istore (lv' := [(6, .int r187), (5, .int r181), (0, .ref b), (1, .ref x1), (2, .ref x2), (3, .ref x3), (4, .int x4)]) hx hb d_La_law_657 hl (by decide) rfl (fun ls hl => ?_)
        refine lv_aload_n hx hb d_La_law_659 rfl (lv_at hl 4 rfl) ?_
        obtain ⟨hc190, hs191, hwp⟩ := hwp
        obtain ⟨ho189, hwp⟩ := hwp
        refine h_calli hM hS hA (va_runV (As := []) (rest := []) ⟨hx, hb, hml, hown, hts⟩ (metMo_thrown l D κ H.size x2 M183 _ hwp) (cwV 0 hts (gV kw_829 kw_830 kw_831 kw_8 kw_832) rfl rfl rfl (by decide +kernel) ⟨(Nat.le_of_ble_eq_true rfl), (Nat.le_of_ble_eq_true rfl)⟩) (h_preV hE hM hS ho189 (r := ("BuckTablesModel", Tc6, 36)) rfl) rfl rfl hl.1 rfl (lv_room (Nat.le_of_ble_eq_true rfl)) d_La_law_660 ⟨hc190, hs191⟩) (fun r192 M188 H locs hwp hM hS => ?_)
        refine lv_iload hx hb d_La_law_663 (lv_at hl 1 rfl) ?_
        refine lv_icmp_eq (tgt := 670) hx hb d_La_law_665 (by decide) (fun c193 => ?_) (fun c193 => ?_)
        · replace hwp := hwp.1 c193
          refine lv_iload hx hb d_La_law_670 (lv_at hl 1 rfl) ?_
          refine lv_if_ne (tgt := 694) hx hb d_La_law_672 (by decide) (fun c194 => ?_) (fun c194 => ?_)
          · replace hwp := hwp.2 c194
            exact tLa_law_694 C hst post hscr (wLa_law_33 post n) ih x1 x2 x3 x4 (((kc + 1) + 0) + 0) (((ks + 6) + 0) + 0) M188 hwp H locs ls hM hS (lv_sub hl [2, 3, 4, 5, 6] rfl)
          · replace hwp := hwp.1 c194
            refine lv_aload_n hx hb d_La_law_675 rfl (lv_at hl 5 rfl) ?_
            refine lv_iconst (v := 0) hx hb d_La_law_676 (by decide) ?_
            obtain ⟨v195, ⟨n196, f197, ha198, hi199, ev195⟩, hwp⟩ := hwp
            refine h_lald hx hb hK hM ha198 rfl hi199 d_La_law_677 ?_
            rw [← ev195]
            refine lv_iload hx hb d_La_law_678 (lv_at hl 0 rfl) ?_
            refine lv_if_eq (tgt := 687) hx hb d_La_law_680 (by decide) (fun c200 => ?_) (fun c200 => ?_)
            · replace hwp := hwp.1 c200
              refine lv_lconst (v := 0) hx hb d_La_law_687 (by decide) ?_
              exact tLa_law_688 C hst post hscr (wLa_law_33 post n) ih x1 x2 x3 x4 (0 : Int64) v195 (((kc + 1) + 0) + 0) (((ks + 6) + 0) + 0) M188 hwp H locs ls hM hS (lv_sub hl [2, 3, 4, 5, 6] rfl)
            · replace hwp := hwp.2 c200
              refine lv_lconst (v := 1) hx hb d_La_law_683 (by decide) ?_
              refine lv_goto (tgt := 688) hx hb d_La_law_684 (by decide) ?_
              exact tLa_law_688 C hst post hscr (wLa_law_33 post n) ih x1 x2 x3 x4 (1 : Int64) v195 (((kc + 1) + 0) + 0) (((ks + 6) + 0) + 0) M188 hwp H locs ls hM hS (lv_sub hl [2, 3, 4, 5, 6] rfl)
        · replace hwp := hwp.2 c193
          refine lv_iconst (v := 0) hx hb d_La_law_668 (by decide) ?_
          exact hwp.elim
      · replace hwp := hwp.2.2.2.2.2.2.2.1 hk9
        refine lv_tableIn (tgt := 697) hx hb d_La_law_50 (by omega) (by omega) (show _ = some (647 : Int) by rw [hk9]; rfl) (by decide) ?_
        refine lv_aload_n hx hb d_La_law_697 rfl (lv_at hl 1 rfl) ?_
        refine lv_aload_n hx hb d_La_law_698 rfl (lv_at hl 0 rfl) ?_
        refine lv_iload hx hb d_La_law_699 (lv_at hl 4 rfl) ?_
        refine lv_iconst (v := 1) hx hb d_La_law_701 (by decide) ?_
        refine lv_iadd hx hb d_La_law_702 ?_
        obtain ⟨hi201, hwp⟩ := hwp
        refine va_sld hx hb hscr.1 hscr.2.1 hscr.2.2 hS hi201 d_La_law_703 ?_
        refine lv_aload_n hx hb d_La_law_704 rfl (lv_at hl 3 rfl) ?_
        obtain ⟨hc203, hs204, hwp⟩ := hwp
        refine h_calli hM hS hA (z_runS (n := 3) (As := [.ref x1, .int (post.2 (x4 + (1 : Int32)).toNatClampNeg), .ref x3]) (rest := []) ⟨hx, hb, hml, hown, hts⟩ (metLa_saw l hst D κ H.size x1 (post.2 (x4 + (1 : Int32)).toNatClampNeg) x3 M _ hwp) (pay_in hts (gcons kw_537 wg_good)) List.mem_cons_self rfl rfl ⟨(Nat.le_of_ble_eq_true rfl), (Nat.le_of_ble_eq_true rfl)⟩ (hts _ kw_535) (hts _ kw_536) (hts _ kw_0) (by decide +kernel) (z_preS hE hNc hM hS) rfl rfl hl.1 rfl (lv_room (Nat.le_of_ble_eq_true rfl)) d_La_law_705 ⟨hc203, hs204⟩) (fun r205 M202 H locs hwp hM hS => ?_)
        refine lv_istore (lv' := [(5, .int r205), (0, .ref b), (1, .ref x1), (2, .ref x2), (3, .ref x3), (4, .int x4)]) hx hb d_La_law_708 hl (by decide) rfl (fun ls hl => ?_)
        refine lv_aload_n hx hb d_La_law_710 rfl (lv_at hl 3 rfl) ?_
        refine lv_aload_n hx hb d_La_law_711 rfl (lv_at hl 1 rfl) ?_
        refine lv_iload hx hb d_La_law_712 (lv_at hl 5 rfl) ?_
        refine lv_iconst (v := 1) hx hb d_La_law_714 (by decide) ?_
        refine lv_iadd hx hb d_La_law_715 ?_
        obtain ⟨hi206, hwp⟩ := hwp
        refine va_sld hx hb hscr.1 hscr.2.1 hscr.2.2 hS hi206 d_La_law_716 ?_
        obtain ⟨hc209, hs210, hwp⟩ := hwp
        obtain ⟨ho208, hwp⟩ := hwp
        refine h_calli hM hS hA (va_runV (As := [.int (post.2 (x4 + (1 : Int32)).toNatClampNeg)]) (rest := []) ⟨hx, hb, hml, hown, hts⟩ (metMo_saw l D κ H.size x2 (post.2 (x4 + (1 : Int32)).toNatClampNeg) M202 _ hwp) (cwV 1 hts (gV kw_883 kw_884 kw_885 kw_8 kw_886) rfl rfl rfl (by decide +kernel) ⟨(Nat.le_of_ble_eq_true rfl), (Nat.le_of_ble_eq_true rfl)⟩) (h_preV hE hM hS ho208 (r := ("BuckTablesModel", Tc6, 36)) rfl) rfl rfl hl.1 rfl (lv_room (Nat.le_of_ble_eq_true rfl)) d_La_law_717 ⟨hc209, hs210⟩) (fun r211 M207 H locs hwp hM hS => ?_)
        refine lv_istore (lv' := [(6, .int r211), (5, .int r205), (0, .ref b), (1, .ref x1), (2, .ref x2), (3, .ref x3), (4, .int x4)]) hx hb d_La_law_720 hl (by decide) rfl (fun ls hl => ?_)
        refine lv_aload_n hx hb d_La_law_722 rfl (lv_at hl 4 rfl) ?_
        obtain ⟨hc214, hs215, hwp⟩ := hwp
        obtain ⟨ho213, hwp⟩ := hwp
        refine h_calli hM hS hA (va_runV (As := []) (rest := []) ⟨hx, hb, hml, hown, hts⟩ (metMo_thrown l D κ H.size x2 M207 _ hwp) (cwV 0 hts (gV kw_829 kw_830 kw_831 kw_8 kw_832) rfl rfl rfl (by decide +kernel) ⟨(Nat.le_of_ble_eq_true rfl), (Nat.le_of_ble_eq_true rfl)⟩) (h_preV hE hM hS ho213 (r := ("BuckTablesModel", Tc6, 36)) rfl) rfl rfl hl.1 rfl (lv_room (Nat.le_of_ble_eq_true rfl)) d_La_law_723 ⟨hc214, hs215⟩) (fun r216 M212 H locs hwp hM hS => ?_)
        refine lv_iload hx hb d_La_law_726 (lv_at hl 1 rfl) ?_
        refine lv_icmp_eq (tgt := 733) hx hb d_La_law_728 (by decide) (fun c217 => ?_) (fun c217 => ?_)
        · replace hwp := hwp.1 c217
          refine lv_iload hx hb d_La_law_733 (lv_at hl 1 rfl) ?_
          refine lv_if_ne (tgt := 757) hx hb d_La_law_735 (by decide) (fun c218 => ?_) (fun c218 => ?_)
          · replace hwp := hwp.2 c218
            exact tLa_law_757 C hst post hscr (wLa_law_33 post n) ih x1 x2 x3 x4 (((kc + 1) + 0) + 0) (((ks + 6) + 0) + 0) M212 hwp H locs ls hM hS (lv_sub hl [2, 3, 4, 5, 6] rfl)
          · replace hwp := hwp.1 c218
            refine lv_aload_n hx hb d_La_law_738 rfl (lv_at hl 5 rfl) ?_
            refine lv_iconst (v := 0) hx hb d_La_law_739 (by decide) ?_
            obtain ⟨v219, ⟨n220, f221, ha222, hi223, ev219⟩, hwp⟩ := hwp
            refine h_lald hx hb hK hM ha222 rfl hi223 d_La_law_740 ?_
            rw [← ev219]
            refine lv_iload hx hb d_La_law_741 (lv_at hl 0 rfl) ?_
            refine lv_if_eq (tgt := 750) hx hb d_La_law_743 (by decide) (fun c224 => ?_) (fun c224 => ?_)
            · replace hwp := hwp.1 c224
              refine lv_lconst (v := 0) hx hb d_La_law_750 (by decide) ?_
              exact tLa_law_751 C hst post hscr (wLa_law_33 post n) ih x1 x2 x3 x4 (0 : Int64) v219 (((kc + 1) + 0) + 0) (((ks + 6) + 0) + 0) M212 hwp H locs ls hM hS (lv_sub hl [2, 3, 4, 5, 6] rfl)
            · replace hwp := hwp.2 c224
              refine lv_lconst (v := 1) hx hb d_La_law_746 (by decide) ?_
              refine lv_goto (tgt := 751) hx hb d_La_law_747 (by decide) ?_
              exact tLa_law_751 C hst post hscr (wLa_law_33 post n) ih x1 x2 x3 x4 (1 : Int64) v219 (((kc + 1) + 0) + 0) (((ks + 6) + 0) + 0) M212 hwp H locs ls hM hS (lv_sub hl [2, 3, 4, 5, 6] rfl)
        · replace hwp := hwp.2 c217
          refine lv_iconst (v := 0) hx hb d_La_law_731 (by decide) ?_
          exact hwp.elim
      · replace hwp := hwp.2.2.2.2.2.2.2.2.1 hk9
        refine lv_tableIn (tgt := 760) hx hb d_La_law_50 (by omega) (by omega) (show _ = some (710 : Int) by rw [hk9]; rfl) (by decide) ?_
        refine lv_aload_n hx hb d_La_law_760 rfl (lv_at hl 1 rfl) ?_
        refine lv_aload_n hx hb d_La_law_761 rfl (lv_at hl 0 rfl) ?_
        refine lv_iload hx hb d_La_law_762 (lv_at hl 4 rfl) ?_
        refine lv_iconst (v := 1) hx hb d_La_law_764 (by decide) ?_
        refine lv_iadd hx hb d_La_law_765 ?_
        obtain ⟨hi225, hwp⟩ := hwp
        refine va_sld hx hb hscr.1 hscr.2.1 hscr.2.2 hS hi225 d_La_law_766 ?_
        refine lv_aload_n hx hb d_La_law_767 rfl (lv_at hl 0 rfl) ?_
        refine lv_iload hx hb d_La_law_768 (lv_at hl 4 rfl) ?_
        refine lv_iconst (v := 2) hx hb d_La_law_770 (by decide) ?_
        refine lv_iadd hx hb d_La_law_771 ?_
        obtain ⟨hi226, hwp⟩ := hwp
        refine va_sld hx hb hscr.1 hscr.2.1 hscr.2.2 hS hi226 d_La_law_772 ?_
        refine lv_i2l hx hb d_La_law_773 rfl ?_
        refine lv_bipush (v := 32) hx hb d_La_law_774 (by decide) ?_
        refine lv_lshl hx hb d_La_law_776 rfl ?_
        refine lv_aload_n hx hb d_La_law_777 rfl (lv_at hl 0 rfl) ?_
        refine lv_iload hx hb d_La_law_778 (lv_at hl 4 rfl) ?_
        refine lv_iconst (v := 3) hx hb d_La_law_780 (by decide) ?_
        refine lv_iadd hx hb d_La_law_781 ?_
        obtain ⟨hi227, hwp⟩ := hwp
        refine va_sld hx hb hscr.1 hscr.2.1 hscr.2.2 hS hi227 d_La_law_782 ?_
        refine lv_i2l hx hb d_La_law_783 rfl ?_
        refine lv_ldc2 (v := (4294967295)) hx hb hown (hts _ kw_1026) d_La_law_784 ?_
        refine lv_land hx hb d_La_law_787 ?_
        refine lv_lor hx hb d_La_law_788 ?_
        refine lv_aload_n hx hb d_La_law_789 rfl (lv_at hl 3 rfl) ?_
        obtain ⟨hc229, hs230, hwp⟩ := hwp
        refine h_calli hM hS hA (z_runS (n := 4) (As := [.ref x1, .int (post.2 (x4 + (1 : Int32)).toNatClampNeg), .long ((((post.2 (x4 + (2 : Int32)).toNatClampNeg).toInt64) <<< ((32 : Int32).toInt64 &&& 63)) ||| (((post.2 (x4 + (3 : Int32)).toNatClampNeg).toInt64) &&& (4294967295 : Int64))), .ref x3]) (rest := []) ⟨hx, hb, hml, hown, hts⟩ (metLa_limit l hst D κ H.size x1 (post.2 (x4 + (1 : Int32)).toNatClampNeg) ((((post.2 (x4 + (2 : Int32)).toNatClampNeg).toInt64) <<< ((32 : Int32).toInt64 &&& 63)) ||| (((post.2 (x4 + (3 : Int32)).toNatClampNeg).toInt64) &&& (4294967295 : Int64))) x3 M _ hwp) (pay_in hts (gcons kw_546 wg_good)) List.mem_cons_self rfl rfl ⟨(Nat.le_of_ble_eq_true rfl), (Nat.le_of_ble_eq_true rfl)⟩ (hts _ kw_544) (hts _ kw_545) (hts _ kw_0) (by decide +kernel) (z_preS hE hNc hM hS) rfl rfl hl.1 rfl (lv_room (Nat.le_of_ble_eq_true rfl)) d_La_law_790 ⟨hc229, hs230⟩) (fun r231 M228 H locs hwp hM hS => ?_)
        refine lv_istore (lv' := [(5, .int r231), (0, .ref b), (1, .ref x1), (2, .ref x2), (3, .ref x3), (4, .int x4)]) hx hb d_La_law_793 hl (by decide) rfl (fun ls hl => ?_)
        refine lv_aload_n hx hb d_La_law_795 rfl (lv_at hl 3 rfl) ?_
        refine lv_aload_n hx hb d_La_law_796 rfl (lv_at hl 1 rfl) ?_
        refine lv_iload hx hb d_La_law_797 (lv_at hl 5 rfl) ?_
        refine lv_iconst (v := 1) hx hb d_La_law_799 (by decide) ?_
        refine lv_iadd hx hb d_La_law_800 ?_
        obtain ⟨hi232, hwp⟩ := hwp
        refine va_sld hx hb hscr.1 hscr.2.1 hscr.2.2 hS hi232 d_La_law_801 ?_
        refine lv_aload_n hx hb d_La_law_802 rfl (lv_at hl 1 rfl) ?_
        refine lv_iload hx hb d_La_law_803 (lv_at hl 5 rfl) ?_
        refine lv_iconst (v := 2) hx hb d_La_law_805 (by decide) ?_
        refine lv_iadd hx hb d_La_law_806 ?_
        obtain ⟨hi233, hwp⟩ := hwp
        refine va_sld hx hb hscr.1 hscr.2.1 hscr.2.2 hS hi233 d_La_law_807 ?_
        refine lv_i2l hx hb d_La_law_808 rfl ?_
        refine lv_bipush (v := 32) hx hb d_La_law_809 (by decide) ?_
        refine lv_lshl hx hb d_La_law_811 rfl ?_
        refine lv_aload_n hx hb d_La_law_812 rfl (lv_at hl 1 rfl) ?_
        refine lv_iload hx hb d_La_law_813 (lv_at hl 5 rfl) ?_
        refine lv_iconst (v := 3) hx hb d_La_law_815 (by decide) ?_
        refine lv_iadd hx hb d_La_law_816 ?_
        obtain ⟨hi234, hwp⟩ := hwp
        refine va_sld hx hb hscr.1 hscr.2.1 hscr.2.2 hS hi234 d_La_law_817 ?_
        refine lv_i2l hx hb d_La_law_818 rfl ?_
        refine lv_ldc2 (v := (4294967295)) hx hb hown (hts _ kw_1026) d_La_law_819 ?_
        refine lv_land hx hb d_La_law_822 ?_
        refine lv_lor hx hb d_La_law_823 ?_
        obtain ⟨hc237, hs238, hwp⟩ := hwp
        obtain ⟨ho236, hwp⟩ := hwp
        refine h_calli hM hS hA (va_runV (As := [.int (post.2 (x4 + (1 : Int32)).toNatClampNeg), .long ((((post.2 (x4 + (2 : Int32)).toNatClampNeg).toInt64) <<< ((32 : Int32).toInt64 &&& 63)) ||| (((post.2 (x4 + (3 : Int32)).toNatClampNeg).toInt64) &&& (4294967295 : Int64)))]) (rest := []) ⟨hx, hb, hml, hown, hts⟩ (metMo_limit l D κ H.size x2 (post.2 (x4 + (1 : Int32)).toNatClampNeg) ((((post.2 (x4 + (2 : Int32)).toNatClampNeg).toInt64) <<< ((32 : Int32).toInt64 &&& 63)) ||| (((post.2 (x4 + (3 : Int32)).toNatClampNeg).toInt64) &&& (4294967295 : Int64))) M228 _ hwp) (cwV 2 hts (gV kw_888 kw_889 kw_890 kw_8 kw_891) rfl rfl rfl (by decide +kernel) ⟨(Nat.le_of_ble_eq_true rfl), (Nat.le_of_ble_eq_true rfl)⟩) (h_preV hE hM hS ho236 (r := ("BuckTablesModel", Tc6, 36)) rfl) rfl rfl hl.1 rfl (lv_room (Nat.le_of_ble_eq_true rfl)) d_La_law_824 ⟨hc237, hs238⟩) (fun r239 M235 H locs hwp hM hS => ?_)
        refine lv_istore (lv' := [(6, .int r239), (5, .int r231), (0, .ref b), (1, .ref x1), (2, .ref x2), (3, .ref x3), (4, .int x4)]) hx hb d_La_law_827 hl (by decide) rfl (fun ls hl => ?_)
        refine lv_aload_n hx hb d_La_law_829 rfl (lv_at hl 4 rfl) ?_
        obtain ⟨hc242, hs243, hwp⟩ := hwp
        obtain ⟨ho241, hwp⟩ := hwp
        refine h_calli hM hS hA (va_runV (As := []) (rest := []) ⟨hx, hb, hml, hown, hts⟩ (metMo_thrown l D κ H.size x2 M235 _ hwp) (cwV 0 hts (gV kw_829 kw_830 kw_831 kw_8 kw_832) rfl rfl rfl (by decide +kernel) ⟨(Nat.le_of_ble_eq_true rfl), (Nat.le_of_ble_eq_true rfl)⟩) (h_preV hE hM hS ho241 (r := ("BuckTablesModel", Tc6, 36)) rfl) rfl rfl hl.1 rfl (lv_room (Nat.le_of_ble_eq_true rfl)) d_La_law_830 ⟨hc242, hs243⟩) (fun r244 M240 H locs hwp hM hS => ?_)
        refine lv_iload hx hb d_La_law_833 (lv_at hl 1 rfl) ?_
        refine lv_icmp_eq (tgt := 840) hx hb d_La_law_835 (by decide) (fun c245 => ?_) (fun c245 => ?_)
        · replace hwp := hwp.1 c245
          refine lv_iload hx hb d_La_law_840 (lv_at hl 1 rfl) ?_
          refine lv_if_ne (tgt := 864) hx hb d_La_law_842 (by decide) (fun c246 => ?_) (fun c246 => ?_)
          · replace hwp := hwp.2 c246
            exact tLa_law_864 C hst post hscr (wLa_law_33 post n) ih x1 x2 x3 x4 (((kc + 2) + 0) + 0) (((ks + 12) + 0) + 0) M240 hwp H locs ls hM hS (lv_sub hl [2, 3, 4, 5, 6] rfl)
          · replace hwp := hwp.1 c246
            refine lv_aload_n hx hb d_La_law_845 rfl (lv_at hl 5 rfl) ?_
            refine lv_iconst (v := 0) hx hb d_La_law_846 (by decide) ?_
            obtain ⟨v247, ⟨n248, f249, ha250, hi251, ev247⟩, hwp⟩ := hwp
            refine h_lald hx hb hK hM ha250 rfl hi251 d_La_law_847 ?_
            rw [← ev247]
            refine lv_iload hx hb d_La_law_848 (lv_at hl 0 rfl) ?_
            refine lv_if_eq (tgt := 857) hx hb d_La_law_850 (by decide) (fun c252 => ?_) (fun c252 => ?_)
            · replace hwp := hwp.1 c252
              refine lv_lconst (v := 0) hx hb d_La_law_857 (by decide) ?_
              exact tLa_law_858 C hst post hscr (wLa_law_33 post n) ih x1 x2 x3 x4 (0 : Int64) v247 (((kc + 2) + 0) + 0) (((ks + 12) + 0) + 0) M240 hwp H locs ls hM hS (lv_sub hl [2, 3, 4, 5, 6] rfl)
            · replace hwp := hwp.2 c252
              refine lv_lconst (v := 1) hx hb d_La_law_853 (by decide) ?_
              refine lv_goto (tgt := 858) hx hb d_La_law_854 (by decide) ?_
              exact tLa_law_858 C hst post hscr (wLa_law_33 post n) ih x1 x2 x3 x4 (1 : Int64) v247 (((kc + 2) + 0) + 0) (((ks + 12) + 0) + 0) M240 hwp H locs ls hM hS (lv_sub hl [2, 3, 4, 5, 6] rfl)
        · replace hwp := hwp.2 c245
          refine lv_iconst (v := 0) hx hb d_La_law_838 (by decide) ?_
          exact hwp.elim
      · replace hwp := hwp.2.2.2.2.2.2.2.2.2.1 hk9
        refine lv_tableIn (tgt := 867) hx hb d_La_law_50 (by omega) (by omega) (show _ = some (817 : Int) by rw [hk9]; rfl) (by decide) ?_
        refine lv_aload_n hx hb d_La_law_867 rfl (lv_at hl 1 rfl) ?_
        refine lv_aload_n hx hb d_La_law_868 rfl (lv_at hl 0 rfl) ?_
        refine lv_iload hx hb d_La_law_869 (lv_at hl 4 rfl) ?_
        refine lv_iconst (v := 1) hx hb d_La_law_871 (by decide) ?_
        refine lv_iadd hx hb d_La_law_872 ?_
        obtain ⟨hi253, hwp⟩ := hwp
        refine va_sld hx hb hscr.1 hscr.2.1 hscr.2.2 hS hi253 d_La_law_873 ?_
        refine lv_aload_n hx hb d_La_law_874 rfl (lv_at hl 0 rfl) ?_
        refine lv_iload hx hb d_La_law_875 (lv_at hl 4 rfl) ?_
        refine lv_iconst (v := 2) hx hb d_La_law_877 (by decide) ?_
        refine lv_iadd hx hb d_La_law_878 ?_
        obtain ⟨hi254, hwp⟩ := hwp
        refine va_sld hx hb hscr.1 hscr.2.1 hscr.2.2 hS hi254 d_La_law_879 ?_
        refine lv_aload_n hx hb d_La_law_880 rfl (lv_at hl 0 rfl) ?_
        refine lv_iload hx hb d_La_law_881 (lv_at hl 4 rfl) ?_
        refine lv_iconst (v := 3) hx hb d_La_law_883 (by decide) ?_
        refine lv_iadd hx hb d_La_law_884 ?_
        obtain ⟨hi255, hwp⟩ := hwp
        refine va_sld hx hb hscr.1 hscr.2.1 hscr.2.2 hS hi255 d_La_law_885 ?_
        refine lv_i2l hx hb d_La_law_886 rfl ?_
        refine lv_bipush (v := 32) hx hb d_La_law_887 (by decide) ?_
        refine lv_lshl hx hb d_La_law_889 rfl ?_
        refine lv_aload_n hx hb d_La_law_890 rfl (lv_at hl 0 rfl) ?_
        refine lv_iload hx hb d_La_law_891 (lv_at hl 4 rfl) ?_
        refine lv_iconst (v := 4) hx hb d_La_law_893 (by decide) ?_
        refine lv_iadd hx hb d_La_law_894 ?_
        obtain ⟨hi256, hwp⟩ := hwp
        refine va_sld hx hb hscr.1 hscr.2.1 hscr.2.2 hS hi256 d_La_law_895 ?_
        refine lv_i2l hx hb d_La_law_896 rfl ?_
        refine lv_ldc2 (v := (4294967295)) hx hb hown (hts _ kw_1026) d_La_law_897 ?_
        refine lv_land hx hb d_La_law_900 ?_
        refine lv_lor hx hb d_La_law_901 ?_
        refine lv_aload_n hx hb d_La_law_902 rfl (lv_at hl 3 rfl) ?_
        obtain ⟨hc258, hs259, hwp⟩ := hwp
        refine h_calli hM hS hA (z_runS (n := 5) (As := [.ref x1, .int (post.2 (x4 + (1 : Int32)).toNatClampNeg), .int (post.2 (x4 + (2 : Int32)).toNatClampNeg), .long ((((post.2 (x4 + (3 : Int32)).toNatClampNeg).toInt64) <<< ((32 : Int32).toInt64 &&& 63)) ||| (((post.2 (x4 + (4 : Int32)).toNatClampNeg).toInt64) &&& (4294967295 : Int64))), .ref x3]) (rest := []) ⟨hx, hb, hml, hown, hts⟩ (metLa_wish l hst D κ H.size x1 (post.2 (x4 + (1 : Int32)).toNatClampNeg) (post.2 (x4 + (2 : Int32)).toNatClampNeg) ((((post.2 (x4 + (3 : Int32)).toNatClampNeg).toInt64) <<< ((32 : Int32).toInt64 &&& 63)) ||| (((post.2 (x4 + (4 : Int32)).toNatClampNeg).toInt64) &&& (4294967295 : Int64))) x3 M _ hwp) (pay_in hts (gcons kw_555 wg_good)) List.mem_cons_self rfl rfl ⟨(Nat.le_of_ble_eq_true rfl), (Nat.le_of_ble_eq_true rfl)⟩ (hts _ kw_553) (hts _ kw_554) (hts _ kw_0) (by decide +kernel) (z_preS hE hNc hM hS) rfl rfl hl.1 rfl (lv_room (Nat.le_of_ble_eq_true rfl)) d_La_law_903 ⟨hc258, hs259⟩) (fun r260 M257 H locs hwp hM hS => ?_)
        refine lv_istore (lv' := [(5, .int r260), (0, .ref b), (1, .ref x1), (2, .ref x2), (3, .ref x3), (4, .int x4)]) hx hb d_La_law_906 hl (by decide) rfl (fun ls hl => ?_)
        refine lv_aload_n hx hb d_La_law_908 rfl (lv_at hl 3 rfl) ?_
        refine lv_aload_n hx hb d_La_law_909 rfl (lv_at hl 1 rfl) ?_
        refine lv_iload hx hb d_La_law_910 (lv_at hl 5 rfl) ?_
        refine lv_iconst (v := 1) hx hb d_La_law_912 (by decide) ?_
        refine lv_iadd hx hb d_La_law_913 ?_
        obtain ⟨hi261, hwp⟩ := hwp
        refine va_sld hx hb hscr.1 hscr.2.1 hscr.2.2 hS hi261 d_La_law_914 ?_
        refine lv_aload_n hx hb d_La_law_915 rfl (lv_at hl 1 rfl) ?_
        refine lv_iload hx hb d_La_law_916 (lv_at hl 5 rfl) ?_
        refine lv_iconst (v := 2) hx hb d_La_law_918 (by decide) ?_
        refine lv_iadd hx hb d_La_law_919 ?_
        obtain ⟨hi262, hwp⟩ := hwp
        refine va_sld hx hb hscr.1 hscr.2.1 hscr.2.2 hS hi262 d_La_law_920 ?_
        refine lv_aload_n hx hb d_La_law_921 rfl (lv_at hl 1 rfl) ?_
        refine lv_iload hx hb d_La_law_922 (lv_at hl 5 rfl) ?_
        refine lv_iconst (v := 3) hx hb d_La_law_924 (by decide) ?_
        refine lv_iadd hx hb d_La_law_925 ?_
        obtain ⟨hi263, hwp⟩ := hwp
        refine va_sld hx hb hscr.1 hscr.2.1 hscr.2.2 hS hi263 d_La_law_926 ?_
        refine lv_i2l hx hb d_La_law_927 rfl ?_
        refine lv_bipush (v := 32) hx hb d_La_law_928 (by decide) ?_
        refine lv_lshl hx hb d_La_law_930 rfl ?_
        refine lv_aload_n hx hb d_La_law_931 rfl (lv_at hl 1 rfl) ?_
        refine lv_iload hx hb d_La_law_932 (lv_at hl 5 rfl) ?_
        refine lv_iconst (v := 4) hx hb d_La_law_934 (by decide) ?_
        refine lv_iadd hx hb d_La_law_935 ?_
        obtain ⟨hi264, hwp⟩ := hwp
        refine va_sld hx hb hscr.1 hscr.2.1 hscr.2.2 hS hi264 d_La_law_936 ?_
        refine lv_i2l hx hb d_La_law_937 rfl ?_
        refine lv_ldc2 (v := (4294967295)) hx hb hown (hts _ kw_1026) d_La_law_938 ?_
        refine lv_land hx hb d_La_law_941 ?_
        refine lv_lor hx hb d_La_law_942 ?_
        obtain ⟨hc267, hs268, hwp⟩ := hwp
        obtain ⟨ho266, hwp⟩ := hwp
        refine h_calli hM hS hA (va_runV (As := [.int (post.2 (x4 + (1 : Int32)).toNatClampNeg), .int (post.2 (x4 + (2 : Int32)).toNatClampNeg), .long ((((post.2 (x4 + (3 : Int32)).toNatClampNeg).toInt64) <<< ((32 : Int32).toInt64 &&& 63)) ||| (((post.2 (x4 + (4 : Int32)).toNatClampNeg).toInt64) &&& (4294967295 : Int64)))]) (rest := []) ⟨hx, hb, hml, hown, hts⟩ (metMo_wish l D κ H.size x2 (post.2 (x4 + (1 : Int32)).toNatClampNeg) (post.2 (x4 + (2 : Int32)).toNatClampNeg) ((((post.2 (x4 + (3 : Int32)).toNatClampNeg).toInt64) <<< ((32 : Int32).toInt64 &&& 63)) ||| (((post.2 (x4 + (4 : Int32)).toNatClampNeg).toInt64) &&& (4294967295 : Int64))) M257 _ hwp) (cwV 3 hts (gV kw_893 kw_894 kw_895 kw_8 kw_896) rfl rfl rfl (by decide +kernel) ⟨(Nat.le_of_ble_eq_true rfl), (Nat.le_of_ble_eq_true rfl)⟩) (h_preV hE hM hS ho266 (r := ("BuckTablesModel", Tc6, 36)) rfl) rfl rfl hl.1 rfl (lv_room (Nat.le_of_ble_eq_true rfl)) d_La_law_943 ⟨hc267, hs268⟩) (fun r269 M265 H locs hwp hM hS => ?_)
        refine lv_istore (lv' := [(6, .int r269), (5, .int r260), (0, .ref b), (1, .ref x1), (2, .ref x2), (3, .ref x3), (4, .int x4)]) hx hb d_La_law_946 hl (by decide) rfl (fun ls hl => ?_)
        refine lv_aload_n hx hb d_La_law_948 rfl (lv_at hl 4 rfl) ?_
        obtain ⟨hc272, hs273, hwp⟩ := hwp
        obtain ⟨ho271, hwp⟩ := hwp
        refine h_calli hM hS hA (va_runV (As := []) (rest := []) ⟨hx, hb, hml, hown, hts⟩ (metMo_thrown l D κ H.size x2 M265 _ hwp) (cwV 0 hts (gV kw_829 kw_830 kw_831 kw_8 kw_832) rfl rfl rfl (by decide +kernel) ⟨(Nat.le_of_ble_eq_true rfl), (Nat.le_of_ble_eq_true rfl)⟩) (h_preV hE hM hS ho271 (r := ("BuckTablesModel", Tc6, 36)) rfl) rfl rfl hl.1 rfl (lv_room (Nat.le_of_ble_eq_true rfl)) d_La_law_949 ⟨hc272, hs273⟩) (fun r274 M270 H locs hwp hM hS => ?_)
        refine lv_iload hx hb d_La_law_952 (lv_at hl 1 rfl) ?_
        refine lv_icmp_eq (tgt := 959) hx hb d_La_law_954 (by decide) (fun c275 => ?_) (fun c275 => ?_)
        · replace hwp := hwp.1 c275
          refine lv_iload hx hb d_La_law_959 (lv_at hl 1 rfl) ?_
          refine lv_if_ne (tgt := 983) hx hb d_La_law_961 (by decide) (fun c276 => ?_) (fun c276 => ?_)
          · replace hwp := hwp.2 c276
            exact tLa_law_983 C hst post hscr (wLa_law_33 post n) ih x1 x2 x3 x4 (((kc + 2) + 0) + 0) (((ks + 12) + 0) + 0) M270 hwp H locs ls hM hS (lv_sub hl [2, 3, 4, 5, 6] rfl)
          · replace hwp := hwp.1 c276
            refine lv_aload_n hx hb d_La_law_964 rfl (lv_at hl 5 rfl) ?_
            refine lv_iconst (v := 0) hx hb d_La_law_965 (by decide) ?_
            obtain ⟨v277, ⟨n278, f279, ha280, hi281, ev277⟩, hwp⟩ := hwp
            refine h_lald hx hb hK hM ha280 rfl hi281 d_La_law_966 ?_
            rw [← ev277]
            refine lv_iload hx hb d_La_law_967 (lv_at hl 0 rfl) ?_
            refine lv_if_eq (tgt := 976) hx hb d_La_law_969 (by decide) (fun c282 => ?_) (fun c282 => ?_)
            · replace hwp := hwp.1 c282
              refine lv_lconst (v := 0) hx hb d_La_law_976 (by decide) ?_
              exact tLa_law_977 C hst post hscr (wLa_law_33 post n) ih x1 x2 x3 x4 (0 : Int64) v277 (((kc + 2) + 0) + 0) (((ks + 12) + 0) + 0) M270 hwp H locs ls hM hS (lv_sub hl [2, 3, 4, 5, 6] rfl)
            · replace hwp := hwp.2 c282
              refine lv_lconst (v := 1) hx hb d_La_law_972 (by decide) ?_
              refine lv_goto (tgt := 977) hx hb d_La_law_973 (by decide) ?_
              exact tLa_law_977 C hst post hscr (wLa_law_33 post n) ih x1 x2 x3 x4 (1 : Int64) v277 (((kc + 2) + 0) + 0) (((ks + 12) + 0) + 0) M270 hwp H locs ls hM hS (lv_sub hl [2, 3, 4, 5, 6] rfl)
        · replace hwp := hwp.2 c275
          refine lv_iconst (v := 0) hx hb d_La_law_957 (by decide) ?_
          exact hwp.elim
      · replace hwp := hwp.2.2.2.2.2.2.2.2.2.2.1 hk9
        refine lv_tableIn (tgt := 986) hx hb d_La_law_50 (by omega) (by omega) (show _ = some (936 : Int) by rw [hk9]; rfl) (by decide) ?_
        refine lv_aload_n hx hb d_La_law_986 rfl (lv_at hl 1 rfl) ?_
        obtain ⟨hc285, hs286, hwp⟩ := hwp
        obtain ⟨ho284, hwp⟩ := hwp
        refine h_calli hM hS hA (va_runV (As := []) (rest := []) ⟨hx, hb, hml, hown, hts⟩ (metBT_run l D κ H.size x1 M _ hwp) (cwV 0 hts (gV kw_239 kw_240 kw_241 kw_1 kw_242) rfl rfl rfl (by decide +kernel) ⟨(Nat.le_of_ble_eq_true rfl), (Nat.le_of_ble_eq_true rfl)⟩) (h_preV hE hM hS ho284 (r := ("BuckTables", Tc0, 12)) rfl) rfl rfl hl.1 rfl (lv_room (Nat.le_of_ble_eq_true rfl)) d_La_law_987 ⟨hc285, hs286⟩) (fun r287 M283 H locs hwp hM hS => ?_)
        refine lv_aload_n hx hb d_La_law_990 rfl (lv_at hl 2 rfl) ?_
        obtain ⟨hc290, hs291, hwp⟩ := hwp
        obtain ⟨ho289, hwp⟩ := hwp
        refine h_calli hM hS hA (va_runV (As := []) (rest := [.int r287]) ⟨hx, hb, hml, hown, hts⟩ (metMo_run l D κ H.size x2 M283 _ hwp) (cwV 0 hts (gV kw_898 kw_899 kw_900 kw_8 kw_901) rfl rfl rfl (by decide +kernel) ⟨(Nat.le_of_ble_eq_true rfl), (Nat.le_of_ble_eq_true rfl)⟩) (h_preV hE hM hS ho289 (r := ("BuckTablesModel", Tc6, 36)) rfl) rfl rfl hl.1 rfl (lv_room (Nat.le_of_ble_eq_true rfl)) d_La_law_991 ⟨hc290, hs291⟩) (fun r292 M288 H locs hwp hM hS => ?_)
        refine lv_icmp_eq (tgt := 1451) hx hb d_La_law_994 (by decide) (fun c293 => ?_) (fun c293 => ?_)
        · replace hwp := hwp.1 c293
          exact tLa_law_1451 C hst post hscr (wLa_law_33 post n) ih x1 x2 x3 x4 ((kc + 0) + 0) ((ks + 0) + 0) M288 hwp H locs ls hM hS (lv_sub hl [0, 1, 2, 3, 4] rfl)
        · replace hwp := hwp.2 c293
          refine lv_iconst (v := 0) hx hb d_La_law_997 (by decide) ?_
          exact hwp.elim
      · replace hwp := hwp.2.2.2.2.2.2.2.2.2.2.2.1 hk9
        refine lv_tableIn (tgt := 999) hx hb d_La_law_50 (by omega) (by omega) (show _ = some (949 : Int) by rw [hk9]; rfl) (by decide) ?_
        refine lv_aload_n hx hb d_La_law_999 rfl (lv_at hl 1 rfl) ?_
        refine lv_aload_n hx hb d_La_law_1000 rfl (lv_at hl 0 rfl) ?_
        refine lv_iload hx hb d_La_law_1001 (lv_at hl 4 rfl) ?_
        refine lv_iconst (v := 1) hx hb d_La_law_1003 (by decide) ?_
        refine lv_iadd hx hb d_La_law_1004 ?_
        obtain ⟨hi294, hwp⟩ := hwp
        refine va_sld hx hb hscr.1 hscr.2.1 hscr.2.2 hS hi294 d_La_law_1005 ?_
        refine lv_aload_n hx hb d_La_law_1006 rfl (lv_at hl 3 rfl) ?_
        obtain ⟨hc296, hs297, hwp⟩ := hwp
        refine h_calli hM hS hA (z_runS (n := 3) (As := [.ref x1, .int (post.2 (x4 + (1 : Int32)).toNatClampNeg), .ref x3]) (rest := []) ⟨hx, hb, hml, hown, hts⟩ (metLa_priced l hst D κ H.size x1 (post.2 (x4 + (1 : Int32)).toNatClampNeg) x3 M _ hwp) (pay_in hts (gcons kw_564 wg_good)) List.mem_cons_self rfl rfl ⟨(Nat.le_of_ble_eq_true rfl), (Nat.le_of_ble_eq_true rfl)⟩ (hts _ kw_562) (hts _ kw_563) (hts _ kw_0) (by decide +kernel) (z_preS hE hNc hM hS) rfl rfl hl.1 rfl (lv_room (Nat.le_of_ble_eq_true rfl)) d_La_law_1007 ⟨hc296, hs297⟩) (fun r298 M295 H locs hwp hM hS => ?_)
        refine lv_istore (lv' := [(5, .int r298), (0, .ref b), (1, .ref x1), (2, .ref x2), (3, .ref x3), (4, .int x4)]) hx hb d_La_law_1010 hl (by decide) rfl (fun ls hl => ?_)
        refine lv_aload_n hx hb d_La_law_1012 rfl (lv_at hl 3 rfl) ?_
        refine lv_aload_n hx hb d_La_law_1013 rfl (lv_at hl 1 rfl) ?_
        refine lv_iload hx hb d_La_law_1014 (lv_at hl 5 rfl) ?_
        refine lv_iconst (v := 1) hx hb d_La_law_1016 (by decide) ?_
        refine lv_iadd hx hb d_La_law_1017 ?_
        obtain ⟨hi299, hwp⟩ := hwp
        refine va_sld hx hb hscr.1 hscr.2.1 hscr.2.2 hS hi299 d_La_law_1018 ?_
        obtain ⟨hc302, hs303, hwp⟩ := hwp
        obtain ⟨ho301, hwp⟩ := hwp
        refine h_calli hM hS hA (va_runV (As := [.int (post.2 (x4 + (1 : Int32)).toNatClampNeg)]) (rest := []) ⟨hx, hb, hml, hown, hts⟩ (metMo_priced l D κ H.size x2 (post.2 (x4 + (1 : Int32)).toNatClampNeg) M295 _ hwp) (cwV 1 hts (gV kw_942 kw_943 kw_944 kw_8 kw_945) rfl rfl rfl (by decide +kernel) ⟨(Nat.le_of_ble_eq_true rfl), (Nat.le_of_ble_eq_true rfl)⟩) (h_preV hE hM hS ho301 (r := ("BuckTablesModel", Tc6, 36)) rfl) rfl rfl hl.1 rfl (lv_room (Nat.le_of_ble_eq_true rfl)) d_La_law_1019 ⟨hc302, hs303⟩) (fun r304 M300 H locs hwp hM hS => ?_)
        refine lv_istore (lv' := [(6, .int r304), (5, .int r298), (0, .ref b), (1, .ref x1), (2, .ref x2), (3, .ref x3), (4, .int x4)]) hx hb d_La_law_1022 hl (by decide) rfl (fun ls hl => ?_)
        refine lv_aload_n hx hb d_La_law_1024 rfl (lv_at hl 4 rfl) ?_
        obtain ⟨hc307, hs308, hwp⟩ := hwp
        obtain ⟨ho306, hwp⟩ := hwp
        refine h_calli hM hS hA (va_runV (As := []) (rest := []) ⟨hx, hb, hml, hown, hts⟩ (metMo_thrown l D κ H.size x2 M300 _ hwp) (cwV 0 hts (gV kw_829 kw_830 kw_831 kw_8 kw_832) rfl rfl rfl (by decide +kernel) ⟨(Nat.le_of_ble_eq_true rfl), (Nat.le_of_ble_eq_true rfl)⟩) (h_preV hE hM hS ho306 (r := ("BuckTablesModel", Tc6, 36)) rfl) rfl rfl hl.1 rfl (lv_room (Nat.le_of_ble_eq_true rfl)) d_La_law_1025 ⟨hc307, hs308⟩) (fun r309 M305 H locs hwp hM hS => ?_)
        refine lv_iload hx hb d_La_law_1028 (lv_at hl 1 rfl) ?_
        refine lv_icmp_eq (tgt := 1035) hx hb d_La_law_1030 (by decide) (fun c310 => ?_) (fun c310 => ?_)
        · replace hwp := hwp.1 c310
          refine lv_iload hx hb d_La_law_1035 (lv_at hl 1 rfl) ?_
          refine lv_if_ne (tgt := 1052) hx hb d_La_law_1037 (by decide) (fun c311 => ?_) (fun c311 => ?_)
          · replace hwp := hwp.2 c311
            exact tLa_law_1052 C hst post hscr (wLa_law_33 post n) ih x1 x2 x3 x4 (((kc + 1) + 0) + 0) (((ks + 6) + 0) + 0) M305 hwp H locs ls hM hS (lv_sub hl [2, 3, 4, 5, 6] rfl)
          · replace hwp := hwp.1 c311
            refine lv_aload_n hx hb d_La_law_1040 rfl (lv_at hl 5 rfl) ?_
            refine lv_iconst (v := 0) hx hb d_La_law_1041 (by decide) ?_
            obtain ⟨v312, ⟨n313, f314, ha315, hi316, ev312⟩, hwp⟩ := hwp
            refine h_lald hx hb hK hM ha315 rfl hi316 d_La_law_1042 ?_
            rw [← ev312]
            refine lv_iload hx hb d_La_law_1043 (lv_at hl 0 rfl) ?_
            refine lv_i2l hx hb d_La_law_1045 rfl ?_
            refine W.lcmp hx hb d_La_law_1046 ?_
            refine lv_if_eq (tgt := 1052) hx hb d_La_law_1047 (by decide) (fun c317 => ?_) (fun c317 => ?_)
            · replace c317 := (lc_eq _ _).mp c317
              replace hwp := hwp.1 c317
              exact tLa_law_1052 C hst post hscr (wLa_law_33 post n) ih x1 x2 x3 x4 (((kc + 1) + 0) + 0) (((ks + 6) + 0) + 0) M305 hwp H locs ls hM hS (lv_sub hl [2, 3, 4, 5, 6] rfl)
            · replace c317 := fun h9 => c317 ((lc_eq _ _).mpr h9)
              replace hwp := hwp.2 c317
              refine lv_iconst (v := 0) hx hb d_La_law_1050 (by decide) ?_
              exact hwp.elim
        · replace hwp := hwp.2 c310
          refine lv_iconst (v := 0) hx hb d_La_law_1033 (by decide) ?_
          exact hwp.elim
      · replace hwp := hwp.2.2.2.2.2.2.2.2.2.2.2.2.1 hk9
        refine lv_tableIn (tgt := 1055) hx hb d_La_law_50 (by omega) (by omega) (show _ = some (1005 : Int) by rw [hk9]; rfl) (by decide) ?_
        refine lv_aload_n hx hb d_La_law_1055 rfl (lv_at hl 1 rfl) ?_
        refine lv_aload_n hx hb d_La_law_1056 rfl (lv_at hl 3 rfl) ?_
        obtain ⟨hc319, hs320, hwp⟩ := hwp
        refine h_calli hM hS hA (z_runS (n := 2) (As := [.ref x1, .ref x3]) (rest := []) ⟨hx, hb, hml, hown, hts⟩ (metLa_worth l hst D κ H.size x1 x3 M _ hwp) (pay_in hts (gcons kw_628 wg_good)) List.mem_cons_self rfl rfl ⟨(Nat.le_of_ble_eq_true rfl), (Nat.le_of_ble_eq_true rfl)⟩ (hts _ kw_626) (hts _ kw_627) (hts _ kw_0) (by decide +kernel) (z_preS hE hNc hM hS) rfl rfl hl.1 rfl (lv_room (Nat.le_of_ble_eq_true rfl)) d_La_law_1057 ⟨hc319, hs320⟩) (fun r321 M318 H locs hwp hM hS => ?_)
        refine lv_istore (lv' := [(5, .int r321), (0, .ref b), (1, .ref x1), (2, .ref x2), (3, .ref x3), (4, .int x4)]) hx hb d_La_law_1060 hl (by decide) rfl (fun ls hl => ?_)
        refine lv_aload_n hx hb d_La_law_1062 rfl (lv_at hl 3 rfl) ?_
        obtain ⟨hc324, hs325, hwp⟩ := hwp
        obtain ⟨ho323, hwp⟩ := hwp
        refine h_calll hM hS hA (va_runV (As := []) (rest := []) ⟨hx, hb, hml, hown, hts⟩ (metMo_worth l D κ H.size x2 M318 _ hwp) (cwV 0 hts (gV kw_975 kw_976 kw_977 kw_8 kw_978) rfl rfl rfl (by decide +kernel) ⟨(Nat.le_of_ble_eq_true rfl), (Nat.le_of_ble_eq_true rfl)⟩) (h_preV hE hM hS ho323 (r := ("BuckTablesModel", Tc6, 36)) rfl) rfl rfl hl.1 rfl (lv_room (Nat.le_of_ble_eq_true rfl)) d_La_law_1063 ⟨hc324, hs325⟩) (fun r326 M322 H locs hwp hM hS => ?_)
        refine lv_lstore (lv' := [(6, .long r326), (5, .int r321), (0, .ref b), (1, .ref x1), (2, .ref x2), (3, .ref x3), (4, .int x4)]) hx hb d_La_law_1066 hl (by decide) rfl (fun ls hl => ?_)
        refine lv_aload_n hx hb d_La_law_1068 rfl (lv_at hl 4 rfl) ?_
        obtain ⟨hc329, hs330, hwp⟩ := hwp
        obtain ⟨ho328, hwp⟩ := hwp
        refine h_calli hM hS hA (va_runV (As := []) (rest := []) ⟨hx, hb, hml, hown, hts⟩ (metMo_thrown l D κ H.size x2 M322 _ hwp) (cwV 0 hts (gV kw_829 kw_830 kw_831 kw_8 kw_832) rfl rfl rfl (by decide +kernel) ⟨(Nat.le_of_ble_eq_true rfl), (Nat.le_of_ble_eq_true rfl)⟩) (h_preV hE hM hS ho328 (r := ("BuckTablesModel", Tc6, 36)) rfl) rfl rfl hl.1 rfl (lv_room (Nat.le_of_ble_eq_true rfl)) d_La_law_1069 ⟨hc329, hs330⟩) (fun r331 M327 H locs hwp hM hS => ?_)
        refine lv_iload hx hb d_La_law_1072 (lv_at hl 1 rfl) ?_
        refine lv_icmp_eq (tgt := 1079) hx hb d_La_law_1074 (by decide) (fun c332 => ?_) (fun c332 => ?_)
        · replace hwp := hwp.1 c332
          refine lv_iload hx hb d_La_law_1079 (lv_at hl 1 rfl) ?_
          refine lv_if_ne (tgt := 1095) hx hb d_La_law_1081 (by decide) (fun c333 => ?_) (fun c333 => ?_)
          · replace hwp := hwp.2 c333
            exact tLa_law_1095 C hst post hscr (wLa_law_33 post n) ih x1 x2 x3 x4 (((kc + 1) + 0) + 0) (((ks + 6) + 0) + 0) M327 hwp H locs ls hM hS (lv_sub hl [2, 3, 4, 5, 6] rfl)
          · replace hwp := hwp.1 c333
            refine lv_aload_n hx hb d_La_law_1084 rfl (lv_at hl 5 rfl) ?_
            refine lv_iconst (v := 0) hx hb d_La_law_1085 (by decide) ?_
            obtain ⟨v334, ⟨n335, f336, ha337, hi338, ev334⟩, hwp⟩ := hwp
            refine h_lald hx hb hK hM ha337 rfl hi338 d_La_law_1086 ?_
            rw [← ev334]
            refine lv_lload hx hb d_La_law_1087 (lv_at hl 0 rfl) ?_
            refine W.lcmp hx hb d_La_law_1089 ?_
            refine lv_if_eq (tgt := 1095) hx hb d_La_law_1090 (by decide) (fun c339 => ?_) (fun c339 => ?_)
            · replace c339 := (lc_eq _ _).mp c339
              replace hwp := hwp.1 c339
              exact tLa_law_1095 C hst post hscr (wLa_law_33 post n) ih x1 x2 x3 x4 (((kc + 1) + 0) + 0) (((ks + 6) + 0) + 0) M327 hwp H locs ls hM hS (lv_sub hl [2, 3, 4, 5, 6] rfl)
            · replace c339 := fun h9 => c339 ((lc_eq _ _).mpr h9)
              replace hwp := hwp.2 c339
              refine lv_iconst (v := 0) hx hb d_La_law_1093 (by decide) ?_
              exact hwp.elim
        · replace hwp := hwp.2 c332
          refine lv_iconst (v := 0) hx hb d_La_law_1077 (by decide) ?_
          exact hwp.elim
      · replace hwp := hwp.2.2.2.2.2.2.2.2.2.2.2.2.2.1 hk9
        refine lv_tableIn (tgt := 1098) hx hb d_La_law_50 (by omega) (by omega) (show _ = some (1048 : Int) by rw [hk9]; rfl) (by decide) ?_
        refine lv_aload_n hx hb d_La_law_1098 rfl (lv_at hl 1 rfl) ?_
        refine lv_aload_n hx hb d_La_law_1099 rfl (lv_at hl 0 rfl) ?_
        refine lv_iload hx hb d_La_law_1100 (lv_at hl 4 rfl) ?_
        refine lv_iconst (v := 1) hx hb d_La_law_1102 (by decide) ?_
        refine lv_iadd hx hb d_La_law_1103 ?_
        obtain ⟨hi340, hwp⟩ := hwp
        refine va_sld hx hb hscr.1 hscr.2.1 hscr.2.2 hS hi340 d_La_law_1104 ?_
        refine lv_aload_n hx hb d_La_law_1105 rfl (lv_at hl 0 rfl) ?_
        refine lv_iload hx hb d_La_law_1106 (lv_at hl 4 rfl) ?_
        refine lv_iconst (v := 2) hx hb d_La_law_1108 (by decide) ?_
        refine lv_iadd hx hb d_La_law_1109 ?_
        obtain ⟨hi341, hwp⟩ := hwp
        refine va_sld hx hb hscr.1 hscr.2.1 hscr.2.2 hS hi341 d_La_law_1110 ?_
        refine lv_aload_n hx hb d_La_law_1111 rfl (lv_at hl 3 rfl) ?_
        obtain ⟨hc343, hs344, hwp⟩ := hwp
        refine h_calli hM hS hA (z_runS (n := 4) (As := [.ref x1, .int (post.2 (x4 + (1 : Int32)).toNatClampNeg), .int (post.2 (x4 + (2 : Int32)).toNatClampNeg), .ref x3]) (rest := []) ⟨hx, hb, hml, hown, hts⟩ (metLa_log l hst D κ H.size x1 (post.2 (x4 + (1 : Int32)).toNatClampNeg) (post.2 (x4 + (2 : Int32)).toNatClampNeg) x3 M _ hwp) (pay_in hts (gcons kw_640 wg_good)) List.mem_cons_self rfl rfl ⟨(Nat.le_of_ble_eq_true rfl), (Nat.le_of_ble_eq_true rfl)⟩ (hts _ kw_638) (hts _ kw_639) (hts _ kw_0) (by decide +kernel) (z_preS hE hNc hM hS) rfl rfl hl.1 rfl (lv_room (Nat.le_of_ble_eq_true rfl)) d_La_law_1112 ⟨hc343, hs344⟩) (fun r345 M342 H locs hwp hM hS => ?_)
        refine lv_istore (lv' := [(5, .int r345), (0, .ref b), (1, .ref x1), (2, .ref x2), (3, .ref x3), (4, .int x4)]) hx hb d_La_law_1115 hl (by decide) rfl (fun ls hl => ?_)
        refine lv_aload_n hx hb d_La_law_1117 rfl (lv_at hl 3 rfl) ?_
        refine lv_aload_n hx hb d_La_law_1118 rfl (lv_at hl 1 rfl) ?_
        refine lv_iload hx hb d_La_law_1119 (lv_at hl 5 rfl) ?_
        refine lv_iconst (v := 1) hx hb d_La_law_1121 (by decide) ?_
        refine lv_iadd hx hb d_La_law_1122 ?_
        obtain ⟨hi346, hwp⟩ := hwp
        refine va_sld hx hb hscr.1 hscr.2.1 hscr.2.2 hS hi346 d_La_law_1123 ?_
        refine lv_aload_n hx hb d_La_law_1124 rfl (lv_at hl 1 rfl) ?_
        refine lv_iload hx hb d_La_law_1125 (lv_at hl 5 rfl) ?_
        refine lv_iconst (v := 2) hx hb d_La_law_1127 (by decide) ?_
        refine lv_iadd hx hb d_La_law_1128 ?_
        obtain ⟨hi347, hwp⟩ := hwp
        refine va_sld hx hb hscr.1 hscr.2.1 hscr.2.2 hS hi347 d_La_law_1129 ?_
        obtain ⟨hc350, hs351, hwp⟩ := hwp
        obtain ⟨ho349, hwp⟩ := hwp
        refine h_calli hM hS hA (va_runV (As := [.int (post.2 (x4 + (1 : Int32)).toNatClampNeg), .int (post.2 (x4 + (2 : Int32)).toNatClampNeg)]) (rest := []) ⟨hx, hb, hml, hown, hts⟩ (metMo_log l D κ H.size x2 (post.2 (x4 + (1 : Int32)).toNatClampNeg) (post.2 (x4 + (2 : Int32)).toNatClampNeg) M342 _ hwp) (cwV 2 hts (gV kw_983 kw_984 kw_985 kw_8 kw_986) rfl rfl rfl (by decide +kernel) ⟨(Nat.le_of_ble_eq_true rfl), (Nat.le_of_ble_eq_true rfl)⟩) (h_preV hE hM hS ho349 (r := ("BuckTablesModel", Tc6, 36)) rfl) rfl rfl hl.1 rfl (lv_room (Nat.le_of_ble_eq_true rfl)) d_La_law_1130 ⟨hc350, hs351⟩) (fun r352 M348 H locs hwp hM hS => ?_)
        refine lv_istore (lv' := [(6, .int r352), (5, .int r345), (0, .ref b), (1, .ref x1), (2, .ref x2), (3, .ref x3), (4, .int x4)]) hx hb d_La_law_1133 hl (by decide) rfl (fun ls hl => ?_)
        refine lv_aload_n hx hb d_La_law_1135 rfl (lv_at hl 4 rfl) ?_
        obtain ⟨hc355, hs356, hwp⟩ := hwp
        obtain ⟨ho354, hwp⟩ := hwp
        refine h_calli hM hS hA (va_runV (As := []) (rest := []) ⟨hx, hb, hml, hown, hts⟩ (metMo_thrown l D κ H.size x2 M348 _ hwp) (cwV 0 hts (gV kw_829 kw_830 kw_831 kw_8 kw_832) rfl rfl rfl (by decide +kernel) ⟨(Nat.le_of_ble_eq_true rfl), (Nat.le_of_ble_eq_true rfl)⟩) (h_preV hE hM hS ho354 (r := ("BuckTablesModel", Tc6, 36)) rfl) rfl rfl hl.1 rfl (lv_room (Nat.le_of_ble_eq_true rfl)) d_La_law_1136 ⟨hc355, hs356⟩) (fun r357 M353 H locs hwp hM hS => ?_)
        refine lv_iload hx hb d_La_law_1139 (lv_at hl 1 rfl) ?_
        refine lv_icmp_eq (tgt := 1146) hx hb d_La_law_1141 (by decide) (fun c358 => ?_) (fun c358 => ?_)
        · replace hwp := hwp.1 c358
          refine lv_iload hx hb d_La_law_1146 (lv_at hl 1 rfl) ?_
          refine lv_if_ne (tgt := 1163) hx hb d_La_law_1148 (by decide) (fun c359 => ?_) (fun c359 => ?_)
          · replace hwp := hwp.2 c359
            exact tLa_law_1163 C hst post hscr (wLa_law_33 post n) ih x1 x2 x3 x4 (((kc + 3) + 0) + 0) (((ks + 18) + 0) + 0) M353 hwp H locs ls hM hS (lv_sub hl [2, 3, 4, 5, 6] rfl)
          · replace hwp := hwp.1 c359
            refine lv_aload_n hx hb d_La_law_1151 rfl (lv_at hl 5 rfl) ?_
            refine lv_iconst (v := 0) hx hb d_La_law_1152 (by decide) ?_
            obtain ⟨v360, ⟨n361, f362, ha363, hi364, ev360⟩, hwp⟩ := hwp
            refine h_lald hx hb hK hM ha363 rfl hi364 d_La_law_1153 ?_
            rw [← ev360]
            refine lv_iload hx hb d_La_law_1154 (lv_at hl 0 rfl) ?_
            refine lv_i2l hx hb d_La_law_1156 rfl ?_
            refine W.lcmp hx hb d_La_law_1157 ?_
            refine lv_if_eq (tgt := 1163) hx hb d_La_law_1158 (by decide) (fun c365 => ?_) (fun c365 => ?_)
            · replace c365 := (lc_eq _ _).mp c365
              replace hwp := hwp.1 c365
              exact tLa_law_1163 C hst post hscr (wLa_law_33 post n) ih x1 x2 x3 x4 (((kc + 3) + 0) + 0) (((ks + 18) + 0) + 0) M353 hwp H locs ls hM hS (lv_sub hl [2, 3, 4, 5, 6] rfl)
            · replace c365 := fun h9 => c365 ((lc_eq _ _).mpr h9)
              replace hwp := hwp.2 c365
              refine lv_iconst (v := 0) hx hb d_La_law_1161 (by decide) ?_
              exact hwp.elim
        · replace hwp := hwp.2 c358
          refine lv_iconst (v := 0) hx hb d_La_law_1144 (by decide) ?_
          exact hwp.elim
      · replace hwp := hwp.2.2.2.2.2.2.2.2.2.2.2.2.2.2.1 hk9
        refine lv_tableIn (tgt := 1166) hx hb d_La_law_50 (by omega) (by omega) (show _ = some (1116 : Int) by rw [hk9]; rfl) (by decide) ?_
        refine lv_aload_n hx hb d_La_law_1166 rfl (lv_at hl 1 rfl) ?_
        refine lv_aload_n hx hb d_La_law_1167 rfl (lv_at hl 0 rfl) ?_
        refine lv_iload hx hb d_La_law_1168 (lv_at hl 4 rfl) ?_
        refine lv_iconst (v := 1) hx hb d_La_law_1170 (by decide) ?_
        refine lv_iadd hx hb d_La_law_1171 ?_
        obtain ⟨hi366, hwp⟩ := hwp
        refine va_sld hx hb hscr.1 hscr.2.1 hscr.2.2 hS hi366 d_La_law_1172 ?_
        refine lv_aload_n hx hb d_La_law_1173 rfl (lv_at hl 0 rfl) ?_
        refine lv_iload hx hb d_La_law_1174 (lv_at hl 4 rfl) ?_
        refine lv_iconst (v := 2) hx hb d_La_law_1176 (by decide) ?_
        refine lv_iadd hx hb d_La_law_1177 ?_
        obtain ⟨hi367, hwp⟩ := hwp
        refine va_sld hx hb hscr.1 hscr.2.1 hscr.2.2 hS hi367 d_La_law_1178 ?_
        refine lv_aload_n hx hb d_La_law_1179 rfl (lv_at hl 3 rfl) ?_
        obtain ⟨hc369, hs370, hwp⟩ := hwp
        refine h_calli hM hS hA (z_runS (n := 4) (As := [.ref x1, .int (post.2 (x4 + (1 : Int32)).toNatClampNeg), .int (post.2 (x4 + (2 : Int32)).toNatClampNeg), .ref x3]) (rest := []) ⟨hx, hb, hml, hown, hts⟩ (metLa_fuel l hst D κ H.size x1 (post.2 (x4 + (1 : Int32)).toNatClampNeg) (post.2 (x4 + (2 : Int32)).toNatClampNeg) x3 M _ hwp) (pay_in hts (gcons kw_656 wg_good)) List.mem_cons_self rfl rfl ⟨(Nat.le_of_ble_eq_true rfl), (Nat.le_of_ble_eq_true rfl)⟩ (hts _ kw_654) (hts _ kw_655) (hts _ kw_0) (by decide +kernel) (z_preS hE hNc hM hS) rfl rfl hl.1 rfl (lv_room (Nat.le_of_ble_eq_true rfl)) d_La_law_1180 ⟨hc369, hs370⟩) (fun r371 M368 H locs hwp hM hS => ?_)
        refine lv_istore (lv' := [(5, .int r371), (0, .ref b), (1, .ref x1), (2, .ref x2), (3, .ref x3), (4, .int x4)]) hx hb d_La_law_1183 hl (by decide) rfl (fun ls hl => ?_)
        refine lv_aload_n hx hb d_La_law_1185 rfl (lv_at hl 3 rfl) ?_
        refine lv_aload_n hx hb d_La_law_1186 rfl (lv_at hl 1 rfl) ?_
        refine lv_iload hx hb d_La_law_1187 (lv_at hl 5 rfl) ?_
        refine lv_iconst (v := 1) hx hb d_La_law_1189 (by decide) ?_
        refine lv_iadd hx hb d_La_law_1190 ?_
        obtain ⟨hi372, hwp⟩ := hwp
        refine va_sld hx hb hscr.1 hscr.2.1 hscr.2.2 hS hi372 d_La_law_1191 ?_
        refine lv_aload_n hx hb d_La_law_1192 rfl (lv_at hl 1 rfl) ?_
        refine lv_iload hx hb d_La_law_1193 (lv_at hl 5 rfl) ?_
        refine lv_iconst (v := 2) hx hb d_La_law_1195 (by decide) ?_
        refine lv_iadd hx hb d_La_law_1196 ?_
        obtain ⟨hi373, hwp⟩ := hwp
        refine va_sld hx hb hscr.1 hscr.2.1 hscr.2.2 hS hi373 d_La_law_1197 ?_
        obtain ⟨hc376, hs377, hwp⟩ := hwp
        obtain ⟨ho375, hwp⟩ := hwp
        refine h_calli hM hS hA (va_runV (As := [.int (post.2 (x4 + (1 : Int32)).toNatClampNeg), .int (post.2 (x4 + (2 : Int32)).toNatClampNeg)]) (rest := []) ⟨hx, hb, hml, hown, hts⟩ (metMo_fuel l D κ H.size x2 (post.2 (x4 + (1 : Int32)).toNatClampNeg) (post.2 (x4 + (2 : Int32)).toNatClampNeg) M368 _ hwp) (cwV 2 hts (gV kw_992 kw_993 kw_994 kw_8 kw_995) rfl rfl rfl (by decide +kernel) ⟨(Nat.le_of_ble_eq_true rfl), (Nat.le_of_ble_eq_true rfl)⟩) (h_preV hE hM hS ho375 (r := ("BuckTablesModel", Tc6, 36)) rfl) rfl rfl hl.1 rfl (lv_room (Nat.le_of_ble_eq_true rfl)) d_La_law_1198 ⟨hc376, hs377⟩) (fun r378 M374 H locs hwp hM hS => ?_)
        refine lv_istore (lv' := [(6, .int r378), (5, .int r371), (0, .ref b), (1, .ref x1), (2, .ref x2), (3, .ref x3), (4, .int x4)]) hx hb d_La_law_1201 hl (by decide) rfl (fun ls hl => ?_)
        refine lv_aload_n hx hb d_La_law_1203 rfl (lv_at hl 4 rfl) ?_
        obtain ⟨hc381, hs382, hwp⟩ := hwp
        obtain ⟨ho380, hwp⟩ := hwp
        refine h_calli hM hS hA (va_runV (As := []) (rest := []) ⟨hx, hb, hml, hown, hts⟩ (metMo_thrown l D κ H.size x2 M374 _ hwp) (cwV 0 hts (gV kw_829 kw_830 kw_831 kw_8 kw_832) rfl rfl rfl (by decide +kernel) ⟨(Nat.le_of_ble_eq_true rfl), (Nat.le_of_ble_eq_true rfl)⟩) (h_preV hE hM hS ho380 (r := ("BuckTablesModel", Tc6, 36)) rfl) rfl rfl hl.1 rfl (lv_room (Nat.le_of_ble_eq_true rfl)) d_La_law_1204 ⟨hc381, hs382⟩) (fun r383 M379 H locs hwp hM hS => ?_)
        refine lv_iload hx hb d_La_law_1207 (lv_at hl 1 rfl) ?_
        refine lv_icmp_eq (tgt := 1214) hx hb d_La_law_1209 (by decide) (fun c384 => ?_) (fun c384 => ?_)
        · replace hwp := hwp.1 c384
          refine lv_iload hx hb d_La_law_1214 (lv_at hl 1 rfl) ?_
          refine lv_if_ne (tgt := 1231) hx hb d_La_law_1216 (by decide) (fun c385 => ?_) (fun c385 => ?_)
          · replace hwp := hwp.2 c385
            exact tLa_law_1231 C hst post hscr (wLa_law_33 post n) ih x1 x2 x3 x4 (((kc + 3) + 0) + 0) (((ks + 18) + 0) + 0) M379 hwp H locs ls hM hS (lv_sub hl [2, 3, 4, 5, 6] rfl)
          · replace hwp := hwp.1 c385
            refine lv_aload_n hx hb d_La_law_1219 rfl (lv_at hl 5 rfl) ?_
            refine lv_iconst (v := 0) hx hb d_La_law_1220 (by decide) ?_
            obtain ⟨v386, ⟨n387, f388, ha389, hi390, ev386⟩, hwp⟩ := hwp
            refine h_lald hx hb hK hM ha389 rfl hi390 d_La_law_1221 ?_
            rw [← ev386]
            refine lv_iload hx hb d_La_law_1222 (lv_at hl 0 rfl) ?_
            refine lv_i2l hx hb d_La_law_1224 rfl ?_
            refine W.lcmp hx hb d_La_law_1225 ?_
            refine lv_if_eq (tgt := 1231) hx hb d_La_law_1226 (by decide) (fun c391 => ?_) (fun c391 => ?_)
            · replace c391 := (lc_eq _ _).mp c391
              replace hwp := hwp.1 c391
              exact tLa_law_1231 C hst post hscr (wLa_law_33 post n) ih x1 x2 x3 x4 (((kc + 3) + 0) + 0) (((ks + 18) + 0) + 0) M379 hwp H locs ls hM hS (lv_sub hl [2, 3, 4, 5, 6] rfl)
            · replace c391 := fun h9 => c391 ((lc_eq _ _).mpr h9)
              replace hwp := hwp.2 c391
              refine lv_iconst (v := 0) hx hb d_La_law_1229 (by decide) ?_
              exact hwp.elim
        · replace hwp := hwp.2 c384
          refine lv_iconst (v := 0) hx hb d_La_law_1212 (by decide) ?_
          exact hwp.elim
      · replace hwp := hwp.2.2.2.2.2.2.2.2.2.2.2.2.2.2.2.1 hk9
        refine lv_tableIn (tgt := 1234) hx hb d_La_law_50 (by omega) (by omega) (show _ = some (1184 : Int) by rw [hk9]; rfl) (by decide) ?_
        refine lv_aload_n hx hb d_La_law_1234 rfl (lv_at hl 1 rfl) ?_
        refine lv_aload_n hx hb d_La_law_1235 rfl (lv_at hl 3 rfl) ?_
        obtain ⟨hc393, hs394, hwp⟩ := hwp
        refine h_calli hM hS hA (z_runS (n := 2) (As := [.ref x1, .ref x3]) (rest := []) ⟨hx, hb, hml, hown, hts⟩ (metLa_bound l hst D κ H.size x1 x3 M _ hwp) (pay_in hts (gcons kw_683 wg_good)) List.mem_cons_self rfl rfl ⟨(Nat.le_of_ble_eq_true rfl), (Nat.le_of_ble_eq_true rfl)⟩ (hts _ kw_681) (hts _ kw_682) (hts _ kw_0) (by decide +kernel) (z_preS hE hNc hM hS) rfl rfl hl.1 rfl (lv_room (Nat.le_of_ble_eq_true rfl)) d_La_law_1236 ⟨hc393, hs394⟩) (fun r395 M392 H locs hwp hM hS => ?_)
        refine lv_istore (lv' := [(5, .int r395), (0, .ref b), (1, .ref x1), (2, .ref x2), (3, .ref x3), (4, .int x4)]) hx hb d_La_law_1239 hl (by decide) rfl (fun ls hl => ?_)
        refine lv_aload_n hx hb d_La_law_1241 rfl (lv_at hl 3 rfl) ?_
        obtain ⟨hc398, hs399, hwp⟩ := hwp
        obtain ⟨ho397, hwp⟩ := hwp
        refine h_calll hM hS hA (va_runV (As := []) (rest := []) ⟨hx, hb, hml, hown, hts⟩ (metMo_bound l D κ H.size x2 M392 _ hwp) (cwV 0 hts (gV kw_1009 kw_1010 kw_1011 kw_8 kw_1012) rfl rfl rfl (by decide +kernel) ⟨(Nat.le_of_ble_eq_true rfl), (Nat.le_of_ble_eq_true rfl)⟩) (h_preV hE hM hS ho397 (r := ("BuckTablesModel", Tc6, 36)) rfl) rfl rfl hl.1 rfl (lv_room (Nat.le_of_ble_eq_true rfl)) d_La_law_1242 ⟨hc398, hs399⟩) (fun r400 M396 H locs hwp hM hS => ?_)
        refine lv_lstore (lv' := [(6, .long r400), (5, .int r395), (0, .ref b), (1, .ref x1), (2, .ref x2), (3, .ref x3), (4, .int x4)]) hx hb d_La_law_1245 hl (by decide) rfl (fun ls hl => ?_)
        refine lv_aload_n hx hb d_La_law_1247 rfl (lv_at hl 4 rfl) ?_
        obtain ⟨hc403, hs404, hwp⟩ := hwp
        obtain ⟨ho402, hwp⟩ := hwp
        refine h_calli hM hS hA (va_runV (As := []) (rest := []) ⟨hx, hb, hml, hown, hts⟩ (metMo_thrown l D κ H.size x2 M396 _ hwp) (cwV 0 hts (gV kw_829 kw_830 kw_831 kw_8 kw_832) rfl rfl rfl (by decide +kernel) ⟨(Nat.le_of_ble_eq_true rfl), (Nat.le_of_ble_eq_true rfl)⟩) (h_preV hE hM hS ho402 (r := ("BuckTablesModel", Tc6, 36)) rfl) rfl rfl hl.1 rfl (lv_room (Nat.le_of_ble_eq_true rfl)) d_La_law_1248 ⟨hc403, hs404⟩) (fun r405 M401 H locs hwp hM hS => ?_)
        refine lv_iload hx hb d_La_law_1251 (lv_at hl 1 rfl) ?_
        refine lv_icmp_eq (tgt := 1258) hx hb d_La_law_1253 (by decide) (fun c406 => ?_) (fun c406 => ?_)
        · replace hwp := hwp.1 c406
          refine lv_iload hx hb d_La_law_1258 (lv_at hl 1 rfl) ?_
          refine lv_if_ne (tgt := 1274) hx hb d_La_law_1260 (by decide) (fun c407 => ?_) (fun c407 => ?_)
          · replace hwp := hwp.2 c407
            exact tLa_law_1274 C hst post hscr (wLa_law_33 post n) ih x1 x2 x3 x4 (((kc + 1) + 0) + 0) (((ks + 6) + 0) + 0) M401 hwp H locs ls hM hS (lv_sub hl [2, 3, 4, 5, 6] rfl)
          · replace hwp := hwp.1 c407
            refine lv_aload_n hx hb d_La_law_1263 rfl (lv_at hl 5 rfl) ?_
            refine lv_iconst (v := 0) hx hb d_La_law_1264 (by decide) ?_
            obtain ⟨v408, ⟨n409, f410, ha411, hi412, ev408⟩, hwp⟩ := hwp
            refine h_lald hx hb hK hM ha411 rfl hi412 d_La_law_1265 ?_
            rw [← ev408]
            refine lv_lload hx hb d_La_law_1266 (lv_at hl 0 rfl) ?_
            refine W.lcmp hx hb d_La_law_1268 ?_
            refine lv_if_eq (tgt := 1274) hx hb d_La_law_1269 (by decide) (fun c413 => ?_) (fun c413 => ?_)
            · replace c413 := (lc_eq _ _).mp c413
              replace hwp := hwp.1 c413
              exact tLa_law_1274 C hst post hscr (wLa_law_33 post n) ih x1 x2 x3 x4 (((kc + 1) + 0) + 0) (((ks + 6) + 0) + 0) M401 hwp H locs ls hM hS (lv_sub hl [2, 3, 4, 5, 6] rfl)
            · replace c413 := fun h9 => c413 ((lc_eq _ _).mpr h9)
              replace hwp := hwp.2 c413
              refine lv_iconst (v := 0) hx hb d_La_law_1272 (by decide) ?_
              exact hwp.elim
        · replace hwp := hwp.2 c406
          refine lv_iconst (v := 0) hx hb d_La_law_1256 (by decide) ?_
          exact hwp.elim
      · replace hwp := hwp.2.2.2.2.2.2.2.2.2.2.2.2.2.2.2.2.1 hk9
        refine lv_tableIn (tgt := 1277) hx hb d_La_law_50 (by omega) (by omega) (show _ = some (1227 : Int) by rw [hk9]; rfl) (by decide) ?_
        refine lv_aload_n hx hb d_La_law_1277 rfl (lv_at hl 1 rfl) ?_
        refine lv_aload_n hx hb d_La_law_1278 rfl (lv_at hl 0 rfl) ?_
        refine lv_iload hx hb d_La_law_1279 (lv_at hl 4 rfl) ?_
        refine lv_iconst (v := 1) hx hb d_La_law_1281 (by decide) ?_
        refine lv_iadd hx hb d_La_law_1282 ?_
        obtain ⟨hi414, hwp⟩ := hwp
        refine va_sld hx hb hscr.1 hscr.2.1 hscr.2.2 hS hi414 d_La_law_1283 ?_
        refine lv_aload_n hx hb d_La_law_1284 rfl (lv_at hl 0 rfl) ?_
        refine lv_iload hx hb d_La_law_1285 (lv_at hl 4 rfl) ?_
        refine lv_iconst (v := 2) hx hb d_La_law_1287 (by decide) ?_
        refine lv_iadd hx hb d_La_law_1288 ?_
        obtain ⟨hi415, hwp⟩ := hwp
        refine va_sld hx hb hscr.1 hscr.2.1 hscr.2.2 hS hi415 d_La_law_1289 ?_
        refine lv_aload_n hx hb d_La_law_1290 rfl (lv_at hl 3 rfl) ?_
        obtain ⟨hc417, hs418, hwp⟩ := hwp
        refine h_calli hM hS hA (z_runS (n := 4) (As := [.ref x1, .int (post.2 (x4 + (1 : Int32)).toNatClampNeg), .int (post.2 (x4 + (2 : Int32)).toNatClampNeg), .ref x3]) (rest := []) ⟨hx, hb, hml, hown, hts⟩ (metLa_price l hst D κ H.size x1 (post.2 (x4 + (1 : Int32)).toNatClampNeg) (post.2 (x4 + (2 : Int32)).toNatClampNeg) x3 M _ hwp) (pay_in hts (gcons kw_690 wg_good)) List.mem_cons_self rfl rfl ⟨(Nat.le_of_ble_eq_true rfl), (Nat.le_of_ble_eq_true rfl)⟩ (hts _ kw_688) (hts _ kw_689) (hts _ kw_0) (by decide +kernel) (z_preS hE hNc hM hS) rfl rfl hl.1 rfl (lv_room (Nat.le_of_ble_eq_true rfl)) d_La_law_1291 ⟨hc417, hs418⟩) (fun r419 M416 H locs hwp hM hS => ?_)
        refine lv_istore (lv' := [(5, .int r419), (0, .ref b), (1, .ref x1), (2, .ref x2), (3, .ref x3), (4, .int x4)]) hx hb d_La_law_1294 hl (by decide) rfl (fun ls hl => ?_)
        refine lv_aload_n hx hb d_La_law_1296 rfl (lv_at hl 3 rfl) ?_
        refine lv_aload_n hx hb d_La_law_1297 rfl (lv_at hl 1 rfl) ?_
        refine lv_iload hx hb d_La_law_1298 (lv_at hl 5 rfl) ?_
        refine lv_iconst (v := 1) hx hb d_La_law_1300 (by decide) ?_
        refine lv_iadd hx hb d_La_law_1301 ?_
        obtain ⟨hi420, hwp⟩ := hwp
        refine va_sld hx hb hscr.1 hscr.2.1 hscr.2.2 hS hi420 d_La_law_1302 ?_
        refine lv_aload_n hx hb d_La_law_1303 rfl (lv_at hl 1 rfl) ?_
        refine lv_iload hx hb d_La_law_1304 (lv_at hl 5 rfl) ?_
        refine lv_iconst (v := 2) hx hb d_La_law_1306 (by decide) ?_
        refine lv_iadd hx hb d_La_law_1307 ?_
        obtain ⟨hi421, hwp⟩ := hwp
        refine va_sld hx hb hscr.1 hscr.2.1 hscr.2.2 hS hi421 d_La_law_1308 ?_
        obtain ⟨hc424, hs425, hwp⟩ := hwp
        obtain ⟨ho423, hwp⟩ := hwp
        refine h_calll hM hS hA (va_runV (As := [.int (post.2 (x4 + (1 : Int32)).toNatClampNeg), .int (post.2 (x4 + (2 : Int32)).toNatClampNeg)]) (rest := []) ⟨hx, hb, hml, hown, hts⟩ (metMo_price l D κ H.size x2 (post.2 (x4 + (1 : Int32)).toNatClampNeg) (post.2 (x4 + (2 : Int32)).toNatClampNeg) M416 _ hwp) (cwV 2 hts (gV kw_1013 kw_1014 kw_1015 kw_8 kw_1016) rfl rfl rfl (by decide +kernel) ⟨(Nat.le_of_ble_eq_true rfl), (Nat.le_of_ble_eq_true rfl)⟩) (h_preV hE hM hS ho423 (r := ("BuckTablesModel", Tc6, 36)) rfl) rfl rfl hl.1 rfl (lv_room (Nat.le_of_ble_eq_true rfl)) d_La_law_1309 ⟨hc424, hs425⟩) (fun r426 M422 H locs hwp hM hS => ?_)
        refine lv_lstore (lv' := [(6, .long r426), (5, .int r419), (0, .ref b), (1, .ref x1), (2, .ref x2), (3, .ref x3), (4, .int x4)]) hx hb d_La_law_1312 hl (by decide) rfl (fun ls hl => ?_)
        refine lv_aload_n hx hb d_La_law_1314 rfl (lv_at hl 4 rfl) ?_
        obtain ⟨hc429, hs430, hwp⟩ := hwp
        obtain ⟨ho428, hwp⟩ := hwp
        refine h_calli hM hS hA (va_runV (As := []) (rest := []) ⟨hx, hb, hml, hown, hts⟩ (metMo_thrown l D κ H.size x2 M422 _ hwp) (cwV 0 hts (gV kw_829 kw_830 kw_831 kw_8 kw_832) rfl rfl rfl (by decide +kernel) ⟨(Nat.le_of_ble_eq_true rfl), (Nat.le_of_ble_eq_true rfl)⟩) (h_preV hE hM hS ho428 (r := ("BuckTablesModel", Tc6, 36)) rfl) rfl rfl hl.1 rfl (lv_room (Nat.le_of_ble_eq_true rfl)) d_La_law_1315 ⟨hc429, hs430⟩) (fun r431 M427 H locs hwp hM hS => ?_)
        refine lv_iload hx hb d_La_law_1318 (lv_at hl 1 rfl) ?_
        refine lv_icmp_eq (tgt := 1325) hx hb d_La_law_1320 (by decide) (fun c432 => ?_) (fun c432 => ?_)
        · replace hwp := hwp.1 c432
          refine lv_iload hx hb d_La_law_1325 (lv_at hl 1 rfl) ?_
          refine lv_if_ne (tgt := 1341) hx hb d_La_law_1327 (by decide) (fun c433 => ?_) (fun c433 => ?_)
          · replace hwp := hwp.2 c433
            exact tLa_law_1341 C hst post hscr (wLa_law_33 post n) ih x1 x2 x3 x4 (((kc + 3) + 0) + 0) (((ks + 18) + 0) + 0) M427 hwp H locs ls hM hS (lv_sub hl [2, 3, 4, 5, 6] rfl)
          · replace hwp := hwp.1 c433
            refine lv_aload_n hx hb d_La_law_1330 rfl (lv_at hl 5 rfl) ?_
            refine lv_iconst (v := 0) hx hb d_La_law_1331 (by decide) ?_
            obtain ⟨v434, ⟨n435, f436, ha437, hi438, ev434⟩, hwp⟩ := hwp
            refine h_lald hx hb hK hM ha437 rfl hi438 d_La_law_1332 ?_
            rw [← ev434]
            refine lv_lload hx hb d_La_law_1333 (lv_at hl 0 rfl) ?_
            refine W.lcmp hx hb d_La_law_1335 ?_
            refine lv_if_eq (tgt := 1341) hx hb d_La_law_1336 (by decide) (fun c439 => ?_) (fun c439 => ?_)
            · replace c439 := (lc_eq _ _).mp c439
              replace hwp := hwp.1 c439
              exact tLa_law_1341 C hst post hscr (wLa_law_33 post n) ih x1 x2 x3 x4 (((kc + 3) + 0) + 0) (((ks + 18) + 0) + 0) M427 hwp H locs ls hM hS (lv_sub hl [2, 3, 4, 5, 6] rfl)
            · replace c439 := fun h9 => c439 ((lc_eq _ _).mpr h9)
              replace hwp := hwp.2 c439
              refine lv_iconst (v := 0) hx hb d_La_law_1339 (by decide) ?_
              exact hwp.elim
        · replace hwp := hwp.2 c432
          refine lv_iconst (v := 0) hx hb d_La_law_1323 (by decide) ?_
          exact hwp.elim
      · replace hwp := hwp.2.2.2.2.2.2.2.2.2.2.2.2.2.2.2.2.2.1 hk9
        refine lv_tableIn (tgt := 1344) hx hb d_La_law_50 (by omega) (by omega) (show _ = some (1294 : Int) by rw [hk9]; rfl) (by decide) ?_
        refine lv_aload_n hx hb d_La_law_1344 rfl (lv_at hl 1 rfl) ?_
        refine lv_aload_n hx hb d_La_law_1345 rfl (lv_at hl 0 rfl) ?_
        refine lv_iload hx hb d_La_law_1346 (lv_at hl 4 rfl) ?_
        refine lv_iconst (v := 1) hx hb d_La_law_1348 (by decide) ?_
        refine lv_iadd hx hb d_La_law_1349 ?_
        obtain ⟨hi440, hwp⟩ := hwp
        refine va_sld hx hb hscr.1 hscr.2.1 hscr.2.2 hS hi440 d_La_law_1350 ?_
        refine lv_aload_n hx hb d_La_law_1351 rfl (lv_at hl 3 rfl) ?_
        obtain ⟨hc442, hs443, hwp⟩ := hwp
        refine h_calli hM hS hA (z_runS (n := 3) (As := [.ref x1, .int (post.2 (x4 + (1 : Int32)).toNatClampNeg), .ref x3]) (rest := []) ⟨hx, hb, hml, hown, hts⟩ (metLa_override l hst D κ H.size x1 (post.2 (x4 + (1 : Int32)).toNatClampNeg) x3 M _ hwp) (pay_in hts (gcons kw_699 wg_good)) List.mem_cons_self rfl rfl ⟨(Nat.le_of_ble_eq_true rfl), (Nat.le_of_ble_eq_true rfl)⟩ (hts _ kw_697) (hts _ kw_698) (hts _ kw_0) (by decide +kernel) (z_preS hE hNc hM hS) rfl rfl hl.1 rfl (lv_room (Nat.le_of_ble_eq_true rfl)) d_La_law_1352 ⟨hc442, hs443⟩) (fun r444 M441 H locs hwp hM hS => ?_)
        refine lv_istore (lv' := [(5, .int r444), (0, .ref b), (1, .ref x1), (2, .ref x2), (3, .ref x3), (4, .int x4)]) hx hb d_La_law_1355 hl (by decide) rfl (fun ls hl => ?_)
        refine lv_aload_n hx hb d_La_law_1357 rfl (lv_at hl 3 rfl) ?_
        refine lv_aload_n hx hb d_La_law_1358 rfl (lv_at hl 1 rfl) ?_
        refine lv_iload hx hb d_La_law_1359 (lv_at hl 5 rfl) ?_
        refine lv_iconst (v := 1) hx hb d_La_law_1361 (by decide) ?_
        refine lv_iadd hx hb d_La_law_1362 ?_
        obtain ⟨hi445, hwp⟩ := hwp
        refine va_sld hx hb hscr.1 hscr.2.1 hscr.2.2 hS hi445 d_La_law_1363 ?_
        obtain ⟨hc448, hs449, hwp⟩ := hwp
        obtain ⟨ho447, hwp⟩ := hwp
        refine h_calli hM hS hA (va_runV (As := [.int (post.2 (x4 + (1 : Int32)).toNatClampNeg)]) (rest := []) ⟨hx, hb, hml, hown, hts⟩ (metMo_override l D κ H.size x2 (post.2 (x4 + (1 : Int32)).toNatClampNeg) M441 _ hwp) (cwV 1 hts (gV kw_1017 kw_1018 kw_1019 kw_8 kw_1020) rfl rfl rfl (by decide +kernel) ⟨(Nat.le_of_ble_eq_true rfl), (Nat.le_of_ble_eq_true rfl)⟩) (h_preV hE hM hS ho447 (r := ("BuckTablesModel", Tc6, 36)) rfl) rfl rfl hl.1 rfl (lv_room (Nat.le_of_ble_eq_true rfl)) d_La_law_1364 ⟨hc448, hs449⟩) (fun r450 M446 H locs hwp hM hS => ?_)
        refine lv_istore (lv' := [(6, .int r450), (5, .int r444), (0, .ref b), (1, .ref x1), (2, .ref x2), (3, .ref x3), (4, .int x4)]) hx hb d_La_law_1367 hl (by decide) rfl (fun ls hl => ?_)
        refine lv_aload_n hx hb d_La_law_1369 rfl (lv_at hl 4 rfl) ?_
        obtain ⟨hc453, hs454, hwp⟩ := hwp
        obtain ⟨ho452, hwp⟩ := hwp
        refine h_calli hM hS hA (va_runV (As := []) (rest := []) ⟨hx, hb, hml, hown, hts⟩ (metMo_thrown l D κ H.size x2 M446 _ hwp) (cwV 0 hts (gV kw_829 kw_830 kw_831 kw_8 kw_832) rfl rfl rfl (by decide +kernel) ⟨(Nat.le_of_ble_eq_true rfl), (Nat.le_of_ble_eq_true rfl)⟩) (h_preV hE hM hS ho452 (r := ("BuckTablesModel", Tc6, 36)) rfl) rfl rfl hl.1 rfl (lv_room (Nat.le_of_ble_eq_true rfl)) d_La_law_1370 ⟨hc453, hs454⟩) (fun r455 M451 H locs hwp hM hS => ?_)
        refine lv_iload hx hb d_La_law_1373 (lv_at hl 1 rfl) ?_
        refine lv_icmp_eq (tgt := 1380) hx hb d_La_law_1375 (by decide) (fun c456 => ?_) (fun c456 => ?_)
        · replace hwp := hwp.1 c456
          refine lv_iload hx hb d_La_law_1380 (lv_at hl 1 rfl) ?_
          refine lv_if_ne (tgt := 1397) hx hb d_La_law_1382 (by decide) (fun c457 => ?_) (fun c457 => ?_)
          · replace hwp := hwp.2 c457
            exact tLa_law_1397 C hst post hscr (wLa_law_33 post n) ih x1 x2 x3 x4 (((kc + 2) + 0) + 0) (((ks + 12) + 0) + 0) M451 hwp H locs ls hM hS (lv_sub hl [2, 3, 4, 5, 6] rfl)
          · replace hwp := hwp.1 c457
            refine lv_aload_n hx hb d_La_law_1385 rfl (lv_at hl 5 rfl) ?_
            refine lv_iconst (v := 0) hx hb d_La_law_1386 (by decide) ?_
            obtain ⟨v458, ⟨n459, f460, ha461, hi462, ev458⟩, hwp⟩ := hwp
            refine h_lald hx hb hK hM ha461 rfl hi462 d_La_law_1387 ?_
            rw [← ev458]
            refine lv_iload hx hb d_La_law_1388 (lv_at hl 0 rfl) ?_
            refine lv_i2l hx hb d_La_law_1390 rfl ?_
            refine W.lcmp hx hb d_La_law_1391 ?_
            refine lv_if_eq (tgt := 1397) hx hb d_La_law_1392 (by decide) (fun c463 => ?_) (fun c463 => ?_)
            · replace c463 := (lc_eq _ _).mp c463
              replace hwp := hwp.1 c463
              exact tLa_law_1397 C hst post hscr (wLa_law_33 post n) ih x1 x2 x3 x4 (((kc + 2) + 0) + 0) (((ks + 12) + 0) + 0) M451 hwp H locs ls hM hS (lv_sub hl [2, 3, 4, 5, 6] rfl)
            · replace c463 := fun h9 => c463 ((lc_eq _ _).mpr h9)
              replace hwp := hwp.2 c463
              refine lv_iconst (v := 0) hx hb d_La_law_1395 (by decide) ?_
              exact hwp.elim
        · replace hwp := hwp.2 c456
          refine lv_iconst (v := 0) hx hb d_La_law_1378 (by decide) ?_
          exact hwp.elim
      · replace hwp := hwp.2.2.2.2.2.2.2.2.2.2.2.2.2.2.2.2.2.2.1 hk9
        refine lv_tableIn (tgt := 1400) hx hb d_La_law_50 (by omega) (by omega) (show _ = some (1350 : Int) by rw [hk9]; rfl) (by decide) ?_
        refine lv_aload_n hx hb d_La_law_1400 rfl (lv_at hl 1 rfl) ?_
        refine lv_aload_n hx hb d_La_law_1401 rfl (lv_at hl 3 rfl) ?_
        obtain ⟨hc465, hs466, hwp⟩ := hwp
        refine h_calli hM hS hA (z_runS (n := 2) (As := [.ref x1, .ref x3]) (rest := []) ⟨hx, hb, hml, hown, hts⟩ (metLa_greatest l hst D κ H.size x1 x3 M _ hwp) (pay_in hts (gcons kw_707 wg_good)) List.mem_cons_self rfl rfl ⟨(Nat.le_of_ble_eq_true rfl), (Nat.le_of_ble_eq_true rfl)⟩ (hts _ kw_705) (hts _ kw_706) (hts _ kw_0) (by decide +kernel) (z_preS hE hNc hM hS) rfl rfl hl.1 rfl (lv_room (Nat.le_of_ble_eq_true rfl)) d_La_law_1402 ⟨hc465, hs466⟩) (fun r467 M464 H locs hwp hM hS => ?_)
        refine lv_istore (lv' := [(5, .int r467), (0, .ref b), (1, .ref x1), (2, .ref x2), (3, .ref x3), (4, .int x4)]) hx hb d_La_law_1405 hl (by decide) rfl (fun ls hl => ?_)
        refine lv_aload_n hx hb d_La_law_1407 rfl (lv_at hl 3 rfl) ?_
        obtain ⟨hc470, hs471, hwp⟩ := hwp
        obtain ⟨ho469, hwp⟩ := hwp
        refine h_calli hM hS hA (va_runV (As := []) (rest := []) ⟨hx, hb, hml, hown, hts⟩ (metMo_greatest l D κ H.size x2 M464 _ hwp) (cwV 0 hts (gV kw_1022 kw_1023 kw_1024 kw_8 kw_1025) rfl rfl rfl (by decide +kernel) ⟨(Nat.le_of_ble_eq_true rfl), (Nat.le_of_ble_eq_true rfl)⟩) (h_preV hE hM hS ho469 (r := ("BuckTablesModel", Tc6, 36)) rfl) rfl rfl hl.1 rfl (lv_room (Nat.le_of_ble_eq_true rfl)) d_La_law_1408 ⟨hc470, hs471⟩) (fun r472 M468 H locs hwp hM hS => ?_)
        refine lv_istore (lv' := [(6, .int r472), (5, .int r467), (0, .ref b), (1, .ref x1), (2, .ref x2), (3, .ref x3), (4, .int x4)]) hx hb d_La_law_1411 hl (by decide) rfl (fun ls hl => ?_)
        refine lv_aload_n hx hb d_La_law_1413 rfl (lv_at hl 4 rfl) ?_
        obtain ⟨hc475, hs476, hwp⟩ := hwp
        obtain ⟨ho474, hwp⟩ := hwp
        refine h_calli hM hS hA (va_runV (As := []) (rest := []) ⟨hx, hb, hml, hown, hts⟩ (metMo_thrown l D κ H.size x2 M468 _ hwp) (cwV 0 hts (gV kw_829 kw_830 kw_831 kw_8 kw_832) rfl rfl rfl (by decide +kernel) ⟨(Nat.le_of_ble_eq_true rfl), (Nat.le_of_ble_eq_true rfl)⟩) (h_preV hE hM hS ho474 (r := ("BuckTablesModel", Tc6, 36)) rfl) rfl rfl hl.1 rfl (lv_room (Nat.le_of_ble_eq_true rfl)) d_La_law_1414 ⟨hc475, hs476⟩) (fun r477 M473 H locs hwp hM hS => ?_)
        refine lv_iload hx hb d_La_law_1417 (lv_at hl 1 rfl) ?_
        refine lv_icmp_eq (tgt := 1424) hx hb d_La_law_1419 (by decide) (fun c478 => ?_) (fun c478 => ?_)
        · replace hwp := hwp.1 c478
          refine lv_iload hx hb d_La_law_1424 (lv_at hl 1 rfl) ?_
          refine lv_if_ne (tgt := 1448) hx hb d_La_law_1426 (by decide) (fun c479 => ?_) (fun c479 => ?_)
          · replace hwp := hwp.2 c479
            exact tLa_law_1448 C hst post hscr (wLa_law_33 post n) ih x1 x2 x3 x4 (((kc + 1) + 0) + 0) (((ks + 6) + 0) + 0) M473 hwp H locs ls hM hS (lv_sub hl [2, 3, 4, 5, 6] rfl)
          · replace hwp := hwp.1 c479
            refine lv_aload_n hx hb d_La_law_1429 rfl (lv_at hl 5 rfl) ?_
            refine lv_iconst (v := 0) hx hb d_La_law_1430 (by decide) ?_
            obtain ⟨v480, ⟨n481, f482, ha483, hi484, ev480⟩, hwp⟩ := hwp
            refine h_lald hx hb hK hM ha483 rfl hi484 d_La_law_1431 ?_
            rw [← ev480]
            refine lv_iload hx hb d_La_law_1432 (lv_at hl 0 rfl) ?_
            refine lv_if_eq (tgt := 1441) hx hb d_La_law_1434 (by decide) (fun c485 => ?_) (fun c485 => ?_)
            · replace hwp := hwp.1 c485
              refine lv_lconst (v := 0) hx hb d_La_law_1441 (by decide) ?_
              exact tLa_law_1442 C hst post hscr (wLa_law_33 post n) ih x1 x2 x3 x4 (0 : Int64) v480 (((kc + 1) + 0) + 0) (((ks + 6) + 0) + 0) M473 hwp H locs ls hM hS (lv_sub hl [2, 3, 4, 5, 6] rfl)
            · replace hwp := hwp.2 c485
              refine lv_lconst (v := 1) hx hb d_La_law_1437 (by decide) ?_
              refine lv_goto (tgt := 1442) hx hb d_La_law_1438 (by decide) ?_
              exact tLa_law_1442 C hst post hscr (wLa_law_33 post n) ih x1 x2 x3 x4 (1 : Int64) v480 (((kc + 1) + 0) + 0) (((ks + 6) + 0) + 0) M473 hwp H locs ls hM hS (lv_sub hl [2, 3, 4, 5, 6] rfl)
        · replace hwp := hwp.2 c478
          refine lv_iconst (v := 0) hx hb d_La_law_1422 (by decide) ?_
          exact hwp.elim
      · replace hwp := hwp.2.2.2.2.2.2.2.2.2.2.2.2.2.2.2.2.2.2.2 hk9
        refine lv_tableOut (tgt := 1451) hx hb d_La_law_50 hk9 (by decide) ?_
        exact tLa_law_1451 C hst post hscr (wLa_law_33 post n) ih x1 x2 x3 x4 kc ks M hwp H locs ls hM hS (lv_sub hl [0, 1, 2, 3, 4] rfl)
def wpLa_law  (M : Hp) (post : Nat × (Nat → Int32)) : Prop := (0 + 1 ≤ 601024 ∧ 0 + 12 ≤ 7293000 ∧ (∀ a488 : Nat, M a488 = none → ∀ M490 : Hp, M490 = va_up M a488 (some (.inr (0, [.null, .null, .null, .int 0, .int 0, .int 0, .int 0, .null, .null, .int 0, .int 0, .long 0]))) → ((0 + 1) + 200 ≤ 601024 ∧ (0 + 12) + 20000 ≤ 7293000 ∧ (wpBT_init a488 (zCell post) M490 (fun (M491 : Hp) => (((0 + 1) + 200) + 1 ≤ 601024 ∧ ((0 + 12) + 20000) + 36 ≤ 7293000 ∧ (∀ a496 : Nat, M491 a496 = none → ∀ M498 : Hp, M498 = va_up M491 a496 (some (.inr (6, [.int 0, .int 0, .int 0, .int 0, .int 0, .null, .null, .null, .null, .null, .null, .null, .null, .null, .int 0, .null, .null, .null, .null, .null, .null, .null, .null, .null, .null, .null, .null, .null, .null, .null, .null, .null, .null, .int 0, .int 0, .long 0]))) → ((((0 + 1) + 200) + 1) + 27 ≤ 601024 ∧ (((0 + 12) + 20000) + 36) + 5200 ≤ 7293000 ∧ (wpMo_init a496 (zCell post) M498 (fun (M499 : Hp) => (((((0 + 1) + 200) + 1) + 27) + 1 ≤ 601024 ∧ ((((0 + 12) + 20000) + 36) + 5200) + 1 ≤ 7293000 ∧ (∀ a504 : Nat, M499 a504 = none → ∀ M506 : Hp, M506 = va_up M499 a504 (some (.inl (2, 1, .inr (.inl (fun _ => 0))))) → (∃ n507 : Nat, wLa_law_33 post n507 a488 a496 a504 (1 : Int32) (((((0 + 1) + 200) + 1) + 27) + 1) (((((0 + 12) + 20000) + 36) + 5200) + 1) M506)))))))))))))
set_option maxRecDepth 100000 in
set_option maxHeartbeats 4000000 in
theorem eLa_law {p : Program} {l : Launch} {e : Env} {s : State} {m : MethodId} {below : List Frame} {meth : Method} {c : Code} {D : va_G} {κ : Nat → ClassId} {A : Nat → Prop} {b : Nat} (C : Cx_La_law p s m #[Value.ref b] meth c D κ A) (hst : l.stackTraces = false) (post : Nat × (Nat → Int32)) (hscr : zScr b post A s)  (M : Hp) (hwp : wpLa_law  M post) : Y p l e room_1 s m #[Value.ref b] below meth c D kCl (hTys κ) A 8 0 0 (lw_Z below #[Value.ref b] s) M 0 [(0, .ref b)] [] := by
  obtain ⟨hx, hb, hml, hr, hown, hts, hlocks, hE, hA, hNc, hAn⟩ := id C
  have hK := hE.1
  intro H locs ls hM hS hl
  unfold wpLa_law at hwp
  obtain ⟨hc486, hs487, hwp⟩ := hwp
  refine h_new (C := "BuckTables") (T := Tc0) (N := 12) (ci := 0) (fs := [.null, .null, .null, .int 0, .int 0, .int 0, .int 0, .null, .null, .int 0, .int 0, .long 0]) hx hb hts inc0 tyc0 tyc0_ok hown (hts _ kw_16) (hts _ kw_17) (hts _ kw_1) hK hM hS hA rfl dfc0 hc486 hs487 d_La_law_0 (fun a488 H hq489 hM hS => ?_)
  obtain ⟨M490, eM490⟩ : ∃ z : Hp, z = va_up M a488 (some (.inr (0, [.null, .null, .null, .int 0, .int 0, .int 0, .int 0, .null, .null, .int 0, .int 0, .long 0]))) := ⟨_, rfl⟩
  rw [← eM490] at hM
  replace hwp := hwp a488 hq489 M490 eM490
  refine lv_dup hx hb d_La_law_3 rfl ?_
  refine lv_aload_n hx hb d_La_law_4 rfl (lv_at hl 0 rfl) ?_
  refine lv_iconst (v := 0) hx hb d_La_law_5 (by decide) ?_
  refine W.callR (W.runS (As := [.ref b, .int 0]) (rest := [.ref a488, .ref a488]) ⟨hx, hb, hml, hown, hts⟩ (met_cell l b post) (cwS 2 hts (gS kw_332 kw_333 kw_0 kw_334) rfl rfl rfl (by decide +kernel) ⟨(Nat.le_of_ble_eq_true rfl), (Nat.le_of_ble_eq_true rfl)⟩) (z_scr hscr hS) rfl rfl hl.1 rfl (lv_room (Nat.le_of_ble_eq_true rfl)) d_La_law_6 ⟨by show _ ≤ 601024; omega, by show _ ≤ 7293000; omega⟩) ?_
  refine (show W _ _ _ _ _ _ _ _ _ _ _ _ _ _ _ (F0 _ 9 _ [.int (zCell post), .ref a488, .ref a488]) from ?_)
  obtain ⟨hc492, hs493, hwp⟩ := hwp
  refine h_callv hM hS hA (va_runI (As := [.int (zCell post)]) (rest := [.ref a488]) ⟨hx, hb, hml, hown, hts⟩ (metBT_init l D κ H.size a488 (zCell post) M490 _ hwp) (cwI 1 hts (gC kw_20) rfl rfl rfl (hts _ kw_1) (hts _ kw_18) (hts _ kw_19) rfl (by decide +kernel) ⟨(Nat.le_of_ble_eq_true rfl), (Nat.le_of_ble_eq_true rfl)⟩) (h_preS hE hM hS) rfl rfl hl.1 rfl (lv_room (Nat.le_of_ble_eq_true rfl)) d_La_law_9 ⟨hc492, hs493⟩) (fun M491 H locs hwp hM hS => ?_)
  refine lv_astore_n (lv' := [(1, .ref a488), (0, .ref b)]) hx hb d_La_law_12 rfl hl (by decide) rfl (fun ls hl => ?_)
  obtain ⟨hc494, hs495, hwp⟩ := hwp
  refine h_new (C := "BuckTablesModel") (T := Tc6) (N := 36) (ci := 6) (fs := [.int 0, .int 0, .int 0, .int 0, .int 0, .null, .null, .null, .null, .null, .null, .null, .null, .null, .int 0, .null, .null, .null, .null, .null, .null, .null, .null, .null, .null, .null, .null, .null, .null, .null, .null, .null, .null, .int 0, .int 0, .long 0]) hx hb hts inc6 tyc6 tyc6_ok hown (hts _ kw_712) (hts _ kw_713) (hts _ kw_8) hK hM hS hA rfl dfc6 hc494 hs495 d_La_law_13 (fun a496 H hq497 hM hS => ?_)
  obtain ⟨M498, eM498⟩ : ∃ z : Hp, z = va_up M491 a496 (some (.inr (6, [.int 0, .int 0, .int 0, .int 0, .int 0, .null, .null, .null, .null, .null, .null, .null, .null, .null, .int 0, .null, .null, .null, .null, .null, .null, .null, .null, .null, .null, .null, .null, .null, .null, .null, .null, .null, .null, .int 0, .int 0, .long 0]))) := ⟨_, rfl⟩
  rw [← eM498] at hM
  replace hwp := hwp a496 hq497 M498 eM498
  refine lv_dup hx hb d_La_law_16 rfl ?_
  refine lv_aload_n hx hb d_La_law_17 rfl (lv_at hl 1 rfl) ?_
  refine lv_iconst (v := 0) hx hb d_La_law_18 (by decide) ?_
  refine W.callR (W.runS (As := [.ref b, .int 0]) (rest := [.ref a496, .ref a496]) ⟨hx, hb, hml, hown, hts⟩ (met_cell l b post) (cwS 2 hts (gS kw_332 kw_333 kw_0 kw_334) rfl rfl rfl (by decide +kernel) ⟨(Nat.le_of_ble_eq_true rfl), (Nat.le_of_ble_eq_true rfl)⟩) (z_scr hscr hS) rfl rfl hl.1 rfl (lv_room (Nat.le_of_ble_eq_true rfl)) d_La_law_19 ⟨by show _ ≤ 601024; omega, by show _ ≤ 7293000; omega⟩) ?_
  refine (show W _ _ _ _ _ _ _ _ _ _ _ _ _ _ _ (F0 _ 22 _ [.int (zCell post), .ref a496, .ref a496]) from ?_)
  obtain ⟨hc500, hs501, hwp⟩ := hwp
  refine h_callv hM hS hA (va_runI (As := [.int (zCell post)]) (rest := [.ref a496]) ⟨hx, hb, hml, hown, hts⟩ (metMo_init l D κ H.size a496 (zCell post) M498 _ hwp) (cwI 1 hts (gC kw_716) rfl rfl rfl (hts _ kw_8) (hts _ kw_714) (hts _ kw_715) rfl (by decide +kernel) ⟨(Nat.le_of_ble_eq_true rfl), (Nat.le_of_ble_eq_true rfl)⟩) (h_preS hE hM hS) rfl rfl hl.1 rfl (lv_room (Nat.le_of_ble_eq_true rfl)) d_La_law_22 ⟨hc500, hs501⟩) (fun M499 H locs hwp hM hS => ?_)
  refine lv_astore_n (lv' := [(2, .ref a496), (1, .ref a488), (0, .ref b)]) hx hb d_La_law_25 rfl hl (by decide) rfl (fun ls hl => ?_)
  refine lv_iconst (v := 1) hx hb d_La_law_26 (by decide) ?_
  obtain ⟨hc502, hs503, hwp⟩ := hwp
  refine h_newa (atype := .long) (t := 2) (N' := 1) (a0 := (1, .inr (.inl (fun _ => 0)))) hx hb (hts _ kw_54) hK hM hS hA rfl (fun _ => rfl) (by decide) (by decide) (by decide) hc502 hs503 d_La_law_27 (fun a504 H hq505 hM hS => ?_)
  obtain ⟨M506, eM506⟩ : ∃ z : Hp, z = va_up M499 a504 (some (.inl (2, 1, .inr (.inl (fun _ => 0))))) := ⟨_, rfl⟩
  rw [← eM506] at hM
  replace hwp := hwp a504 hq505 M506 eM506
  refine lv_astore_n (lv' := [(3, .ref a504), (2, .ref a496), (1, .ref a488), (0, .ref b)]) hx hb d_La_law_29 rfl hl (by decide) rfl (fun ls hl => ?_)
  refine lv_iconst (v := 1) hx hb d_La_law_30 (by decide) ?_
  refine lv_istore (lv' := [(4, .int (1 : Int32)), (3, .ref a504), (2, .ref a496), (1, .ref a488), (0, .ref b)]) hx hb d_La_law_31 hl (by decide) rfl (fun ls hl => ?_)
  obtain ⟨n507, hwp⟩ := hwp
  exact tLa_law_33 C hst post hscr n507 a488 a496 a504 (1 : Int32) (((((0 + 1) + 200) + 1) + 27) + 1) (((((0 + 12) + 20000) + 36) + 5200) + 1) M506 hwp H locs ls hM hS (lv_sub hl [4, 3, 2, 1, 0] rfl)
