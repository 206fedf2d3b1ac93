/-! THE CLAIM OUT OF ONE WALK OF THE LAW'S BODY. Your part is whole_start (and what it stands on); all else here is the same for every law, but numbers. -/
def R_law : String := "GreyReelLaw"
def lw_P (b : Addr) (xs : List Int32) (args : Array Value) (s : State) : Prop := args = #[.ref b] ∧ s.IntsAt b xs ∧ xs.length ≤ 260 ∧ (Jvm.Cond.and given_1 narrow_1).before args s = true
/-- what a walk over the start with the record d0 says of its end, said of the start itself -/
theorem lw_closed {s t : State} {o : Outcome} {d0 : Drawn} {L : List Loc} {k n : Nat} (hd0 : s.drawn.sameBut d0 lw_cs) (hv : ∃ v, o = .returned v) (hW : (s.setDrawn d0).WarmedH t.vm) (hs : (s.setDrawn d0).sameButNew ({ t with vm := s.vm } : State) L k n) : State.butDraws s t lw_cs (fun t1 => Framed s o t1 L k n) := by
  have h2 : t.drawn = d0 := congrArg State.drawn hs.1
  refine ⟨⟨hv, hW, State.sameButNew.setDrawn hs s.drawn⟩, ?_, by decide⟩
  rw [h2]
  exact hd0
def lw_Q (_ : Array Value) (s : State) (o : Outcome) (t : State) : Prop := o = .returned (some (.int 1)) ∧ State.butDraws s t lw_cs (fun t1 => Framed s o t1 [] 600086 7301442)
def lw_Z (below : List Frame) (a : Array Value) (s : State) : State → Prop := fun t => ∃ o, t.status = .running ∧ Ended t below o ∧ lw_Q a s o t
/-- the law's own end, with 1 on the stack, nothing written that was there before, its room as the claim has it; d0: the record of draws at this point (at the entry s.drawn: begin with 'refine W.base ?_' and 'have hd0 := Drawn.sameBut.refl s.drawn lw_cs') -/
theorem lw_ret {p : Program} {l : Launch} {e : Env} {s : State} {m : MethodId} {below : List Frame} {meth : Method} {c : Code} {b : Nat} {d0 : Drawn} (hd0 : s.drawn.sameBut d0 lw_cs) (hx : p.tables.exec = Jvm.exec) (hb : c.code = code) (hr : meth.sig.returnType = ret) (hlocks : meth.locks = false) {pc : Nat} {H : Heap} {ls : Array Slot} (hdg : decode code pc = .ok (.ireturn, 1)) : W p l e room_1 (s.setDrawn d0) m #[Value.ref b] below meth c H [] 600086 7301442 (lw_Z below #[Value.ref b] s) (F0 m pc ls [.int 1]) := by
  intro T hT X
  obtain ⟨fs, hret, hrun, hended, hW, hframe⟩ := X.leave (v := some (.int 1)) (hlocks := hlocks) (fun h => by rw [hr] at h; cases h)
  have hmeth' : T.vm.method? m = some meth := X.method'
  refine ⟨T.setFrames fs, ?_, .returned (some (.int 1)), hrun, hended, rfl, lw_closed hd0 ⟨_, rfl⟩ hW hframe⟩
  jvm_step X.here [X.here.top, hx, hb, hdg, hmeth', hr, ret, narrow_b1]
  (try refine ⟨rfl, ?_⟩); (try refine ⟨rfl, ?_⟩)
  first | (intro acts; rw [hret _ acts rfl rfl rfl]) | rw [hret _ _ rfl rfl rfl]
  exact Steps.refl _
/-- what holds at the law's entry: the machine, the code, the tables' words (any of lw_tbl by 'hts w (by decide +kernel)'), the script of L ints xs at the cell b, what the Statement gives of the start (any of its parts by flat_of_before) -/
def lw_At (p : Program) (s : State) (m : MethodId) (meth : Method) (c : Code) (b L : Nat) (xs : Nat → Int32) : Prop :=
  p.tables.exec = Jvm.exec ∧ c.code = code ∧ meth.sig.returnType = ret ∧ c.maxLocals = 14 ∧ s.vm.findClass R_law = some m.cls ∧ (∀ w ∈ lw_tbl, w.before #[Value.ref b] s = true) ∧ va_X b L xs s s.heap ∧ b < s.heap.size ∧ meth.locks = false ∧ (Jvm.Cond.and given_1 narrow_1).before #[Value.ref b] s = true
/-! START: what the Statement gives of the surroundings -/
theorem tb_mem {w : Cond} (h : w ∈ tables_1) : w ∈ lw_tbl := List.mem_append_right _ h
abbrev tORD : Term := .static "GreyReel$Studio" "ORDER" "[I"
set_option maxHeartbeats 4000000 in
set_option maxRecDepth 100000 in
theorem ev_start {s : State} {b : Nat} (hts : ∀ w ∈ lw_tbl, w.before #[Value.ref b] s = true) (hgv : (Jvm.Cond.and given_1 narrow_1).before #[Value.ref b] s = true) : ∃ (dC : Nat → ClassId) (dI : Nat → Nat → Nat) (cI cZ cP : ClassId) (tO : Nat), EV (dC, dI) cI cZ cP s.heap.size tO s s.heap ∧ EX s := by
  have ht : ∀ (i : Nat) (w : Cond), tables_1[i]? = some w → w.before #[Value.ref b] s = true := fun i w h => hts w (tb_mem (List.mem_of_getElem? h))
  obtain ⟨c0, i0, hK0⟩ := u_known (C := RX0) (T := TX0) (N := 5) (n := 5) hts inX0 (ht 27 (.instantiable RX0 5) (by decide +kernel))
  obtain ⟨c1, i1, hK1⟩ := u_known (C := RX1) (T := TX1) (N := 4) (n := 4) hts inX1 (ht 73 (.instantiable RX1 4) (by decide +kernel))
  obtain ⟨c2, i2, hK2⟩ := u_known (C := RX2) (T := TX2) (N := 14) (n := 14) hts inX2 (ht 115 (.instantiable RX2 14) (by decide +kernel))
  obtain ⟨c3, i3, hK3⟩ := u_known (C := RX3) (T := TX3) (N := 4) (n := 4) hts inX3 (ht 33 (.instantiable RX3 4) (by decide +kernel))
  obtain ⟨c4, i4, hK4⟩ := u_known (C := RX4) (T := TX4) (N := 3) (n := 3) hts inX4 (ht 92 (.instantiable RX4 3) (by decide +kernel))
  obtain ⟨c5, i5, hK5⟩ := u_known (C := RX5) (T := TX5) (N := 14) (n := 14) hts inX5 (ht 17 (.instantiable RX5 14) (by decide +kernel))
  obtain ⟨dC, dI, hKc⟩ : ∃ (dC : Nat → ClassId) (dI : Nat → Nat → Nat), ∀ (k : Nat) (q : vw_C), vwCl[k]? = some q → u_Kn s q.1 q.2.1 q.2.2 (dC k) (dI k) := by
    refine ⟨fun k => if k = 0 then c0 else if k = 1 then c1 else if k = 2 then c2 else if k = 3 then c3 else if k = 4 then c4 else c5, fun k => if k = 0 then i0 else if k = 1 then i1 else if k = 2 then i2 else if k = 3 then i3 else if k = 4 then i4 else i5, ?_⟩
    intro k q hq
    match k, hq with
    | 0, hq => cases hq; exact hK0
    | 1, hq => cases hq; exact hK1
    | 2, hq => cases hq; exact hK2
    | 3, hq => cases hq; exact hK3
    | 4, hq => cases hq; exact hK4
    | 5, hq => cases hq; exact hK5
    | k + 6, hq => simp [vwCl] at hq
  obtain ⟨cI, kI, mI, a1, a2, a3⟩ := Cond.arrayClass_spec (ht 54 (.arrayClass .int) (by decide +kernel))
  obtain ⟨cZ, kZ, mZ, z1, z2, z3⟩ := Cond.arrayClass_spec (ht 202 (.arrayClass .boolean) (by decide +kernel))
  have hAO : va_AO "GreyReel$Picture" s := va_AO.of (ht 25 (.arrayOver (.object "GreyReel$Picture")) (by decide +kernel))
  obtain ⟨mP, cP, kP, p1, p2, p3, p4, p5⟩ := Cond.arrayOver_spec hAO
  have hs := flat_of_before _ hgv
  have hA : ∀ a : Nat, a < s.heap.size → ¬ dyn s.heap.size a := fun a h z => absurd h (Nat.not_lt.mpr z)
  obtain ⟨tO, hv, hT⟩ := va_Tof (args := #[Value.ref b]) (s := s) (tm := tORD) (ty := .int) (N := 16) (f := ordI) (A := dyn s.heap.size) (by decide) (hs (.arrayOf tORD .int) (by decide +kernel)) (va_eqt (hs (.eq (.length tORD) (.int 16)) (by decide +kernel))) (fun j hj => by
    rcases (show j = 0 ∨ j = 1 ∨ j = 2 ∨ j = 3 ∨ j = 4 ∨ j = 5 ∨ j = 6 ∨ j = 7 ∨ j = 8 ∨ j = 9 ∨ j = 10 ∨ j = 11 ∨ j = 12 ∨ j = 13 ∨ j = 14 ∨ j = 15 by omega) with h | h | h | h | h | h | h | h | h | h | h | h | h | h | h | h
    · subst h; exact va_eqt (hs (.eq (.elem tORD (.int 0)) (.int 0)) (by decide +kernel))
    · subst h; exact va_eqt (hs (.eq (.elem tORD (.int 1)) (.int 1)) (by decide +kernel))
    · subst h; exact va_eqt (hs (.eq (.elem tORD (.int 2)) (.int 4)) (by decide +kernel))
    · subst h; exact va_eqt (hs (.eq (.elem tORD (.int 3)) (.int 8)) (by decide +kernel))
    · subst h; exact va_eqt (hs (.eq (.elem tORD (.int 4)) (.int 5)) (by decide +kernel))
    · subst h; exact va_eqt (hs (.eq (.elem tORD (.int 5)) (.int 2)) (by decide +kernel))
    · subst h; exact va_eqt (hs (.eq (.elem tORD (.int 6)) (.int 3)) (by decide +kernel))
    · subst h; exact va_eqt (hs (.eq (.elem tORD (.int 7)) (.int 6)) (by decide +kernel))
    · subst h; exact va_eqt (hs (.eq (.elem tORD (.int 8)) (.int 9)) (by decide +kernel))
    · subst h; exact va_eqt (hs (.eq (.elem tORD (.int 9)) (.int 12)) (by decide +kernel))
    · subst h; exact va_eqt (hs (.eq (.elem tORD (.int 10)) (.int 13)) (by decide +kernel))
    · subst h; exact va_eqt (hs (.eq (.elem tORD (.int 11)) (.int 10)) (by decide +kernel))
    · subst h; exact va_eqt (hs (.eq (.elem tORD (.int 12)) (.int 7)) (by decide +kernel))
    · subst h; exact va_eqt (hs (.eq (.elem tORD (.int 13)) (.int 11)) (by decide +kernel))
    · subst h; exact va_eqt (hs (.eq (.elem tORD (.int 14)) (.int 14)) (by decide +kernel))
    · subst h; exact va_eqt (hs (.eq (.elem tORD (.int 15)) (.int 15)) (by decide +kernel))) hA
  have hZ : va_Z "GreyReel$Studio" "ORDER" "[I" (.ref tO) (dyn s.heap.size) s s.heap := va_Zref (ht 488 (.laysStatic "GreyReel$Studio" "ORDER" "[I") (by decide +kernel)) (ht 3 (.initialized "GreyReel$Studio") (by decide +kernel)) hv hA
  have nw : ∀ (i : Nat) (w : Cond), tables_1[i]? = some w → w.onTables = true → va_Nw w s := fun i w h ho => va_Nw.of ho (ht i w h)
  refine ⟨dC, dI, cI, cZ, cP, tO, ⟨⟨hKc, ?_⟩, ?_, Nat.le_refl _, hZ, hT⟩, nw 580 (.castable "[I" "java/lang/Cloneable") (by decide +kernel) rfl, hAO⟩
  · intro k q hq
    match k, hq with
    | 0, hq => cases hq; exact ⟨fun n z => ⟨fun k h => (by cases h), kI, a2, mI, a3⟩, a1⟩
    | 1, hq => cases hq; exact ⟨fun n z => ⟨fun k h => (by cases h), kZ, z2, mZ, z3⟩, z1⟩
    | 2, hq => cases hq; exact ⟨fun n z => ⟨fun k h => (by cases h), kP, p3, mP, p4⟩, kP, mP, p3, p4, p1, p5⟩
    | k + 3, hq => simp [TYS] at hq
  · exact ⟨⟨nw 28 (.methodLinkNest RX5 21 yX0_init "GreyReel") (by decide +kernel) rfl, nw 74 (.methodLinkNest RX5 28 yX1_init "GreyReel") (by decide +kernel) rfl, nw 116 (.methodLinkNest RX5 43 yX2_init "GreyReel") (by decide +kernel) rfl⟩,
      ⟨nw 34 (.methodLinkNest RX0 11 yX3_init "GreyReel") (by decide +kernel) rfl, nw 434 (.methodLinkNest RX0 111 yX5_isWithin "GreyReel") (by decide +kernel) rfl, nw 468 (.methodLinkNest RX0 69 yX5_isFirstOfBand "GreyReel") (by decide +kernel) rfl⟩,
      ⟨nw 542 (.methodLinkNest RX1 104 yX5_folded "GreyReel") (by decide +kernel) rfl, nw 571 (.methodLinkNest RX1 25 yX5_onRow "GreyReel") (by decide +kernel) rfl⟩,
      nw 404 (.methodLinkNest RX2 67 yX5_isFirstOfBand "GreyReel") (by decide +kernel) rfl,
      ⟨nw 374 (.methodLinkNest RX3 24 yX5_onRow "GreyReel") (by decide +kernel) rfl, nw 422 (.methodLinkNest RX3 49 yX5_firstPointOf "GreyReel") (by decide +kernel) rfl, nw 451 (.methodLinkNest RX3 58 yX5_isFirstOfBand "GreyReel") (by decide +kernel) rfl, nw 461 (.methodLinkNest RX3 68 yX5_clip "GreyReel") (by decide +kernel) rfl⟩,
      nw 98 (.methodLinkNest RX4 11 yX3_init "GreyReel") (by decide +kernel) rfl⟩
