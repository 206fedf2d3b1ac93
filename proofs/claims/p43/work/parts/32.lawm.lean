def m31 (v : Int32) : Nat := v.toBitVec.toNat % 2147483648
theorem m31_eq (v : Int32) : v &&& 2147483647 = nI (m31 v) := pk_and v 31 (by decide)
theorem m31_lt (v : Int32) : m31 v < 2147483648 := Nat.mod_lt _ (by decide)
theorem sub_ti {a : Nat} {x : Int32} (ha : a < 1000000) (hx : -1000000 ≤ x.toInt ∧ x.toInt ≤ 1000000) : (nI a - x).toInt = (a : Int) - x.toInt := by
  rw [ti_sub (by rw [nI_toInt (by omega)]; omega) (by rw [nI_toInt (by omega)]; omega), nI_toInt (by omega)]
theorem sub_r {a : Nat} {x : Int32} {lo hi : Int} (ha : a < 1000000) (hx : -1000000 ≤ x.toInt ∧ x.toInt ≤ 1000000) (h : lo ≤ (a : Int) - x.toInt ∧ (a : Int) - x.toInt ≤ hi) : lo ≤ (nI a - x).toInt ∧ (nI a - x).toInt ≤ hi := by
  rw [sub_ti ha hx]; exact h
theorem ti_3 : (3 : Int32).toInt = 3 := by decide
theorem ti_20 : (20 : Int32).toInt = 20 := by decide
theorem ti_40 : (40 : Int32).toInt = 40 := by decide
theorem lnz_le (fv : Nat → Int32) (b : Nat) : ∀ n, lnz fv b n ≤ n
  | 0 => Nat.le_refl _
  | n + 1 => by
    have := lnz_le fv b n
    show lnz fv b n + (if fv (b * 64 + n) = 0 then 0 else 1) ≤ n + 1
    split <;> omega
theorem absI_6 {v : Int32} (h : vOK v) : (absI v).toInt ≤ 6 := by
  have h1 := vOK_i h
  exact (absI_le (B := 6) (by omega) (by omega) (by omega)).2
theorem absI_gt {v r : Int32} (hr : r = v) (h : vOK v) (c : 6 < absI r) : False := by
  subst hr
  have := absI_6 h
  rw [Int32.lt_iff_toInt_lt, ti_6] at c
  omega
theorem absI_nle {v r : Int32} (hr : r = v) (h : vOK v) (c : ¬ absI r ≤ 6) : False := by
  subst hr
  have := absI_6 h
  rw [Int32.le_iff_toInt_le, ti_6] at c
  omega
theorem fb9 {ub : Nat → Nat} (h : ∀ j, j < 3 → 17 ≤ ub j) : 9 ≤ fbN ub 3 := by
  have h0 := h 0 (by omega)
  have h1 := h 1 (by omega)
  have h2 := h 2 (by omega)
  show 9 ≤ 0 + (ub 0 + 7) / 8 + (ub 1 + 7) / 8 + (ub 2 + 7) / 8
  omega
set_option maxHeartbeats 4000000 in
set_option maxRecDepth 100000 in
/-- cell(s, k): some number -/
theorem C_L_cell (l : Launch) (b L k : Nat) (xs : Nat → Int32) (hk : k < 1000) (hL : L ≤ 260) : Met l yL_cell wsL_cell ({ frames := 0, cells := 0, slots := 0, locals := 0 } : Room) (va_Pc [.ref b, .int (nI k)] (fun U => va_X b L xs U U.heap ∧ b < U.heap.size)) (vp_Si (fun _ => True)) 0 0 (fun _ => False) := by
  refine Met.ofW (cc := cL_cell) (maxL := 2) (ret := some .int) (by decide) rfl ?_
  intro p e s m args below meth c s₁ B hml hv
  obtain ⟨rfl, hX, hbl⟩ := hv
  have hx := B.exec
  have hb := B.bytes
  have hr := B.returns
  have hts := atoms_spec (ws := wsL_cell) B.pre
  have hown : s.vm.findClass RL = some m.cls := findClass_of_methodNamed B.named
  have hlocks := B.notSynchronized
  have hS : va_S (fun _ => False) s.heap s.heap [] := va_S.rf
  have hl := lv_entry ([.ref b, .int (nI k)]) (n := 2) (Nat.le_of_ble_eq_true rfl)
  rw [lg_entry_eq]
  generalize (lg_sl ([.ref b, .int (nI k)]) ++ List.replicate (2 - (lg_sl ([.ref b, .int (nI k)])).length) Slot.unset).toArray = ls at hl ⊢
  have hl : lv_has ls 2 [(0, .ref b), (1, .int (nI k))] := hl
  refine lv_iload_n hx hb dL_cell_0 rfl (lv_at hl 1 rfl) ?_
  refine lv_aload_n hx hb dL_cell_1 rfl (lv_at hl 0 rfl) ?_
  refine va_slen hx hb hX hbl (fun h => h) hS dL_cell_2 ?_
  refine lv_icmp_ge (tgt := 12) hx hb dL_cell_3 (by decide) (fun c3 => ?_) (fun c3 => ?_)
  · refine lv_ldc (v := 790386105) hx hb hown (hts (.constant RL 8 (790386105)) (by decide +kernel)) dL_cell_12 ?_
    refine lv_iload_n hx hb dL_cell_14 rfl (lv_at hl 1 rfl) ?_
    refine lv_iconst (v := 3) hx hb dL_cell_15 (by decide) ?_
    refine lv_iadd hx hb dL_cell_16 ?_
    refine lv_imul hx hb dL_cell_17 ?_
    exact W.iret (v := 790386105 * (nI k + 3)) hx hb hr (fun t ht hW => ⟨_, rfl, trivial, ht⟩) (fun _ h => by cases h) dL_cell_18
  · have hlt : k < L := by
      rcases Nat.lt_or_ge k L with z | z
      · exact z
      · exact absurd ((nI_leI (a := L) (b := k) (by omega) (by omega)).mpr z) c3
    refine lv_aload_n hx hb dL_cell_6 rfl (lv_at hl 0 rfl) ?_
    refine lv_iload_n hx hb dL_cell_7 rfl (lv_at hl 1 rfl) ?_
    refine va_sld hx hb hX hbl (fun h => h) hS (vp_in_nI hlt (by omega)) dL_cell_8 ?_
    refine lv_goto (tgt := 18) hx hb dL_cell_9 (by decide) ?_
    exact W.iret (v := xs (nI k).toNatClampNeg) hx hb hr (fun t ht hW => ⟨_, rfl, trivial, ht⟩) (fun _ h => by cases h) dL_cell_18
set_option maxHeartbeats 4000000 in
set_option maxRecDepth 100000 in
theorem C_L_below (l : Launch) (dC : Nat → ClassId) (dI : Nat → Nat → Nat) (cI cZ cP : ClassId) (N0 tO : Nat) (v : Int32) (n : Nat) (h0n : 0 < n) (hn : n < 1000000) : Met l yL_below wsL_below ({ frames := 0, cells := 0, slots := 0, locals := 0 } : Room) (Gv (dC, dI) cI cZ cP N0 tO [.int v, .int (nI n)] (fun H => True)) (vp_Si (fun r : Int32 => r = nI (m31 v % n))) 0 0 (fun _ => False) := by
  refine Met.ofW (cc := cL_below) (maxL := 2) (ret := (some .int)) (by decide) rfl ?_
  intro p e s m args below meth c s₁ B hml hv
  obtain ⟨rfl, hE, hP⟩ := hv
  have hx := B.exec
  have hb := B.bytes
  have hr := B.returns
  have hts := atoms_spec (ws := wsL_below) B.pre
  have hown : s.vm.findClass RL = some m.cls := findClass_of_methodNamed B.named
  have hlocks := B.notSynchronized
  have hK := hE.1
  have hNS := hE.2.1
  have hl := lv_entry ([.int v, .int (nI n)]) (n := 2) (Nat.le_of_ble_eq_true rfl)
  rw [lg_entry_eq]
  generalize (lg_sl ([.int v, .int (nI n)]) ++ List.replicate (2 - (lg_sl ([.int v, .int (nI n)])).length) Slot.unset).toArray = ls at hl ⊢
  have hl : lv_has ls 2 [(0, .int v), (1, .int (nI n))] := hl
  have hm31 := m31_lt v
  refine lv_iload_n hx hb dL_below_0 rfl (lv_at hl 0 rfl) ?_
  refine lv_ldc (v := 2147483647) hx hb hown (hts (.constant RL 7 (2147483647)) (List.mem_of_getElem? (i := 1) (by decide +kernel))) dL_below_1 ?_
  refine lv_iand hx hb dL_below_3 ?_
  refine lv_topr (show _ = nI (m31 v) from m31_eq v) ?_
  refine lv_iload_n hx hb dL_below_4 rfl (lv_at hl 1 rfl) ?_
  refine lv_irem hx hb dL_below_5 (gn_ne0 h0n (by omega)) ?_
  refine lv_topr (show _ = nI (m31 v % n) from pk_rem (a := m31 v) (d := n) (by omega) h0n (by omega)) ?_
  exact W.iret (v := nI (m31 v % n)) hx hb hr (fun t ht hW => ⟨nI (m31 v % n), rfl, rfl, ht⟩) (fun _ h => by cases h) dL_below_6
set_option maxHeartbeats 4000000 in
set_option maxRecDepth 100000 in
theorem C_L_paint (l : Launch) (dC : Nat → ClassId) (dI : Nat → Nat → Nat) (cI cZ cP : ClassId) (N0 tO : Nat) (g0 gC gR c0 w0 v0 gB p0 cd : Nat) (db st bw ki sg ak : Int32) (fc fb : Nat → Int32) (x y : Int32) (hc0 : rng fc 768) : Met l yL_paint wsL_paint ({ frames := 3, cells := 0, slots := 0, locals := 79 } : Room) (Gv (dC, dI) cI cZ cP N0 tO [.ref g0, .int x, .int y] (fun H => va_P (dC, dI) vwCl [(g0, .inr (5, [.ref gC, .ref gR, .ref c0, .ref w0, .ref v0, .ref gB, .ref p0, .int (nI cd), .int db, .int st, .int bw, .int ki, .int sg, .int ak])), (gC, .inl (cI, 768, .inl fc)), (gB, .inl (cI, 768, .inl fb))] H ∧ AD N0 [g0, gC, gB])) (va_Qv (fun (u : (Nat → Int32) × (Nat → Int32)) => match u with | (f9, f8) => rng f9 768) (fun (u : (Nat → Int32) × (Nat → Int32)) (t : State) => match u with | (f9, f8) => va_P (dC, dI) vwCl [(g0, .inr (5, [.ref gC, .ref gR, .ref c0, .ref w0, .ref v0, .ref gB, .ref p0, .int (nI cd), .int db, .int st, .int bw, .int ki, .int sg, .int ak])), (gC, .inl (cI, 768, .inl f9)), (gB, .inl (cI, 768, .inl f8))] t.heap) (inL [g0, gC, gB])) 0 0 (inL [g0, gC, gB]) := by
  refine Met.ofW (cc := cL_paint) (maxL := 3) (ret := none) (by decide) rfl ?_
  intro p e s m args below meth c s₁ B hml hv
  obtain ⟨rfl, hE, hP, hN⟩ := hv
  have hx := B.exec
  have hb := B.bytes
  have hr := B.returns
  have hts := atoms_spec (ws := wsL_paint) B.pre
  have hown : s.vm.findClass RL = some m.cls := findClass_of_methodNamed B.named
  have hlocks := B.notSynchronized
  have hK := hE.1
  have hNS := hE.2.1
  have hS : va_S (inL [g0, gC, gB]) s.heap s.heap [] := va_S.rf
  have hAN : ∀ q : Nat, (inL [g0, gC, gB]) q → N0 ≤ q := fun q h => hN.in [0, 1, 2] rfl q h
  have hP : va_P (dC, dI) vwCl [(g0, .inr (5, [.ref gC, .ref gR, .ref c0, .ref w0, .ref v0, .ref gB, .ref p0, .int (nI cd), .int db, .int st, .int bw, .int ki, .int sg, .int ak])), (gC, .inl (cI, 768, .inl fc)), (gB, .inl (cI, 768, .inl fb))] s.heap := hP
  have hl := lv_entry ([.ref g0, .int x, .int y]) (n := 3) (Nat.le_of_ble_eq_true rfl)
  rw [lg_entry_eq]
  generalize (lg_sl ([.ref g0, .int x, .int y]) ++ List.replicate (3 - (lg_sl ([.ref g0, .int x, .int y])).length) Slot.unset).toArray = ls at hl ⊢
  have hl : lv_has ls 3 [(0, .ref g0), (1, .int x), (2, .int y)] := hl
  refine lv_iload_n hx hb dL_paint_0 rfl (lv_at hl 1 rfl) ?_
  refine lv_iconst (v := 5) hx hb dL_paint_1 (by decide) ?_
  refine vp_callSi (va_Run.run (va_runS (As := [.int x, .int 5]) (rest := []) ⟨hx, hb, hml, hown, hts⟩ (C_L_below l dC dI cI cZ cP N0 tO x 5 (by decide) (by decide)) (va_cwS 2 hts gL_paint_L_below rfl rfl rfl (by decide +kernel) ⟨Nat.le_of_ble_eq_true rfl, Nat.le_of_ble_eq_true rfl⟩) ⟨Gv.blind, Gv.of (hE.S hS hAN) trivial⟩ rfl rfl hl.1 rfl (lv_room (Nat.le_of_ble_eq_true rfl)) dL_paint_2 ⟨Nat.le_of_ble_eq_true rfl, Nat.le_of_ble_eq_true rfl⟩)) (fun r_1 hr_1 => ?_)
  have hr_1 : r_1 = nI (m31 x % 5) := hr_1
  refine lv_topr hr_1 ?_
  rcases (show (m31 x % 5) = 0 ∨ (m31 x % 5) = 1 ∨ (m31 x % 5) = 2 ∨ (m31 x % 5) = 3 ∨ (m31 x % 5) = 4 from (by omega)) with hk5 | hk5 | hk5 | hk5 | hk5
  · skip
    refine lv_tableIn (off := 31) (tgt := 36) hx hb dL_paint_5 (by rw [hk5]; decide) (by rw [hk5]; decide) (by rw [hk5]; rfl) (by decide) ?_
    refine lv_aload_n hx hb dL_paint_36 rfl (lv_at hl 0 rfl) ?_
    refine lv_iload_n hx hb dL_paint_37 rfl (lv_at hl 1 rfl) ?_
    refine lv_iconst (v := 3) hx hb dL_paint_38 (by decide) ?_
    refine lv_ishr hx hb dL_paint_39 ?_
    refine lv_bipush (v := 33) hx hb dL_paint_40 (by decide +kernel) ?_
    refine vp_callSi (va_Run.run (va_runS (As := [.int (x >>> (3 &&& 31)), .int 33]) (rest := [.ref g0]) ⟨hx, hb, hml, hown, hts⟩ (C_L_below l dC dI cI cZ cP N0 tO (x >>> (3 &&& 31)) 33 (by decide) (by decide)) (va_cwS 2 hts gL_paint_L_below rfl rfl rfl (by decide +kernel) ⟨Nat.le_of_ble_eq_true rfl, Nat.le_of_ble_eq_true rfl⟩) ⟨Gv.blind, Gv.of (hE.S hS hAN) trivial⟩ rfl rfl hl.1 rfl (lv_room (Nat.le_of_ble_eq_true rfl)) dL_paint_42 ⟨Nat.le_of_ble_eq_true rfl, Nat.le_of_ble_eq_true rfl⟩)) (fun r_2 hr_2 => ?_)
    have hr_2 : r_2 = nI (m31 (x >>> (3 &&& 31)) % 33) := hr_2
    refine lv_topr hr_2 ?_
    refine lv_iconst (v := 4) hx hb dL_paint_45 (by decide) ?_
    refine lv_isub hx hb dL_paint_46 ?_
    refine lv_iload_n hx hb dL_paint_47 rfl (lv_at hl 2 rfl) ?_
    refine lv_bipush (v := 25) hx hb dL_paint_48 (by decide +kernel) ?_
    refine vp_callSi (va_Run.run (va_runS (As := [.int y, .int 25]) (rest := [.int ((nI (m31 (x >>> (3 &&& 31)) % 33)) - 4), .ref g0]) ⟨hx, hb, hml, hown, hts⟩ (C_L_below l dC dI cI cZ cP N0 tO y 25 (by decide) (by decide)) (va_cwS 2 hts gL_paint_L_below rfl rfl rfl (by decide +kernel) ⟨Nat.le_of_ble_eq_true rfl, Nat.le_of_ble_eq_true rfl⟩) ⟨Gv.blind, Gv.of (hE.S hS hAN) trivial⟩ rfl rfl hl.1 rfl (lv_room (Nat.le_of_ble_eq_true rfl)) dL_paint_50 ⟨Nat.le_of_ble_eq_true rfl, Nat.le_of_ble_eq_true rfl⟩)) (fun r_3 hr_3 => ?_)
    have hr_3 : r_3 = nI (m31 y % 25) := hr_3
    refine lv_topr hr_3 ?_
    refine lv_iconst (v := 4) hx hb dL_paint_53 (by decide) ?_
    refine lv_isub hx hb dL_paint_54 ?_
    refine lv_iconst (v := 4) hx hb dL_paint_55 (by decide) ?_
    refine lv_iload_n hx hb dL_paint_56 rfl (lv_at hl 2 rfl) ?_
    refine lv_iconst (v := 5) hx hb dL_paint_57 (by decide) ?_
    refine lv_ishr hx hb dL_paint_58 ?_
    refine lv_bipush (v := 20) hx hb dL_paint_59 (by decide +kernel) ?_
    refine vp_callSi (va_Run.run (va_runS (As := [.int (y >>> (5 &&& 31)), .int 20]) (rest := [.int 4, .int ((nI (m31 y % 25)) - 4), .int ((nI (m31 (x >>> (3 &&& 31)) % 33)) - 4), .ref g0]) ⟨hx, hb, hml, hown, hts⟩ (C_L_below l dC dI cI cZ cP N0 tO (y >>> (5 &&& 31)) 20 (by decide) (by decide)) (va_cwS 2 hts gL_paint_L_below rfl rfl rfl (by decide +kernel) ⟨Nat.le_of_ble_eq_true rfl, Nat.le_of_ble_eq_true rfl⟩) ⟨Gv.blind, Gv.of (hE.S hS hAN) trivial⟩ rfl rfl hl.1 rfl (lv_room (Nat.le_of_ble_eq_true rfl)) dL_paint_61 ⟨Nat.le_of_ble_eq_true rfl, Nat.le_of_ble_eq_true rfl⟩)) (fun r_4 hr_4 => ?_)
    have hr_4 : r_4 = nI (m31 (y >>> (5 &&& 31)) % 20) := hr_4
    refine lv_topr hr_4 ?_
    refine lv_iadd hx hb dL_paint_64 ?_
    refine lv_topr (show _ = nI (4 + (m31 (y >>> (5 &&& 31)) % 20)) from nI_add 4 (m31 (y >>> (5 &&& 31)) % 20)) ?_
    refine lv_iconst (v := 4) hx hb dL_paint_65 (by decide) ?_
    refine lv_iload_n hx hb dL_paint_66 rfl (lv_at hl 1 rfl) ?_
    refine lv_bipush (v := 8) hx hb dL_paint_67 (by decide +kernel) ?_
    refine lv_ishr hx hb dL_paint_69 ?_
    refine lv_bipush (v := 16) hx hb dL_paint_70 (by decide +kernel) ?_
    refine vp_callSi (va_Run.run (va_runS (As := [.int (x >>> (8 &&& 31)), .int 16]) (rest := [.int 4, .int (nI (4 + (m31 (y >>> (5 &&& 31)) % 20))), .int ((nI (m31 y % 25)) - 4), .int ((nI (m31 (x >>> (3 &&& 31)) % 33)) - 4), .ref g0]) ⟨hx, hb, hml, hown, hts⟩ (C_L_below l dC dI cI cZ cP N0 tO (x >>> (8 &&& 31)) 16 (by decide) (by decide)) (va_cwS 2 hts gL_paint_L_below rfl rfl rfl (by decide +kernel) ⟨Nat.le_of_ble_eq_true rfl, Nat.le_of_ble_eq_true rfl⟩) ⟨Gv.blind, Gv.of (hE.S hS hAN) trivial⟩ rfl rfl hl.1 rfl (lv_room (Nat.le_of_ble_eq_true rfl)) dL_paint_72 ⟨Nat.le_of_ble_eq_true rfl, Nat.le_of_ble_eq_true rfl⟩)) (fun r_5 hr_5 => ?_)
    have hr_5 : r_5 = nI (m31 (x >>> (8 &&& 31)) % 16) := hr_5
    refine lv_topr hr_5 ?_
    refine lv_iadd hx hb dL_paint_75 ?_
    refine lv_topr (show _ = nI (4 + (m31 (x >>> (8 &&& 31)) % 16)) from nI_add 4 (m31 (x >>> (8 &&& 31)) % 16)) ?_
    refine lv_iload_n hx hb dL_paint_76 rfl (lv_at hl 2 rfl) ?_
    refine lv_bipush (v := 9) hx hb dL_paint_77 (by decide +kernel) ?_
    refine lv_ishr hx hb dL_paint_79 ?_
    refine lv_sipush (v := 256) hx hb dL_paint_80 (by decide +kernel) ?_
    refine vp_callSi (va_Run.run (va_runS (As := [.int (y >>> (9 &&& 31)), .int 256]) (rest := [.int (nI (4 + (m31 (x >>> (8 &&& 31)) % 16))), .int (nI (4 + (m31 (y >>> (5 &&& 31)) % 20))), .int ((nI (m31 y % 25)) - 4), .int ((nI (m31 (x >>> (3 &&& 31)) % 33)) - 4), .ref g0]) ⟨hx, hb, hml, hown, hts⟩ (C_L_below l dC dI cI cZ cP N0 tO (y >>> (9 &&& 31)) 256 (by decide) (by decide)) (va_cwS 2 hts gL_paint_L_below rfl rfl rfl (by decide +kernel) ⟨Nat.le_of_ble_eq_true rfl, Nat.le_of_ble_eq_true rfl⟩) ⟨Gv.blind, Gv.of (hE.S hS hAN) trivial⟩ rfl rfl hl.1 rfl (lv_room (Nat.le_of_ble_eq_true rfl)) dL_paint_83 ⟨Nat.le_of_ble_eq_true rfl, Nat.le_of_ble_eq_true rfl⟩)) (fun r_6 hr_6 => ?_)
    have hr_6 : r_6 = nI (m31 (y >>> (9 &&& 31)) % 256) := hr_6
    refine lv_topr hr_6 ?_
    refine va_calli (va_runV (As := [.int ((nI (m31 (x >>> (3 &&& 31)) % 33)) - 4), .int ((nI (m31 y % 25)) - 4), .int (nI (4 + (m31 (y >>> (5 &&& 31)) % 20))), .int (nI (4 + (m31 (x >>> (8 &&& 31)) % 16))), .int (nI (m31 (y >>> (9 &&& 31)) % 256))]) (rest := []) ⟨hx, hb, hml, hown, hts⟩ (C_X5_box l dC dI cI cZ cP N0 tO g0 gC gR c0 w0 v0 gB p0 cd db st bw ki sg ak fc ((nI (m31 (x >>> (3 &&& 31)) % 33)) - 4) ((nI (m31 y % 25)) - 4) (nI (4 + (m31 (y >>> (5 &&& 31)) % 20))) (nI (4 + (m31 (x >>> (8 &&& 31)) % 16))) (nI (m31 (y >>> (9 &&& 31)) % 256)) (sub_r (by omega) (by decide) (by rw [ti_4]; omega)) (sub_r (by omega) (by decide) (by rw [ti_4]; omega)) (by rw [nI_toInt (by omega)]; omega) (by rw [nI_toInt (by omega)]; omega) (by rw [nI_toInt (by omega)]; omega) hc0) (cwV 5 hts gL_paint_X5_box rfl rfl rfl (by decide +kernel) ⟨Nat.le_of_ble_eq_true rfl, Nat.le_of_ble_eq_true rfl⟩) ⟨Gv.blind, va_recv hK hP (ci := 5) (q0 := 0) rfl rfl, Gv.of (hE.S hS hAN) ⟨(hP.sub [0, 1] rfl), hN.sub [0, 1] (by decide) rfl⟩⟩ rfl rfl hl.1 rfl (lv_room (Nat.le_of_ble_eq_true rfl)) dL_paint_86 ⟨Nat.le_of_ble_eq_true rfl, Nat.le_of_ble_eq_true rfl⟩) hS (fun q _ h => inL_sub [1] rfl q h) (inL_sub [1] rfl) (fun r_7 u t H locs ht hvm hw hB hz1 hk1 hS => ?_)
    obtain ⟨f9_8, eu⟩ : ∃ z, z = u := ⟨_, rfl⟩
    subst eu
    rw [ht] at hB
    have hP := va_back (L := [gC]) hP hN rfl [1] rfl rfl (fun q h1 h2 => hk1 q h1 h2) hB
    clear hB hk1 hz1 hvm ht t
    have hP : va_P (dC, dI) vwCl [(g0, .inr (5, [.ref gC, .ref gR, .ref c0, .ref w0, .ref v0, .ref gB, .ref p0, .int (nI cd), .int db, .int st, .int bw, .int ki, .int sg, .int ak])), (gC, .inl (cI, 768, .inl f9_8)), (gB, .inl (cI, 768, .inl fb))] H := hP
    have hw : rng f9_8 768 := hw
    have hwr_7 := hw
    have hfin := hw
    refine lv_pop hx hb dL_paint_89 rfl ?_
    refine lv_goto (tgt := 195) hx hb dL_paint_90 (by decide) ?_
    exact W.vret hx hb hr (fun t ht hW => ⟨⟨(f9_8, fb), rfl, hfin, by show va_P _ _ _ t.heap; rw [ht]; exact hP.sub [0, 1, 2] rfl⟩, hS.F ht⟩) hS.2.2 dL_paint_195
  · skip
    refine lv_tableIn (off := 88) (tgt := 93) hx hb dL_paint_5 (by rw [hk5]; decide) (by rw [hk5]; decide) (by rw [hk5]; rfl) (by decide) ?_
    refine lv_aload_n hx hb dL_paint_93 rfl (lv_at hl 0 rfl) ?_
    refine lv_iload_n hx hb dL_paint_94 rfl (lv_at hl 1 rfl) ?_
    refine lv_iconst (v := 3) hx hb dL_paint_95 (by decide) ?_
    refine lv_ishr hx hb dL_paint_96 ?_
    refine lv_bipush (v := 80) hx hb dL_paint_97 (by decide +kernel) ?_
    refine vp_callSi (va_Run.run (va_runS (As := [.int (x >>> (3 &&& 31)), .int 80]) (rest := [.ref g0]) ⟨hx, hb, hml, hown, hts⟩ (C_L_below l dC dI cI cZ cP N0 tO (x >>> (3 &&& 31)) 80 (by decide) (by decide)) (va_cwS 2 hts gL_paint_L_below rfl rfl rfl (by decide +kernel) ⟨Nat.le_of_ble_eq_true rfl, Nat.le_of_ble_eq_true rfl⟩) ⟨Gv.blind, Gv.of (hE.S hS hAN) trivial⟩ rfl rfl hl.1 rfl (lv_room (Nat.le_of_ble_eq_true rfl)) dL_paint_99 ⟨Nat.le_of_ble_eq_true rfl, Nat.le_of_ble_eq_true rfl⟩)) (fun r_9 hr_9 => ?_)
    have hr_9 : r_9 = nI (m31 (x >>> (3 &&& 31)) % 80) := hr_9
    refine lv_topr hr_9 ?_
    refine lv_bipush (v := 40) hx hb dL_paint_102 (by decide +kernel) ?_
    refine lv_isub hx hb dL_paint_104 ?_
    refine lv_iload_n hx hb dL_paint_105 rfl (lv_at hl 2 rfl) ?_
    refine lv_bipush (v := 41) hx hb dL_paint_106 (by decide +kernel) ?_
    refine vp_callSi (va_Run.run (va_runS (As := [.int y, .int 41]) (rest := [.int ((nI (m31 (x >>> (3 &&& 31)) % 80)) - 40), .ref g0]) ⟨hx, hb, hml, hown, hts⟩ (C_L_below l dC dI cI cZ cP N0 tO y 41 (by decide) (by decide)) (va_cwS 2 hts gL_paint_L_below rfl rfl rfl (by decide +kernel) ⟨Nat.le_of_ble_eq_true rfl, Nat.le_of_ble_eq_true rfl⟩) ⟨Gv.blind, Gv.of (hE.S hS hAN) trivial⟩ rfl rfl hl.1 rfl (lv_room (Nat.le_of_ble_eq_true rfl)) dL_paint_108 ⟨Nat.le_of_ble_eq_true rfl, Nat.le_of_ble_eq_true rfl⟩)) (fun r_10 hr_10 => ?_)
    have hr_10 : r_10 = nI (m31 y % 41) := hr_10
    refine lv_topr hr_10 ?_
    refine lv_bipush (v := 20) hx hb dL_paint_111 (by decide +kernel) ?_
    refine lv_isub hx hb dL_paint_113 ?_
    refine lv_iload_n hx hb dL_paint_114 rfl (lv_at hl 2 rfl) ?_
    refine lv_bipush (v := 6) hx hb dL_paint_115 (by decide +kernel) ?_
    refine lv_ishr hx hb dL_paint_117 ?_
    refine lv_bipush (v := 41) hx hb dL_paint_118 (by decide +kernel) ?_
    refine vp_callSi (va_Run.run (va_runS (As := [.int (y >>> (6 &&& 31)), .int 41]) (rest := [.int ((nI (m31 y % 41)) - 20), .int ((nI (m31 (x >>> (3 &&& 31)) % 80)) - 40), .ref g0]) ⟨hx, hb, hml, hown, hts⟩ (C_L_below l dC dI cI cZ cP N0 tO (y >>> (6 &&& 31)) 41 (by decide) (by decide)) (va_cwS 2 hts gL_paint_L_below rfl rfl rfl (by decide +kernel) ⟨Nat.le_of_ble_eq_true rfl, Nat.le_of_ble_eq_true rfl⟩) ⟨Gv.blind, Gv.of (hE.S hS hAN) trivial⟩ rfl rfl hl.1 rfl (lv_room (Nat.le_of_ble_eq_true rfl)) dL_paint_120 ⟨Nat.le_of_ble_eq_true rfl, Nat.le_of_ble_eq_true rfl⟩)) (fun r_11 hr_11 => ?_)
    have hr_11 : r_11 = nI (m31 (y >>> (6 &&& 31)) % 41) := hr_11
    refine lv_topr hr_11 ?_
    refine lv_bipush (v := 20) hx hb dL_paint_123 (by decide +kernel) ?_
    refine lv_isub hx hb dL_paint_125 ?_
    refine va_calli (va_runV (As := [.int ((nI (m31 (x >>> (3 &&& 31)) % 80)) - 40), .int ((nI (m31 y % 41)) - 20), .int ((nI (m31 (y >>> (6 &&& 31)) % 41)) - 20)]) (rest := []) ⟨hx, hb, hml, hown, hts⟩ (C_X5_ramp l dC dI cI cZ cP N0 tO g0 gC gR c0 w0 v0 gB p0 cd db st bw ki sg ak fc ((nI (m31 (x >>> (3 &&& 31)) % 80)) - 40) ((nI (m31 y % 41)) - 20) ((nI (m31 (y >>> (6 &&& 31)) % 41)) - 20) (sub_r (by omega) (by decide) (by rw [ti_40]; omega)) (sub_r (by omega) (by decide) (by rw [ti_20]; omega)) (sub_r (by omega) (by decide) (by rw [ti_20]; omega)) hc0) (cwV 3 hts gL_paint_X5_ramp rfl rfl rfl (by decide +kernel) ⟨Nat.le_of_ble_eq_true rfl, Nat.le_of_ble_eq_true rfl⟩) ⟨Gv.blind, va_recv hK hP (ci := 5) (q0 := 0) rfl rfl, Gv.of (hE.S hS hAN) ⟨(hP.sub [0, 1] rfl), hN.sub [0, 1] (by decide) rfl⟩⟩ rfl rfl hl.1 rfl (lv_room (Nat.le_of_ble_eq_true rfl)) dL_paint_126 ⟨Nat.le_of_ble_eq_true rfl, Nat.le_of_ble_eq_true rfl⟩) hS (fun q _ h => inL_sub [1] rfl q h) (inL_sub [1] rfl) (fun r_12 u t H locs ht hvm hw hB hz1 hk1 hS => ?_)
    obtain ⟨f9_13, eu⟩ : ∃ z, z = u := ⟨_, rfl⟩
    subst eu
    rw [ht] at hB
    have hP := va_back (L := [gC]) hP hN rfl [1] rfl rfl (fun q h1 h2 => hk1 q h1 h2) hB
    clear hB hk1 hz1 hvm ht t
    have hP : va_P (dC, dI) vwCl [(g0, .inr (5, [.ref gC, .ref gR, .ref c0, .ref w0, .ref v0, .ref gB, .ref p0, .int (nI cd), .int db, .int st, .int bw, .int ki, .int sg, .int ak])), (gC, .inl (cI, 768, .inl f9_13)), (gB, .inl (cI, 768, .inl fb))] H := hP
    have hw : rng f9_13 768 := hw
    have hwr_12 := hw
    have hfin := hw
    refine lv_pop hx hb dL_paint_129 rfl ?_
    refine lv_goto (tgt := 195) hx hb dL_paint_130 (by decide) ?_
    exact W.vret hx hb hr (fun t ht hW => ⟨⟨(f9_13, fb), rfl, hfin, by show va_P _ _ _ t.heap; rw [ht]; exact hP.sub [0, 1, 2] rfl⟩, hS.F ht⟩) hS.2.2 dL_paint_195
  · skip
    refine lv_tableIn (off := 128) (tgt := 133) hx hb dL_paint_5 (by rw [hk5]; decide) (by rw [hk5]; decide) (by rw [hk5]; rfl) (by decide) ?_
    refine lv_aload_n hx hb dL_paint_133 rfl (lv_at hl 0 rfl) ?_
    refine lv_iload_n hx hb dL_paint_134 rfl (lv_at hl 1 rfl) ?_
    refine lv_iconst (v := 3) hx hb dL_paint_135 (by decide) ?_
    refine lv_ishr hx hb dL_paint_136 ?_
    refine lv_ldc (v := 65536) hx hb hown (hts (.constant RL 25 (65536)) (List.mem_of_getElem? (i := 1) (by decide +kernel))) dL_paint_137 ?_
    refine vp_callSi (va_Run.run (va_runS (As := [.int (x >>> (3 &&& 31)), .int 65536]) (rest := [.ref g0]) ⟨hx, hb, hml, hown, hts⟩ (C_L_below l dC dI cI cZ cP N0 tO (x >>> (3 &&& 31)) 65536 (by decide) (by decide)) (va_cwS 2 hts gL_paint_L_below rfl rfl rfl (by decide +kernel) ⟨Nat.le_of_ble_eq_true rfl, Nat.le_of_ble_eq_true rfl⟩) ⟨Gv.blind, Gv.of (hE.S hS hAN) trivial⟩ rfl rfl hl.1 rfl (lv_room (Nat.le_of_ble_eq_true rfl)) dL_paint_139 ⟨Nat.le_of_ble_eq_true rfl, Nat.le_of_ble_eq_true rfl⟩)) (fun r_14 hr_14 => ?_)
    have hr_14 : r_14 = nI (m31 (x >>> (3 &&& 31)) % 65536) := hr_14
    refine lv_topr hr_14 ?_
    refine lv_iload_n hx hb dL_paint_142 rfl (lv_at hl 2 rfl) ?_
    refine lv_bipush (v := 30) hx hb dL_paint_143 (by decide +kernel) ?_
    refine vp_callSi (va_Run.run (va_runS (As := [.int y, .int 30]) (rest := [.int (nI (m31 (x >>> (3 &&& 31)) % 65536)), .ref g0]) ⟨hx, hb, hml, hown, hts⟩ (C_L_below l dC dI cI cZ cP N0 tO y 30 (by decide) (by decide)) (va_cwS 2 hts gL_paint_L_below rfl rfl rfl (by decide +kernel) ⟨Nat.le_of_ble_eq_true rfl, Nat.le_of_ble_eq_true rfl⟩) ⟨Gv.blind, Gv.of (hE.S hS hAN) trivial⟩ rfl rfl hl.1 rfl (lv_room (Nat.le_of_ble_eq_true rfl)) dL_paint_145 ⟨Nat.le_of_ble_eq_true rfl, Nat.le_of_ble_eq_true rfl⟩)) (fun r_15 hr_15 => ?_)
    have hr_15 : r_15 = nI (m31 y % 30) := hr_15
    refine lv_topr hr_15 ?_
    refine va_calli (va_runV (As := [.int (nI (m31 (x >>> (3 &&& 31)) % 65536)), .int (nI (m31 y % 30))]) (rest := []) ⟨hx, hb, hml, hown, hts⟩ (C_X5_noise l dC dI cI cZ cP N0 tO g0 gC gR c0 w0 v0 gB p0 cd db st bw ki sg ak fc (nI (m31 (x >>> (3 &&& 31)) % 65536)) (m31 y % 30) (by rw [nI_toInt (by omega)]; omega) (by omega) hc0) (cwV 2 hts gL_paint_X5_noise rfl rfl rfl (by decide +kernel) ⟨Nat.le_of_ble_eq_true rfl, Nat.le_of_ble_eq_true rfl⟩) ⟨Gv.blind, va_recv hK hP (ci := 5) (q0 := 0) rfl rfl, Gv.of (hE.S hS hAN) ⟨(hP.sub [0, 1] rfl), hN.sub [0, 1] (by decide) rfl⟩⟩ rfl rfl hl.1 rfl (lv_room (Nat.le_of_ble_eq_true rfl)) dL_paint_148 ⟨Nat.le_of_ble_eq_true rfl, Nat.le_of_ble_eq_true rfl⟩) hS (fun q _ h => inL_sub [1] rfl q h) (inL_sub [1] rfl) (fun r_16 u t H locs ht hvm hw hB hz1 hk1 hS => ?_)
    obtain ⟨f9_17, eu⟩ : ∃ z, z = u := ⟨_, rfl⟩
    subst eu
    rw [ht] at hB
    have hP := va_back (L := [gC]) hP hN rfl [1] rfl rfl (fun q h1 h2 => hk1 q h1 h2) hB
    clear hB hk1 hz1 hvm ht t
    have hP : va_P (dC, dI) vwCl [(g0, .inr (5, [.ref gC, .ref gR, .ref c0, .ref w0, .ref v0, .ref gB, .ref p0, .int (nI cd), .int db, .int st, .int bw, .int ki, .int sg, .int ak])), (gC, .inl (cI, 768, .inl f9_17)), (gB, .inl (cI, 768, .inl fb))] H := hP
    have hw : rng f9_17 768 := hw
    have hwr_16 := hw
    have hfin := hw
    refine lv_pop hx hb dL_paint_151 rfl ?_
    refine lv_goto (tgt := 195) hx hb dL_paint_152 (by decide) ?_
    exact W.vret hx hb hr (fun t ht hW => ⟨⟨(f9_17, fb), rfl, hfin, by show va_P _ _ _ t.heap; rw [ht]; exact hP.sub [0, 1, 2] rfl⟩, hS.F ht⟩) hS.2.2 dL_paint_195
  · skip
    refine lv_tableIn (off := 150) (tgt := 155) hx hb dL_paint_5 (by rw [hk5]; decide) (by rw [hk5]; decide) (by rw [hk5]; rfl) (by decide) ?_
    refine lv_aload_n hx hb dL_paint_155 rfl (lv_at hl 0 rfl) ?_
    refine lv_iload_n hx hb dL_paint_156 rfl (lv_at hl 1 rfl) ?_
    refine lv_iconst (v := 3) hx hb dL_paint_157 (by decide) ?_
    refine lv_ishr hx hb dL_paint_158 ?_
    refine lv_bipush (v := 7) hx hb dL_paint_159 (by decide +kernel) ?_
    refine vp_callSi (va_Run.run (va_runS (As := [.int (x >>> (3 &&& 31)), .int 7]) (rest := [.ref g0]) ⟨hx, hb, hml, hown, hts⟩ (C_L_below l dC dI cI cZ cP N0 tO (x >>> (3 &&& 31)) 7 (by decide) (by decide)) (va_cwS 2 hts gL_paint_L_below rfl rfl rfl (by decide +kernel) ⟨Nat.le_of_ble_eq_true rfl, Nat.le_of_ble_eq_true rfl⟩) ⟨Gv.blind, Gv.of (hE.S hS hAN) trivial⟩ rfl rfl hl.1 rfl (lv_room (Nat.le_of_ble_eq_true rfl)) dL_paint_161 ⟨Nat.le_of_ble_eq_true rfl, Nat.le_of_ble_eq_true rfl⟩)) (fun r_18 hr_18 => ?_)
    have hr_18 : r_18 = nI (m31 (x >>> (3 &&& 31)) % 7) := hr_18
    refine lv_topr hr_18 ?_
    refine lv_iconst (v := 3) hx hb dL_paint_164 (by decide) ?_
    refine lv_isub hx hb dL_paint_165 ?_
    refine lv_iload_n hx hb dL_paint_166 rfl (lv_at hl 2 rfl) ?_
    refine lv_bipush (v := 7) hx hb dL_paint_167 (by decide +kernel) ?_
    refine vp_callSi (va_Run.run (va_runS (As := [.int y, .int 7]) (rest := [.int ((nI (m31 (x >>> (3 &&& 31)) % 7)) - 3), .ref g0]) ⟨hx, hb, hml, hown, hts⟩ (C_L_below l dC dI cI cZ cP N0 tO y 7 (by decide) (by decide)) (va_cwS 2 hts gL_paint_L_below rfl rfl rfl (by decide +kernel) ⟨Nat.le_of_ble_eq_true rfl, Nat.le_of_ble_eq_true rfl⟩) ⟨Gv.blind, Gv.of (hE.S hS hAN) trivial⟩ rfl rfl hl.1 rfl (lv_room (Nat.le_of_ble_eq_true rfl)) dL_paint_169 ⟨Nat.le_of_ble_eq_true rfl, Nat.le_of_ble_eq_true rfl⟩)) (fun r_19 hr_19 => ?_)
    have hr_19 : r_19 = nI (m31 y % 7) := hr_19
    refine lv_topr hr_19 ?_
    refine lv_iconst (v := 3) hx hb dL_paint_172 (by decide) ?_
    refine lv_isub hx hb dL_paint_173 ?_
    refine va_calli (va_runV (As := [.int ((nI (m31 (x >>> (3 &&& 31)) % 7)) - 3), .int ((nI (m31 y % 7)) - 3)]) (rest := []) ⟨hx, hb, hml, hown, hts⟩ (C_X5_shift l dC dI cI cZ cP N0 tO g0 gC gR c0 w0 v0 gB p0 cd db st bw ki sg ak fc fb ((nI (m31 (x >>> (3 &&& 31)) % 7)) - 3) ((nI (m31 y % 7)) - 3) (sub_r (by omega) (by decide) (by rw [ti_3]; omega)) (sub_r (by omega) (by decide) (by rw [ti_3]; omega)) hc0) (cwV 2 hts gL_paint_X5_shift rfl rfl rfl (by decide +kernel) ⟨Nat.le_of_ble_eq_true rfl, Nat.le_of_ble_eq_true rfl⟩) ⟨Gv.blind, va_recv hK hP (ci := 5) (q0 := 0) rfl rfl, Gv.of (hE.S hS hAN) ⟨(hP.sub [0, 1, 2] rfl), hN.sub [0, 1, 2] (by decide) rfl⟩⟩ rfl rfl hl.1 rfl (lv_room (Nat.le_of_ble_eq_true rfl)) dL_paint_174 ⟨Nat.le_of_ble_eq_true rfl, Nat.le_of_ble_eq_true rfl⟩) hS (fun q _ h => inL_sub [0, 1, 2] rfl q h) (inL_sub [0, 1, 2] rfl) (fun r_20 u t H locs ht hvm hw hB hz1 hk1 hS => ?_)
    obtain ⟨f9_21, f8_22⟩ := u
    rw [ht] at hB
    have hP := va_back (L := [g0, gC, gB]) hP hN rfl [0, 1, 2] rfl rfl (fun q h1 h2 => hk1 q h1 h2) hB
    clear hB hk1 hz1 hvm ht t
    have hP : va_P (dC, dI) vwCl [(g0, .inr (5, [.ref gC, .ref gR, .ref c0, .ref w0, .ref v0, .ref gB, .ref p0, .int (nI cd), .int db, .int st, .int bw, .int ki, .int sg, .int ak])), (gC, .inl (cI, 768, .inl f9_21)), (gB, .inl (cI, 768, .inl f8_22))] H := hP
    have hw : rng f9_21 768 := hw
    have hwr_20 := hw
    have hfin := hw
    refine lv_pop hx hb dL_paint_177 rfl ?_
    refine lv_goto (tgt := 195) hx hb dL_paint_178 (by decide) ?_
    exact W.vret hx hb hr (fun t ht hW => ⟨⟨(f9_21, f8_22), rfl, hfin, by show va_P _ _ _ t.heap; rw [ht]; exact hP.sub [0, 1, 2] rfl⟩, hS.F ht⟩) hS.2.2 dL_paint_195
  · skip
    refine lv_tableOut (tgt := 181) hx hb dL_paint_5 (by rw [hk5]; decide) (by decide) ?_
    refine lv_aload_n hx hb dL_paint_181 rfl (lv_at hl 0 rfl) ?_
    refine lv_iload_n hx hb dL_paint_182 rfl (lv_at hl 1 rfl) ?_
    refine lv_iconst (v := 3) hx hb dL_paint_183 (by decide) ?_
    refine lv_ishr hx hb dL_paint_184 ?_
    refine lv_sipush (v := 256) hx hb dL_paint_185 (by decide +kernel) ?_
    refine vp_callSi (va_Run.run (va_runS (As := [.int (x >>> (3 &&& 31)), .int 256]) (rest := [.ref g0]) ⟨hx, hb, hml, hown, hts⟩ (C_L_below l dC dI cI cZ cP N0 tO (x >>> (3 &&& 31)) 256 (by decide) (by decide)) (va_cwS 2 hts gL_paint_L_below rfl rfl rfl (by decide +kernel) ⟨Nat.le_of_ble_eq_true rfl, Nat.le_of_ble_eq_true rfl⟩) ⟨Gv.blind, Gv.of (hE.S hS hAN) trivial⟩ rfl rfl hl.1 rfl (lv_room (Nat.le_of_ble_eq_true rfl)) dL_paint_188 ⟨Nat.le_of_ble_eq_true rfl, Nat.le_of_ble_eq_true rfl⟩)) (fun r_23 hr_23 => ?_)
    have hr_23 : r_23 = nI (m31 (x >>> (3 &&& 31)) % 256) := hr_23
    refine lv_topr hr_23 ?_
    refine va_calli (va_runV (As := [.int (nI (m31 (x >>> (3 &&& 31)) % 256))]) (rest := []) ⟨hx, hb, hml, hown, hts⟩ (C_X5_fill l dC dI cI cZ cP N0 tO g0 gC gR c0 w0 v0 gB p0 cd db st bw ki sg ak fc (nI (m31 (x >>> (3 &&& 31)) % 256)) (by rw [nI_toInt (by omega)]; omega) hc0) (cwV 1 hts gL_paint_X5_fill rfl rfl rfl (by decide +kernel) ⟨Nat.le_of_ble_eq_true rfl, Nat.le_of_ble_eq_true rfl⟩) ⟨Gv.blind, va_recv hK hP (ci := 5) (q0 := 0) rfl rfl, Gv.of (hE.S hS hAN) ⟨(hP.sub [0, 1] rfl), hN.sub [0, 1] (by decide) rfl⟩⟩ rfl rfl hl.1 rfl (lv_room (Nat.le_of_ble_eq_true rfl)) dL_paint_191 ⟨Nat.le_of_ble_eq_true rfl, Nat.le_of_ble_eq_true rfl⟩) hS (fun q _ h => inL_sub [1] rfl q h) (inL_sub [1] rfl) (fun r_24 u t H locs ht hvm hw hB hz1 hk1 hS => ?_)
    obtain ⟨f9_25, eu⟩ : ∃ z, z = u := ⟨_, rfl⟩
    subst eu
    rw [ht] at hB
    have hP := va_back (L := [gC]) hP hN rfl [1] rfl rfl (fun q h1 h2 => hk1 q h1 h2) hB
    clear hB hk1 hz1 hvm ht t
    have hP : va_P (dC, dI) vwCl [(g0, .inr (5, [.ref gC, .ref gR, .ref c0, .ref w0, .ref v0, .ref gB, .ref p0, .int (nI cd), .int db, .int st, .int bw, .int ki, .int sg, .int ak])), (gC, .inl (cI, 768, .inl f9_25)), (gB, .inl (cI, 768, .inl fb))] H := hP
    have hw : rng f9_25 768 := hw
    have hwr_24 := hw
    have hfin := hw
    refine lv_pop hx hb dL_paint_194 rfl ?_
    exact W.vret hx hb hr (fun t ht hW => ⟨⟨(f9_25, fb), rfl, hfin, by show va_P _ _ _ t.heap; rw [ht]; exact hP.sub [0, 1, 2] rfl⟩, hS.F ht⟩) hS.2.2 dL_paint_195
set_option maxHeartbeats 8000000 in
set_option maxRecDepth 100000 in
theorem C_L_isSound (l : Launch) (dC : Nat → ClassId) (dI : Nat → Nat → Nat) (cI cZ cP : ClassId) (N0 tO : Nat) (g0 gC gR c0 w0 v0 gB p0 cd : Nat) (db st bw ki sg ak : Int32) (fr : Nat → Option Nat) (i : Nat) (r0 rK rX rY rC rV rR rU rG rW : Nat) (rnum rq rer rky rsm : Int32) (kd : Nat → Nat) (fx fy fv : Nat → Int32) (ub : Nat → Nat) (fw : Nat → Int32) (len : Nat) (hi : i < cd) (hcd : cd ≤ 24) (hfr : fr i = some r0) (hky : rky = 0 ∨ rky = 1) (hs1 : ∀ b, b < 12 → kd b < 5) (hs2 : ∀ b, b < 12 → kd b = 0 → lnz fv b 64 = 0) (hs3 : ∀ b, b < 12 → b % 4 = 0 → kd b ≤ 2) (hs4 : ∀ b, b < 12 → ¬ rky = 0 → 2 ≤ kd b) (hs5 : ∀ b, b < 12 → 2 ≤ kd b → fx b = 0 ∧ fy b = 0) (hs6 : ∀ b, b < 12 → vOK (fx b) ∧ vOK (fy b)) (hs7 : ∀ b, b < 12 → kd b = 0 → b % 4 = 0 → fx b = 0 ∧ fy b = 0) (hub : ∀ j, j < 3 → ub j < 1048576) (hu17 : ∀ j, j < 3 → 17 ≤ ub j) (hlen : ∀ j, j < 3 → fbN ub j < len) (hle9 : len < 1048576) (hfw : ∀ j, j < 3 → fw (fbN ub j) >>> ((3 : Int32) &&& 31) = nI i) (her : 0 ≤ rer.toInt) : Met l yL_isSound wsL_isSound ({ frames := 3, cells := 0, slots := 0, locals := 70 } : Room) (Gv (dC, dI) cI cZ cP N0 tO [.ref g0, .int (nI i)] (fun H => va_P (dC, dI) vwCl [(g0, .inr (5, [.ref gC, .ref gR, .ref c0, .ref w0, .ref v0, .ref gB, .ref p0, .int (nI cd), .int db, .int st, .int bw, .int ki, .int sg, .int ak])), (gR, .inl (cP, 24, .inr (.inr (.inr (.inr fr))))), (r0, .inr (2, [.ref rK, .ref rX, .ref rY, .ref rC, .ref rV, .ref rR, .ref rU, .ref rG, .ref rW, .int rnum, .int rq, .int rer, .int rky, .int rsm])), (rK, .inl (cI, 12, .inl (fun k => nI (kd k)))), (rX, .inl (cI, 12, .inl fx)), (rY, .inl (cI, 12, .inl fy)), (rV, .inl (cI, 768, .inl fv)), (rU, .inl (cI, 3, .inl (fun k => nI (ub k)))), (rW, .inl (cI, len, .inl fw))] H)) (vp_Si (fun r : Int32 => r = 1)) 0 0 (fun _ => False) := by
  refine Met.ofW (cc := cL_isSound) (maxL := 6) (ret := (some .boolean)) (by decide) rfl ?_
  intro p e s m args below meth c s₁ B hml hv
  obtain ⟨rfl, hE, hP⟩ := hv
  have hx := B.exec
  have hb := B.bytes
  have hr := B.returns
  have hts := atoms_spec (ws := wsL_isSound) B.pre
  have hown : s.vm.findClass RL = some m.cls := findClass_of_methodNamed B.named
  have hlocks := B.notSynchronized
  have hK := hE.1
  have hNS := hE.2.1
  have hP : va_P (dC, dI) vwCl [(g0, .inr (5, [.ref gC, .ref gR, .ref c0, .ref w0, .ref v0, .ref gB, .ref p0, .int (nI cd), .int db, .int st, .int bw, .int ki, .int sg, .int ak])), (gR, .inl (cP, 24, .inr (.inr (.inr (.inr fr))))), (r0, .inr (2, [.ref rK, .ref rX, .ref rY, .ref rC, .ref rV, .ref rR, .ref rU, .ref rG, .ref rW, .int rnum, .int rq, .int rer, .int rky, .int rsm])), (rK, .inl (cI, 12, .inl (fun k => nI (kd k)))), (rX, .inl (cI, 12, .inl fx)), (rY, .inl (cI, 12, .inl fy)), (rV, .inl (cI, 768, .inl fv)), (rU, .inl (cI, 3, .inl (fun k => nI (ub k)))), (rW, .inl (cI, len, .inl fw))] s.heap := hP
  have hl := lv_entry ([.ref g0, .int (nI i)]) (n := 6) (Nat.le_of_ble_eq_true rfl)
  rw [lg_entry_eq]
  generalize (lg_sl ([.ref g0, .int (nI i)]) ++ List.replicate (6 - (lg_sl ([.ref g0, .int (nI i)])).length) Slot.unset).toArray = ls at hl ⊢
  have hl : lv_has ls 6 [(0, .ref g0), (1, .int (nI i))] := hl
  have hf39 := fb9 hu17
  have hfl3 := fbN_lt hub (k := 3) (by omega)
  refine lv_iconst (v := 0) hx hb dL_isSound_0 (by decide) ?_
  refine lv_istore_n (lv' := [(2, .int 0), (0, .ref g0), (1, .int (nI i))]) hx hb dL_isSound_1 rfl hl (by decide) rfl (fun ls hl => ?_)
  refine lv_iconst (v := 0) hx hb dL_isSound_2 (by decide) ?_
  refine lv_istore_n (lv' := [(3, .int 0), (2, .int 0), (0, .ref g0), (1, .int (nI i))]) hx hb dL_isSound_3 rfl hl (by decide) rfl (fun ls hl => ?_)
  have L4 : ∀ (n4 : Nat) (b : Nat), (b ≤ 12) → 12 - b < n4 → ∀ (ls : Array Slot), lv_has ls 6 [(3, .int (nI b)), (2, .int (nI b)), (0, .ref g0), (1, .int (nI i))] → W p l e (headSpec wsL_isSound ({ frames := 3, cells := 0, slots := 0, locals := 70 } : Room)).room s m ([.ref g0, .int (nI i)] : List Value).toArray below meth c s.heap [] 0 0 (MQ below (vp_Si (fun r : Int32 => r = 1)) ([.ref g0, .int (nI i)] : List Value).toArray s 0 0 (fun _ => False)) (F0 m 4 ls []) := by
    intro n4
    induction n4 with
    | zero => intro b hb12 hz; exact absurd hz (Nat.not_lt_zero _)
    | succ n4 ih4 =>
      intro b hb12 hfu ls hl
      refine lv_iload_n hx hb dL_isSound_4 rfl (lv_at hl 0 rfl) ?_
      refine lv_bipush (v := 12) hx hb dL_isSound_5 (by decide +kernel) ?_
      refine lv_icmp_ge (tgt := 167) hx hb dL_isSound_7 (by decide) (fun c7 => ?_) (fun c7 => ?_)
      · skip
        have c7 : 12 ≤ b := (nI_leI (a := 12) (b := b) (by omega) (by omega)).mp c7
        obtain rfl : b = 12 := by omega
        refine lv_iconst (v := 0) hx hb dL_isSound_167 (by decide) ?_
        refine lv_istore_n (lv' := [(3, .int 0), (2, .int (nI 12)), (0, .ref g0), (1, .int (nI i))]) hx hb dL_isSound_168 rfl hl (by decide) rfl (fun ls hl => ?_)
        refine lv_iconst (v := 0) hx hb dL_isSound_169 (by decide) ?_
        refine lv_istore (lv' := [(4, .int 0), (3, .int 0), (2, .int (nI 12)), (0, .ref g0), (1, .int (nI i))]) hx hb dL_isSound_170 hl (by decide) rfl (fun ls hl => ?_)
        have L172 : ∀ (n172 : Nat) (k : Nat), (k ≤ 3) → 3 - k < n172 → ∀ (ls : Array Slot), lv_has ls 6 [(4, .int (nI k)), (3, .int (nI (fbN ub k))), (2, .int (nI 12)), (0, .ref g0), (1, .int (nI i))] → W p l e (headSpec wsL_isSound ({ frames := 3, cells := 0, slots := 0, locals := 70 } : Room)).room s m ([.ref g0, .int (nI i)] : List Value).toArray below meth c s.heap [] 0 0 (MQ below (vp_Si (fun r : Int32 => r = 1)) ([.ref g0, .int (nI i)] : List Value).toArray s 0 0 (fun _ => False)) (F0 m 172 ls []) := by
          intro n172
          induction n172 with
          | zero => intro k hk3 hz; exact absurd hz (Nat.not_lt_zero _)
          | succ n172 ih172 =>
            intro k hk3 hfu ls hl
            refine lv_iload hx hb dL_isSound_172 (lv_at hl 0 rfl) ?_
            refine lv_iconst (v := 3) hx hb dL_isSound_174 (by decide) ?_
            refine lv_icmp_ge (tgt := 253) hx hb dL_isSound_175 (by decide) (fun c175 => ?_) (fun c175 => ?_)
            · skip
              have c175 : 3 ≤ k := (nI_leI (a := 3) (b := k) (by omega) (by omega)).mp c175
              obtain rfl : k = 3 := by omega
              refine lv_iload_n hx hb dL_isSound_253 rfl (lv_at hl 2 rfl) ?_
              refine lv_bipush (v := 12) hx hb dL_isSound_254 (by decide +kernel) ?_
              refine lv_icmp_ne (tgt := 275) hx hb dL_isSound_256 (by decide) (fun c256 => ?_) (fun c256 => ?_)
              · skip
                have c256 : ¬ 12 = 12 := fun z => c256 ((nI_eq (a := 12) (b := 12) (by omega) (by omega)).mpr z)
                exact False.elim (by omega)
              · skip
                have c256 : 12 = 12 := (nI_eq (a := 12) (b := 12) (by omega) (by omega)).mp c256
                refine lv_iload_n hx hb dL_isSound_259 rfl (lv_at hl 1 rfl) ?_
                refine lv_if_le (tgt := 275) hx hb dL_isSound_260 (by decide) (fun c260 => ?_) (fun c260 => ?_)
                · skip
                  have c260 : (fbN ub 3) ≤ 0 := (nI_leI (a := (fbN ub 3)) (b := 0) (by omega) (by omega)).mp c260
                  exact False.elim (by omega)
                · skip
                  have c260 : ¬ (fbN ub 3) ≤ 0 := fun z => c260 ((nI_leI (a := (fbN ub 3)) (b := 0) (by omega) (by omega)).mpr z)
                  refine lv_aload_n hx hb dL_isSound_263 rfl (lv_at hl 3 rfl) ?_
                  refine lv_iload_n hx hb dL_isSound_264 rfl (lv_at hl 4 rfl) ?_
                  refine vp_callSi (va_Run.run (va_runV (As := [.int (nI i)]) (rest := []) ⟨hx, hb, hml, hown, hts⟩ (C_X5_errorOf l dC dI cI cZ cP N0 tO g0 gC gR c0 w0 v0 gB p0 cd db st bw ki sg ak fr i r0 rK rX rY rC rV rR rU rG rW rnum rq rer rky rsm hi hcd hfr) (cwV 1 hts gL_isSound_X5_errorOf rfl rfl rfl (by decide +kernel) ⟨Nat.le_of_ble_eq_true rfl, Nat.le_of_ble_eq_true rfl⟩) ⟨Gv.blind, va_recv hK hP (ci := 5) (q0 := 0) rfl rfl, Gv.of hE (hP.sub [0, 1, 2] rfl)⟩ rfl rfl hl.1 rfl (lv_room (Nat.le_of_ble_eq_true rfl)) dL_isSound_265 ⟨Nat.le_of_ble_eq_true rfl, Nat.le_of_ble_eq_true rfl⟩)) (fun r_1 hr_1 => ?_)
                  have hr_1 : r_1 = rer := hr_1
                  refine lv_if_lt (tgt := 275) hx hb dL_isSound_268 (by decide) (fun c268 => ?_) (fun c268 => ?_)
                  · skip
                    exact False.elim (by rw [hr_1, Int32.lt_iff_toInt_lt, ti_0] at c268; omega)
                  · skip
                    refine lv_iconst (v := 1) hx hb dL_isSound_271 (by decide) ?_
                    refine lv_goto (tgt := 276) hx hb dL_isSound_272 (by decide) ?_
                    exact W.zret (v := 1) hx hb hr rfl (fun t ht hW => ⟨1, rfl, rfl, ht⟩) (fun _ h => by cases h) dL_isSound_276
            · skip
              have c175 : ¬ 3 ≤ k := fun z => c175 ((nI_leI (a := 3) (b := k) (by omega) (by omega)).mpr z)
              have hubk := hub k (by omega)
              have hu17k := hu17 k (by omega)
              have hflk := fbN_lt hub (k := k) (by omega)
              refine lv_aload_n hx hb dL_isSound_178 rfl (lv_at hl 3 rfl) ?_
              refine lv_iload_n hx hb dL_isSound_179 rfl (lv_at hl 4 rfl) ?_
              refine lv_iload hx hb dL_isSound_180 (lv_at hl 0 rfl) ?_
              refine vp_callSi (va_Run.run (va_runV (As := [.int (nI i), .int (nI k)]) (rest := []) ⟨hx, hb, hml, hown, hts⟩ (C_X5_bits l dC dI cI cZ cP N0 tO g0 gC gR c0 w0 v0 gB p0 cd db st bw ki sg ak fr i r0 rK rX rY rC rV rR rU rG rW rnum rq rer rky rsm ub k hi hcd hfr (by omega) hub) (cwV 2 hts gL_isSound_X5_bits rfl rfl rfl (by decide +kernel) ⟨Nat.le_of_ble_eq_true rfl, Nat.le_of_ble_eq_true rfl⟩) ⟨Gv.blind, va_recv hK hP (ci := 5) (q0 := 0) rfl rfl, Gv.of hE (hP.sub [0, 1, 2, 7] rfl)⟩ rfl rfl hl.1 rfl (lv_room (Nat.le_of_ble_eq_true rfl)) dL_isSound_182 ⟨Nat.le_of_ble_eq_true rfl, Nat.le_of_ble_eq_true rfl⟩)) (fun r_2 hr_2 => ?_)
              have hr_2 : r_2 = nI (ub k) := hr_2
              refine lv_topr hr_2 ?_
              refine lv_bipush (v := 8) hx hb dL_isSound_185 (by decide +kernel) ?_
              refine lv_aload_n hx hb dL_isSound_187 rfl (lv_at hl 3 rfl) ?_
              refine lv_iload_n hx hb dL_isSound_188 rfl (lv_at hl 4 rfl) ?_
              refine lv_iload hx hb dL_isSound_189 (lv_at hl 0 rfl) ?_
              refine vp_callSi (va_Run.run (va_runV (As := [.int (nI i), .int (nI k)]) (rest := [.int 8, .int (nI (ub k))]) ⟨hx, hb, hml, hown, hts⟩ (C_X5_bytes l dC dI cI cZ cP N0 tO g0 gC gR c0 w0 v0 gB p0 cd db st bw ki sg ak fr i r0 rK rX rY rC rV rR rU rG rW rnum rq rer rky rsm ub k hi hcd hfr (by omega) hub) (cwV 2 hts gL_isSound_X5_bytes rfl rfl rfl (by decide +kernel) ⟨Nat.le_of_ble_eq_true rfl, Nat.le_of_ble_eq_true rfl⟩) ⟨Gv.blind, va_recv hK hP (ci := 5) (q0 := 0) rfl rfl, Gv.of hE (hP.sub [0, 1, 2, 7] rfl)⟩ rfl rfl hl.1 rfl (lv_room (Nat.le_of_ble_eq_true rfl)) dL_isSound_191 ⟨Nat.le_of_ble_eq_true rfl, Nat.le_of_ble_eq_true rfl⟩)) (fun r_3 hr_3 => ?_)
              have hr_3 : r_3 = nI ((ub k + 7) / 8) := hr_3
              refine lv_topr hr_3 ?_
              refine lv_imul hx hb dL_isSound_194 ?_
              refine lv_topr (show _ = nI (8 * ((ub k + 7) / 8)) from pk_mul 8 ((ub k + 7) / 8)) ?_
              refine lv_icmp_gt (tgt := 235) hx hb dL_isSound_195 (by decide) (fun c195 => ?_) (fun c195 => ?_)
              · skip
                have c195 : (8 * ((ub k + 7) / 8)) < (ub k) := (nI_ltI (a := (8 * ((ub k + 7) / 8))) (b := (ub k)) (by omega) (by omega)).mp c195
                exact False.elim (by omega)
              · skip
                have c195 : ¬ (8 * ((ub k + 7) / 8)) < (ub k) := fun z => c195 ((nI_ltI (a := (8 * ((ub k + 7) / 8))) (b := (ub k)) (by omega) (by omega)).mpr z)
                refine lv_aload_n hx hb dL_isSound_198 rfl (lv_at hl 3 rfl) ?_
                refine lv_iload_n hx hb dL_isSound_199 rfl (lv_at hl 4 rfl) ?_
                refine lv_iload hx hb dL_isSound_200 (lv_at hl 0 rfl) ?_
                refine vp_callSi (va_Run.run (va_runV (As := [.int (nI i), .int (nI k)]) (rest := []) ⟨hx, hb, hml, hown, hts⟩ (C_X5_bits l dC dI cI cZ cP N0 tO g0 gC gR c0 w0 v0 gB p0 cd db st bw ki sg ak fr i r0 rK rX rY rC rV rR rU rG rW rnum rq rer rky rsm ub k hi hcd hfr (by omega) hub) (cwV 2 hts gL_isSound_X5_bits rfl rfl rfl (by decide +kernel) ⟨Nat.le_of_ble_eq_true rfl, Nat.le_of_ble_eq_true rfl⟩) ⟨Gv.blind, va_recv hK hP (ci := 5) (q0 := 0) rfl rfl, Gv.of hE (hP.sub [0, 1, 2, 7] rfl)⟩ rfl rfl hl.1 rfl (lv_room (Nat.le_of_ble_eq_true rfl)) dL_isSound_202 ⟨Nat.le_of_ble_eq_true rfl, Nat.le_of_ble_eq_true rfl⟩)) (fun r_4 hr_4 => ?_)
                have hr_4 : r_4 = nI (ub k) := hr_4
                refine lv_topr hr_4 ?_
                refine lv_bipush (v := 8) hx hb dL_isSound_205 (by decide +kernel) ?_
                refine lv_aload_n hx hb dL_isSound_207 rfl (lv_at hl 3 rfl) ?_
                refine lv_iload_n hx hb dL_isSound_208 rfl (lv_at hl 4 rfl) ?_
                refine lv_iload hx hb dL_isSound_209 (lv_at hl 0 rfl) ?_
                refine vp_callSi (va_Run.run (va_runV (As := [.int (nI i), .int (nI k)]) (rest := [.int 8, .int (nI (ub k))]) ⟨hx, hb, hml, hown, hts⟩ (C_X5_bytes l dC dI cI cZ cP N0 tO g0 gC gR c0 w0 v0 gB p0 cd db st bw ki sg ak fr i r0 rK rX rY rC rV rR rU rG rW rnum rq rer rky rsm ub k hi hcd hfr (by omega) hub) (cwV 2 hts gL_isSound_X5_bytes rfl rfl rfl (by decide +kernel) ⟨Nat.le_of_ble_eq_true rfl, Nat.le_of_ble_eq_true rfl⟩) ⟨Gv.blind, va_recv hK hP (ci := 5) (q0 := 0) rfl rfl, Gv.of hE (hP.sub [0, 1, 2, 7] rfl)⟩ rfl rfl hl.1 rfl (lv_room (Nat.le_of_ble_eq_true rfl)) dL_isSound_211 ⟨Nat.le_of_ble_eq_true rfl, Nat.le_of_ble_eq_true rfl⟩)) (fun r_5 hr_5 => ?_)
                have hr_5 : r_5 = nI ((ub k + 7) / 8) := hr_5
                refine lv_topr hr_5 ?_
                refine lv_imul hx hb dL_isSound_214 ?_
                refine lv_topr (show _ = nI (8 * ((ub k + 7) / 8)) from pk_mul 8 ((ub k + 7) / 8)) ?_
                refine lv_bipush (v := 8) hx hb dL_isSound_215 (by decide +kernel) ?_
                refine lv_isub hx hb dL_isSound_217 ?_
                refine lv_topr (show _ = nI ((8 * ((ub k + 7) / 8)) - 8) from pk_sub (a := (8 * ((ub k + 7) / 8))) (b := 8) (by omega)) ?_
                refine lv_icmp_le (tgt := 235) hx hb dL_isSound_218 (by decide) (fun c218 => ?_) (fun c218 => ?_)
                · skip
                  have c218 : (ub k) ≤ ((8 * ((ub k + 7) / 8)) - 8) := (nI_leI (a := (ub k)) (b := ((8 * ((ub k + 7) / 8)) - 8)) (by omega) (by omega)).mp c218
                  exact False.elim (by omega)
                · skip
                  have c218 : ¬ (ub k) ≤ ((8 * ((ub k + 7) / 8)) - 8) := fun z => c218 ((nI_leI (a := (ub k)) (b := ((8 * ((ub k + 7) / 8)) - 8)) (by omega) (by omega)).mpr z)
                  refine lv_aload_n hx hb dL_isSound_221 rfl (lv_at hl 3 rfl) ?_
                  refine lv_iload_n hx hb dL_isSound_222 rfl (lv_at hl 4 rfl) ?_
                  refine lv_iload hx hb dL_isSound_223 (lv_at hl 0 rfl) ?_
                  refine lv_iconst (v := 0) hx hb dL_isSound_225 (by decide) ?_
                  refine vp_callSi (va_Run.run (va_runV (As := [.int (nI i), .int (nI k), .int 0]) (rest := []) ⟨hx, hb, hml, hown, hts⟩ (C_X5_byteAt l dC dI cI cZ cP N0 tO g0 gC gR c0 w0 v0 gB p0 cd db st bw ki sg ak fr i r0 rK rX rY rC rV rR rU rG rW rnum rq rer rky rsm ub fw len k 0 hi hcd hfr (by omega) hub (by omega) (hlen k (by omega)) hle9) (cwV 3 hts gL_isSound_X5_byteAt rfl rfl rfl (by decide +kernel) ⟨Nat.le_of_ble_eq_true rfl, Nat.le_of_ble_eq_true rfl⟩) ⟨Gv.blind, va_recv hK hP (ci := 5) (q0 := 0) rfl rfl, Gv.of hE (hP.sub [0, 1, 2, 7, 8] rfl)⟩ rfl rfl hl.1 rfl (lv_room (Nat.le_of_ble_eq_true rfl)) dL_isSound_226 ⟨Nat.le_of_ble_eq_true rfl, Nat.le_of_ble_eq_true rfl⟩)) (fun r_6 hr_6 => ?_)
                  have hr_6 : r_6 = fw (fbN ub k + 0) := hr_6
                  refine lv_iconst (v := 3) hx hb dL_isSound_229 (by decide) ?_
                  refine lv_ishr hx hb dL_isSound_230 ?_
                  refine lv_iload_n hx hb dL_isSound_231 rfl (lv_at hl 4 rfl) ?_
                  refine lv_icmp_eq (tgt := 237) hx hb dL_isSound_232 (by decide) (fun c232 => ?_) (fun c232 => ?_)
                  · skip
                    refine lv_iload_n hx hb dL_isSound_237 rfl (lv_at hl 1 rfl) ?_
                    refine lv_aload_n hx hb dL_isSound_238 rfl (lv_at hl 3 rfl) ?_
                    refine lv_iload_n hx hb dL_isSound_239 rfl (lv_at hl 4 rfl) ?_
                    refine lv_iload hx hb dL_isSound_240 (lv_at hl 0 rfl) ?_
                    refine vp_callSi (va_Run.run (va_runV (As := [.int (nI i), .int (nI k)]) (rest := [.int (nI (fbN ub k))]) ⟨hx, hb, hml, hown, hts⟩ (C_X5_bytes l dC dI cI cZ cP N0 tO g0 gC gR c0 w0 v0 gB p0 cd db st bw ki sg ak fr i r0 rK rX rY rC rV rR rU rG rW rnum rq rer rky rsm ub k hi hcd hfr (by omega) hub) (cwV 2 hts gL_isSound_X5_bytes rfl rfl rfl (by decide +kernel) ⟨Nat.le_of_ble_eq_true rfl, Nat.le_of_ble_eq_true rfl⟩) ⟨Gv.blind, va_recv hK hP (ci := 5) (q0 := 0) rfl rfl, Gv.of hE (hP.sub [0, 1, 2, 7] rfl)⟩ rfl rfl hl.1 rfl (lv_room (Nat.le_of_ble_eq_true rfl)) dL_isSound_242 ⟨Nat.le_of_ble_eq_true rfl, Nat.le_of_ble_eq_true rfl⟩)) (fun r_7 hr_7 => ?_)
                    have hr_7 : r_7 = nI ((ub k + 7) / 8) := hr_7
                    refine lv_topr hr_7 ?_
                    refine lv_iadd hx hb dL_isSound_245 ?_
                    refine lv_topr (show _ = nI ((fbN ub k) + ((ub k + 7) / 8)) from nI_add (fbN ub k) ((ub k + 7) / 8)) ?_
                    refine lv_istore_n (lv' := [(3, .int (nI ((fbN ub k) + ((ub k + 7) / 8)))), (4, .int (nI k)), (2, .int (nI 12)), (0, .ref g0), (1, .int (nI i))]) hx hb dL_isSound_246 rfl hl (by decide) rfl (fun ls hl => ?_)
                    refine lv_iinc (v := nI (k + 1)) (lv' := [(4, .int (nI (k + 1))), (3, .int (nI ((fbN ub k) + ((ub k + 7) / 8)))), (2, .int (nI 12)), (0, .ref g0), (1, .int (nI i))]) hx hb dL_isSound_247 hl (k := 1) rfl (show nI k + Int32.ofInt 1 = nI (k + 1) from nI_add _ _) (by decide) rfl (fun ls hl => ?_)
                    refine lv_goto (tgt := 172) hx hb dL_isSound_250 (by decide) ?_
                    exact ih172 (k + 1) (by omega) (by omega) _ (lv_sub hl [0, 1, 2, 3, 4] rfl)
                  · skip
                    exact False.elim (c232 (by rw [hr_6]; exact hfw k (by omega)))
        exact L172 (3 + 1) 0 (by omega) (Nat.lt_succ_self _) _ (lv_sub hl [0, 1, 2, 3, 4] rfl)
      · skip
        have c7 : ¬ 12 ≤ b := fun z => c7 ((nI_leI (a := 12) (b := b) (by omega) (by omega)).mpr z)
        refine lv_aload_n hx hb dL_isSound_10 rfl (lv_at hl 2 rfl) ?_
        refine lv_iload_n hx hb dL_isSound_11 rfl (lv_at hl 3 rfl) ?_
        refine lv_iload_n hx hb dL_isSound_12 rfl (lv_at hl 0 rfl) ?_
        refine vp_callSi (va_Run.run (va_runV (As := [.int (nI i), .int (nI b)]) (rest := []) ⟨hx, hb, hml, hown, hts⟩ (C_X5_kindOf l dC dI cI cZ cP N0 tO g0 gC gR c0 w0 v0 gB p0 cd db st bw ki sg ak fr i r0 rK rX rY rC rV rR rU rG rW rnum rq rer rky rsm kd b hi hcd hfr (by omega)) (cwV 2 hts gL_isSound_X5_kindOf rfl rfl rfl (by decide +kernel) ⟨Nat.le_of_ble_eq_true rfl, Nat.le_of_ble_eq_true rfl⟩) ⟨Gv.blind, va_recv hK hP (ci := 5) (q0 := 0) rfl rfl, Gv.of hE (hP.sub [0, 1, 2, 3] rfl)⟩ rfl rfl hl.1 rfl (lv_room (Nat.le_of_ble_eq_true rfl)) dL_isSound_13 ⟨Nat.le_of_ble_eq_true rfl, Nat.le_of_ble_eq_true rfl⟩)) (fun r_8 hr_8 => ?_)
        have hr_8 : r_8 = nI (kd b) := hr_8
        refine lv_topr hr_8 ?_
        have hk5 := hs1 b (by omega)
        refine lv_istore (lv' := [(4, .int (nI (kd b))), (3, .int (nI b)), (2, .int (nI b)), (0, .ref g0), (1, .int (nI i))]) hx hb dL_isSound_16 hl (by decide) rfl (fun ls hl => ?_)
        refine lv_iload hx hb dL_isSound_18 (lv_at hl 0 rfl) ?_
        refine lv_iconst (v := 2) hx hb dL_isSound_20 (by decide) ?_
        have J29 : ∀ (v5 : Int32), ((v5 = 0 → 2 ≤ kd b) ∧ (¬ v5 = 0 → kd b < 2)) → ∀ (ls : Array Slot), lv_has ls 6 [(4, .int (nI (kd b))), (3, .int (nI b)), (2, .int (nI b)), (0, .ref g0), (1, .int (nI i))] → W p l e (headSpec wsL_isSound ({ frames := 3, cells := 0, slots := 0, locals := 70 } : Room)).room s m ([.ref g0, .int (nI i)] : List Value).toArray below meth c s.heap [] 0 0 (MQ below (vp_Si (fun r : Int32 => r = 1)) ([.ref g0, .int (nI i)] : List Value).toArray s 0 0 (fun _ => False)) (F0 m 29 ls [.int v5]) := by
          intro v5 hv5 ls hl
          refine lv_istore (lv' := [(5, .int v5), (4, .int (nI (kd b))), (3, .int (nI b)), (2, .int (nI b)), (0, .ref g0), (1, .int (nI i))]) hx hb dL_isSound_29 hl (by decide) rfl (fun ls hl => ?_)
          refine lv_iload hx hb dL_isSound_31 (lv_at hl 1 rfl) ?_
          have J45 : ∀ (ls : Array Slot), lv_has ls 6 [(5, .int v5), (4, .int (nI (kd b))), (3, .int (nI b)), (2, .int (nI b)), (0, .ref g0), (1, .int (nI i))] → W p l e (headSpec wsL_isSound ({ frames := 3, cells := 0, slots := 0, locals := 70 } : Room)).room s m ([.ref g0, .int (nI i)] : List Value).toArray below meth c s.heap [] 0 0 (MQ below (vp_Si (fun r : Int32 => r = 1)) ([.ref g0, .int (nI i)] : List Value).toArray s 0 0 (fun _ => False)) (F0 m 45 ls []) := by
            intro ls hl
            refine lv_iload_n hx hb dL_isSound_45 rfl (lv_at hl 2 rfl) ?_
            refine lv_iconst (v := 4) hx hb dL_isSound_46 (by decide) ?_
            refine lv_irem hx hb dL_isSound_47 (by decide) ?_
            refine lv_topr (show _ = nI (b % 4) from pk_rem (a := b) (d := 4) (by omega) (by omega) (by omega)) ?_
            have J57 : ∀ (ls : Array Slot), lv_has ls 6 [(5, .int v5), (4, .int (nI (kd b))), (3, .int (nI b)), (2, .int (nI b)), (0, .ref g0), (1, .int (nI i))] → W p l e (headSpec wsL_isSound ({ frames := 3, cells := 0, slots := 0, locals := 70 } : Room)).room s m ([.ref g0, .int (nI i)] : List Value).toArray below meth c s.heap [] 0 0 (MQ below (vp_Si (fun r : Int32 => r = 1)) ([.ref g0, .int (nI i)] : List Value).toArray s 0 0 (fun _ => False)) (F0 m 57 ls []) := by
              intro ls hl
              refine lv_aload_n hx hb dL_isSound_57 rfl (lv_at hl 4 rfl) ?_
              refine lv_iload_n hx hb dL_isSound_58 rfl (lv_at hl 5 rfl) ?_
              refine vp_callSi (va_Run.run (va_runV (As := [.int (nI i)]) (rest := []) ⟨hx, hb, hml, hown, hts⟩ (C_X5_isKey l dC dI cI cZ cP N0 tO g0 gC gR c0 w0 v0 gB p0 cd db st bw ki sg ak fr i r0 rK rX rY rC rV rR rU rG rW rnum rq rer rky rsm hi hcd hfr hky) (cwV 1 hts gL_isSound_X5_isKey rfl rfl rfl (by decide +kernel) ⟨Nat.le_of_ble_eq_true rfl, Nat.le_of_ble_eq_true rfl⟩) ⟨Gv.blind, va_recv hK hP (ci := 5) (q0 := 0) rfl rfl, Gv.of hE (hP.sub [0, 1, 2] rfl)⟩ rfl rfl hl.1 rfl (lv_room (Nat.le_of_ble_eq_true rfl)) dL_isSound_59 ⟨Nat.le_of_ble_eq_true rfl, Nat.le_of_ble_eq_true rfl⟩)) (fun r_9 hr_9 => ?_)
              have hr_9 : r_9 = rky := hr_9
              have J70 : ∀ (ls : Array Slot), lv_has ls 6 [(5, .int v5), (4, .int (nI (kd b))), (3, .int (nI b)), (2, .int (nI b)), (0, .ref g0), (1, .int (nI i))] → W p l e (headSpec wsL_isSound ({ frames := 3, cells := 0, slots := 0, locals := 70 } : Room)).room s m ([.ref g0, .int (nI i)] : List Value).toArray below meth c s.heap [] 0 0 (MQ below (vp_Si (fun r : Int32 => r = 1)) ([.ref g0, .int (nI i)] : List Value).toArray s 0 0 (fun _ => False)) (F0 m 70 ls []) := by
                intro ls hl
                refine lv_iload hx hb dL_isSound_70 (lv_at hl 0 rfl) ?_
                have J93 : ∀ (ls : Array Slot), lv_has ls 6 [(5, .int v5), (4, .int (nI (kd b))), (3, .int (nI b)), (2, .int (nI b)), (0, .ref g0), (1, .int (nI i))] → W p l e (headSpec wsL_isSound ({ frames := 3, cells := 0, slots := 0, locals := 70 } : Room)).room s m ([.ref g0, .int (nI i)] : List Value).toArray below meth c s.heap [] 0 0 (MQ below (vp_Si (fun r : Int32 => r = 1)) ([.ref g0, .int (nI i)] : List Value).toArray s 0 0 (fun _ => False)) (F0 m 93 ls []) := by
                  intro ls hl
                  refine lv_aload_n hx hb dL_isSound_93 rfl (lv_at hl 4 rfl) ?_
                  refine lv_iload_n hx hb dL_isSound_94 rfl (lv_at hl 5 rfl) ?_
                  refine lv_iload_n hx hb dL_isSound_95 rfl (lv_at hl 2 rfl) ?_
                  refine vp_callSi (va_Run.run (va_runV (As := [.int (nI i), .int (nI b)]) (rest := []) ⟨hx, hb, hml, hown, hts⟩ (C_X5_vectorX l dC dI cI cZ cP N0 tO g0 gC gR c0 w0 v0 gB p0 cd db st bw ki sg ak fr i r0 rK rX rY rC rV rR rU rG rW rnum rq rer rky rsm fx b hi hcd hfr (by omega)) (cwV 2 hts gL_isSound_X5_vectorX rfl rfl rfl (by decide +kernel) ⟨Nat.le_of_ble_eq_true rfl, Nat.le_of_ble_eq_true rfl⟩) ⟨Gv.blind, va_recv hK hP (ci := 5) (q0 := 0) rfl rfl, Gv.of hE (hP.sub [0, 1, 2, 4] rfl)⟩ rfl rfl hl.1 rfl (lv_room (Nat.le_of_ble_eq_true rfl)) dL_isSound_96 ⟨Nat.le_of_ble_eq_true rfl, Nat.le_of_ble_eq_true rfl⟩)) (fun r_10 hr_10 => ?_)
                  have hr_10 : r_10 = fx b := hr_10
                  refine va_mabs hx hb (hml.trans hl.1.symm) hown (hts (.methodLink RL 52 Lib.Math.abs.name) (List.mem_of_getElem? (i := 1) (by decide +kernel))) (hts (.static Lib.Math.abs.name) (List.mem_of_getElem? (i := 2) (by decide +kernel))) (hts (.initialized "java/lang/Math") (List.mem_of_getElem? (i := 3) (by decide +kernel))) (hts (.code Lib.Math.abs.name Lib.Math.abs.code 1 (some .int)) (List.mem_of_getElem? (i := 4) (by decide +kernel))) (Nat.le_of_ble_eq_true rfl) (Nat.le_of_ble_eq_true rfl) (Nat.le_of_ble_eq_true rfl) (Nat.le_of_ble_eq_true rfl) dL_isSound_99 ?_
                  refine lv_topr (show _ = absI r_10 from rfl) ?_
                  refine lv_bipush (v := 6) hx hb dL_isSound_102 (by decide +kernel) ?_
                  refine lv_icmp_gt (tgt := 121) hx hb dL_isSound_104 (by decide) (fun c104 => ?_) (fun c104 => ?_)
                  · skip
                    exact False.elim (absI_gt hr_10 (hs6 b (by omega)).1 c104)
                  · skip
                    refine lv_aload_n hx hb dL_isSound_107 rfl (lv_at hl 4 rfl) ?_
                    refine lv_iload_n hx hb dL_isSound_108 rfl (lv_at hl 5 rfl) ?_
                    refine lv_iload_n hx hb dL_isSound_109 rfl (lv_at hl 2 rfl) ?_
                    refine vp_callSi (va_Run.run (va_runV (As := [.int (nI i), .int (nI b)]) (rest := []) ⟨hx, hb, hml, hown, hts⟩ (C_X5_vectorY l dC dI cI cZ cP N0 tO g0 gC gR c0 w0 v0 gB p0 cd db st bw ki sg ak fr i r0 rK rX rY rC rV rR rU rG rW rnum rq rer rky rsm fy b hi hcd hfr (by omega)) (cwV 2 hts gL_isSound_X5_vectorY rfl rfl rfl (by decide +kernel) ⟨Nat.le_of_ble_eq_true rfl, Nat.le_of_ble_eq_true rfl⟩) ⟨Gv.blind, va_recv hK hP (ci := 5) (q0 := 0) rfl rfl, Gv.of hE (hP.sub [0, 1, 2, 5] rfl)⟩ rfl rfl hl.1 rfl (lv_room (Nat.le_of_ble_eq_true rfl)) dL_isSound_110 ⟨Nat.le_of_ble_eq_true rfl, Nat.le_of_ble_eq_true rfl⟩)) (fun r_11 hr_11 => ?_)
                    have hr_11 : r_11 = fy b := hr_11
                    refine va_mabs hx hb (hml.trans hl.1.symm) hown (hts (.methodLink RL 52 Lib.Math.abs.name) (List.mem_of_getElem? (i := 1) (by decide +kernel))) (hts (.static Lib.Math.abs.name) (List.mem_of_getElem? (i := 2) (by decide +kernel))) (hts (.initialized "java/lang/Math") (List.mem_of_getElem? (i := 3) (by decide +kernel))) (hts (.code Lib.Math.abs.name Lib.Math.abs.code 1 (some .int)) (List.mem_of_getElem? (i := 4) (by decide +kernel))) (Nat.le_of_ble_eq_true rfl) (Nat.le_of_ble_eq_true rfl) (Nat.le_of_ble_eq_true rfl) (Nat.le_of_ble_eq_true rfl) dL_isSound_113 ?_
                    refine lv_topr (show _ = absI r_11 from rfl) ?_
                    refine lv_bipush (v := 6) hx hb dL_isSound_116 (by decide +kernel) ?_
                    refine lv_icmp_le (tgt := 123) hx hb dL_isSound_118 (by decide) (fun c118 => ?_) (fun c118 => ?_)
                    · skip
                      refine lv_iload_n hx hb dL_isSound_123 rfl (lv_at hl 3 rfl) ?_
                      refine lv_iload hx hb dL_isSound_124 (lv_at hl 1 rfl) ?_
                      have J158 : ∀ (ls : Array Slot), lv_has ls 6 [(5, .int v5), (4, .int (nI (kd b))), (3, .int (nI b)), (2, .int (nI b)), (0, .ref g0), (1, .int (nI i))] → W p l e (headSpec wsL_isSound ({ frames := 3, cells := 0, slots := 0, locals := 70 } : Room)).room s m ([.ref g0, .int (nI i)] : List Value).toArray below meth c s.heap [] 0 0 (MQ below (vp_Si (fun r : Int32 => r = 1)) ([.ref g0, .int (nI i)] : List Value).toArray s 0 0 (fun _ => False)) (F0 m 158 ls [.int (nI b)]) := by
                        intro ls hl
                        refine lv_iconst (v := 1) hx hb dL_isSound_158 (by decide) ?_
                        refine lv_iadd hx hb dL_isSound_159 ?_
                        refine lv_topr (show _ = nI (b + 1) from nI_add b 1) ?_
                        refine lv_istore_n (lv' := [(2, .int (nI (b + 1))), (5, .int v5), (4, .int (nI (kd b))), (3, .int (nI b)), (0, .ref g0), (1, .int (nI i))]) hx hb dL_isSound_160 rfl hl (by decide) rfl (fun ls hl => ?_)
                        refine lv_iinc (v := nI (b + 1)) (lv' := [(3, .int (nI (b + 1))), (2, .int (nI (b + 1))), (5, .int v5), (4, .int (nI (kd b))), (0, .ref g0), (1, .int (nI i))]) hx hb dL_isSound_161 hl (k := 3) rfl (show nI b + Int32.ofInt 1 = nI (b + 1) from nI_add _ _) (by decide) rfl (fun ls hl => ?_)
                        refine lv_goto (tgt := 4) hx hb dL_isSound_164 (by decide) ?_
                        exact ih4 (b + 1) (by omega) (by omega) _ (lv_sub hl [0, 1, 4, 5] rfl)
                      refine lv_if_ne (tgt := 158) hx hb dL_isSound_126 (by decide) (fun c126 => ?_) (fun c126 => ?_)
                      · skip
                        have c126 : ¬ (kd b) = 0 := fun z => c126 ((nI_eq (a := (kd b)) (b := 0) (by omega) (by omega)).mpr z)
                        exact J158 _ (lv_sub hl [0, 1, 2, 3, 4, 5] rfl)
                      · skip
                        have c126 : (kd b) = 0 := (nI_eq (a := (kd b)) (b := 0) (by omega) (by omega)).mp c126
                        refine lv_iload_n hx hb dL_isSound_129 rfl (lv_at hl 2 rfl) ?_
                        refine lv_iconst (v := 4) hx hb dL_isSound_130 (by decide) ?_
                        refine lv_irem hx hb dL_isSound_131 (by decide) ?_
                        refine lv_topr (show _ = nI (b % 4) from pk_rem (a := b) (d := 4) (by omega) (by omega) (by omega)) ?_
                        refine lv_if_ne (tgt := 158) hx hb dL_isSound_132 (by decide) (fun c132 => ?_) (fun c132 => ?_)
                        · skip
                          have c132 : ¬ (b % 4) = 0 := fun z => c132 ((nI_eq (a := (b % 4)) (b := 0) (by omega) (by omega)).mpr z)
                          exact J158 _ (lv_sub hl [0, 1, 2, 3, 4, 5] rfl)
                        · skip
                          have c132 : (b % 4) = 0 := (nI_eq (a := (b % 4)) (b := 0) (by omega) (by omega)).mp c132
                          refine lv_aload_n hx hb dL_isSound_135 rfl (lv_at hl 4 rfl) ?_
                          refine lv_iload_n hx hb dL_isSound_136 rfl (lv_at hl 5 rfl) ?_
                          refine lv_iload_n hx hb dL_isSound_137 rfl (lv_at hl 2 rfl) ?_
                          refine vp_callSi (va_Run.run (va_runV (As := [.int (nI i), .int (nI b)]) (rest := [.int (nI b)]) ⟨hx, hb, hml, hown, hts⟩ (C_X5_vectorX l dC dI cI cZ cP N0 tO g0 gC gR c0 w0 v0 gB p0 cd db st bw ki sg ak fr i r0 rK rX rY rC rV rR rU rG rW rnum rq rer rky rsm fx b hi hcd hfr (by omega)) (cwV 2 hts gL_isSound_X5_vectorX rfl rfl rfl (by decide +kernel) ⟨Nat.le_of_ble_eq_true rfl, Nat.le_of_ble_eq_true rfl⟩) ⟨Gv.blind, va_recv hK hP (ci := 5) (q0 := 0) rfl rfl, Gv.of hE (hP.sub [0, 1, 2, 4] rfl)⟩ rfl rfl hl.1 rfl (lv_room (Nat.le_of_ble_eq_true rfl)) dL_isSound_138 ⟨Nat.le_of_ble_eq_true rfl, Nat.le_of_ble_eq_true rfl⟩)) (fun r_12 hr_12 => ?_)
                          have hr_12 : r_12 = fx b := hr_12
                          refine lv_if_ne (tgt := 153) hx hb dL_isSound_141 (by decide) (fun c141 => ?_) (fun c141 => ?_)
                          · skip
                            exact False.elim (c141 (hr_12.trans (hs7 b (by omega) c126 c132).1))
                          · skip
                            refine lv_aload_n hx hb dL_isSound_144 rfl (lv_at hl 4 rfl) ?_
                            refine lv_iload_n hx hb dL_isSound_145 rfl (lv_at hl 5 rfl) ?_
                            refine lv_iload_n hx hb dL_isSound_146 rfl (lv_at hl 2 rfl) ?_
                            refine vp_callSi (va_Run.run (va_runV (As := [.int (nI i), .int (nI b)]) (rest := [.int (nI b)]) ⟨hx, hb, hml, hown, hts⟩ (C_X5_vectorY l dC dI cI cZ cP N0 tO g0 gC gR c0 w0 v0 gB p0 cd db st bw ki sg ak fr i r0 rK rX rY rC rV rR rU rG rW rnum rq rer rky rsm fy b hi hcd hfr (by omega)) (cwV 2 hts gL_isSound_X5_vectorY rfl rfl rfl (by decide +kernel) ⟨Nat.le_of_ble_eq_true rfl, Nat.le_of_ble_eq_true rfl⟩) ⟨Gv.blind, va_recv hK hP (ci := 5) (q0 := 0) rfl rfl, Gv.of hE (hP.sub [0, 1, 2, 5] rfl)⟩ rfl rfl hl.1 rfl (lv_room (Nat.le_of_ble_eq_true rfl)) dL_isSound_147 ⟨Nat.le_of_ble_eq_true rfl, Nat.le_of_ble_eq_true rfl⟩)) (fun r_13 hr_13 => ?_)
                            have hr_13 : r_13 = fy b := hr_13
                            refine lv_if_eq (tgt := 158) hx hb dL_isSound_150 (by decide) (fun c150 => ?_) (fun c150 => ?_)
                            · skip
                              exact J158 _ (lv_sub hl [0, 1, 2, 3, 4, 5] rfl)
                            · skip
                              exact False.elim (c150 (hr_13.trans (hs7 b (by omega) c126 c132).2))
                    · skip
                      exact False.elim (absI_nle hr_11 (hs6 b (by omega)).2 c118)
                refine lv_if_ne (tgt := 93) hx hb dL_isSound_72 (by decide) (fun c72 => ?_) (fun c72 => ?_)
                · skip
                  exact J93 _ (lv_sub hl [0, 1, 2, 3, 4, 5] rfl)
                · skip
                  refine lv_aload_n hx hb dL_isSound_75 rfl (lv_at hl 4 rfl) ?_
                  refine lv_iload_n hx hb dL_isSound_76 rfl (lv_at hl 5 rfl) ?_
                  refine lv_iload_n hx hb dL_isSound_77 rfl (lv_at hl 2 rfl) ?_
                  refine vp_callSi (va_Run.run (va_runV (As := [.int (nI i), .int (nI b)]) (rest := []) ⟨hx, hb, hml, hown, hts⟩ (C_X5_vectorX l dC dI cI cZ cP N0 tO g0 gC gR c0 w0 v0 gB p0 cd db st bw ki sg ak fr i r0 rK rX rY rC rV rR rU rG rW rnum rq rer rky rsm fx b hi hcd hfr (by omega)) (cwV 2 hts gL_isSound_X5_vectorX rfl rfl rfl (by decide +kernel) ⟨Nat.le_of_ble_eq_true rfl, Nat.le_of_ble_eq_true rfl⟩) ⟨Gv.blind, va_recv hK hP (ci := 5) (q0 := 0) rfl rfl, Gv.of hE (hP.sub [0, 1, 2, 4] rfl)⟩ rfl rfl hl.1 rfl (lv_room (Nat.le_of_ble_eq_true rfl)) dL_isSound_78 ⟨Nat.le_of_ble_eq_true rfl, Nat.le_of_ble_eq_true rfl⟩)) (fun r_14 hr_14 => ?_)
                  have hr_14 : r_14 = fx b := hr_14
                  refine lv_if_ne (tgt := 121) hx hb dL_isSound_81 (by decide) (fun c81 => ?_) (fun c81 => ?_)
                  · skip
                    exact False.elim (c81 (hr_14.trans (hs5 b (by omega) (hv5.1 c72)).1))
                  · skip
                    refine lv_aload_n hx hb dL_isSound_84 rfl (lv_at hl 4 rfl) ?_
                    refine lv_iload_n hx hb dL_isSound_85 rfl (lv_at hl 5 rfl) ?_
                    refine lv_iload_n hx hb dL_isSound_86 rfl (lv_at hl 2 rfl) ?_
                    refine vp_callSi (va_Run.run (va_runV (As := [.int (nI i), .int (nI b)]) (rest := []) ⟨hx, hb, hml, hown, hts⟩ (C_X5_vectorY l dC dI cI cZ cP N0 tO g0 gC gR c0 w0 v0 gB p0 cd db st bw ki sg ak fr i r0 rK rX rY rC rV rR rU rG rW rnum rq rer rky rsm fy b hi hcd hfr (by omega)) (cwV 2 hts gL_isSound_X5_vectorY rfl rfl rfl (by decide +kernel) ⟨Nat.le_of_ble_eq_true rfl, Nat.le_of_ble_eq_true rfl⟩) ⟨Gv.blind, va_recv hK hP (ci := 5) (q0 := 0) rfl rfl, Gv.of hE (hP.sub [0, 1, 2, 5] rfl)⟩ rfl rfl hl.1 rfl (lv_room (Nat.le_of_ble_eq_true rfl)) dL_isSound_87 ⟨Nat.le_of_ble_eq_true rfl, Nat.le_of_ble_eq_true rfl⟩)) (fun r_15 hr_15 => ?_)
                    have hr_15 : r_15 = fy b := hr_15
                    refine lv_if_ne (tgt := 121) hx hb dL_isSound_90 (by decide) (fun c90 => ?_) (fun c90 => ?_)
                    · skip
                      exact False.elim (c90 (hr_15.trans (hs5 b (by omega) (hv5.1 c72)).2))
                    · skip
                      exact J93 _ (lv_sub hl [0, 1, 2, 3, 4, 5] rfl)
              refine lv_if_eq (tgt := 70) hx hb dL_isSound_62 (by decide) (fun c62 => ?_) (fun c62 => ?_)
              · skip
                exact J70 _ (lv_sub hl [0, 1, 2, 3, 4, 5] rfl)
              · skip
                refine lv_iload hx hb dL_isSound_65 (lv_at hl 0 rfl) ?_
                refine lv_if_ne (tgt := 121) hx hb dL_isSound_67 (by decide) (fun c67 => ?_) (fun c67 => ?_)
                · skip
                  exact False.elim (by have h1 := hv5.2 c67; have h2 := hs4 b (by omega) (by rw [← hr_9]; exact c62); omega)
                · skip
                  exact J70 _ (lv_sub hl [0, 1, 2, 3, 4, 5] rfl)
            refine lv_if_ne (tgt := 57) hx hb dL_isSound_48 (by decide) (fun c48 => ?_) (fun c48 => ?_)
            · skip
              have c48 : ¬ (b % 4) = 0 := fun z => c48 ((nI_eq (a := (b % 4)) (b := 0) (by omega) (by omega)).mpr z)
              exact J57 _ (lv_sub hl [0, 1, 2, 3, 4, 5] rfl)
            · skip
              have c48 : (b % 4) = 0 := (nI_eq (a := (b % 4)) (b := 0) (by omega) (by omega)).mp c48
              have h3b := hs3 b (by omega) (by omega)
              refine lv_iload hx hb dL_isSound_51 (lv_at hl 1 rfl) ?_
              refine lv_iconst (v := 2) hx hb dL_isSound_53 (by decide) ?_
              refine lv_icmp_gt (tgt := 121) hx hb dL_isSound_54 (by decide) (fun c54 => ?_) (fun c54 => ?_)
              · skip
                have c54 : 2 < (kd b) := (nI_ltI (a := 2) (b := (kd b)) (by omega) (by omega)).mp c54
                exact False.elim (by omega)
              · skip
                have c54 : ¬ 2 < (kd b) := fun z => c54 ((nI_ltI (a := 2) (b := (kd b)) (by omega) (by omega)).mpr z)
                exact J57 _ (lv_sub hl [0, 1, 2, 3, 4, 5] rfl)
          refine lv_if_ne (tgt := 45) hx hb dL_isSound_33 (by decide) (fun c33 => ?_) (fun c33 => ?_)
          · skip
            have c33 : ¬ (kd b) = 0 := fun z => c33 ((nI_eq (a := (kd b)) (b := 0) (by omega) (by omega)).mpr z)
            exact J45 _ (lv_sub hl [0, 1, 2, 3, 4, 5] rfl)
          · skip
            have c33 : (kd b) = 0 := (nI_eq (a := (kd b)) (b := 0) (by omega) (by omega)).mp c33
            refine lv_aload_n hx hb dL_isSound_36 rfl (lv_at hl 4 rfl) ?_
            refine lv_iload_n hx hb dL_isSound_37 rfl (lv_at hl 5 rfl) ?_
            refine lv_iload_n hx hb dL_isSound_38 rfl (lv_at hl 2 rfl) ?_
            refine vp_callSi (va_Run.run (va_runV (As := [.int (nI i), .int (nI b)]) (rest := []) ⟨hx, hb, hml, hown, hts⟩ (C_X5_levels l dC dI cI cZ cP N0 tO g0 gC gR c0 w0 v0 gB p0 cd db st bw ki sg ak fr i r0 rK rX rY rC rV rR rU rG rW rnum rq rer rky rsm fv b hi hcd hfr (by omega)) (cwV 2 hts gL_isSound_X5_levels rfl rfl rfl (by decide +kernel) ⟨Nat.le_of_ble_eq_true rfl, Nat.le_of_ble_eq_true rfl⟩) ⟨Gv.blind, va_recv hK hP (ci := 5) (q0 := 0) rfl rfl, Gv.of hE (hP.sub [0, 1, 2, 6] rfl)⟩ rfl rfl hl.1 rfl (lv_room (Nat.le_of_ble_eq_true rfl)) dL_isSound_39 ⟨Nat.le_of_ble_eq_true rfl, Nat.le_of_ble_eq_true rfl⟩)) (fun r_16 hr_16 => ?_)
            have hr_16 : r_16 = nI (lnz fv b 64) := hr_16
            refine lv_topr hr_16 ?_
            have hlz := lnz_le fv b 64
            refine lv_if_ne (tgt := 121) hx hb dL_isSound_42 (by decide) (fun c42 => ?_) (fun c42 => ?_)
            · skip
              have c42 : ¬ (lnz fv b 64) = 0 := fun z => c42 ((nI_eq (a := (lnz fv b 64)) (b := 0) (by omega) (by omega)).mpr z)
              exact False.elim (c42 (hs2 b (by omega) c33))
            · skip
              have c42 : (lnz fv b 64) = 0 := (nI_eq (a := (lnz fv b 64)) (b := 0) (by omega) (by omega)).mp c42
              exact J45 _ (lv_sub hl [0, 1, 2, 3, 4, 5] rfl)
        refine lv_icmp_ge (tgt := 28) hx hb dL_isSound_21 (by decide) (fun c21 => ?_) (fun c21 => ?_)
        · skip
          have c21 : 2 ≤ (kd b) := (nI_leI (a := 2) (b := (kd b)) (by omega) (by omega)).mp c21
          refine lv_iconst (v := 0) hx hb dL_isSound_28 (by decide) ?_
          exact J29 0 ⟨fun _ => by omega, fun h => absurd rfl h⟩ _ (lv_sub hl [0, 1, 2, 3, 4] rfl)
        · skip
          have c21 : ¬ 2 ≤ (kd b) := fun z => c21 ((nI_leI (a := 2) (b := (kd b)) (by omega) (by omega)).mpr z)
          refine lv_iconst (v := 1) hx hb dL_isSound_24 (by decide) ?_
          refine lv_goto (tgt := 29) hx hb dL_isSound_25 (by decide) ?_
          exact J29 1 ⟨fun h => absurd h (by decide), fun _ => by omega⟩ _ (lv_sub hl [0, 1, 2, 3, 4] rfl)
  exact L4 (12 + 1) 0 (by omega) (Nat.lt_succ_self _) _ (lv_sub hl [0, 1, 2, 3] rfl)
