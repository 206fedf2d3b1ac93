/-- KEY, or a DELTA with too many blocks of its own -/
def kyF (fc fa : Nat → Int32) (q k0 : Int32) : Int32 := if k0 = 0 then (if 12 - nI (cntK (csC fc fa q 0).2.1 0 12) - nI (cntK (csC fc fa q 0).2.1 1 12) ≤ 8 then 0 else 1) else 1
theorem kyF_01 (fc fa : Nat → Int32) (q k0 : Int32) : kyF fc fa q k0 = 0 ∨ kyF fc fa q k0 = 1 := by
  unfold kyF
  split
  · split
    · exact Or.inl rfl
    · exact Or.inr rfl
  · exact Or.inr rfl
theorem kyF_ha {fc fa : Nat → Int32} {q k0 : Int32} (h : k0 = 0 → rng fa 1140) : kyF fc fa q k0 = 0 → rng fa 1140 := fun z => h (by
  by_cases h0 : k0 = 0
  · exact h0
  · unfold kyF at z
    rw [if_neg h0] at z
    exact absurd z (by decide))
def stN (got : Nat) (ky bw st : Int32) : Int32 :=
  if bw = 0 then st else if nI got * 4 ≤ (if ky = 0 then bw else 3 * bw) * 5 then (if (if ky = 0 then bw else 3 * bw) * 3 ≤ nI got * 4 then st else maxI 1 (st - 1)) else minI 60 (st + 1 + st / 4)
theorem ti_60 : (60 : Int32).toInt = 60 := by decide
theorem ti_div4 {x : Int32} (h : 0 ≤ x.toInt) : (x / 4).toInt = x.toInt / 4 := by
  have h2 := x.toInt_lt
  rw [Int32.toInt_div, ti_4, Int.tdiv_eq_ediv_of_nonneg h]
  exact Int.bmod_eq_of_le (by omega) (by omega)
theorem stN_ok {got : Nat} {ky bw st : Int32} (h : qOK st) : qOK (stN got ky bw st) := by
  have h1 := h.1
  have h2 := h.2
  have e4 := ti_div4 (x := st) (by omega)
  have e1 : (st + 1).toInt = st.toInt + 1 := by rw [ti_add (by rw [ti_1]; omega) (by rw [ti_1]; omega), ti_1]
  have e2 : (st + 1 + st / 4).toInt = st.toInt + 1 + st.toInt / 4 := by rw [ti_add (by rw [e1, e4]; omega) (by rw [e1, e4]; omega), e1, e4]
  have e3 : (st - 1).toInt = st.toInt - 1 := by rw [ti_sub (by rw [ti_1]; omega) (by rw [ti_1]; omega), ti_1]
  have q1 : qOK (minI 60 (st + 1 + st / 4)) := by
    unfold minI
    split
    · rename_i z
      rw [Int32.lt_iff_toInt_lt, ti_60, e2] at z
      exact ⟨by rw [e2]; omega, by rw [e2]; omega⟩
    · exact ⟨by rw [ti_60]; omega, by rw [ti_60]; omega⟩
  have q2 : qOK (maxI 1 (st - 1)) := by
    unfold maxI
    split
    · rename_i z
      rw [Int32.lt_iff_toInt_lt, ti_1, e3] at z
      exact ⟨by rw [e3]; omega, by rw [e3]; omega⟩
    · exact ⟨by rw [ti_1]; omega, by rw [ti_1]; omega⟩
  unfold stN
  generalize (if ky = 0 then bw else 3 * bw) = w
  split
  · exact h
  · split
    · split
      · exact h
      · exact q2
    · exact q1
set_option maxHeartbeats 4000000 in
set_option maxRecDepth 100000 in
theorem C_X5_handOver_y (l : Launch) (dC : Nat → ClassId) (dI : Nat → Nat → Nat) (cI cZ cP : ClassId) (N0 tO : Nat) (g0 gC gR c0 w0 v0 gB p0 cd : Nat) (db st bw ki sg ak : Int32) (r0 rK rX rY rC rV rR rU rG rW nm : Nat) (rq rer rky rsm : Int32) (h0 sc shn : Nat) (fg : Nat → Int32) (k : Nat) (hn1 : nm ≤ 24) (hn2 : shn ≤ 24) (hk3 : k < 3) (hsh : shn ≤ nm) (hfg : fg k = 0) : Met l yX5_handOver wsX5_handOver ({ frames := 0, cells := 0, slots := 0, locals := 0 } : Room) (Gv (dC, dI) cI cZ cP N0 tO [.ref g0, .ref r0, .int (nI k)] (fun H => va_P (dC, dI) vwCl [(g0, .inr (5, [.ref gC, .ref gR, .ref c0, .ref w0, .ref v0, .ref gB, .ref p0, .int (nI cd), .int db, .int st, .int bw, .int ki, .int sg, .int ak])), (v0, .inr (4, [.ref h0, .ref sc, .int (nI shn)])), (r0, .inr (2, [.ref rK, .ref rX, .ref rY, .ref rC, .ref rV, .ref rR, .ref rU, .ref rG, .ref rW, .int (nI nm), .int rq, .int rer, .int rky, .int rsm])), (rG, .inl (cZ, 3, .inl fg))] H ∧ AD N0 [g0, v0, r0, rG])) (va_Qi (fun (r : Int32) (_ : Unit) => r = 1) (fun (_ : Unit) (t : State) => va_P (dC, dI) vwCl [(rG, .inl (cZ, 3, .inl (upd fg k 1)))] t.heap) (inL [rG])) 0 0 (inL [rG]) := by
  refine Met.ofW (cc := cX5_handOver) (maxL := 4) (ret := (some .boolean)) (by decide) rfl ?_
  intro p e s m args below meth c s₁ B hml hv
  obtain ⟨rfl, hE, hP, hN⟩ := hv
  have hx := B.exec
  have hb := B.bytes
  have hr := B.returns
  have hts := atoms_spec (ws := wsX5_handOver) B.pre
  have hown : s.vm.findClass RX5 = some m.cls := findClass_of_methodNamed B.named
  have hlocks := B.notSynchronized
  have hK := hE.1
  have hNS := hE.2.1
  have hS : va_S (inL [rG]) s.heap s.heap [] := va_S.rf
  have hAN : ∀ q : Nat, (inL [rG]) q → N0 ≤ q := fun q h => hN.in [3] rfl q h
  have hP : va_P (dC, dI) vwCl [(g0, .inr (5, [.ref gC, .ref gR, .ref c0, .ref w0, .ref v0, .ref gB, .ref p0, .int (nI cd), .int db, .int st, .int bw, .int ki, .int sg, .int ak])), (v0, .inr (4, [.ref h0, .ref sc, .int (nI shn)])), (r0, .inr (2, [.ref rK, .ref rX, .ref rY, .ref rC, .ref rV, .ref rR, .ref rU, .ref rG, .ref rW, .int (nI nm), .int rq, .int rer, .int rky, .int rsm])), (rG, .inl (cZ, 3, .inl fg))] s.heap := hP
  have hinX2 : ∀ w ∈ wsX20, w ∈ wsX5_handOver := by decide +kernel
  have hinX4 : ∀ w ∈ wsX40, w ∈ wsX5_handOver := by decide +kernel
  have hinX5 : ∀ w ∈ wsX50, w ∈ wsX5_handOver := by decide +kernel
  have hl := lv_entry ([.ref g0, .ref r0, .int (nI k)]) (n := 4) (Nat.le_of_ble_eq_true rfl)
  rw [lg_entry_eq]
  generalize (lg_sl ([.ref g0, .ref r0, .int (nI k)]) ++ List.replicate (4 - (lg_sl ([.ref g0, .ref r0, .int (nI k)])).length) Slot.unset).toArray = ls at hl ⊢
  have hl : lv_has ls 4 [(0, .ref g0), (1, .ref r0), (2, .int (nI k))] := hl
  refine lv_aload_n hx hb dX5_handOver_0 rfl (lv_at hl 1 rfl) ?_
  refine va_get (D := (dC, dI)) (ci := 2) (v := .int (nI nm)) (C := RX2) (T := TX2) (N := 14) hx hb hts hinX2 hown hK hP 2 rfl rfl 9 (by decide) (hts (.fieldLink RX5 286 "GreyReel$Picture" "number" "I") (List.mem_of_getElem? (i := 1) (by decide +kernel))) (fun _ h9 => h9) rfl dX5_handOver_1 ?_
  refine lv_aload_n hx hb dX5_handOver_4 rfl (lv_at hl 0 rfl) ?_
  refine va_get (D := (dC, dI)) (ci := 5) (v := .ref v0) (C := RX5) (T := TX5) (N := 14) hx hb hts hinX5 hown hK hP 0 rfl rfl 4 (by decide) (hts (.fieldLink RX5 36 "GreyReel" "viewer" "LGreyReel$Viewer;") (List.mem_of_getElem? (i := 2) (by decide +kernel))) (fun _ h9 => h9) rfl dX5_handOver_5 ?_
  refine va_get (D := (dC, dI)) (ci := 4) (v := .int (nI shn)) (C := RX4) (T := TX4) (N := 3) hx hb hts hinX4 hown hK hP 1 rfl rfl 2 (by decide) (hts (.fieldLink RX5 208 "GreyReel$Viewer" "shownPictures" "I") (List.mem_of_getElem? (i := 3) (by decide +kernel))) (fun _ h9 => h9) rfl dX5_handOver_8 ?_
  refine lv_icmp_lt (tgt := 27) hx hb dX5_handOver_11 (by decide) (fun c11 => ?_) (fun c11 => ?_)
  · skip
    have c11 : nm < shn := (nI_ltI (a := nm) (b := shn) (by omega) (by omega)).mp c11
    exact False.elim (by omega)
  · skip
    have c11 : ¬ nm < shn := fun z => c11 ((nI_ltI (a := nm) (b := shn) (by omega) (by omega)).mpr z)
    refine lv_aload_n hx hb dX5_handOver_14 rfl (lv_at hl 1 rfl) ?_
    refine va_get (D := (dC, dI)) (ci := 2) (v := .ref rG) (C := RX2) (T := TX2) (N := 14) hx hb hts hinX2 hown hK hP 2 rfl rfl 7 (by decide) (hts (.fieldLink RX5 235 "GreyReel$Picture" "got" "[Z") (List.mem_of_getElem? (i := 4) (by decide +kernel))) (fun _ h9 => h9) rfl dX5_handOver_15 ?_
    refine lv_iload_n hx hb dX5_handOver_18 rfl (lv_at hl 2 rfl) ?_
    refine wa_zald (D := (dC, dI)) (i := k) (f := fg) hx hb hK hP 3 1 rfl rfl (by omega) (by omega) dX5_handOver_19 ?_
    refine lv_if_ne (tgt := 27) hx hb dX5_handOver_20 (by decide) (fun c20 => ?_) (fun c20 => ?_)
    · skip
      exact False.elim (c20 hfg)
    · skip
      refine lv_iconst (v := 1) hx hb dX5_handOver_23 (by decide) ?_
      refine lv_goto (tgt := 28) hx hb dX5_handOver_24 (by decide) ?_
      refine lv_istore_n (lv' := [(3, .int 1), (0, .ref g0), (1, .ref r0), (2, .int (nI k))]) hx hb dX5_handOver_28 rfl hl (by decide) rfl (fun ls hl => ?_)
      refine lv_iload_n hx hb dX5_handOver_29 rfl (lv_at hl 0 rfl) ?_
      refine lv_if_eq (tgt := 40) hx hb dX5_handOver_30 (by decide) (fun c30 => ?_) (fun c30 => ?_)
      · skip
        have c30 : 1 = 0 := (nI_eq (a := 1) (b := 0) (by omega) (by omega)).mp c30
        exact False.elim (by omega)
      · skip
        have c30 : ¬ 1 = 0 := fun z => c30 ((nI_eq (a := 1) (b := 0) (by omega) (by omega)).mpr z)
        refine lv_aload_n hx hb dX5_handOver_33 rfl (lv_at hl 2 rfl) ?_
        refine va_get (D := (dC, dI)) (ci := 2) (v := .ref rG) (C := RX2) (T := TX2) (N := 14) hx hb hts hinX2 hown hK hP 2 rfl rfl 7 (by decide) (hts (.fieldLink RX5 235 "GreyReel$Picture" "got" "[Z") (List.mem_of_getElem? (i := 4) (by decide +kernel))) (fun _ h9 => h9) rfl dX5_handOver_34 ?_
        refine lv_iload_n hx hb dX5_handOver_37 rfl (lv_at hl 3 rfl) ?_
        refine lv_iconst (v := 1) hx hb dX5_handOver_38 (by decide) ?_
        refine wa_zast (D := (dC, dI)) (i := k) (f := fg) hx hb hK hP (hN.D rfl) hS (List.mem_of_getElem? (i := 0) rfl) 3 1 rfl rfl (by omega) (by omega) dX5_handOver_39 (fun H locs hP hS => ?_)
        obtain ⟨f_1, ef_1⟩ : ∃ z, z = upd fg k (vp_nar .boolean 1) := ⟨_, rfl⟩
        rw [← ef_1] at hP
        have hP : va_P (dC, dI) vwCl [(g0, .inr (5, [.ref gC, .ref gR, .ref c0, .ref w0, .ref v0, .ref gB, .ref p0, .int (nI cd), .int db, .int st, .int bw, .int ki, .int sg, .int ak])), (v0, .inr (4, [.ref h0, .ref sc, .int (nI shn)])), (r0, .inr (2, [.ref rK, .ref rX, .ref rY, .ref rC, .ref rV, .ref rR, .ref rU, .ref rG, .ref rW, .int (nI nm), .int rq, .int rer, .int rky, .int rsm])), (rG, .inl (cZ, 3, .inl f_1))] H := hP
        have hz9 : f_1 = (upd fg k 1) := (by rw [ef_1] <;> rfl)
        rw [hz9] at hP
        clear hz9
        have hP : va_P (dC, dI) vwCl [(g0, .inr (5, [.ref gC, .ref gR, .ref c0, .ref w0, .ref v0, .ref gB, .ref p0, .int (nI cd), .int db, .int st, .int bw, .int ki, .int sg, .int ak])), (v0, .inr (4, [.ref h0, .ref sc, .int (nI shn)])), (r0, .inr (2, [.ref rK, .ref rX, .ref rY, .ref rC, .ref rV, .ref rR, .ref rU, .ref rG, .ref rW, .int (nI nm), .int rq, .int rer, .int rky, .int rsm])), (rG, .inl (cZ, 3, .inl (upd fg k 1)))] H := hP
        refine lv_iload_n hx hb dX5_handOver_40 rfl (lv_at hl 0 rfl) ?_
        exact W.zret (v := 1) hx hb hr rfl (fun t ht hW => ⟨⟨1, (), rfl, rfl, by show va_P _ _ _ t.heap; rw [ht]; exact hP.sub [3] rfl⟩, hS.F ht⟩) hS.2.2 dX5_handOver_41
set_option maxHeartbeats 4000000 in
set_option maxRecDepth 100000 in
theorem C_X5_handOver_n (l : Launch) (dC : Nat → ClassId) (dI : Nat → Nat → Nat) (cI cZ cP : ClassId) (N0 tO : Nat) (g0 gC gR c0 w0 v0 gB p0 cd : Nat) (db st bw ki sg ak : Int32) (r0 rK rX rY rC rV rR rU rG rW nm : Nat) (rq rer rky rsm : Int32) (h0 sc shn : Nat) (fg : Nat → Int32) (k : Nat) (hn1 : nm ≤ 24) (hn2 : shn ≤ 24) (hk3 : k < 3) (hsh : nm < shn) : Met l yX5_handOver wsX5_handOver ({ frames := 0, cells := 0, slots := 0, locals := 0 } : Room) (Gv (dC, dI) cI cZ cP N0 tO [.ref g0, .ref r0, .int (nI k)] (fun H => va_P (dC, dI) vwCl [(g0, .inr (5, [.ref gC, .ref gR, .ref c0, .ref w0, .ref v0, .ref gB, .ref p0, .int (nI cd), .int db, .int st, .int bw, .int ki, .int sg, .int ak])), (v0, .inr (4, [.ref h0, .ref sc, .int (nI shn)])), (r0, .inr (2, [.ref rK, .ref rX, .ref rY, .ref rC, .ref rV, .ref rR, .ref rU, .ref rG, .ref rW, .int (nI nm), .int rq, .int rer, .int rky, .int rsm])), (rG, .inl (cZ, 3, .inl fg))] H)) (vp_Si (fun r : Int32 => r = 0)) 0 0 (fun _ => False) := by
  refine Met.ofW (cc := cX5_handOver) (maxL := 4) (ret := (some .boolean)) (by decide) rfl ?_
  intro p e s m args below meth c s₁ B hml hv
  obtain ⟨rfl, hE, hP⟩ := hv
  have hx := B.exec
  have hb := B.bytes
  have hr := B.returns
  have hts := atoms_spec (ws := wsX5_handOver) B.pre
  have hown : s.vm.findClass RX5 = some m.cls := findClass_of_methodNamed B.named
  have hlocks := B.notSynchronized
  have hK := hE.1
  have hNS := hE.2.1
  have hP : va_P (dC, dI) vwCl [(g0, .inr (5, [.ref gC, .ref gR, .ref c0, .ref w0, .ref v0, .ref gB, .ref p0, .int (nI cd), .int db, .int st, .int bw, .int ki, .int sg, .int ak])), (v0, .inr (4, [.ref h0, .ref sc, .int (nI shn)])), (r0, .inr (2, [.ref rK, .ref rX, .ref rY, .ref rC, .ref rV, .ref rR, .ref rU, .ref rG, .ref rW, .int (nI nm), .int rq, .int rer, .int rky, .int rsm])), (rG, .inl (cZ, 3, .inl fg))] s.heap := hP
  have hinX2 : ∀ w ∈ wsX20, w ∈ wsX5_handOver := by decide +kernel
  have hinX4 : ∀ w ∈ wsX40, w ∈ wsX5_handOver := by decide +kernel
  have hinX5 : ∀ w ∈ wsX50, w ∈ wsX5_handOver := by decide +kernel
  have hl := lv_entry ([.ref g0, .ref r0, .int (nI k)]) (n := 4) (Nat.le_of_ble_eq_true rfl)
  rw [lg_entry_eq]
  generalize (lg_sl ([.ref g0, .ref r0, .int (nI k)]) ++ List.replicate (4 - (lg_sl ([.ref g0, .ref r0, .int (nI k)])).length) Slot.unset).toArray = ls at hl ⊢
  have hl : lv_has ls 4 [(0, .ref g0), (1, .ref r0), (2, .int (nI k))] := hl
  refine lv_aload_n hx hb dX5_handOver_0 rfl (lv_at hl 1 rfl) ?_
  refine va_get (D := (dC, dI)) (ci := 2) (v := .int (nI nm)) (C := RX2) (T := TX2) (N := 14) hx hb hts hinX2 hown hK hP 2 rfl rfl 9 (by decide) (hts (.fieldLink RX5 286 "GreyReel$Picture" "number" "I") (List.mem_of_getElem? (i := 1) (by decide +kernel))) (fun _ h9 => h9) rfl dX5_handOver_1 ?_
  refine lv_aload_n hx hb dX5_handOver_4 rfl (lv_at hl 0 rfl) ?_
  refine va_get (D := (dC, dI)) (ci := 5) (v := .ref v0) (C := RX5) (T := TX5) (N := 14) hx hb hts hinX5 hown hK hP 0 rfl rfl 4 (by decide) (hts (.fieldLink RX5 36 "GreyReel" "viewer" "LGreyReel$Viewer;") (List.mem_of_getElem? (i := 2) (by decide +kernel))) (fun _ h9 => h9) rfl dX5_handOver_5 ?_
  refine va_get (D := (dC, dI)) (ci := 4) (v := .int (nI shn)) (C := RX4) (T := TX4) (N := 3) hx hb hts hinX4 hown hK hP 1 rfl rfl 2 (by decide) (hts (.fieldLink RX5 208 "GreyReel$Viewer" "shownPictures" "I") (List.mem_of_getElem? (i := 3) (by decide +kernel))) (fun _ h9 => h9) rfl dX5_handOver_8 ?_
  refine lv_icmp_lt (tgt := 27) hx hb dX5_handOver_11 (by decide) (fun c11 => ?_) (fun c11 => ?_)
  · skip
    have c11 : nm < shn := (nI_ltI (a := nm) (b := shn) (by omega) (by omega)).mp c11
    refine lv_iconst (v := 0) hx hb dX5_handOver_27 (by decide) ?_
    refine lv_istore_n (lv' := [(3, .int 0), (0, .ref g0), (1, .ref r0), (2, .int (nI k))]) hx hb dX5_handOver_28 rfl hl (by decide) rfl (fun ls hl => ?_)
    refine lv_iload_n hx hb dX5_handOver_29 rfl (lv_at hl 0 rfl) ?_
    refine lv_if_eq (tgt := 40) hx hb dX5_handOver_30 (by decide) (fun c30 => ?_) (fun c30 => ?_)
    · skip
      have c30 : 0 = 0 := (nI_eq (a := 0) (b := 0) (by omega) (by omega)).mp c30
      refine lv_iload_n hx hb dX5_handOver_40 rfl (lv_at hl 0 rfl) ?_
      exact W.zret (v := 0) hx hb hr rfl (fun t ht hW => ⟨0, rfl, rfl, ht⟩) (fun _ h => by cases h) dX5_handOver_41
    · skip
      have c30 : ¬ 0 = 0 := fun z => c30 ((nI_eq (a := 0) (b := 0) (by omega) (by omega)).mpr z)
      exact False.elim (by omega)
  · skip
    have c11 : ¬ nm < shn := fun z => c11 ((nI_ltI (a := nm) (b := shn) (by omega) (by omega)).mpr z)
    exact False.elim (by omega)
set_option maxHeartbeats 4000000 in
set_option maxRecDepth 100000 in
theorem C_X5_hand_y (l : Launch) (dC : Nat → ClassId) (dI : Nat → Nat → Nat) (cI cZ cP : ClassId) (N0 tO : Nat) (g0 gC gR c0 w0 v0 gB p0 cd : Nat) (db st bw ki sg ak : Int32) (fr : Nat → Option Nat) (i : Nat) (r0 rK rX rY rC rV rR rU rG rW nm : Nat) (rq rer rky rsm : Int32) (h0 sc shn : Nat) (fg : Nat → Int32) (k : Nat) (hi : i < cd) (hcd : cd ≤ 24) (hfr : fr i = some r0) (hn1 : nm ≤ 24) (hn2 : shn ≤ 24) (hk3 : k < 3) (hsh : shn ≤ nm) (hfg : fg k = 0) : Met l yX5_hand wsX5_hand ({ frames := 2, cells := 0, slots := 0, locals := 43 } : Room) (Gv (dC, dI) cI cZ cP N0 tO [.ref g0, .int (nI i), .int (nI k)] (fun H => va_P (dC, dI) vwCl [(g0, .inr (5, [.ref gC, .ref gR, .ref c0, .ref w0, .ref v0, .ref gB, .ref p0, .int (nI cd), .int db, .int st, .int bw, .int ki, .int sg, .int ak])), (gR, .inl (cP, 24, .inr (.inr (.inr (.inr fr))))), (v0, .inr (4, [.ref h0, .ref sc, .int (nI shn)])), (r0, .inr (2, [.ref rK, .ref rX, .ref rY, .ref rC, .ref rV, .ref rR, .ref rU, .ref rG, .ref rW, .int (nI nm), .int rq, .int rer, .int rky, .int rsm])), (rG, .inl (cZ, 3, .inl fg))] H ∧ AD N0 [g0, gR, v0, r0, rG])) (va_Qi (fun (r : Int32) (_ : Unit) => r = 1) (fun (_ : Unit) (t : State) => va_P (dC, dI) vwCl [(rG, .inl (cZ, 3, .inl (upd fg k 1)))] t.heap) (inL [rG])) 0 0 (inL [rG]) := by
  refine Met.ofW (cc := cX5_hand) (maxL := 4) (ret := (some .boolean)) (by decide) rfl ?_
  intro p e s m args below meth c s₁ B hml hv
  obtain ⟨rfl, hE, hP, hN⟩ := hv
  have hx := B.exec
  have hb := B.bytes
  have hr := B.returns
  have hts := atoms_spec (ws := wsX5_hand) B.pre
  have hown : s.vm.findClass RX5 = some m.cls := findClass_of_methodNamed B.named
  have hlocks := B.notSynchronized
  have hK := hE.1
  have hNS := hE.2.1
  have hS : va_S (inL [rG]) s.heap s.heap [] := va_S.rf
  have hAN : ∀ q : Nat, (inL [rG]) q → N0 ≤ q := fun q h => hN.in [4] rfl q h
  have hP : va_P (dC, dI) vwCl [(g0, .inr (5, [.ref gC, .ref gR, .ref c0, .ref w0, .ref v0, .ref gB, .ref p0, .int (nI cd), .int db, .int st, .int bw, .int ki, .int sg, .int ak])), (gR, .inl (cP, 24, .inr (.inr (.inr (.inr fr))))), (v0, .inr (4, [.ref h0, .ref sc, .int (nI shn)])), (r0, .inr (2, [.ref rK, .ref rX, .ref rY, .ref rC, .ref rV, .ref rR, .ref rU, .ref rG, .ref rW, .int (nI nm), .int rq, .int rer, .int rky, .int rsm])), (rG, .inl (cZ, 3, .inl fg))] s.heap := hP
  have hl := lv_entry ([.ref g0, .int (nI i), .int (nI k)]) (n := 4) (Nat.le_of_ble_eq_true rfl)
  rw [lg_entry_eq]
  generalize (lg_sl ([.ref g0, .int (nI i), .int (nI k)]) ++ List.replicate (4 - (lg_sl ([.ref g0, .int (nI i), .int (nI k)])).length) Slot.unset).toArray = ls at hl ⊢
  have hl : lv_has ls 4 [(0, .ref g0), (1, .int (nI i)), (2, .int (nI k))] := hl
  refine lv_aload_n hx hb dX5_hand_0 rfl (lv_at hl 0 rfl) ?_
  refine lv_iload_n hx hb dX5_hand_1 rfl (lv_at hl 1 rfl) ?_
  refine va_csq (va_Run.run (va_runV (As := [.int (nI i)]) (rest := []) ⟨hx, hb, hml, hown, hts⟩ (C_X5_pictureAt l dC dI cI cZ cP N0 tO g0 gC gR c0 w0 v0 gB p0 cd db st bw ki sg ak fr i r0 hi hcd hfr) (cwV 1 hts gX5_hand_X5_pictureAt rfl rfl rfl (by decide +kernel) ⟨Nat.le_of_ble_eq_true rfl, Nat.le_of_ble_eq_true rfl⟩) ⟨Gv.blind, va_recv hK hP (ci := 5) (q0 := 0) rfl rfl, Gv.of (hE.S hS hAN) (hP.sub [0, 1] rfl)⟩ rfl rfl hl.1 rfl (lv_room (Nat.le_of_ble_eq_true rfl)) dX5_hand_2 ⟨Nat.le_of_ble_eq_true rfl, Nat.le_of_ble_eq_true rfl⟩)) (fun r_1 hr_1 => ?_)
  refine lv_topv (show va_rf r_1 = .ref r0 from by rw [hr_1] <;> rfl) ?_
  refine lv_astore_n (lv' := [(3, .ref r0), (0, .ref g0), (1, .int (nI i)), (2, .int (nI k))]) hx hb dX5_hand_5 rfl hl (by decide) rfl (fun ls hl => ?_)
  refine lv_aload_n hx hb dX5_hand_6 rfl (lv_at hl 1 rfl) ?_
  refine lv_aload_n hx hb dX5_hand_7 rfl (lv_at hl 0 rfl) ?_
  refine lv_iload_n hx hb dX5_hand_8 rfl (lv_at hl 3 rfl) ?_
  refine lv_iconst (v := 3) hx hb dX5_hand_9 (by decide) ?_
  refine vp_callSi (va_Run.run (va_runS (As := [.int (nI k), .int 3]) (rest := [.ref r0, .ref g0]) ⟨hx, hb, hml, hown, hts⟩ (C_X5_placeIn l dC dI cI cZ cP N0 tO k 3 hk3 (by decide)) (va_cwS 2 hts gX5_hand_X5_placeIn rfl rfl rfl (by decide +kernel) ⟨Nat.le_of_ble_eq_true rfl, Nat.le_of_ble_eq_true rfl⟩) ⟨Gv.blind, Gv.of (hE.S hS hAN) trivial⟩ rfl rfl hl.1 rfl (lv_room (Nat.le_of_ble_eq_true rfl)) dX5_hand_10 ⟨Nat.le_of_ble_eq_true rfl, Nat.le_of_ble_eq_true rfl⟩)) (fun r_2 hr_2 => ?_)
  have hr_2 : r_2 = nI k := hr_2
  refine lv_topr hr_2 ?_
  refine va_calli (va_runV (As := [.ref r0, .int (nI k)]) (rest := []) ⟨hx, hb, hml, hown, hts⟩ (C_X5_handOver_y l dC dI cI cZ cP N0 tO g0 gC gR c0 w0 v0 gB p0 cd db st bw ki sg ak r0 rK rX rY rC rV rR rU rG rW nm rq rer rky rsm h0 sc shn fg k hn1 hn2 hk3 hsh hfg) (cwV 2 hts gX5_hand_X5_handOver rfl rfl rfl (by decide +kernel) ⟨Nat.le_of_ble_eq_true rfl, Nat.le_of_ble_eq_true rfl⟩) ⟨Gv.blind, va_recv hK hP (ci := 5) (q0 := 0) rfl rfl, Gv.of (hE.S hS hAN) ⟨(hP.sub [0, 2, 3, 4] rfl), hN.sub [0, 2, 3, 4] (by decide) rfl⟩⟩ rfl rfl hl.1 rfl (lv_room (Nat.le_of_ble_eq_true rfl)) dX5_hand_13 ⟨Nat.le_of_ble_eq_true rfl, Nat.le_of_ble_eq_true rfl⟩) hS (fun q _ h => inL_sub [0] rfl q h) (inL_sub [0] rfl) (fun r_3 u t H locs ht hvm hw hB hz1 hk1 hS => ?_)
  rw [ht] at hB
  have hP := va_back (L := [rG]) hP hN rfl [4] rfl rfl (fun q h1 h2 => hk1 q h1 h2) hB
  clear hB hk1 hz1 hvm ht t
  have hP : va_P (dC, dI) vwCl [(g0, .inr (5, [.ref gC, .ref gR, .ref c0, .ref w0, .ref v0, .ref gB, .ref p0, .int (nI cd), .int db, .int st, .int bw, .int ki, .int sg, .int ak])), (gR, .inl (cP, 24, .inr (.inr (.inr (.inr fr))))), (v0, .inr (4, [.ref h0, .ref sc, .int (nI shn)])), (r0, .inr (2, [.ref rK, .ref rX, .ref rY, .ref rC, .ref rV, .ref rR, .ref rU, .ref rG, .ref rW, .int (nI nm), .int rq, .int rer, .int rky, .int rsm])), (rG, .inl (cZ, 3, .inl (upd fg k 1)))] H := hP
  have hw : r_3 = 1 := hw
  have hwr_3 := hw
  have hwr_3 : r_3 = 1 := hwr_3
  exact W.zret (v := r_3) hx hb hr (by rw [hwr_3]; rfl) (fun t ht hW => ⟨⟨r_3, (), rfl, (by rw [hwr_3] <;> rfl), by show va_P _ _ _ t.heap; rw [ht]; exact hP.sub [4] rfl⟩, hS.F ht⟩) hS.2.2 dX5_hand_16
set_option maxHeartbeats 4000000 in
set_option maxRecDepth 100000 in
theorem C_X5_hand_n (l : Launch) (dC : Nat → ClassId) (dI : Nat → Nat → Nat) (cI cZ cP : ClassId) (N0 tO : Nat) (g0 gC gR c0 w0 v0 gB p0 cd : Nat) (db st bw ki sg ak : Int32) (fr : Nat → Option Nat) (i : Nat) (r0 rK rX rY rC rV rR rU rG rW nm : Nat) (rq rer rky rsm : Int32) (h0 sc shn : Nat) (fg : Nat → Int32) (k : Nat) (hi : i < cd) (hcd : cd ≤ 24) (hfr : fr i = some r0) (hn1 : nm ≤ 24) (hn2 : shn ≤ 24) (hk3 : k < 3) (hsh : nm < shn) : Met l yX5_hand wsX5_hand ({ frames := 2, cells := 0, slots := 0, locals := 43 } : Room) (Gv (dC, dI) cI cZ cP N0 tO [.ref g0, .int (nI i), .int (nI k)] (fun H => va_P (dC, dI) vwCl [(g0, .inr (5, [.ref gC, .ref gR, .ref c0, .ref w0, .ref v0, .ref gB, .ref p0, .int (nI cd), .int db, .int st, .int bw, .int ki, .int sg, .int ak])), (gR, .inl (cP, 24, .inr (.inr (.inr (.inr fr))))), (v0, .inr (4, [.ref h0, .ref sc, .int (nI shn)])), (r0, .inr (2, [.ref rK, .ref rX, .ref rY, .ref rC, .ref rV, .ref rR, .ref rU, .ref rG, .ref rW, .int (nI nm), .int rq, .int rer, .int rky, .int rsm])), (rG, .inl (cZ, 3, .inl fg))] H)) (vp_Si (fun r : Int32 => r = 0)) 0 0 (fun _ => False) := by
  refine Met.ofW (cc := cX5_hand) (maxL := 4) (ret := (some .boolean)) (by decide) rfl ?_
  intro p e s m args below meth c s₁ B hml hv
  obtain ⟨rfl, hE, hP⟩ := hv
  have hx := B.exec
  have hb := B.bytes
  have hr := B.returns
  have hts := atoms_spec (ws := wsX5_hand) B.pre
  have hown : s.vm.findClass RX5 = some m.cls := findClass_of_methodNamed B.named
  have hlocks := B.notSynchronized
  have hK := hE.1
  have hNS := hE.2.1
  have hP : va_P (dC, dI) vwCl [(g0, .inr (5, [.ref gC, .ref gR, .ref c0, .ref w0, .ref v0, .ref gB, .ref p0, .int (nI cd), .int db, .int st, .int bw, .int ki, .int sg, .int ak])), (gR, .inl (cP, 24, .inr (.inr (.inr (.inr fr))))), (v0, .inr (4, [.ref h0, .ref sc, .int (nI shn)])), (r0, .inr (2, [.ref rK, .ref rX, .ref rY, .ref rC, .ref rV, .ref rR, .ref rU, .ref rG, .ref rW, .int (nI nm), .int rq, .int rer, .int rky, .int rsm])), (rG, .inl (cZ, 3, .inl fg))] s.heap := hP
  have hl := lv_entry ([.ref g0, .int (nI i), .int (nI k)]) (n := 4) (Nat.le_of_ble_eq_true rfl)
  rw [lg_entry_eq]
  generalize (lg_sl ([.ref g0, .int (nI i), .int (nI k)]) ++ List.replicate (4 - (lg_sl ([.ref g0, .int (nI i), .int (nI k)])).length) Slot.unset).toArray = ls at hl ⊢
  have hl : lv_has ls 4 [(0, .ref g0), (1, .int (nI i)), (2, .int (nI k))] := hl
  refine lv_aload_n hx hb dX5_hand_0 rfl (lv_at hl 0 rfl) ?_
  refine lv_iload_n hx hb dX5_hand_1 rfl (lv_at hl 1 rfl) ?_
  refine va_csq (va_Run.run (va_runV (As := [.int (nI i)]) (rest := []) ⟨hx, hb, hml, hown, hts⟩ (C_X5_pictureAt l dC dI cI cZ cP N0 tO g0 gC gR c0 w0 v0 gB p0 cd db st bw ki sg ak fr i r0 hi hcd hfr) (cwV 1 hts gX5_hand_X5_pictureAt rfl rfl rfl (by decide +kernel) ⟨Nat.le_of_ble_eq_true rfl, Nat.le_of_ble_eq_true rfl⟩) ⟨Gv.blind, va_recv hK hP (ci := 5) (q0 := 0) rfl rfl, Gv.of hE (hP.sub [0, 1] rfl)⟩ rfl rfl hl.1 rfl (lv_room (Nat.le_of_ble_eq_true rfl)) dX5_hand_2 ⟨Nat.le_of_ble_eq_true rfl, Nat.le_of_ble_eq_true rfl⟩)) (fun r_1 hr_1 => ?_)
  refine lv_topv (show va_rf r_1 = .ref r0 from by rw [hr_1] <;> rfl) ?_
  refine lv_astore_n (lv' := [(3, .ref r0), (0, .ref g0), (1, .int (nI i)), (2, .int (nI k))]) hx hb dX5_hand_5 rfl hl (by decide) rfl (fun ls hl => ?_)
  refine lv_aload_n hx hb dX5_hand_6 rfl (lv_at hl 1 rfl) ?_
  refine lv_aload_n hx hb dX5_hand_7 rfl (lv_at hl 0 rfl) ?_
  refine lv_iload_n hx hb dX5_hand_8 rfl (lv_at hl 3 rfl) ?_
  refine lv_iconst (v := 3) hx hb dX5_hand_9 (by decide) ?_
  refine vp_callSi (va_Run.run (va_runS (As := [.int (nI k), .int 3]) (rest := [.ref r0, .ref g0]) ⟨hx, hb, hml, hown, hts⟩ (C_X5_placeIn l dC dI cI cZ cP N0 tO k 3 hk3 (by decide)) (va_cwS 2 hts gX5_hand_X5_placeIn rfl rfl rfl (by decide +kernel) ⟨Nat.le_of_ble_eq_true rfl, Nat.le_of_ble_eq_true rfl⟩) ⟨Gv.blind, Gv.of hE trivial⟩ rfl rfl hl.1 rfl (lv_room (Nat.le_of_ble_eq_true rfl)) dX5_hand_10 ⟨Nat.le_of_ble_eq_true rfl, Nat.le_of_ble_eq_true rfl⟩)) (fun r_2 hr_2 => ?_)
  have hr_2 : r_2 = nI k := hr_2
  refine lv_topr hr_2 ?_
  refine vp_callSi (va_Run.run (va_runV (As := [.ref r0, .int (nI k)]) (rest := []) ⟨hx, hb, hml, hown, hts⟩ (C_X5_handOver_n l dC dI cI cZ cP N0 tO g0 gC gR c0 w0 v0 gB p0 cd db st bw ki sg ak r0 rK rX rY rC rV rR rU rG rW nm rq rer rky rsm h0 sc shn fg k hn1 hn2 hk3 hsh) (cwV 2 hts gX5_hand_X5_handOver rfl rfl rfl (by decide +kernel) ⟨Nat.le_of_ble_eq_true rfl, Nat.le_of_ble_eq_true rfl⟩) ⟨Gv.blind, va_recv hK hP (ci := 5) (q0 := 0) rfl rfl, Gv.of hE (hP.sub [0, 2, 3, 4] rfl)⟩ rfl rfl hl.1 rfl (lv_room (Nat.le_of_ble_eq_true rfl)) dX5_hand_13 ⟨Nat.le_of_ble_eq_true rfl, Nat.le_of_ble_eq_true rfl⟩)) (fun r_3 hr_3 => ?_)
  have hr_3 : r_3 = 0 := hr_3
  exact W.zret (v := r_3) hx hb hr (by rw [hr_3]; rfl) (fun t ht hW => ⟨r_3, rfl, (by rw [hr_3] <;> rfl), ht⟩) (fun _ h => by cases h) dX5_hand_16
set_option maxHeartbeats 4000000 in
set_option maxRecDepth 100000 in
theorem C_X5_drift_s (l : Launch) (dC : Nat → ClassId) (dI : Nat → Nat → Nat) (cI cZ cP : ClassId) (N0 tO : Nat) (g0 gC gR c0 w0 v0 gB p0 cd : Nat) (db st bw ki sg ak : Int32) (fr : Nat → Option Nat) (i : Nat) (r0 rK rX rY rC rV rR rU rG rW : Nat) (rnum rq rer rky rsm : Int32) (h0 sc : Nat) (fs : Nat → Int32) (fl : Nat → Int32) (hi : i < cd) (hcd : cd ≤ 24) (hfr : fr i = some r0) : Met l yX5_drift wsX5_drift ({ frames := 2, cells := 0, slots := 0, locals := 55 } : Room) (Gv (dC, dI) cI cZ cP N0 tO [.ref g0] (fun H => va_P (dC, dI) vwCl [(g0, .inr (5, [.ref gC, .ref gR, .ref c0, .ref w0, .ref v0, .ref gB, .ref p0, .int (nI cd), .int db, .int st, .int bw, .int ki, .int sg, .int ak])), (gR, .inl (cP, 24, .inr (.inr (.inr (.inr fr))))), (v0, .inr (4, [.ref h0, .ref sc, .int (nI (i + 1))])), (sc, .inl (cI, 768, .inl fs)), (r0, .inr (2, [.ref rK, .ref rX, .ref rY, .ref rC, .ref rV, .ref rR, .ref rU, .ref rG, .ref rW, .int rnum, .int rq, .int rer, .int rky, .int rsm])), (rR, .inl (cI, 768, .inl fl))] H)) (vp_Si (fun r : Int32 => r = distF fs fl 768)) 0 0 (fun _ => False) := by
  refine Met.ofW (cc := cX5_drift) (maxL := 2) (ret := (some .int)) (by decide) rfl ?_
  intro p e s m args below meth c s₁ B hml hv
  obtain ⟨rfl, hE, hP⟩ := hv
  have hx := B.exec
  have hb := B.bytes
  have hr := B.returns
  have hts := atoms_spec (ws := wsX5_drift) B.pre
  have hown : s.vm.findClass RX5 = some m.cls := findClass_of_methodNamed B.named
  have hlocks := B.notSynchronized
  have hK := hE.1
  have hNS := hE.2.1
  have hP : va_P (dC, dI) vwCl [(g0, .inr (5, [.ref gC, .ref gR, .ref c0, .ref w0, .ref v0, .ref gB, .ref p0, .int (nI cd), .int db, .int st, .int bw, .int ki, .int sg, .int ak])), (gR, .inl (cP, 24, .inr (.inr (.inr (.inr fr))))), (v0, .inr (4, [.ref h0, .ref sc, .int (nI (i + 1))])), (sc, .inl (cI, 768, .inl fs)), (r0, .inr (2, [.ref rK, .ref rX, .ref rY, .ref rC, .ref rV, .ref rR, .ref rU, .ref rG, .ref rW, .int rnum, .int rq, .int rer, .int rky, .int rsm])), (rR, .inl (cI, 768, .inl fl))] s.heap := hP
  have hinX2 : ∀ w ∈ wsX20, w ∈ wsX5_drift := by decide +kernel
  have hinX4 : ∀ w ∈ wsX40, w ∈ wsX5_drift := by decide +kernel
  have hinX5 : ∀ w ∈ wsX50, w ∈ wsX5_drift := by decide +kernel
  have hl := lv_entry ([.ref g0]) (n := 2) (Nat.le_of_ble_eq_true rfl)
  rw [lg_entry_eq]
  generalize (lg_sl ([.ref g0]) ++ List.replicate (2 - (lg_sl ([.ref g0])).length) Slot.unset).toArray = ls at hl ⊢
  have hl : lv_has ls 2 [(0, .ref g0)] := hl
  refine lv_aload_n hx hb dX5_drift_0 rfl (lv_at hl 0 rfl) ?_
  refine lv_aload_n hx hb dX5_drift_1 rfl (lv_at hl 0 rfl) ?_
  refine va_get (D := (dC, dI)) (ci := 5) (v := .ref v0) (C := RX5) (T := TX5) (N := 14) hx hb hts hinX5 hown hK hP 0 rfl rfl 4 (by decide) (hts (.fieldLink RX5 36 "GreyReel" "viewer" "LGreyReel$Viewer;") (List.mem_of_getElem? (i := 1) (by decide +kernel))) (fun _ h9 => h9) rfl dX5_drift_2 ?_
  refine va_get (D := (dC, dI)) (ci := 4) (v := .int (nI (i + 1))) (C := RX4) (T := TX4) (N := 3) hx hb hts hinX4 hown hK hP 2 rfl rfl 2 (by decide) (hts (.fieldLink RX5 208 "GreyReel$Viewer" "shownPictures" "I") (List.mem_of_getElem? (i := 2) (by decide +kernel))) (fun _ h9 => h9) rfl dX5_drift_5 ?_
  refine lv_iconst (v := 1) hx hb dX5_drift_8 (by decide) ?_
  refine lv_isub hx hb dX5_drift_9 ?_
  refine lv_topr (show _ = nI i from (pk_sub (a := i + 1) (b := 1) (by omega))) ?_
  refine va_csq (va_Run.run (va_runV (As := [.int (nI i)]) (rest := []) ⟨hx, hb, hml, hown, hts⟩ (C_X5_pictureOrNull_s l dC dI cI cZ cP N0 tO g0 gC gR c0 w0 v0 gB p0 cd db st bw ki sg ak fr i r0 hi hcd hfr) (cwV 1 hts gX5_drift_X5_pictureOrNull rfl rfl rfl (by decide +kernel) ⟨Nat.le_of_ble_eq_true rfl, Nat.le_of_ble_eq_true rfl⟩) ⟨Gv.blind, va_recv hK hP (ci := 5) (q0 := 0) rfl rfl, Gv.of hE (hP.sub [0, 1] rfl)⟩ rfl rfl hl.1 rfl (lv_room (Nat.le_of_ble_eq_true rfl)) dX5_drift_10 ⟨Nat.le_of_ble_eq_true rfl, Nat.le_of_ble_eq_true rfl⟩)) (fun r_1 hr_1 => ?_)
  refine lv_topv (show va_rf r_1 = .ref r0 from by rw [hr_1] <;> rfl) ?_
  refine lv_astore_n (lv' := [(1, .ref r0), (0, .ref g0)]) hx hb dX5_drift_13 rfl hl (by decide) rfl (fun ls hl => ?_)
  refine lv_aload_n hx hb dX5_drift_14 rfl (lv_at hl 0 rfl) ?_
  refine lv_ifnonnull (tgt := 22) hx hb dX5_drift_15 (by decide) ?_
  refine lv_aload_n hx hb dX5_drift_22 rfl (lv_at hl 1 rfl) ?_
  refine va_get (D := (dC, dI)) (ci := 5) (v := .ref v0) (C := RX5) (T := TX5) (N := 14) hx hb hts hinX5 hown hK hP 0 rfl rfl 4 (by decide) (hts (.fieldLink RX5 36 "GreyReel" "viewer" "LGreyReel$Viewer;") (List.mem_of_getElem? (i := 1) (by decide +kernel))) (fun _ h9 => h9) rfl dX5_drift_23 ?_
  refine va_get (D := (dC, dI)) (ci := 4) (v := .ref sc) (C := RX4) (T := TX4) (N := 3) hx hb hts hinX4 hown hK hP 2 rfl rfl 1 (by decide) (hts (.fieldLink RX5 228 "GreyReel$Viewer" "screen" "[I") (List.mem_of_getElem? (i := 3) (by decide +kernel))) (fun _ h9 => h9) rfl dX5_drift_26 ?_
  refine lv_aload_n hx hb dX5_drift_29 rfl (lv_at hl 0 rfl) ?_
  refine va_get (D := (dC, dI)) (ci := 2) (v := .ref rR) (C := RX2) (T := TX2) (N := 14) hx hb hts hinX2 hown hK hP 4 rfl rfl 5 (by decide) (hts (.fieldLink RX5 186 "GreyReel$Picture" "result" "[I") (List.mem_of_getElem? (i := 4) (by decide +kernel))) (fun _ h9 => h9) rfl dX5_drift_30 ?_
  refine vp_callSi (va_Run.run (va_runS (As := [.ref sc, .ref rR]) (rest := []) ⟨hx, hb, hml, hown, hts⟩ (C_X5_distance l dC dI cI cZ cP N0 tO sc rR fs fl ) (va_cwS 2 hts gX5_drift_X5_distance rfl rfl rfl (by decide +kernel) ⟨Nat.le_of_ble_eq_true rfl, Nat.le_of_ble_eq_true rfl⟩) ⟨Gv.blind, Gv.of hE (hP.sub [3, 5] rfl)⟩ rfl rfl hl.1 rfl (lv_room (Nat.le_of_ble_eq_true rfl)) dX5_drift_33 ⟨Nat.le_of_ble_eq_true rfl, Nat.le_of_ble_eq_true rfl⟩)) (fun r_2 hr_2 => ?_)
  have hr_2 : r_2 = distF fs fl 768 := hr_2
  exact W.iret (v := r_2) hx hb hr (fun t ht hW => ⟨r_2, rfl, (by rw [hr_2] <;> rfl), ht⟩) (fun _ h => by cases h) dX5_drift_36
set_option maxHeartbeats 4000000 in
set_option maxRecDepth 100000 in
theorem C_X5_drift_m (l : Launch) (dC : Nat → ClassId) (dI : Nat → Nat → Nat) (cI cZ cP : ClassId) (N0 tO : Nat) (g0 gC gR c0 w0 v0 gB p0 cd : Nat) (db st bw ki sg ak : Int32) (fr : Nat → Option Nat) (h0 sc shn : Nat) (h0s : shn = 0) : Met l yX5_drift wsX5_drift ({ frames := 2, cells := 0, slots := 0, locals := 55 } : Room) (Gv (dC, dI) cI cZ cP N0 tO [.ref g0] (fun H => va_P (dC, dI) vwCl [(g0, .inr (5, [.ref gC, .ref gR, .ref c0, .ref w0, .ref v0, .ref gB, .ref p0, .int (nI cd), .int db, .int st, .int bw, .int ki, .int sg, .int ak])), (gR, .inl (cP, 24, .inr (.inr (.inr (.inr fr))))), (v0, .inr (4, [.ref h0, .ref sc, .int (nI shn)]))] H)) (vp_Si (fun r : Int32 => r = 0)) 0 0 (fun _ => False) := by
  refine Met.ofW (cc := cX5_drift) (maxL := 2) (ret := (some .int)) (by decide) rfl ?_
  intro p e s m args below meth c s₁ B hml hv
  obtain ⟨rfl, hE, hP⟩ := hv
  have hx := B.exec
  have hb := B.bytes
  have hr := B.returns
  have hts := atoms_spec (ws := wsX5_drift) B.pre
  have hown : s.vm.findClass RX5 = some m.cls := findClass_of_methodNamed B.named
  have hlocks := B.notSynchronized
  have hK := hE.1
  have hNS := hE.2.1
  have hP : va_P (dC, dI) vwCl [(g0, .inr (5, [.ref gC, .ref gR, .ref c0, .ref w0, .ref v0, .ref gB, .ref p0, .int (nI cd), .int db, .int st, .int bw, .int ki, .int sg, .int ak])), (gR, .inl (cP, 24, .inr (.inr (.inr (.inr fr))))), (v0, .inr (4, [.ref h0, .ref sc, .int (nI shn)]))] s.heap := hP
  have hinX4 : ∀ w ∈ wsX40, w ∈ wsX5_drift := by decide +kernel
  have hinX5 : ∀ w ∈ wsX50, w ∈ wsX5_drift := by decide +kernel
  have hl := lv_entry ([.ref g0]) (n := 2) (Nat.le_of_ble_eq_true rfl)
  rw [lg_entry_eq]
  generalize (lg_sl ([.ref g0]) ++ List.replicate (2 - (lg_sl ([.ref g0])).length) Slot.unset).toArray = ls at hl ⊢
  have hl : lv_has ls 2 [(0, .ref g0)] := hl
  refine lv_aload_n hx hb dX5_drift_0 rfl (lv_at hl 0 rfl) ?_
  refine lv_aload_n hx hb dX5_drift_1 rfl (lv_at hl 0 rfl) ?_
  refine va_get (D := (dC, dI)) (ci := 5) (v := .ref v0) (C := RX5) (T := TX5) (N := 14) hx hb hts hinX5 hown hK hP 0 rfl rfl 4 (by decide) (hts (.fieldLink RX5 36 "GreyReel" "viewer" "LGreyReel$Viewer;") (List.mem_of_getElem? (i := 1) (by decide +kernel))) (fun _ h9 => h9) rfl dX5_drift_2 ?_
  refine va_get (D := (dC, dI)) (ci := 4) (v := .int (nI shn)) (C := RX4) (T := TX4) (N := 3) hx hb hts hinX4 hown hK hP 2 rfl rfl 2 (by decide) (hts (.fieldLink RX5 208 "GreyReel$Viewer" "shownPictures" "I") (List.mem_of_getElem? (i := 2) (by decide +kernel))) (fun _ h9 => h9) rfl dX5_drift_5 ?_
  refine lv_iconst (v := 1) hx hb dX5_drift_8 (by decide) ?_
  refine lv_isub hx hb dX5_drift_9 ?_
  refine va_csq (va_Run.run (va_runV (As := [.int ((nI shn) - 1)]) (rest := []) ⟨hx, hb, hml, hown, hts⟩ (C_X5_pictureOrNull_m l dC dI cI cZ cP N0 tO g0 gC gR c0 w0 v0 gB p0 cd db st bw ki sg ak fr ((nI shn) - 1) (by rw [h0s]; decide)) (cwV 1 hts gX5_drift_X5_pictureOrNull rfl rfl rfl (by decide +kernel) ⟨Nat.le_of_ble_eq_true rfl, Nat.le_of_ble_eq_true rfl⟩) ⟨Gv.blind, va_recv hK hP (ci := 5) (q0 := 0) rfl rfl, Gv.of hE (hP.sub [0, 1] rfl)⟩ rfl rfl hl.1 rfl (lv_room (Nat.le_of_ble_eq_true rfl)) dX5_drift_10 ⟨Nat.le_of_ble_eq_true rfl, Nat.le_of_ble_eq_true rfl⟩)) (fun r_1 hr_1 => ?_)
  refine lv_topv (show va_rf r_1 = .null from by rw [hr_1] <;> rfl) ?_
  refine lv_astore_nN (lv' := [(1, .null), (0, .ref g0)]) hx hb dX5_drift_13 rfl hl (by decide) rfl (fun ls hl => ?_)
  refine lv_aload_nN hx hb dX5_drift_14 rfl (lv_at hl 0 rfl) ?_
  refine lv_ifnonnullN hx hb dX5_drift_15 ?_
  refine lv_iconst (v := 0) hx hb dX5_drift_18 (by decide) ?_
  refine lv_goto (tgt := 36) hx hb dX5_drift_19 (by decide) ?_
  exact W.iret (v := 0) hx hb hr (fun t ht hW => ⟨0, rfl, rfl, ht⟩) (fun _ h => by cases h) dX5_drift_36
set_option maxHeartbeats 4000000 in
set_option maxRecDepth 100000 in
theorem C_X5_driftNext_s (l : Launch) (dC : Nat → ClassId) (dI : Nat → Nat → Nat) (cI cZ cP : ClassId) (N0 tO : Nat) (g0 gC gR c0 w0 v0 gB p0 cd : Nat) (db st bw ki sg ak : Int32) (fr : Nat → Option Nat) (h0 hA hQ hM hF : Nat) (sc shn : Nat) (r0 rK rX rY rC rV rR rU rG rW : Nat) (rnum rq rer rky rsm : Int32) (fa fm ff fq fs : Nat → Int32) (kd : Nat → Nat) (fx fy fv fg : Nat → Int32) (fl : Nat → Int32) (hi : shn < cd) (hcd : cd ≤ 24) (hfr : fr shn = some r0) (hvx : ∀ j, j < 12 → vOK (fx j)) (hvy : ∀ j, j < 12 → vOK (fy j)) (hkd : ∀ j, j < 12 → kd j < 5) (hk3 : ∀ j, j < 12 → 3 ≤ kd j → ¬ j % 4 = 0) : Met l yX5_driftNext wsX5_driftNext ({ frames := 5, cells := 0, slots := 0, locals := 127 } : Room) (Gv (dC, dI) cI cZ cP N0 tO [.ref g0] (fun H => va_P (dC, dI) vwCl [(g0, .inr (5, [.ref gC, .ref gR, .ref c0, .ref w0, .ref v0, .ref gB, .ref p0, .int (nI cd), .int db, .int st, .int bw, .int ki, .int sg, .int ak])), (gR, .inl (cP, 24, .inr (.inr (.inr (.inr fr))))), (v0, .inr (4, [.ref h0, .ref sc, .int (nI shn)])), (h0, .inr (3, [.ref hA, .ref hQ, .ref hM, .ref hF])), (hA, .inl (cI, 1140, .inl fa)), (hQ, .inl (cI, 16, .inl fq)), (hM, .inl (cI, 768, .inl fm)), (hF, .inl (cI, 64, .inl ff)), (sc, .inl (cI, 768, .inl fs)), (r0, .inr (2, [.ref rK, .ref rX, .ref rY, .ref rC, .ref rV, .ref rR, .ref rU, .ref rG, .ref rW, .int rnum, .int rq, .int rer, .int rky, .int rsm])), (rK, .inl (cI, 12, .inl (fun k => nI (kd k)))), (rX, .inl (cI, 12, .inl fx)), (rY, .inl (cI, 12, .inl fy)), (rV, .inl (cI, 768, .inl fv)), (rG, .inl (cZ, 3, .inl fg)), (rR, .inl (cI, 768, .inl fl))] H ∧ AD N0 [g0, gR, v0, h0, hA, hQ, hM, hF, sc, r0, rK, rX, rY, rV, rG, rR])) (va_Qi (fun (r : Int32) (u : (Nat → Int32) × (Nat → Int32)) => match u with | (fz, fw) => r = distF (vwF (ahF fs) fg kd fx fy fv rq rsm) fl 768) (fun (u : (Nat → Int32) × (Nat → Int32)) (t : State) => match u with | (fz, fw) => va_P (dC, dI) vwCl [(hA, .inl (cI, 1140, .inl (ahF fs))), (hQ, .inl (cI, 16, .inl fz)), (hM, .inl (cI, 768, .inl (vwF (ahF fs) fg kd fx fy fv rq rsm))), (hF, .inl (cI, 64, .inl fw))] t.heap) (inL [hA, hQ, hM, hF])) 0 0 (inL [hA, hQ, hM, hF]) := by
  refine Met.ofW (cc := cX5_driftNext) (maxL := 2) (ret := (some .int)) (by decide) rfl ?_
  intro p e s m args below meth c s₁ B hml hv
  obtain ⟨rfl, hE, hP, hN⟩ := hv
  have hx := B.exec
  have hb := B.bytes
  have hr := B.returns
  have hts := atoms_spec (ws := wsX5_driftNext) B.pre
  have hown : s.vm.findClass RX5 = some m.cls := findClass_of_methodNamed B.named
  have hlocks := B.notSynchronized
  have hK := hE.1
  have hNS := hE.2.1
  have hS : va_S (inL [hA, hQ, hM, hF]) s.heap s.heap [] := va_S.rf
  have hAN : ∀ q : Nat, (inL [hA, hQ, hM, hF]) q → N0 ≤ q := fun q h => hN.in [4, 5, 6, 7] rfl q h
  have hP : va_P (dC, dI) vwCl [(g0, .inr (5, [.ref gC, .ref gR, .ref c0, .ref w0, .ref v0, .ref gB, .ref p0, .int (nI cd), .int db, .int st, .int bw, .int ki, .int sg, .int ak])), (gR, .inl (cP, 24, .inr (.inr (.inr (.inr fr))))), (v0, .inr (4, [.ref h0, .ref sc, .int (nI shn)])), (h0, .inr (3, [.ref hA, .ref hQ, .ref hM, .ref hF])), (hA, .inl (cI, 1140, .inl fa)), (hQ, .inl (cI, 16, .inl fq)), (hM, .inl (cI, 768, .inl fm)), (hF, .inl (cI, 64, .inl ff)), (sc, .inl (cI, 768, .inl fs)), (r0, .inr (2, [.ref rK, .ref rX, .ref rY, .ref rC, .ref rV, .ref rR, .ref rU, .ref rG, .ref rW, .int rnum, .int rq, .int rer, .int rky, .int rsm])), (rK, .inl (cI, 12, .inl (fun k => nI (kd k)))), (rX, .inl (cI, 12, .inl fx)), (rY, .inl (cI, 12, .inl fy)), (rV, .inl (cI, 768, .inl fv)), (rG, .inl (cZ, 3, .inl fg)), (rR, .inl (cI, 768, .inl fl))] s.heap := hP
  have hinX2 : ∀ w ∈ wsX20, w ∈ wsX5_driftNext := by decide +kernel
  have hinX3 : ∀ w ∈ wsX30, w ∈ wsX5_driftNext := by decide +kernel
  have hinX4 : ∀ w ∈ wsX40, w ∈ wsX5_driftNext := by decide +kernel
  have hinX5 : ∀ w ∈ wsX50, w ∈ wsX5_driftNext := by decide +kernel
  have hl := lv_entry ([.ref g0]) (n := 2) (Nat.le_of_ble_eq_true rfl)
  rw [lg_entry_eq]
  generalize (lg_sl ([.ref g0]) ++ List.replicate (2 - (lg_sl ([.ref g0])).length) Slot.unset).toArray = ls at hl ⊢
  have hl : lv_has ls 2 [(0, .ref g0)] := hl
  refine lv_aload_n hx hb dX5_driftNext_0 rfl (lv_at hl 0 rfl) ?_
  refine lv_aload_n hx hb dX5_driftNext_1 rfl (lv_at hl 0 rfl) ?_
  refine va_get (D := (dC, dI)) (ci := 5) (v := .ref v0) (C := RX5) (T := TX5) (N := 14) hx hb hts hinX5 hown hK hP 0 rfl rfl 4 (by decide) (hts (.fieldLink RX5 36 "GreyReel" "viewer" "LGreyReel$Viewer;") (List.mem_of_getElem? (i := 1) (by decide +kernel))) (fun _ h9 => h9) rfl dX5_driftNext_2 ?_
  refine va_get (D := (dC, dI)) (ci := 4) (v := .int (nI shn)) (C := RX4) (T := TX4) (N := 3) hx hb hts hinX4 hown hK hP 2 rfl rfl 2 (by decide) (hts (.fieldLink RX5 208 "GreyReel$Viewer" "shownPictures" "I") (List.mem_of_getElem? (i := 2) (by decide +kernel))) (fun _ h9 => h9) rfl dX5_driftNext_5 ?_
  refine va_csq (va_Run.run (va_runV (As := [.int (nI shn)]) (rest := []) ⟨hx, hb, hml, hown, hts⟩ (C_X5_pictureOrNull_s l dC dI cI cZ cP N0 tO g0 gC gR c0 w0 v0 gB p0 cd db st bw ki sg ak fr shn r0 hi hcd hfr) (cwV 1 hts gX5_driftNext_X5_pictureOrNull rfl rfl rfl (by decide +kernel) ⟨Nat.le_of_ble_eq_true rfl, Nat.le_of_ble_eq_true rfl⟩) ⟨Gv.blind, va_recv hK hP (ci := 5) (q0 := 0) rfl rfl, Gv.of (hE.S hS hAN) (hP.sub [0, 1] rfl)⟩ rfl rfl hl.1 rfl (lv_room (Nat.le_of_ble_eq_true rfl)) dX5_driftNext_8 ⟨Nat.le_of_ble_eq_true rfl, Nat.le_of_ble_eq_true rfl⟩)) (fun r_1 hr_1 => ?_)
  refine lv_topv (show va_rf r_1 = .ref r0 from by rw [hr_1] <;> rfl) ?_
  refine lv_astore_n (lv' := [(1, .ref r0), (0, .ref g0)]) hx hb dX5_driftNext_11 rfl hl (by decide) rfl (fun ls hl => ?_)
  refine lv_aload_n hx hb dX5_driftNext_12 rfl (lv_at hl 0 rfl) ?_
  refine lv_ifnonnull (tgt := 18) hx hb dX5_driftNext_13 (by decide) ?_
  refine lv_aload_n hx hb dX5_driftNext_18 rfl (lv_at hl 1 rfl) ?_
  refine va_get (D := (dC, dI)) (ci := 5) (v := .ref v0) (C := RX5) (T := TX5) (N := 14) hx hb hts hinX5 hown hK hP 0 rfl rfl 4 (by decide) (hts (.fieldLink RX5 36 "GreyReel" "viewer" "LGreyReel$Viewer;") (List.mem_of_getElem? (i := 1) (by decide +kernel))) (fun _ h9 => h9) rfl dX5_driftNext_19 ?_
  refine lv_aload_n hx hb dX5_driftNext_22 rfl (lv_at hl 0 rfl) ?_
  refine va_callv (va_runV (As := [.ref r0]) (rest := []) ⟨hx, hb, hml, hown, hts⟩ (C_X4_make l dC dI cI cZ cP N0 tO v0 sc h0 hA hQ hM hF r0 rK rX rY rC rV rR rU rG rW rnum rq rer rky rsm shn fa fm ff fq fs kd fx fy fv fg hvx hvy hkd hk3) (cwV 1 hts gX5_driftNext_X4_make rfl rfl rfl (by decide +kernel) ⟨Nat.le_of_ble_eq_true rfl, Nat.le_of_ble_eq_true rfl⟩) ⟨Gv.blind, va_recv hK hP (ci := 4) (q0 := 2) rfl rfl, Gv.of (hE.S hS hAN) ⟨(hP.sub [2, 3, 4, 5, 6, 7, 8, 9, 10, 11, 12, 13, 14] rfl), hN.sub [2, 3, 4, 5, 6, 7, 8, 9, 10, 11, 12, 13, 14] (by decide) rfl⟩⟩ rfl rfl hl.1 rfl (lv_room (Nat.le_of_ble_eq_true rfl)) dX5_driftNext_23 ⟨Nat.le_of_ble_eq_true rfl, Nat.le_of_ble_eq_true rfl⟩) hS (fun q _ h => inL_sub [0, 1, 2, 3] rfl q h) (inL_sub [0, 1, 2, 3] rfl) (fun u t H locs ht hvm hw hB hz1 hk1 hS => ?_)
  obtain ⟨fz_3, fw_4⟩ := u
  rw [ht] at hB
  have hP := va_back (L := [hA, hQ, hM, hF]) hP hN rfl [4, 5, 6, 7] rfl rfl (fun q h1 h2 => hk1 q h1 h2) hB
  clear hB hk1 hz1 hvm ht t
  have hP : va_P (dC, dI) vwCl [(g0, .inr (5, [.ref gC, .ref gR, .ref c0, .ref w0, .ref v0, .ref gB, .ref p0, .int (nI cd), .int db, .int st, .int bw, .int ki, .int sg, .int ak])), (gR, .inl (cP, 24, .inr (.inr (.inr (.inr fr))))), (v0, .inr (4, [.ref h0, .ref sc, .int (nI shn)])), (h0, .inr (3, [.ref hA, .ref hQ, .ref hM, .ref hF])), (hA, .inl (cI, 1140, .inl (ahF fs))), (hQ, .inl (cI, 16, .inl fz_3)), (hM, .inl (cI, 768, .inl (vwF (ahF fs) fg kd fx fy fv rq rsm))), (hF, .inl (cI, 64, .inl fw_4)), (sc, .inl (cI, 768, .inl fs)), (r0, .inr (2, [.ref rK, .ref rX, .ref rY, .ref rC, .ref rV, .ref rR, .ref rU, .ref rG, .ref rW, .int rnum, .int rq, .int rer, .int rky, .int rsm])), (rK, .inl (cI, 12, .inl (fun k => nI (kd k)))), (rX, .inl (cI, 12, .inl fx)), (rY, .inl (cI, 12, .inl fy)), (rV, .inl (cI, 768, .inl fv)), (rG, .inl (cZ, 3, .inl fg)), (rR, .inl (cI, 768, .inl fl))] H := hP
  have hw : True := hw
  have hwr_2 := hw
  refine lv_aload_n hx hb dX5_driftNext_26 rfl (lv_at hl 1 rfl) ?_
  refine va_get (D := (dC, dI)) (ci := 5) (v := .ref v0) (C := RX5) (T := TX5) (N := 14) hx hb hts hinX5 hown hK hP 0 rfl rfl 4 (by decide) (hts (.fieldLink RX5 36 "GreyReel" "viewer" "LGreyReel$Viewer;") (List.mem_of_getElem? (i := 1) (by decide +kernel))) (fun _ h9 => h9) rfl dX5_driftNext_27 ?_
  refine va_get (D := (dC, dI)) (ci := 4) (v := .ref h0) (C := RX4) (T := TX4) (N := 3) hx hb hts hinX4 hown hK hP 2 rfl rfl 0 (by decide) (hts (.fieldLink RX5 242 "GreyReel$Viewer" "studio" "LGreyReel$Studio;") (List.mem_of_getElem? (i := 3) (by decide +kernel))) (fun _ h9 => h9) rfl dX5_driftNext_30 ?_
  refine va_get (D := (dC, dI)) (ci := 3) (v := .ref hM) (C := RX3) (T := TX3) (N := 4) hx hb hts hinX3 hown hK hP 3 rfl rfl 2 (by decide) (hts (.fieldLink RX5 246 "GreyReel$Studio" "made" "[I") (List.mem_of_getElem? (i := 4) (by decide +kernel))) (fun _ h9 => h9) rfl dX5_driftNext_33 ?_
  refine lv_aload_n hx hb dX5_driftNext_36 rfl (lv_at hl 0 rfl) ?_
  refine va_get (D := (dC, dI)) (ci := 2) (v := .ref rR) (C := RX2) (T := TX2) (N := 14) hx hb hts hinX2 hown hK hP 9 rfl rfl 5 (by decide) (hts (.fieldLink RX5 186 "GreyReel$Picture" "result" "[I") (List.mem_of_getElem? (i := 5) (by decide +kernel))) (fun _ h9 => h9) rfl dX5_driftNext_37 ?_
  refine vp_callSi (va_Run.run (va_runS (As := [.ref hM, .ref rR]) (rest := []) ⟨hx, hb, hml, hown, hts⟩ (C_X5_distance l dC dI cI cZ cP N0 tO hM rR (vwF (ahF fs) fg kd fx fy fv rq rsm) fl ) (va_cwS 2 hts gX5_driftNext_X5_distance rfl rfl rfl (by decide +kernel) ⟨Nat.le_of_ble_eq_true rfl, Nat.le_of_ble_eq_true rfl⟩) ⟨Gv.blind, Gv.of (hE.S hS hAN) (hP.sub [6, 15] rfl)⟩ rfl rfl hl.1 rfl (lv_room (Nat.le_of_ble_eq_true rfl)) dX5_driftNext_40 ⟨Nat.le_of_ble_eq_true rfl, Nat.le_of_ble_eq_true rfl⟩)) (fun r_5 hr_5 => ?_)
  have hr_5 : r_5 = distF (vwF (ahF fs) fg kd fx fy fv rq rsm) fl 768 := hr_5
  exact W.iret (v := r_5) hx hb hr (fun t ht hW => ⟨⟨r_5, (fz_3, fw_4), rfl, (by rw [hr_5]), by show va_P _ _ _ t.heap; rw [ht]; exact hP.sub [4, 5, 6, 7] rfl⟩, hS.F ht⟩) hS.2.2 dX5_driftNext_43
set_option maxHeartbeats 4000000 in
set_option maxRecDepth 100000 in
theorem C_X5_driftNext_e (l : Launch) (dC : Nat → ClassId) (dI : Nat → Nat → Nat) (cI cZ cP : ClassId) (N0 tO : Nat) (g0 gC gR c0 w0 v0 gB p0 cd : Nat) (db st bw ki sg ak : Int32) (fr : Nat → Option Nat) (h0 sc shn : Nat) (hi : cd ≤ shn) (hi2 : shn ≤ 24) : Met l yX5_driftNext wsX5_driftNext ({ frames := 5, cells := 0, slots := 0, locals := 127 } : Room) (Gv (dC, dI) cI cZ cP N0 tO [.ref g0] (fun H => va_P (dC, dI) vwCl [(g0, .inr (5, [.ref gC, .ref gR, .ref c0, .ref w0, .ref v0, .ref gB, .ref p0, .int (nI cd), .int db, .int st, .int bw, .int ki, .int sg, .int ak])), (gR, .inl (cP, 24, .inr (.inr (.inr (.inr fr))))), (v0, .inr (4, [.ref h0, .ref sc, .int (nI shn)]))] H)) (vp_Si (fun r : Int32 => r = -1)) 0 0 (fun _ => False) := by
  refine Met.ofW (cc := cX5_driftNext) (maxL := 2) (ret := (some .int)) (by decide) rfl ?_
  intro p e s m args below meth c s₁ B hml hv
  obtain ⟨rfl, hE, hP⟩ := hv
  have hx := B.exec
  have hb := B.bytes
  have hr := B.returns
  have hts := atoms_spec (ws := wsX5_driftNext) B.pre
  have hown : s.vm.findClass RX5 = some m.cls := findClass_of_methodNamed B.named
  have hlocks := B.notSynchronized
  have hK := hE.1
  have hNS := hE.2.1
  have hP : va_P (dC, dI) vwCl [(g0, .inr (5, [.ref gC, .ref gR, .ref c0, .ref w0, .ref v0, .ref gB, .ref p0, .int (nI cd), .int db, .int st, .int bw, .int ki, .int sg, .int ak])), (gR, .inl (cP, 24, .inr (.inr (.inr (.inr fr))))), (v0, .inr (4, [.ref h0, .ref sc, .int (nI shn)]))] s.heap := hP
  have hinX4 : ∀ w ∈ wsX40, w ∈ wsX5_driftNext := by decide +kernel
  have hinX5 : ∀ w ∈ wsX50, w ∈ wsX5_driftNext := by decide +kernel
  have hl := lv_entry ([.ref g0]) (n := 2) (Nat.le_of_ble_eq_true rfl)
  rw [lg_entry_eq]
  generalize (lg_sl ([.ref g0]) ++ List.replicate (2 - (lg_sl ([.ref g0])).length) Slot.unset).toArray = ls at hl ⊢
  have hl : lv_has ls 2 [(0, .ref g0)] := hl
  refine lv_aload_n hx hb dX5_driftNext_0 rfl (lv_at hl 0 rfl) ?_
  refine lv_aload_n hx hb dX5_driftNext_1 rfl (lv_at hl 0 rfl) ?_
  refine va_get (D := (dC, dI)) (ci := 5) (v := .ref v0) (C := RX5) (T := TX5) (N := 14) hx hb hts hinX5 hown hK hP 0 rfl rfl 4 (by decide) (hts (.fieldLink RX5 36 "GreyReel" "viewer" "LGreyReel$Viewer;") (List.mem_of_getElem? (i := 1) (by decide +kernel))) (fun _ h9 => h9) rfl dX5_driftNext_2 ?_
  refine va_get (D := (dC, dI)) (ci := 4) (v := .int (nI shn)) (C := RX4) (T := TX4) (N := 3) hx hb hts hinX4 hown hK hP 2 rfl rfl 2 (by decide) (hts (.fieldLink RX5 208 "GreyReel$Viewer" "shownPictures" "I") (List.mem_of_getElem? (i := 2) (by decide +kernel))) (fun _ h9 => h9) rfl dX5_driftNext_5 ?_
  refine va_csq (va_Run.run (va_runV (As := [.int (nI shn)]) (rest := []) ⟨hx, hb, hml, hown, hts⟩ (C_X5_pictureOrNull_e l dC dI cI cZ cP N0 tO g0 gC gR c0 w0 v0 gB p0 cd db st bw ki sg ak fr shn hi hi2) (cwV 1 hts gX5_driftNext_X5_pictureOrNull rfl rfl rfl (by decide +kernel) ⟨Nat.le_of_ble_eq_true rfl, Nat.le_of_ble_eq_true rfl⟩) ⟨Gv.blind, va_recv hK hP (ci := 5) (q0 := 0) rfl rfl, Gv.of hE (hP.sub [0, 1] rfl)⟩ rfl rfl hl.1 rfl (lv_room (Nat.le_of_ble_eq_true rfl)) dX5_driftNext_8 ⟨Nat.le_of_ble_eq_true rfl, Nat.le_of_ble_eq_true rfl⟩)) (fun r_1 hr_1 => ?_)
  refine lv_topv (show va_rf r_1 = .null from by rw [hr_1] <;> rfl) ?_
  refine lv_astore_nN (lv' := [(1, .null), (0, .ref g0)]) hx hb dX5_driftNext_11 rfl hl (by decide) rfl (fun ls hl => ?_)
  refine lv_aload_nN hx hb dX5_driftNext_12 rfl (lv_at hl 0 rfl) ?_
  refine lv_ifnonnullN hx hb dX5_driftNext_13 ?_
  refine lv_iconst (v := (-1)) hx hb dX5_driftNext_16 (by decide) ?_
  exact W.iret (v := (-1)) hx hb hr (fun t ht hW => ⟨(-1), rfl, rfl, ht⟩) (fun _ h => by cases h) dX5_driftNext_17
set_option maxHeartbeats 4000000 in
set_option maxRecDepth 100000 in
theorem C_X5_show (l : Launch) (dC : Nat → ClassId) (dI : Nat → Nat → Nat) (cI cZ cP : ClassId) (N0 tO : Nat) (g0 gC gR c0 w0 v0 gB p0 cd : Nat) (db st bw ki sg ak : Int32) (fr : Nat → Option Nat) (h0 hA hQ hM hF : Nat) (sc shn : Nat) (r0 rK rX rY rC rV rR rU rG rW : Nat) (rnum rq rer rky rsm : Int32) (fa fm ff fq fs : Nat → Int32) (kd : Nat → Nat) (fx fy fv fg : Nat → Int32) (hi : shn < cd) (hcd : cd ≤ 24) (hfr : fr shn = some r0) (hvx : ∀ j, j < 12 → vOK (fx j)) (hvy : ∀ j, j < 12 → vOK (fy j)) (hkd : ∀ j, j < 12 → kd j < 5) (hk3 : ∀ j, j < 12 → 3 ≤ kd j → ¬ j % 4 = 0) : Met l yX5_show wsX5_show ({ frames := 5, cells := 0, slots := 0, locals := 127 } : Room) (Gv (dC, dI) cI cZ cP N0 tO [.ref g0] (fun H => va_P (dC, dI) vwCl [(g0, .inr (5, [.ref gC, .ref gR, .ref c0, .ref w0, .ref v0, .ref gB, .ref p0, .int (nI cd), .int db, .int st, .int bw, .int ki, .int sg, .int ak])), (gR, .inl (cP, 24, .inr (.inr (.inr (.inr fr))))), (v0, .inr (4, [.ref h0, .ref sc, .int (nI shn)])), (h0, .inr (3, [.ref hA, .ref hQ, .ref hM, .ref hF])), (hA, .inl (cI, 1140, .inl fa)), (hQ, .inl (cI, 16, .inl fq)), (hM, .inl (cI, 768, .inl fm)), (hF, .inl (cI, 64, .inl ff)), (sc, .inl (cI, 768, .inl fs)), (r0, .inr (2, [.ref rK, .ref rX, .ref rY, .ref rC, .ref rV, .ref rR, .ref rU, .ref rG, .ref rW, .int rnum, .int rq, .int rer, .int rky, .int rsm])), (rK, .inl (cI, 12, .inl (fun k => nI (kd k)))), (rX, .inl (cI, 12, .inl fx)), (rY, .inl (cI, 12, .inl fy)), (rV, .inl (cI, 768, .inl fv)), (rG, .inl (cZ, 3, .inl fg))] H ∧ AD N0 [g0, gR, v0, h0, hA, hQ, hM, hF, sc, r0, rK, rX, rY, rV, rG])) (va_Qi (fun (r : Int32) (u : (Nat → Int32) × (Nat → Int32)) => match u with | (fz, fw) => r = nI (3 - bgN fg 3)) (fun (u : (Nat → Int32) × (Nat → Int32)) (t : State) => match u with | (fz, fw) => va_P (dC, dI) vwCl [(v0, .inr (4, [.ref h0, .ref sc, .int (nI (shn + 1))])), (h0, .inr (3, [.ref hA, .ref hQ, .ref hM, .ref hF])), (hA, .inl (cI, 1140, .inl (ahF fs))), (hQ, .inl (cI, 16, .inl fz)), (hM, .inl (cI, 768, .inl (vwF (ahF fs) fg kd fx fy fv rq rsm))), (hF, .inl (cI, 64, .inl fw)), (sc, .inl (cI, 768, .inl (vwF (ahF fs) fg kd fx fy fv rq rsm)))] t.heap) (inL [v0, h0, hA, hQ, hM, hF, sc])) 0 0 (inL [v0, h0, hA, hQ, hM, hF, sc]) := by
  refine Met.ofW (cc := cX5_show) (maxL := 2) (ret := (some .int)) (by decide) rfl ?_
  intro p e s m args below meth c s₁ B hml hv
  obtain ⟨rfl, hE, hP, hN⟩ := hv
  have hx := B.exec
  have hb := B.bytes
  have hr := B.returns
  have hts := atoms_spec (ws := wsX5_show) B.pre
  have hown : s.vm.findClass RX5 = some m.cls := findClass_of_methodNamed B.named
  have hlocks := B.notSynchronized
  have hK := hE.1
  have hNS := hE.2.1
  have hS : va_S (inL [v0, h0, hA, hQ, hM, hF, sc]) s.heap s.heap [] := va_S.rf
  have hAN : ∀ q : Nat, (inL [v0, h0, hA, hQ, hM, hF, sc]) q → N0 ≤ q := fun q h => hN.in [2, 3, 4, 5, 6, 7, 8] rfl q h
  have hP : va_P (dC, dI) vwCl [(g0, .inr (5, [.ref gC, .ref gR, .ref c0, .ref w0, .ref v0, .ref gB, .ref p0, .int (nI cd), .int db, .int st, .int bw, .int ki, .int sg, .int ak])), (gR, .inl (cP, 24, .inr (.inr (.inr (.inr fr))))), (v0, .inr (4, [.ref h0, .ref sc, .int (nI shn)])), (h0, .inr (3, [.ref hA, .ref hQ, .ref hM, .ref hF])), (hA, .inl (cI, 1140, .inl fa)), (hQ, .inl (cI, 16, .inl fq)), (hM, .inl (cI, 768, .inl fm)), (hF, .inl (cI, 64, .inl ff)), (sc, .inl (cI, 768, .inl fs)), (r0, .inr (2, [.ref rK, .ref rX, .ref rY, .ref rC, .ref rV, .ref rR, .ref rU, .ref rG, .ref rW, .int rnum, .int rq, .int rer, .int rky, .int rsm])), (rK, .inl (cI, 12, .inl (fun k => nI (kd k)))), (rX, .inl (cI, 12, .inl fx)), (rY, .inl (cI, 12, .inl fy)), (rV, .inl (cI, 768, .inl fv)), (rG, .inl (cZ, 3, .inl fg))] s.heap := hP
  have hinX4 : ∀ w ∈ wsX40, w ∈ wsX5_show := by decide +kernel
  have hinX5 : ∀ w ∈ wsX50, w ∈ wsX5_show := by decide +kernel
  have hl := lv_entry ([.ref g0]) (n := 2) (Nat.le_of_ble_eq_true rfl)
  rw [lg_entry_eq]
  generalize (lg_sl ([.ref g0]) ++ List.replicate (2 - (lg_sl ([.ref g0])).length) Slot.unset).toArray = ls at hl ⊢
  have hl : lv_has ls 2 [(0, .ref g0)] := hl
  have hbg := bgN_le fg 3
  refine lv_aload_n hx hb dX5_show_0 rfl (lv_at hl 0 rfl) ?_
  refine lv_aload_n hx hb dX5_show_1 rfl (lv_at hl 0 rfl) ?_
  refine va_get (D := (dC, dI)) (ci := 5) (v := .ref v0) (C := RX5) (T := TX5) (N := 14) hx hb hts hinX5 hown hK hP 0 rfl rfl 4 (by decide) (hts (.fieldLink RX5 36 "GreyReel" "viewer" "LGreyReel$Viewer;") (List.mem_of_getElem? (i := 3) (by decide +kernel))) (fun _ h9 => h9) rfl dX5_show_2 ?_
  refine va_get (D := (dC, dI)) (ci := 4) (v := .int (nI shn)) (C := RX4) (T := TX4) (N := 3) hx hb hts hinX4 hown hK hP 2 rfl rfl 2 (by decide) (hts (.fieldLink RX5 208 "GreyReel$Viewer" "shownPictures" "I") (List.mem_of_getElem? (i := 4) (by decide +kernel))) (fun _ h9 => h9) rfl dX5_show_5 ?_
  refine va_csq (va_Run.run (va_runV (As := [.int (nI shn)]) (rest := []) ⟨hx, hb, hml, hown, hts⟩ (C_X5_pictureOrNull_s l dC dI cI cZ cP N0 tO g0 gC gR c0 w0 v0 gB p0 cd db st bw ki sg ak fr shn r0 hi hcd hfr) (cwV 1 hts gX5_show_X5_pictureOrNull rfl rfl rfl (by decide +kernel) ⟨Nat.le_of_ble_eq_true rfl, Nat.le_of_ble_eq_true rfl⟩) ⟨Gv.blind, va_recv hK hP (ci := 5) (q0 := 0) rfl rfl, Gv.of (hE.S hS hAN) (hP.sub [0, 1] rfl)⟩ rfl rfl hl.1 rfl (lv_room (Nat.le_of_ble_eq_true rfl)) dX5_show_8 ⟨Nat.le_of_ble_eq_true rfl, Nat.le_of_ble_eq_true rfl⟩)) (fun r_1 hr_1 => ?_)
  refine lv_topv (show va_rf r_1 = .ref r0 from by rw [hr_1] <;> rfl) ?_
  refine lv_astore_n (lv' := [(1, .ref r0), (0, .ref g0)]) hx hb dX5_show_11 rfl hl (by decide) rfl (fun ls hl => ?_)
  refine lv_aload_n hx hb dX5_show_12 rfl (lv_at hl 0 rfl) ?_
  refine lv_ifnonnull (tgt := 26) hx hb dX5_show_13 (by decide) ?_
  refine lv_aload_n hx hb dX5_show_26 rfl (lv_at hl 1 rfl) ?_
  refine va_get (D := (dC, dI)) (ci := 5) (v := .ref v0) (C := RX5) (T := TX5) (N := 14) hx hb hts hinX5 hown hK hP 0 rfl rfl 4 (by decide) (hts (.fieldLink RX5 36 "GreyReel" "viewer" "LGreyReel$Viewer;") (List.mem_of_getElem? (i := 3) (by decide +kernel))) (fun _ h9 => h9) rfl dX5_show_27 ?_
  refine lv_aload_n hx hb dX5_show_30 rfl (lv_at hl 0 rfl) ?_
  refine va_callv (va_runV (As := [.ref r0]) (rest := []) ⟨hx, hb, hml, hown, hts⟩ (C_X4_make l dC dI cI cZ cP N0 tO v0 sc h0 hA hQ hM hF r0 rK rX rY rC rV rR rU rG rW rnum rq rer rky rsm shn fa fm ff fq fs kd fx fy fv fg hvx hvy hkd hk3) (cwV 1 hts gX5_show_X4_make rfl rfl rfl (by decide +kernel) ⟨Nat.le_of_ble_eq_true rfl, Nat.le_of_ble_eq_true rfl⟩) ⟨Gv.blind, va_recv hK hP (ci := 4) (q0 := 2) rfl rfl, Gv.of (hE.S hS hAN) ⟨(hP.sub [2, 3, 4, 5, 6, 7, 8, 9, 10, 11, 12, 13, 14] rfl), hN.sub [2, 3, 4, 5, 6, 7, 8, 9, 10, 11, 12, 13, 14] (by decide) rfl⟩⟩ rfl rfl hl.1 rfl (lv_room (Nat.le_of_ble_eq_true rfl)) dX5_show_31 ⟨Nat.le_of_ble_eq_true rfl, Nat.le_of_ble_eq_true rfl⟩) hS (fun q _ h => inL_sub [2, 3, 4, 5] rfl q h) (inL_sub [2, 3, 4, 5] rfl) (fun u t H locs ht hvm hw hB hz1 hk1 hS => ?_)
  obtain ⟨fz_3, fw_4⟩ := u
  rw [ht] at hB
  have hP := va_back (L := [hA, hQ, hM, hF]) hP hN rfl [4, 5, 6, 7] rfl rfl (fun q h1 h2 => hk1 q h1 h2) hB
  clear hB hk1 hz1 hvm ht t
  have hP : va_P (dC, dI) vwCl [(g0, .inr (5, [.ref gC, .ref gR, .ref c0, .ref w0, .ref v0, .ref gB, .ref p0, .int (nI cd), .int db, .int st, .int bw, .int ki, .int sg, .int ak])), (gR, .inl (cP, 24, .inr (.inr (.inr (.inr fr))))), (v0, .inr (4, [.ref h0, .ref sc, .int (nI shn)])), (h0, .inr (3, [.ref hA, .ref hQ, .ref hM, .ref hF])), (hA, .inl (cI, 1140, .inl (ahF fs))), (hQ, .inl (cI, 16, .inl fz_3)), (hM, .inl (cI, 768, .inl (vwF (ahF fs) fg kd fx fy fv rq rsm))), (hF, .inl (cI, 64, .inl fw_4)), (sc, .inl (cI, 768, .inl fs)), (r0, .inr (2, [.ref rK, .ref rX, .ref rY, .ref rC, .ref rV, .ref rR, .ref rU, .ref rG, .ref rW, .int rnum, .int rq, .int rer, .int rky, .int rsm])), (rK, .inl (cI, 12, .inl (fun k => nI (kd k)))), (rX, .inl (cI, 12, .inl fx)), (rY, .inl (cI, 12, .inl fy)), (rV, .inl (cI, 768, .inl fv)), (rG, .inl (cZ, 3, .inl fg))] H := hP
  have hw : True := hw
  have hwr_2 := hw
  refine lv_aload_n hx hb dX5_show_34 rfl (lv_at hl 1 rfl) ?_
  refine va_get (D := (dC, dI)) (ci := 5) (v := .ref v0) (C := RX5) (T := TX5) (N := 14) hx hb hts hinX5 hown hK hP 0 rfl rfl 4 (by decide) (hts (.fieldLink RX5 36 "GreyReel" "viewer" "LGreyReel$Viewer;") (List.mem_of_getElem? (i := 3) (by decide +kernel))) (fun _ h9 => h9) rfl dX5_show_35 ?_
  refine va_callv (va_runV (As := []) (rest := []) ⟨hx, hb, hml, hown, hts⟩ (C_X4_takeMade l dC dI cI cZ cP N0 tO v0 sc h0 hA hQ hM hF shn (vwF (ahF fs) fg kd fx fy fv rq rsm) fs ) (cwV 0 hts gX5_show_X4_takeMade rfl rfl rfl (by decide +kernel) ⟨Nat.le_of_ble_eq_true rfl, Nat.le_of_ble_eq_true rfl⟩) ⟨Gv.blind, va_recv hK hP (ci := 4) (q0 := 2) rfl rfl, Gv.of (hE.S hS hAN) ⟨(hP.sub [2, 3, 6, 8] rfl), hN.sub [2, 3, 6, 8] (by decide) rfl⟩⟩ rfl rfl hl.1 rfl (lv_room (Nat.le_of_ble_eq_true rfl)) dX5_show_38 ⟨Nat.le_of_ble_eq_true rfl, Nat.le_of_ble_eq_true rfl⟩) hS (fun q _ h => inL_sub [0, 1, 4, 6] rfl q h) (inL_sub [0, 1, 4, 6] rfl) (fun u t H locs ht hvm hw hB hz1 hk1 hS => ?_)
  rw [ht] at hB
  have hP := va_back (L := [v0, h0, hM, sc]) hP hN rfl [2, 3, 6, 8] rfl rfl (fun q h1 h2 => hk1 q h1 h2) hB
  clear hB hk1 hz1 hvm ht t
  have hP : va_P (dC, dI) vwCl [(g0, .inr (5, [.ref gC, .ref gR, .ref c0, .ref w0, .ref v0, .ref gB, .ref p0, .int (nI cd), .int db, .int st, .int bw, .int ki, .int sg, .int ak])), (gR, .inl (cP, 24, .inr (.inr (.inr (.inr fr))))), (v0, .inr (4, [.ref h0, .ref sc, .int (nI (shn + 1))])), (h0, .inr (3, [.ref hA, .ref hQ, .ref hM, .ref hF])), (hA, .inl (cI, 1140, .inl (ahF fs))), (hQ, .inl (cI, 16, .inl fz_3)), (hM, .inl (cI, 768, .inl (vwF (ahF fs) fg kd fx fy fv rq rsm))), (hF, .inl (cI, 64, .inl fw_4)), (sc, .inl (cI, 768, .inl (vwF (ahF fs) fg kd fx fy fv rq rsm))), (r0, .inr (2, [.ref rK, .ref rX, .ref rY, .ref rC, .ref rV, .ref rR, .ref rU, .ref rG, .ref rW, .int rnum, .int rq, .int rer, .int rky, .int rsm])), (rK, .inl (cI, 12, .inl (fun k => nI (kd k)))), (rX, .inl (cI, 12, .inl fx)), (rY, .inl (cI, 12, .inl fy)), (rV, .inl (cI, 768, .inl fv)), (rG, .inl (cZ, 3, .inl fg))] H := hP
  have hw : True := hw
  have hwr_5 := hw
  refine lv_iconst (v := 3) hx hb dX5_show_41 (by decide) ?_
  refine lv_aload_n hx hb dX5_show_42 rfl (lv_at hl 0 rfl) ?_
  refine vp_callSi (va_Run.run (va_runV (As := []) (rest := [.int 3]) ⟨hx, hb, hml, hown, hts⟩ (C_X2_bandsGot l dC dI cI cZ cP N0 tO r0 rK rX rY rC rV rR rU rG rW rnum rq rer rky rsm fg ) (cwV 0 hts gX5_show_X2_bandsGot rfl rfl rfl (by decide +kernel) ⟨Nat.le_of_ble_eq_true rfl, Nat.le_of_ble_eq_true rfl⟩) ⟨Gv.blind, va_recv hK hP (ci := 2) (q0 := 9) rfl rfl, Gv.of (hE.S hS hAN) (hP.sub [9, 14] rfl)⟩ rfl rfl hl.1 rfl (lv_room (Nat.le_of_ble_eq_true rfl)) dX5_show_43 ⟨Nat.le_of_ble_eq_true rfl, Nat.le_of_ble_eq_true rfl⟩)) (fun r_6 hr_6 => ?_)
  have hr_6 : r_6 = nI (bgN fg 3) := hr_6
  refine lv_topr hr_6 ?_
  refine lv_isub hx hb dX5_show_46 ?_
  refine lv_topr (show _ = nI (3 - (bgN fg 3)) from pk_sub (a := 3) (b := (bgN fg 3)) (by omega)) ?_
  exact W.iret (v := nI (3 - (bgN fg 3))) hx hb hr (fun t ht hW => ⟨⟨nI (3 - (bgN fg 3)), (fz_3, fw_4), rfl, rfl, by show va_P _ _ _ t.heap; rw [ht]; exact hP.sub [2, 3, 4, 5, 6, 7, 8] rfl⟩, hS.F ht⟩) hS.2.2 dX5_show_47
set_option maxHeartbeats 8000000 in
set_option maxRecDepth 100000 in
theorem C_X5_draftNext_0 (l : Launch) (dC : Nat → ClassId) (dI : Nat → Nat → Nat) (cI cZ cP : ClassId) (N0 tO : Nat) (g0 gC gR c0 w0 v0 gB p0 cd : Nat) (db st bw ki sg ak : Int32) (fr : Nat → Option Nat) (h0 hA hQ hM hF : Nat) (pK pX pY pC pV pR pU pG pW : Nat) (num q er ky sm : Int32) (S : BST) (X : CST) (fc fa ff fq fp : Nat → Int32) (x : Int32) (h0c : cd = 0) (hcd : cd ≤ 24) (hc : rng fc 768) (hxq : qOK x) (hX : csOK X) (hS0 : stOK S) (hsg : sg = 0 ∨ sg = 1) : Met l yX5_draftNext wsX5_draftNext ({ frames := 6, cells := 0, slots := 0, locals := 171 } : Room) (Gv (dC, dI) cI cZ cP N0 tO [.ref g0, .int x] (fun H => va_P (dC, dI) vwCl [(g0, .inr (5, [.ref gC, .ref gR, .ref c0, .ref w0, .ref v0, .ref gB, .ref p0, .int (nI cd), .int db, .int st, .int bw, .int ki, .int sg, .int ak])), (gR, .inl (cP, 24, .inr (.inr (.inr (.inr fr))))), (gC, .inl (cI, 768, .inl fc)), (c0, .inr (0, [.ref h0, .int (nI S.1), .int S.2.1, .int S.2.2.1, .int S.2.2.2])), (h0, .inr (3, [.ref hA, .ref hQ, .ref hM, .ref hF])), (hA, .inl (cI, 1140, .inl fa)), (hQ, .inl (cI, 16, .inl fq)), (hM, .inl (cI, 768, .inl X.1)), (hF, .inl (cI, 64, .inl ff)), (p0, .inr (2, [.ref pK, .ref pX, .ref pY, .ref pC, .ref pV, .ref pR, .ref pU, .ref pG, .ref pW, .int num, .int q, .int er, .int ky, .int sm])), (pK, .inl (cI, 12, .inl (fun k => nI (X.2.1 k)))), (pX, .inl (cI, 12, .inl X.2.2.1)), (pY, .inl (cI, 12, .inl X.2.2.2.1)), (pC, .inl (cI, 12, .inl X.2.2.2.2.1)), (pV, .inl (cI, 768, .inl X.2.2.2.2.2)), (pR, .inl (cI, 768, .inl fp))] H ∧ AD N0 [g0, gR, gC, c0, h0, hA, hQ, hM, hF, p0, pK, pX, pY, pC, pV, pR])) (va_Qv (fun (u : (Nat → Int32) × (Nat → Int32) × BST) => match u with | (fz, fw, S1) => stOK S1) (fun (u : (Nat → Int32) × (Nat → Int32) × BST) (t : State) => match u with | (fz, fw, S1) => va_P (dC, dI) vwCl [(c0, .inr (0, [.ref h0, .int (nI S1.1), .int S1.2.1, .int S1.2.2.1, .int S1.2.2.2])), (hA, .inl (cI, 1140, .inl fa)), (hQ, .inl (cI, 16, .inl fz)), (hM, .inl (cI, 768, .inl (mdF fc fa x 1 sg))), (hF, .inl (cI, 64, .inl fw)), (p0, .inr (2, [.ref pK, .ref pX, .ref pY, .ref pC, .ref pV, .ref pR, .ref pU, .ref pG, .ref pW, .int (nI cd), .int x, .int (erF fc (mdF fc fa x 1 sg) 768), .int 1, .int sg])), (pK, .inl (cI, 12, .inl (fun k => nI ((csC fc fa x 1).2.1 k)))), (pX, .inl (cI, 12, .inl ((csC fc fa x 1).2.2.1))), (pY, .inl (cI, 12, .inl ((csC fc fa x 1).2.2.2.1))), (pC, .inl (cI, 12, .inl ((csC fc fa x 1).2.2.2.2.1))), (pV, .inl (cI, 768, .inl ((csC fc fa x 1).2.2.2.2.2))), (pR, .inl (cI, 768, .inl (mdF fc fa x 1 sg)))] t.heap) (inL [c0, hA, hQ, hM, hF, p0, pK, pX, pY, pC, pV, pR])) 0 0 (inL [c0, hA, hQ, hM, hF, p0, pK, pX, pY, pC, pV, pR]) := by
  refine Met.ofW (cc := cX5_draftNext) (maxL := 3) (ret := none) (by decide) rfl ?_
  intro p e s m args below meth c s₁ B hml hv
  obtain ⟨rfl, hE, hP, hN⟩ := hv
  have hx := B.exec
  have hb := B.bytes
  have hr := B.returns
  have hts := atoms_spec (ws := wsX5_draftNext) B.pre
  have hown : s.vm.findClass RX5 = some m.cls := findClass_of_methodNamed B.named
  have hlocks := B.notSynchronized
  have hK := hE.1
  have hNS := hE.2.1
  have hS : va_S (inL [c0, hA, hQ, hM, hF, p0, pK, pX, pY, pC, pV, pR]) s.heap s.heap [] := va_S.rf
  have hAN : ∀ q : Nat, (inL [c0, hA, hQ, hM, hF, p0, pK, pX, pY, pC, pV, pR]) q → N0 ≤ q := fun q h => hN.in [3, 5, 6, 7, 8, 9, 10, 11, 12, 13, 14, 15] rfl q h
  have hP : va_P (dC, dI) vwCl [(g0, .inr (5, [.ref gC, .ref gR, .ref c0, .ref w0, .ref v0, .ref gB, .ref p0, .int (nI cd), .int db, .int st, .int bw, .int ki, .int sg, .int ak])), (gR, .inl (cP, 24, .inr (.inr (.inr (.inr fr))))), (gC, .inl (cI, 768, .inl fc)), (c0, .inr (0, [.ref h0, .int (nI S.1), .int S.2.1, .int S.2.2.1, .int S.2.2.2])), (h0, .inr (3, [.ref hA, .ref hQ, .ref hM, .ref hF])), (hA, .inl (cI, 1140, .inl fa)), (hQ, .inl (cI, 16, .inl fq)), (hM, .inl (cI, 768, .inl X.1)), (hF, .inl (cI, 64, .inl ff)), (p0, .inr (2, [.ref pK, .ref pX, .ref pY, .ref pC, .ref pV, .ref pR, .ref pU, .ref pG, .ref pW, .int num, .int q, .int er, .int ky, .int sm])), (pK, .inl (cI, 12, .inl (fun k => nI (X.2.1 k)))), (pX, .inl (cI, 12, .inl X.2.2.1)), (pY, .inl (cI, 12, .inl X.2.2.2.1)), (pC, .inl (cI, 12, .inl X.2.2.2.2.1)), (pV, .inl (cI, 768, .inl X.2.2.2.2.2)), (pR, .inl (cI, 768, .inl fp))] s.heap := hP
  have hinX0 : ∀ w ∈ wsX00, w ∈ wsX5_draftNext := by decide +kernel
  have hinX2 : ∀ w ∈ wsX20, w ∈ wsX5_draftNext := by decide +kernel
  have hinX5 : ∀ w ∈ wsX50, w ∈ wsX5_draftNext := by decide +kernel
  have hl := lv_entry ([.ref g0, .int x]) (n := 3) (Nat.le_of_ble_eq_true rfl)
  rw [lg_entry_eq]
  generalize (lg_sl ([.ref g0, .int x]) ++ List.replicate (3 - (lg_sl ([.ref g0, .int x])).length) Slot.unset).toArray = ls at hl ⊢
  have hl : lv_has ls 3 [(0, .ref g0), (1, .int x)] := hl
  refine lv_aload_n hx hb dX5_draftNext_0 rfl (lv_at hl 0 rfl) ?_
  refine lv_aload_n hx hb dX5_draftNext_1 rfl (lv_at hl 0 rfl) ?_
  refine va_get (D := (dC, dI)) (ci := 5) (v := .int (nI cd)) (C := RX5) (T := TX5) (N := 14) hx hb hts hinX5 hown hK hP 0 rfl rfl 7 (by decide) (hts (.fieldLink RX5 48 "GreyReel" "coded" "I") (List.mem_of_getElem? (i := 1) (by decide +kernel))) (fun _ h9 => h9) rfl dX5_draftNext_2 ?_
  refine lv_iconst (v := 1) hx hb dX5_draftNext_5 (by decide) ?_
  refine lv_isub hx hb dX5_draftNext_6 ?_
  refine va_csq (va_Run.run (va_runV (As := [.int ((nI cd) - 1)]) (rest := []) ⟨hx, hb, hml, hown, hts⟩ (C_X5_pictureOrNull_m l dC dI cI cZ cP N0 tO g0 gC gR c0 w0 v0 gB p0 cd db st bw ki sg ak fr ((nI cd) - 1) (by rw [h0c]; decide)) (cwV 1 hts gX5_draftNext_X5_pictureOrNull rfl rfl rfl (by decide +kernel) ⟨Nat.le_of_ble_eq_true rfl, Nat.le_of_ble_eq_true rfl⟩) ⟨Gv.blind, va_recv hK hP (ci := 5) (q0 := 0) rfl rfl, Gv.of (hE.S hS hAN) (hP.sub [0, 1] rfl)⟩ rfl rfl hl.1 rfl (lv_room (Nat.le_of_ble_eq_true rfl)) dX5_draftNext_7 ⟨Nat.le_of_ble_eq_true rfl, Nat.le_of_ble_eq_true rfl⟩)) (fun r_1 hr_1 => ?_)
  refine lv_topv (show va_rf r_1 = .null from by rw [hr_1] <;> rfl) ?_
  refine lv_astore_nN (lv' := [(2, .null), (0, .ref g0), (1, .int x)]) hx hb dX5_draftNext_10 rfl hl (by decide) rfl (fun ls hl => ?_)
  refine lv_aload_nN hx hb dX5_draftNext_11 rfl (lv_at hl 0 rfl) ?_
  refine lv_ifnullN (tgt := 29) hx hb dX5_draftNext_12 (by decide) ?_
  refine lv_aload_n hx hb dX5_draftNext_29 rfl (lv_at hl 1 rfl) ?_
  refine va_get (D := (dC, dI)) (ci := 5) (v := .ref p0) (C := RX5) (T := TX5) (N := 14) hx hb hts hinX5 hown hK hP 0 rfl rfl 6 (by decide) (hts (.fieldLink RX5 44 "GreyReel" "draft" "LGreyReel$Picture;") (List.mem_of_getElem? (i := 5) (by decide +kernel))) (fun _ h9 => h9) rfl dX5_draftNext_30 ?_
  refine lv_aload_n hx hb dX5_draftNext_33 rfl (lv_at hl 1 rfl) ?_
  refine va_get (D := (dC, dI)) (ci := 5) (v := .int (nI cd)) (C := RX5) (T := TX5) (N := 14) hx hb hts hinX5 hown hK hP 0 rfl rfl 7 (by decide) (hts (.fieldLink RX5 48 "GreyReel" "coded" "I") (List.mem_of_getElem? (i := 1) (by decide +kernel))) (fun _ h9 => h9) rfl dX5_draftNext_34 ?_
  refine wa_put (D := (dC, dI)) (ci := 2) (v := .int (nI cd)) (ty := .int) (C := RX2) (T := TX2) (N := 14) hx hb hts hinX2 tyX2 tyX2_ok nmX2 hown hK hP (hN.D rfl) hS (List.mem_of_getElem? (i := 5) rfl) 9 rfl rfl 9 (by decide) (hts (.fieldLink RX5 286 "GreyReel$Picture" "number" "I") (List.mem_of_getElem? (i := 6) (by decide +kernel))) (fun _ h9 => h9) rfl (by decide +kernel) rfl rfl (Nat.le_of_ble_eq_true rfl) dX5_draftNext_37 (fun H locs hP hS => ?_)
  have hP : va_P (dC, dI) vwCl [(g0, .inr (5, [.ref gC, .ref gR, .ref c0, .ref w0, .ref v0, .ref gB, .ref p0, .int (nI cd), .int db, .int st, .int bw, .int ki, .int sg, .int ak])), (gR, .inl (cP, 24, .inr (.inr (.inr (.inr fr))))), (gC, .inl (cI, 768, .inl fc)), (c0, .inr (0, [.ref h0, .int (nI S.1), .int S.2.1, .int S.2.2.1, .int S.2.2.2])), (h0, .inr (3, [.ref hA, .ref hQ, .ref hM, .ref hF])), (hA, .inl (cI, 1140, .inl fa)), (hQ, .inl (cI, 16, .inl fq)), (hM, .inl (cI, 768, .inl X.1)), (hF, .inl (cI, 64, .inl ff)), (p0, .inr (2, [.ref pK, .ref pX, .ref pY, .ref pC, .ref pV, .ref pR, .ref pU, .ref pG, .ref pW, .int (nI cd), .int q, .int er, .int ky, .int sm])), (pK, .inl (cI, 12, .inl (fun k => nI (X.2.1 k)))), (pX, .inl (cI, 12, .inl X.2.2.1)), (pY, .inl (cI, 12, .inl X.2.2.2.1)), (pC, .inl (cI, 12, .inl X.2.2.2.2.1)), (pV, .inl (cI, 768, .inl X.2.2.2.2.2)), (pR, .inl (cI, 768, .inl fp))] H := hP
  refine lv_aload_n hx hb dX5_draftNext_40 rfl (lv_at hl 1 rfl) ?_
  refine va_get (D := (dC, dI)) (ci := 5) (v := .ref p0) (C := RX5) (T := TX5) (N := 14) hx hb hts hinX5 hown hK hP 0 rfl rfl 6 (by decide) (hts (.fieldLink RX5 44 "GreyReel" "draft" "LGreyReel$Picture;") (List.mem_of_getElem? (i := 5) (by decide +kernel))) (fun _ h9 => h9) rfl dX5_draftNext_41 ?_
  refine lv_iload_n hx hb dX5_draftNext_44 rfl (lv_at hl 2 rfl) ?_
  refine wa_put (D := (dC, dI)) (ci := 2) (v := .int x) (ty := .int) (C := RX2) (T := TX2) (N := 14) hx hb hts hinX2 tyX2 tyX2_ok nmX2 hown hK hP (hN.D rfl) hS (List.mem_of_getElem? (i := 5) rfl) 9 rfl rfl 10 (by decide) (hts (.fieldLink RX5 165 "GreyReel$Picture" "q" "I") (List.mem_of_getElem? (i := 7) (by decide +kernel))) (fun _ h9 => h9) rfl (by decide +kernel) rfl rfl (Nat.le_of_ble_eq_true rfl) dX5_draftNext_45 (fun H locs hP hS => ?_)
  have hP : va_P (dC, dI) vwCl [(g0, .inr (5, [.ref gC, .ref gR, .ref c0, .ref w0, .ref v0, .ref gB, .ref p0, .int (nI cd), .int db, .int st, .int bw, .int ki, .int sg, .int ak])), (gR, .inl (cP, 24, .inr (.inr (.inr (.inr fr))))), (gC, .inl (cI, 768, .inl fc)), (c0, .inr (0, [.ref h0, .int (nI S.1), .int S.2.1, .int S.2.2.1, .int S.2.2.2])), (h0, .inr (3, [.ref hA, .ref hQ, .ref hM, .ref hF])), (hA, .inl (cI, 1140, .inl fa)), (hQ, .inl (cI, 16, .inl fq)), (hM, .inl (cI, 768, .inl X.1)), (hF, .inl (cI, 64, .inl ff)), (p0, .inr (2, [.ref pK, .ref pX, .ref pY, .ref pC, .ref pV, .ref pR, .ref pU, .ref pG, .ref pW, .int (nI cd), .int x, .int er, .int ky, .int sm])), (pK, .inl (cI, 12, .inl (fun k => nI (X.2.1 k)))), (pX, .inl (cI, 12, .inl X.2.2.1)), (pY, .inl (cI, 12, .inl X.2.2.2.1)), (pC, .inl (cI, 12, .inl X.2.2.2.2.1)), (pV, .inl (cI, 768, .inl X.2.2.2.2.2)), (pR, .inl (cI, 768, .inl fp))] H := hP
  refine lv_aload_n hx hb dX5_draftNext_48 rfl (lv_at hl 1 rfl) ?_
  refine va_get (D := (dC, dI)) (ci := 5) (v := .ref p0) (C := RX5) (T := TX5) (N := 14) hx hb hts hinX5 hown hK hP 0 rfl rfl 6 (by decide) (hts (.fieldLink RX5 44 "GreyReel" "draft" "LGreyReel$Picture;") (List.mem_of_getElem? (i := 5) (by decide +kernel))) (fun _ h9 => h9) rfl dX5_draftNext_49 ?_
  refine lv_aload_n hx hb dX5_draftNext_52 rfl (lv_at hl 1 rfl) ?_
  refine va_get (D := (dC, dI)) (ci := 5) (v := .int sg) (C := RX5) (T := TX5) (N := 14) hx hb hts hinX5 hown hK hP 0 rfl rfl 12 (by decide) (hts (.fieldLink RX5 64 "GreyReel" "isSmoothing" "Z") (List.mem_of_getElem? (i := 8) (by decide +kernel))) (fun _ h9 => h9) rfl dX5_draftNext_53 ?_
  refine wa_put (D := (dC, dI)) (ci := 2) (v := .int sg) (ty := .boolean) (C := RX2) (T := TX2) (N := 14) hx hb hts hinX2 tyX2 tyX2_ok nmX2 hown hK hP (hN.D rfl) hS (List.mem_of_getElem? (i := 5) rfl) 9 rfl rfl 13 (by decide) (hts (.fieldLink RX5 289 "GreyReel$Picture" "isSmoothed" "Z") (List.mem_of_getElem? (i := 9) (by decide +kernel))) (fun _ h9 => h9) rfl (by decide +kernel) (nar01 hsg) (fit01 hsg) (Nat.le_of_ble_eq_true rfl) dX5_draftNext_56 (fun H locs hP hS => ?_)
  have hP : va_P (dC, dI) vwCl [(g0, .inr (5, [.ref gC, .ref gR, .ref c0, .ref w0, .ref v0, .ref gB, .ref p0, .int (nI cd), .int db, .int st, .int bw, .int ki, .int sg, .int ak])), (gR, .inl (cP, 24, .inr (.inr (.inr (.inr fr))))), (gC, .inl (cI, 768, .inl fc)), (c0, .inr (0, [.ref h0, .int (nI S.1), .int S.2.1, .int S.2.2.1, .int S.2.2.2])), (h0, .inr (3, [.ref hA, .ref hQ, .ref hM, .ref hF])), (hA, .inl (cI, 1140, .inl fa)), (hQ, .inl (cI, 16, .inl fq)), (hM, .inl (cI, 768, .inl X.1)), (hF, .inl (cI, 64, .inl ff)), (p0, .inr (2, [.ref pK, .ref pX, .ref pY, .ref pC, .ref pV, .ref pR, .ref pU, .ref pG, .ref pW, .int (nI cd), .int x, .int er, .int ky, .int sg])), (pK, .inl (cI, 12, .inl (fun k => nI (X.2.1 k)))), (pX, .inl (cI, 12, .inl X.2.2.1)), (pY, .inl (cI, 12, .inl X.2.2.2.1)), (pC, .inl (cI, 12, .inl X.2.2.2.2.1)), (pV, .inl (cI, 768, .inl X.2.2.2.2.2)), (pR, .inl (cI, 768, .inl fp))] H := hP
  refine lv_aload_n hx hb dX5_draftNext_59 rfl (lv_at hl 1 rfl) ?_
  refine va_get (D := (dC, dI)) (ci := 5) (v := .ref p0) (C := RX5) (T := TX5) (N := 14) hx hb hts hinX5 hown hK hP 0 rfl rfl 6 (by decide) (hts (.fieldLink RX5 44 "GreyReel" "draft" "LGreyReel$Picture;") (List.mem_of_getElem? (i := 5) (by decide +kernel))) (fun _ h9 => h9) rfl dX5_draftNext_60 ?_
  refine lv_aload_nN hx hb dX5_draftNext_63 rfl (lv_at hl 0 rfl) ?_
  refine lv_ifnullN (tgt := 74) hx hb dX5_draftNext_64 (by decide) ?_
  refine lv_iconst (v := 1) hx hb dX5_draftNext_74 (by decide) ?_
  refine lv_goto (tgt := 79) hx hb dX5_draftNext_75 (by decide) ?_
  refine wa_put (D := (dC, dI)) (ci := 2) (v := .int 1) (ty := .boolean) (C := RX2) (T := TX2) (N := 14) hx hb hts hinX2 tyX2 tyX2_ok nmX2 hown hK hP (hN.D rfl) hS (List.mem_of_getElem? (i := 5) rfl) 9 rfl rfl 12 (by decide) (hts (.fieldLink RX5 155 "GreyReel$Picture" "isKeyPicture" "Z") (List.mem_of_getElem? (i := 10) (by decide +kernel))) (fun _ h9 => h9) rfl (by decide +kernel) (by decide +kernel) rfl (Nat.le_of_ble_eq_true rfl) dX5_draftNext_79 (fun H locs hP hS => ?_)
  have hP : va_P (dC, dI) vwCl [(g0, .inr (5, [.ref gC, .ref gR, .ref c0, .ref w0, .ref v0, .ref gB, .ref p0, .int (nI cd), .int db, .int st, .int bw, .int ki, .int sg, .int ak])), (gR, .inl (cP, 24, .inr (.inr (.inr (.inr fr))))), (gC, .inl (cI, 768, .inl fc)), (c0, .inr (0, [.ref h0, .int (nI S.1), .int S.2.1, .int S.2.2.1, .int S.2.2.2])), (h0, .inr (3, [.ref hA, .ref hQ, .ref hM, .ref hF])), (hA, .inl (cI, 1140, .inl fa)), (hQ, .inl (cI, 16, .inl fq)), (hM, .inl (cI, 768, .inl X.1)), (hF, .inl (cI, 64, .inl ff)), (p0, .inr (2, [.ref pK, .ref pX, .ref pY, .ref pC, .ref pV, .ref pR, .ref pU, .ref pG, .ref pW, .int (nI cd), .int x, .int er, .int 1, .int sg])), (pK, .inl (cI, 12, .inl (fun k => nI (X.2.1 k)))), (pX, .inl (cI, 12, .inl X.2.2.1)), (pY, .inl (cI, 12, .inl X.2.2.2.1)), (pC, .inl (cI, 12, .inl X.2.2.2.2.1)), (pV, .inl (cI, 768, .inl X.2.2.2.2.2)), (pR, .inl (cI, 768, .inl fp))] H := hP
  refine lv_aload_n hx hb dX5_draftNext_82 rfl (lv_at hl 1 rfl) ?_
  refine va_get (D := (dC, dI)) (ci := 5) (v := .ref c0) (C := RX5) (T := TX5) (N := 14) hx hb hts hinX5 hown hK hP 0 rfl rfl 2 (by decide) (hts (.fieldLink RX5 22 "GreyReel" "coder" "LGreyReel$Coder;") (List.mem_of_getElem? (i := 2) (by decide +kernel))) (fun _ h9 => h9) rfl dX5_draftNext_83 ?_
  refine lv_aload_n hx hb dX5_draftNext_86 rfl (lv_at hl 1 rfl) ?_
  refine va_get (D := (dC, dI)) (ci := 5) (v := .ref p0) (C := RX5) (T := TX5) (N := 14) hx hb hts hinX5 hown hK hP 0 rfl rfl 6 (by decide) (hts (.fieldLink RX5 44 "GreyReel" "draft" "LGreyReel$Picture;") (List.mem_of_getElem? (i := 5) (by decide +kernel))) (fun _ h9 => h9) rfl dX5_draftNext_87 ?_
  refine lv_aload_n hx hb dX5_draftNext_90 rfl (lv_at hl 1 rfl) ?_
  refine va_get (D := (dC, dI)) (ci := 5) (v := .ref gC) (C := RX5) (T := TX5) (N := 14) hx hb hts hinX5 hown hK hP 0 rfl rfl 0 (by decide) (hts (.fieldLink RX5 9 "GreyReel" "canvas" "[I") (List.mem_of_getElem? (i := 11) (by decide +kernel))) (fun _ h9 => h9) rfl dX5_draftNext_91 ?_
  refine va_callv (va_runV (As := [.ref p0, .ref gC]) (rest := []) ⟨hx, hb, hml, hown, hts⟩ (C_X0_codeAll l dC dI cI cZ cP N0 tO c0 h0 hA hQ hM hF p0 pK pX pY pC pV pR pU pG pW (nI cd) x er 1 sg gC S X fc fa ff fq fp hc (fun h => absurd h (by decide)) hxq hX hS0) (cwV 2 hts gX5_draftNext_X0_codeAll rfl rfl rfl (by decide +kernel) ⟨Nat.le_of_ble_eq_true rfl, Nat.le_of_ble_eq_true rfl⟩) ⟨Gv.blind, va_recv hK hP (ci := 0) (q0 := 3) rfl rfl, Gv.of (hE.S hS hAN) ⟨(hP.sub [3, 4, 5, 6, 7, 8, 9, 10, 11, 12, 13, 14, 15, 2] rfl), hN.sub [3, 4, 5, 6, 7, 8, 9, 10, 11, 12, 13, 14, 15, 2] (by decide) rfl⟩⟩ rfl rfl hl.1 rfl (lv_room (Nat.le_of_ble_eq_true rfl)) dX5_draftNext_94 ⟨Nat.le_of_ble_eq_true rfl, Nat.le_of_ble_eq_true rfl⟩) hS (fun q _ h => inL_sub [0, 2, 3, 4, 5, 6, 7, 8, 9, 10, 11] rfl q h) (inL_sub [0, 2, 3, 4, 5, 6, 7, 8, 9, 10, 11] rfl) (fun u t H locs ht hvm hw hB hz1 hk1 hS => ?_)
  obtain ⟨fz_3, fg_4, S1_5⟩ := u
  rw [ht] at hB
  have hP := va_back (L := [c0, hQ, hM, hF, p0, pK, pX, pY, pC, pV, pR]) hP hN rfl [3, 6, 7, 8, 9, 10, 11, 12, 13, 14, 15] rfl rfl (fun q h1 h2 => hk1 q h1 h2) hB
  clear hB hk1 hz1 hvm ht t
  have hP : va_P (dC, dI) vwCl [(g0, .inr (5, [.ref gC, .ref gR, .ref c0, .ref w0, .ref v0, .ref gB, .ref p0, .int (nI cd), .int db, .int st, .int bw, .int ki, .int sg, .int ak])), (gR, .inl (cP, 24, .inr (.inr (.inr (.inr fr))))), (gC, .inl (cI, 768, .inl fc)), (c0, .inr (0, [.ref h0, .int (nI S1_5.1), .int S1_5.2.1, .int S1_5.2.2.1, .int S1_5.2.2.2])), (h0, .inr (3, [.ref hA, .ref hQ, .ref hM, .ref hF])), (hA, .inl (cI, 1140, .inl fa)), (hQ, .inl (cI, 16, .inl fz_3)), (hM, .inl (cI, 768, .inl (mdF fc fa x 1 sg))), (hF, .inl (cI, 64, .inl fg_4)), (p0, .inr (2, [.ref pK, .ref pX, .ref pY, .ref pC, .ref pV, .ref pR, .ref pU, .ref pG, .ref pW, .int (nI cd), .int x, .int (erF fc (mdF fc fa x 1 sg) 768), .int 1, .int sg])), (pK, .inl (cI, 12, .inl (fun k => nI ((csC fc fa x 1).2.1 k)))), (pX, .inl (cI, 12, .inl ((csC fc fa x 1).2.2.1))), (pY, .inl (cI, 12, .inl ((csC fc fa x 1).2.2.2.1))), (pC, .inl (cI, 12, .inl ((csC fc fa x 1).2.2.2.2.1))), (pV, .inl (cI, 768, .inl ((csC fc fa x 1).2.2.2.2.2))), (pR, .inl (cI, 768, .inl (mdF fc fa x 1 sg)))] H := hP
  have hw : stOK S1_5 := hw
  have hwr_2 := hw
  have hs1 := hwr_2
  refine lv_aload_n hx hb dX5_draftNext_97 rfl (lv_at hl 1 rfl) ?_
  refine va_get (D := (dC, dI)) (ci := 5) (v := .ref p0) (C := RX5) (T := TX5) (N := 14) hx hb hts hinX5 hown hK hP 0 rfl rfl 6 (by decide) (hts (.fieldLink RX5 44 "GreyReel" "draft" "LGreyReel$Picture;") (List.mem_of_getElem? (i := 5) (by decide +kernel))) (fun _ h9 => h9) rfl dX5_draftNext_98 ?_
  refine va_get (D := (dC, dI)) (ci := 2) (v := .int 1) (C := RX2) (T := TX2) (N := 14) hx hb hts hinX2 hown hK hP 9 rfl rfl 12 (by decide) (hts (.fieldLink RX5 155 "GreyReel$Picture" "isKeyPicture" "Z") (List.mem_of_getElem? (i := 10) (by decide +kernel))) (fun _ h9 => h9) rfl dX5_draftNext_101 ?_
  refine lv_if_ne (tgt := 142) hx hb dX5_draftNext_104 (by decide) (fun c104 => ?_) (fun c104 => ?_)
  · skip
    exact W.vret hx hb hr (fun t ht hW => ⟨⟨(fz_3, fg_4, S1_5), rfl, hs1, by show va_P _ _ _ t.heap; rw [ht]; exact hP.sub [3, 5, 6, 7, 8, 9, 10, 11, 12, 13, 14, 15] rfl⟩, hS.F ht⟩) hS.2.2 dX5_draftNext_142
  · skip
    exact False.elim (absurd c104 (by decide))
set_option maxHeartbeats 8000000 in
set_option maxRecDepth 100000 in
theorem C_X5_draftNext_1 (l : Launch) (dC : Nat → ClassId) (dI : Nat → Nat → Nat) (cI cZ cP : ClassId) (N0 tO : Nat) (g0 gC gR c0 w0 v0 gB p0 cd : Nat) (db st bw ki sg ak : Int32) (fr : Nat → Option Nat) (h0 hA hQ hM hF : Nat) (pK pX pY pC pV pR pU pG pW : Nat) (num q er ky sm : Int32) (S : BST) (X : CST) (fc fa ff fq fp : Nat → Int32) (x : Int32) (r0 rK rX rY rC rV rR rU rG rW : Nat) (rnum rq rer rky rsm : Int32) (fl : Nat → Int32) (h1c : 1 ≤ cd) (hcd : cd ≤ 24) (hc : rng fc 768) (hxq : qOK x) (hX : csOK X) (hS0 : stOK S) (hsg : sg = 0 ∨ sg = 1) (hfr : fr (cd - 1) = some r0) (hfl : rng fl 768) : Met l yX5_draftNext wsX5_draftNext ({ frames := 6, cells := 0, slots := 0, locals := 171 } : Room) (Gv (dC, dI) cI cZ cP N0 tO [.ref g0, .int x] (fun H => va_P (dC, dI) vwCl [(g0, .inr (5, [.ref gC, .ref gR, .ref c0, .ref w0, .ref v0, .ref gB, .ref p0, .int (nI cd), .int db, .int st, .int bw, .int ki, .int sg, .int ak])), (gR, .inl (cP, 24, .inr (.inr (.inr (.inr fr))))), (gC, .inl (cI, 768, .inl fc)), (c0, .inr (0, [.ref h0, .int (nI S.1), .int S.2.1, .int S.2.2.1, .int S.2.2.2])), (h0, .inr (3, [.ref hA, .ref hQ, .ref hM, .ref hF])), (hA, .inl (cI, 1140, .inl fa)), (hQ, .inl (cI, 16, .inl fq)), (hM, .inl (cI, 768, .inl X.1)), (hF, .inl (cI, 64, .inl ff)), (p0, .inr (2, [.ref pK, .ref pX, .ref pY, .ref pC, .ref pV, .ref pR, .ref pU, .ref pG, .ref pW, .int num, .int q, .int er, .int ky, .int sm])), (pK, .inl (cI, 12, .inl (fun k => nI (X.2.1 k)))), (pX, .inl (cI, 12, .inl X.2.2.1)), (pY, .inl (cI, 12, .inl X.2.2.2.1)), (pC, .inl (cI, 12, .inl X.2.2.2.2.1)), (pV, .inl (cI, 768, .inl X.2.2.2.2.2)), (pR, .inl (cI, 768, .inl fp)), (r0, .inr (2, [.ref rK, .ref rX, .ref rY, .ref rC, .ref rV, .ref rR, .ref rU, .ref rG, .ref rW, .int rnum, .int rq, .int rer, .int rky, .int rsm])), (rR, .inl (cI, 768, .inl fl))] H ∧ AD N0 [g0, gR, gC, c0, h0, hA, hQ, hM, hF, p0, pK, pX, pY, pC, pV, pR, r0, rR])) (va_Qv (fun (u : (Nat → Int32) × (Nat → Int32) × BST × Int32) => match u with | (fz, fw, S1, k9) => k9 = kyF fc (ahF fl) x (kdI cd ak db ki) ∧ stOK S1) (fun (u : (Nat → Int32) × (Nat → Int32) × BST × Int32) (t : State) => match u with | (fz, fw, S1, k9) => va_P (dC, dI) vwCl [(c0, .inr (0, [.ref h0, .int (nI S1.1), .int S1.2.1, .int S1.2.2.1, .int S1.2.2.2])), (hA, .inl (cI, 1140, .inl (ahF fl))), (hQ, .inl (cI, 16, .inl fz)), (hM, .inl (cI, 768, .inl (mdF fc (ahF fl) x k9 sg))), (hF, .inl (cI, 64, .inl fw)), (p0, .inr (2, [.ref pK, .ref pX, .ref pY, .ref pC, .ref pV, .ref pR, .ref pU, .ref pG, .ref pW, .int (nI cd), .int x, .int (erF fc (mdF fc (ahF fl) x k9 sg) 768), .int k9, .int sg])), (pK, .inl (cI, 12, .inl (fun k => nI ((csC fc (ahF fl) x k9).2.1 k)))), (pX, .inl (cI, 12, .inl ((csC fc (ahF fl) x k9).2.2.1))), (pY, .inl (cI, 12, .inl ((csC fc (ahF fl) x k9).2.2.2.1))), (pC, .inl (cI, 12, .inl ((csC fc (ahF fl) x k9).2.2.2.2.1))), (pV, .inl (cI, 768, .inl ((csC fc (ahF fl) x k9).2.2.2.2.2))), (pR, .inl (cI, 768, .inl (mdF fc (ahF fl) x k9 sg)))] t.heap) (inL [c0, hA, hQ, hM, hF, p0, pK, pX, pY, pC, pV, pR])) 0 0 (inL [c0, hA, hQ, hM, hF, p0, pK, pX, pY, pC, pV, pR]) := by
  refine Met.ofW (cc := cX5_draftNext) (maxL := 3) (ret := none) (by decide) rfl ?_
  intro p e s m args below meth c s₁ B hml hv
  obtain ⟨rfl, hE, hP, hN⟩ := hv
  have hx := B.exec
  have hb := B.bytes
  have hr := B.returns
  have hts := atoms_spec (ws := wsX5_draftNext) B.pre
  have hown : s.vm.findClass RX5 = some m.cls := findClass_of_methodNamed B.named
  have hlocks := B.notSynchronized
  have hK := hE.1
  have hNS := hE.2.1
  have hS : va_S (inL [c0, hA, hQ, hM, hF, p0, pK, pX, pY, pC, pV, pR]) s.heap s.heap [] := va_S.rf
  have hAN : ∀ q : Nat, (inL [c0, hA, hQ, hM, hF, p0, pK, pX, pY, pC, pV, pR]) q → N0 ≤ q := fun q h => hN.in [3, 5, 6, 7, 8, 9, 10, 11, 12, 13, 14, 15] rfl q h
  have hP : va_P (dC, dI) vwCl [(g0, .inr (5, [.ref gC, .ref gR, .ref c0, .ref w0, .ref v0, .ref gB, .ref p0, .int (nI cd), .int db, .int st, .int bw, .int ki, .int sg, .int ak])), (gR, .inl (cP, 24, .inr (.inr (.inr (.inr fr))))), (gC, .inl (cI, 768, .inl fc)), (c0, .inr (0, [.ref h0, .int (nI S.1), .int S.2.1, .int S.2.2.1, .int S.2.2.2])), (h0, .inr (3, [.ref hA, .ref hQ, .ref hM, .ref hF])), (hA, .inl (cI, 1140, .inl fa)), (hQ, .inl (cI, 16, .inl fq)), (hM, .inl (cI, 768, .inl X.1)), (hF, .inl (cI, 64, .inl ff)), (p0, .inr (2, [.ref pK, .ref pX, .ref pY, .ref pC, .ref pV, .ref pR, .ref pU, .ref pG, .ref pW, .int num, .int q, .int er, .int ky, .int sm])), (pK, .inl (cI, 12, .inl (fun k => nI (X.2.1 k)))), (pX, .inl (cI, 12, .inl X.2.2.1)), (pY, .inl (cI, 12, .inl X.2.2.2.1)), (pC, .inl (cI, 12, .inl X.2.2.2.2.1)), (pV, .inl (cI, 768, .inl X.2.2.2.2.2)), (pR, .inl (cI, 768, .inl fp)), (r0, .inr (2, [.ref rK, .ref rX, .ref rY, .ref rC, .ref rV, .ref rR, .ref rU, .ref rG, .ref rW, .int rnum, .int rq, .int rer, .int rky, .int rsm])), (rR, .inl (cI, 768, .inl fl))] s.heap := hP
  have hinX0 : ∀ w ∈ wsX00, w ∈ wsX5_draftNext := by decide +kernel
  have hinX2 : ∀ w ∈ wsX20, w ∈ wsX5_draftNext := by decide +kernel
  have hinX5 : ∀ w ∈ wsX50, w ∈ wsX5_draftNext := by decide +kernel
  have hl := lv_entry ([.ref g0, .int x]) (n := 3) (Nat.le_of_ble_eq_true rfl)
  rw [lg_entry_eq]
  generalize (lg_sl ([.ref g0, .int x]) ++ List.replicate (3 - (lg_sl ([.ref g0, .int x])).length) Slot.unset).toArray = ls at hl ⊢
  have hl : lv_has ls 3 [(0, .ref g0), (1, .int x)] := hl
  refine lv_aload_n hx hb dX5_draftNext_0 rfl (lv_at hl 0 rfl) ?_
  refine lv_aload_n hx hb dX5_draftNext_1 rfl (lv_at hl 0 rfl) ?_
  refine va_get (D := (dC, dI)) (ci := 5) (v := .int (nI cd)) (C := RX5) (T := TX5) (N := 14) hx hb hts hinX5 hown hK hP 0 rfl rfl 7 (by decide) (hts (.fieldLink RX5 48 "GreyReel" "coded" "I") (List.mem_of_getElem? (i := 1) (by decide +kernel))) (fun _ h9 => h9) rfl dX5_draftNext_2 ?_
  refine lv_iconst (v := 1) hx hb dX5_draftNext_5 (by decide) ?_
  refine lv_isub hx hb dX5_draftNext_6 ?_
  refine lv_topr (show _ = nI (cd - 1) from pk_sub (a := cd) (b := 1) (by omega)) ?_
  refine va_csq (va_Run.run (va_runV (As := [.int (nI (cd - 1))]) (rest := []) ⟨hx, hb, hml, hown, hts⟩ (C_X5_pictureOrNull_s l dC dI cI cZ cP N0 tO g0 gC gR c0 w0 v0 gB p0 cd db st bw ki sg ak fr (cd - 1) r0 (by omega) hcd hfr) (cwV 1 hts gX5_draftNext_X5_pictureOrNull rfl rfl rfl (by decide +kernel) ⟨Nat.le_of_ble_eq_true rfl, Nat.le_of_ble_eq_true rfl⟩) ⟨Gv.blind, va_recv hK hP (ci := 5) (q0 := 0) rfl rfl, Gv.of (hE.S hS hAN) (hP.sub [0, 1] rfl)⟩ rfl rfl hl.1 rfl (lv_room (Nat.le_of_ble_eq_true rfl)) dX5_draftNext_7 ⟨Nat.le_of_ble_eq_true rfl, Nat.le_of_ble_eq_true rfl⟩)) (fun r_1 hr_1 => ?_)
  refine lv_topv (show va_rf r_1 = .ref r0 from by rw [hr_1] <;> rfl) ?_
  refine lv_astore_n (lv' := [(2, .ref r0), (0, .ref g0), (1, .int x)]) hx hb dX5_draftNext_10 rfl hl (by decide) rfl (fun ls hl => ?_)
  refine lv_aload_n hx hb dX5_draftNext_11 rfl (lv_at hl 0 rfl) ?_
  refine lv_ifnull hx hb dX5_draftNext_12 ?_
  refine lv_aload_n hx hb dX5_draftNext_15 rfl (lv_at hl 1 rfl) ?_
  refine va_get (D := (dC, dI)) (ci := 5) (v := .ref c0) (C := RX5) (T := TX5) (N := 14) hx hb hts hinX5 hown hK hP 0 rfl rfl 2 (by decide) (hts (.fieldLink RX5 22 "GreyReel" "coder" "LGreyReel$Coder;") (List.mem_of_getElem? (i := 2) (by decide +kernel))) (fun _ h9 => h9) rfl dX5_draftNext_16 ?_
  refine va_get (D := (dC, dI)) (ci := 0) (v := .ref h0) (C := RX0) (T := TX0) (N := 5) hx hb hts hinX0 hown hK hP 3 rfl rfl 0 (by decide) (hts (.fieldLink RX5 281 "GreyReel$Coder" "studio" "LGreyReel$Studio;") (List.mem_of_getElem? (i := 3) (by decide +kernel))) (fun _ h9 => h9) rfl dX5_draftNext_19 ?_
  refine lv_aload_n hx hb dX5_draftNext_22 rfl (lv_at hl 0 rfl) ?_
  refine va_get (D := (dC, dI)) (ci := 2) (v := .ref rR) (C := RX2) (T := TX2) (N := 14) hx hb hts hinX2 hown hK hP 16 rfl rfl 5 (by decide) (hts (.fieldLink RX5 186 "GreyReel$Picture" "result" "[I") (List.mem_of_getElem? (i := 4) (by decide +kernel))) (fun _ h9 => h9) rfl dX5_draftNext_23 ?_
  refine va_callv (va_runV (As := [.ref rR]) (rest := []) ⟨hx, hb, hml, hown, hts⟩ (C_X3_lookAhead l dC dI cI cZ cP N0 tO h0 hA hQ hM hF rR fa fl ) (cwV 1 hts gX5_draftNext_X3_lookAhead rfl rfl rfl (by decide +kernel) ⟨Nat.le_of_ble_eq_true rfl, Nat.le_of_ble_eq_true rfl⟩) ⟨Gv.blind, va_recv hK hP (ci := 3) (q0 := 4) rfl rfl, Gv.of (hE.S hS hAN) ⟨(hP.sub [4, 5, 17] rfl), hN.sub [4, 5, 17] (by decide) rfl⟩⟩ rfl rfl hl.1 rfl (lv_room (Nat.le_of_ble_eq_true rfl)) dX5_draftNext_26 ⟨Nat.le_of_ble_eq_true rfl, Nat.le_of_ble_eq_true rfl⟩) hS (fun q _ h => inL_sub [1] rfl q h) (inL_sub [1] rfl) (fun u t H locs ht hvm hw hB hz1 hk1 hS => ?_)
  rw [ht] at hB
  have hP := va_back (L := [hA]) hP hN rfl [5] rfl rfl (fun q h1 h2 => hk1 q h1 h2) hB
  clear hB hk1 hz1 hvm ht t
  have hP : va_P (dC, dI) vwCl [(g0, .inr (5, [.ref gC, .ref gR, .ref c0, .ref w0, .ref v0, .ref gB, .ref p0, .int (nI cd), .int db, .int st, .int bw, .int ki, .int sg, .int ak])), (gR, .inl (cP, 24, .inr (.inr (.inr (.inr fr))))), (gC, .inl (cI, 768, .inl fc)), (c0, .inr (0, [.ref h0, .int (nI S.1), .int S.2.1, .int S.2.2.1, .int S.2.2.2])), (h0, .inr (3, [.ref hA, .ref hQ, .ref hM, .ref hF])), (hA, .inl (cI, 1140, .inl (ahF fl))), (hQ, .inl (cI, 16, .inl fq)), (hM, .inl (cI, 768, .inl X.1)), (hF, .inl (cI, 64, .inl ff)), (p0, .inr (2, [.ref pK, .ref pX, .ref pY, .ref pC, .ref pV, .ref pR, .ref pU, .ref pG, .ref pW, .int num, .int q, .int er, .int ky, .int sm])), (pK, .inl (cI, 12, .inl (fun k => nI (X.2.1 k)))), (pX, .inl (cI, 12, .inl X.2.2.1)), (pY, .inl (cI, 12, .inl X.2.2.2.1)), (pC, .inl (cI, 12, .inl X.2.2.2.2.1)), (pV, .inl (cI, 768, .inl X.2.2.2.2.2)), (pR, .inl (cI, 768, .inl fp)), (r0, .inr (2, [.ref rK, .ref rX, .ref rY, .ref rC, .ref rV, .ref rR, .ref rU, .ref rG, .ref rW, .int rnum, .int rq, .int rer, .int rky, .int rsm])), (rR, .inl (cI, 768, .inl fl))] H := hP
  have hw : True := hw
  have hwr_2 := hw
  refine lv_aload_n hx hb dX5_draftNext_29 rfl (lv_at hl 1 rfl) ?_
  refine va_get (D := (dC, dI)) (ci := 5) (v := .ref p0) (C := RX5) (T := TX5) (N := 14) hx hb hts hinX5 hown hK hP 0 rfl rfl 6 (by decide) (hts (.fieldLink RX5 44 "GreyReel" "draft" "LGreyReel$Picture;") (List.mem_of_getElem? (i := 5) (by decide +kernel))) (fun _ h9 => h9) rfl dX5_draftNext_30 ?_
  refine lv_aload_n hx hb dX5_draftNext_33 rfl (lv_at hl 1 rfl) ?_
  refine va_get (D := (dC, dI)) (ci := 5) (v := .int (nI cd)) (C := RX5) (T := TX5) (N := 14) hx hb hts hinX5 hown hK hP 0 rfl rfl 7 (by decide) (hts (.fieldLink RX5 48 "GreyReel" "coded" "I") (List.mem_of_getElem? (i := 1) (by decide +kernel))) (fun _ h9 => h9) rfl dX5_draftNext_34 ?_
  refine wa_put (D := (dC, dI)) (ci := 2) (v := .int (nI cd)) (ty := .int) (C := RX2) (T := TX2) (N := 14) hx hb hts hinX2 tyX2 tyX2_ok nmX2 hown hK hP (hN.D rfl) hS (List.mem_of_getElem? (i := 5) rfl) 9 rfl rfl 9 (by decide) (hts (.fieldLink RX5 286 "GreyReel$Picture" "number" "I") (List.mem_of_getElem? (i := 6) (by decide +kernel))) (fun _ h9 => h9) rfl (by decide +kernel) rfl rfl (Nat.le_of_ble_eq_true rfl) dX5_draftNext_37 (fun H locs hP hS => ?_)
  have hP : va_P (dC, dI) vwCl [(g0, .inr (5, [.ref gC, .ref gR, .ref c0, .ref w0, .ref v0, .ref gB, .ref p0, .int (nI cd), .int db, .int st, .int bw, .int ki, .int sg, .int ak])), (gR, .inl (cP, 24, .inr (.inr (.inr (.inr fr))))), (gC, .inl (cI, 768, .inl fc)), (c0, .inr (0, [.ref h0, .int (nI S.1), .int S.2.1, .int S.2.2.1, .int S.2.2.2])), (h0, .inr (3, [.ref hA, .ref hQ, .ref hM, .ref hF])), (hA, .inl (cI, 1140, .inl (ahF fl))), (hQ, .inl (cI, 16, .inl fq)), (hM, .inl (cI, 768, .inl X.1)), (hF, .inl (cI, 64, .inl ff)), (p0, .inr (2, [.ref pK, .ref pX, .ref pY, .ref pC, .ref pV, .ref pR, .ref pU, .ref pG, .ref pW, .int (nI cd), .int q, .int er, .int ky, .int sm])), (pK, .inl (cI, 12, .inl (fun k => nI (X.2.1 k)))), (pX, .inl (cI, 12, .inl X.2.2.1)), (pY, .inl (cI, 12, .inl X.2.2.2.1)), (pC, .inl (cI, 12, .inl X.2.2.2.2.1)), (pV, .inl (cI, 768, .inl X.2.2.2.2.2)), (pR, .inl (cI, 768, .inl fp)), (r0, .inr (2, [.ref rK, .ref rX, .ref rY, .ref rC, .ref rV, .ref rR, .ref rU, .ref rG, .ref rW, .int rnum, .int rq, .int rer, .int rky, .int rsm])), (rR, .inl (cI, 768, .inl fl))] H := hP
  refine lv_aload_n hx hb dX5_draftNext_40 rfl (lv_at hl 1 rfl) ?_
  refine va_get (D := (dC, dI)) (ci := 5) (v := .ref p0) (C := RX5) (T := TX5) (N := 14) hx hb hts hinX5 hown hK hP 0 rfl rfl 6 (by decide) (hts (.fieldLink RX5 44 "GreyReel" "draft" "LGreyReel$Picture;") (List.mem_of_getElem? (i := 5) (by decide +kernel))) (fun _ h9 => h9) rfl dX5_draftNext_41 ?_
  refine lv_iload_n hx hb dX5_draftNext_44 rfl (lv_at hl 2 rfl) ?_
  refine wa_put (D := (dC, dI)) (ci := 2) (v := .int x) (ty := .int) (C := RX2) (T := TX2) (N := 14) hx hb hts hinX2 tyX2 tyX2_ok nmX2 hown hK hP (hN.D rfl) hS (List.mem_of_getElem? (i := 5) rfl) 9 rfl rfl 10 (by decide) (hts (.fieldLink RX5 165 "GreyReel$Picture" "q" "I") (List.mem_of_getElem? (i := 7) (by decide +kernel))) (fun _ h9 => h9) rfl (by decide +kernel) rfl rfl (Nat.le_of_ble_eq_true rfl) dX5_draftNext_45 (fun H locs hP hS => ?_)
  have hP : va_P (dC, dI) vwCl [(g0, .inr (5, [.ref gC, .ref gR, .ref c0, .ref w0, .ref v0, .ref gB, .ref p0, .int (nI cd), .int db, .int st, .int bw, .int ki, .int sg, .int ak])), (gR, .inl (cP, 24, .inr (.inr (.inr (.inr fr))))), (gC, .inl (cI, 768, .inl fc)), (c0, .inr (0, [.ref h0, .int (nI S.1), .int S.2.1, .int S.2.2.1, .int S.2.2.2])), (h0, .inr (3, [.ref hA, .ref hQ, .ref hM, .ref hF])), (hA, .inl (cI, 1140, .inl (ahF fl))), (hQ, .inl (cI, 16, .inl fq)), (hM, .inl (cI, 768, .inl X.1)), (hF, .inl (cI, 64, .inl ff)), (p0, .inr (2, [.ref pK, .ref pX, .ref pY, .ref pC, .ref pV, .ref pR, .ref pU, .ref pG, .ref pW, .int (nI cd), .int x, .int er, .int ky, .int sm])), (pK, .inl (cI, 12, .inl (fun k => nI (X.2.1 k)))), (pX, .inl (cI, 12, .inl X.2.2.1)), (pY, .inl (cI, 12, .inl X.2.2.2.1)), (pC, .inl (cI, 12, .inl X.2.2.2.2.1)), (pV, .inl (cI, 768, .inl X.2.2.2.2.2)), (pR, .inl (cI, 768, .inl fp)), (r0, .inr (2, [.ref rK, .ref rX, .ref rY, .ref rC, .ref rV, .ref rR, .ref rU, .ref rG, .ref rW, .int rnum, .int rq, .int rer, .int rky, .int rsm])), (rR, .inl (cI, 768, .inl fl))] H := hP
  refine lv_aload_n hx hb dX5_draftNext_48 rfl (lv_at hl 1 rfl) ?_
  refine va_get (D := (dC, dI)) (ci := 5) (v := .ref p0) (C := RX5) (T := TX5) (N := 14) hx hb hts hinX5 hown hK hP 0 rfl rfl 6 (by decide) (hts (.fieldLink RX5 44 "GreyReel" "draft" "LGreyReel$Picture;") (List.mem_of_getElem? (i := 5) (by decide +kernel))) (fun _ h9 => h9) rfl dX5_draftNext_49 ?_
  refine lv_aload_n hx hb dX5_draftNext_52 rfl (lv_at hl 1 rfl) ?_
  refine va_get (D := (dC, dI)) (ci := 5) (v := .int sg) (C := RX5) (T := TX5) (N := 14) hx hb hts hinX5 hown hK hP 0 rfl rfl 12 (by decide) (hts (.fieldLink RX5 64 "GreyReel" "isSmoothing" "Z") (List.mem_of_getElem? (i := 8) (by decide +kernel))) (fun _ h9 => h9) rfl dX5_draftNext_53 ?_
  refine wa_put (D := (dC, dI)) (ci := 2) (v := .int sg) (ty := .boolean) (C := RX2) (T := TX2) (N := 14) hx hb hts hinX2 tyX2 tyX2_ok nmX2 hown hK hP (hN.D rfl) hS (List.mem_of_getElem? (i := 5) rfl) 9 rfl rfl 13 (by decide) (hts (.fieldLink RX5 289 "GreyReel$Picture" "isSmoothed" "Z") (List.mem_of_getElem? (i := 9) (by decide +kernel))) (fun _ h9 => h9) rfl (by decide +kernel) (nar01 hsg) (fit01 hsg) (Nat.le_of_ble_eq_true rfl) dX5_draftNext_56 (fun H locs hP hS => ?_)
  have hP : va_P (dC, dI) vwCl [(g0, .inr (5, [.ref gC, .ref gR, .ref c0, .ref w0, .ref v0, .ref gB, .ref p0, .int (nI cd), .int db, .int st, .int bw, .int ki, .int sg, .int ak])), (gR, .inl (cP, 24, .inr (.inr (.inr (.inr fr))))), (gC, .inl (cI, 768, .inl fc)), (c0, .inr (0, [.ref h0, .int (nI S.1), .int S.2.1, .int S.2.2.1, .int S.2.2.2])), (h0, .inr (3, [.ref hA, .ref hQ, .ref hM, .ref hF])), (hA, .inl (cI, 1140, .inl (ahF fl))), (hQ, .inl (cI, 16, .inl fq)), (hM, .inl (cI, 768, .inl X.1)), (hF, .inl (cI, 64, .inl ff)), (p0, .inr (2, [.ref pK, .ref pX, .ref pY, .ref pC, .ref pV, .ref pR, .ref pU, .ref pG, .ref pW, .int (nI cd), .int x, .int er, .int ky, .int sg])), (pK, .inl (cI, 12, .inl (fun k => nI (X.2.1 k)))), (pX, .inl (cI, 12, .inl X.2.2.1)), (pY, .inl (cI, 12, .inl X.2.2.2.1)), (pC, .inl (cI, 12, .inl X.2.2.2.2.1)), (pV, .inl (cI, 768, .inl X.2.2.2.2.2)), (pR, .inl (cI, 768, .inl fp)), (r0, .inr (2, [.ref rK, .ref rX, .ref rY, .ref rC, .ref rV, .ref rR, .ref rU, .ref rG, .ref rW, .int rnum, .int rq, .int rer, .int rky, .int rsm])), (rR, .inl (cI, 768, .inl fl))] H := hP
  refine lv_aload_n hx hb dX5_draftNext_59 rfl (lv_at hl 1 rfl) ?_
  refine va_get (D := (dC, dI)) (ci := 5) (v := .ref p0) (C := RX5) (T := TX5) (N := 14) hx hb hts hinX5 hown hK hP 0 rfl rfl 6 (by decide) (hts (.fieldLink RX5 44 "GreyReel" "draft" "LGreyReel$Picture;") (List.mem_of_getElem? (i := 5) (by decide +kernel))) (fun _ h9 => h9) rfl dX5_draftNext_60 ?_
  refine lv_aload_n hx hb dX5_draftNext_63 rfl (lv_at hl 0 rfl) ?_
  refine lv_ifnull hx hb dX5_draftNext_64 ?_
  refine lv_aload_n hx hb dX5_draftNext_67 rfl (lv_at hl 1 rfl) ?_
  refine vp_callSi (va_Run.run (va_runV (As := []) (rest := [.ref p0]) ⟨hx, hb, hml, hown, hts⟩ (C_X5_isKeyDue l dC dI cI cZ cP N0 tO g0 gC gR c0 w0 v0 gB p0 cd db st bw ki sg ak hcd) (cwV 0 hts gX5_draftNext_X5_isKeyDue rfl rfl rfl (by decide +kernel) ⟨Nat.le_of_ble_eq_true rfl, Nat.le_of_ble_eq_true rfl⟩) ⟨Gv.blind, va_recv hK hP (ci := 5) (q0 := 0) rfl rfl, Gv.of (hE.S hS hAN) (hP.sub [0] rfl)⟩ rfl rfl hl.1 rfl (lv_room (Nat.le_of_ble_eq_true rfl)) dX5_draftNext_68 ⟨Nat.le_of_ble_eq_true rfl, Nat.le_of_ble_eq_true rfl⟩)) (fun r_3 hr_3 => ?_)
  have hr_3 : r_3 = kdI cd ak db ki := hr_3
  have hkd0 := hr_3
  refine lv_if_eq (tgt := 78) hx hb dX5_draftNext_71 (by decide) (fun c71 => ?_) (fun c71 => ?_)
  · skip
    refine lv_iconst (v := 0) hx hb dX5_draftNext_78 (by decide) ?_
    refine wa_put (D := (dC, dI)) (ci := 2) (v := .int 0) (ty := .boolean) (C := RX2) (T := TX2) (N := 14) hx hb hts hinX2 tyX2 tyX2_ok nmX2 hown hK hP (hN.D rfl) hS (List.mem_of_getElem? (i := 5) rfl) 9 rfl rfl 12 (by decide) (hts (.fieldLink RX5 155 "GreyReel$Picture" "isKeyPicture" "Z") (List.mem_of_getElem? (i := 10) (by decide +kernel))) (fun _ h9 => h9) rfl (by decide +kernel) (by decide +kernel) rfl (Nat.le_of_ble_eq_true rfl) dX5_draftNext_79 (fun H locs hP hS => ?_)
    have hP : va_P (dC, dI) vwCl [(g0, .inr (5, [.ref gC, .ref gR, .ref c0, .ref w0, .ref v0, .ref gB, .ref p0, .int (nI cd), .int db, .int st, .int bw, .int ki, .int sg, .int ak])), (gR, .inl (cP, 24, .inr (.inr (.inr (.inr fr))))), (gC, .inl (cI, 768, .inl fc)), (c0, .inr (0, [.ref h0, .int (nI S.1), .int S.2.1, .int S.2.2.1, .int S.2.2.2])), (h0, .inr (3, [.ref hA, .ref hQ, .ref hM, .ref hF])), (hA, .inl (cI, 1140, .inl (ahF fl))), (hQ, .inl (cI, 16, .inl fq)), (hM, .inl (cI, 768, .inl X.1)), (hF, .inl (cI, 64, .inl ff)), (p0, .inr (2, [.ref pK, .ref pX, .ref pY, .ref pC, .ref pV, .ref pR, .ref pU, .ref pG, .ref pW, .int (nI cd), .int x, .int er, .int 0, .int sg])), (pK, .inl (cI, 12, .inl (fun k => nI (X.2.1 k)))), (pX, .inl (cI, 12, .inl X.2.2.1)), (pY, .inl (cI, 12, .inl X.2.2.2.1)), (pC, .inl (cI, 12, .inl X.2.2.2.2.1)), (pV, .inl (cI, 768, .inl X.2.2.2.2.2)), (pR, .inl (cI, 768, .inl fp)), (r0, .inr (2, [.ref rK, .ref rX, .ref rY, .ref rC, .ref rV, .ref rR, .ref rU, .ref rG, .ref rW, .int rnum, .int rq, .int rer, .int rky, .int rsm])), (rR, .inl (cI, 768, .inl fl))] H := hP
    refine lv_aload_n hx hb dX5_draftNext_82 rfl (lv_at hl 1 rfl) ?_
    refine va_get (D := (dC, dI)) (ci := 5) (v := .ref c0) (C := RX5) (T := TX5) (N := 14) hx hb hts hinX5 hown hK hP 0 rfl rfl 2 (by decide) (hts (.fieldLink RX5 22 "GreyReel" "coder" "LGreyReel$Coder;") (List.mem_of_getElem? (i := 2) (by decide +kernel))) (fun _ h9 => h9) rfl dX5_draftNext_83 ?_
    refine lv_aload_n hx hb dX5_draftNext_86 rfl (lv_at hl 1 rfl) ?_
    refine va_get (D := (dC, dI)) (ci := 5) (v := .ref p0) (C := RX5) (T := TX5) (N := 14) hx hb hts hinX5 hown hK hP 0 rfl rfl 6 (by decide) (hts (.fieldLink RX5 44 "GreyReel" "draft" "LGreyReel$Picture;") (List.mem_of_getElem? (i := 5) (by decide +kernel))) (fun _ h9 => h9) rfl dX5_draftNext_87 ?_
    refine lv_aload_n hx hb dX5_draftNext_90 rfl (lv_at hl 1 rfl) ?_
    refine va_get (D := (dC, dI)) (ci := 5) (v := .ref gC) (C := RX5) (T := TX5) (N := 14) hx hb hts hinX5 hown hK hP 0 rfl rfl 0 (by decide) (hts (.fieldLink RX5 9 "GreyReel" "canvas" "[I") (List.mem_of_getElem? (i := 11) (by decide +kernel))) (fun _ h9 => h9) rfl dX5_draftNext_91 ?_
    refine va_callv (va_runV (As := [.ref p0, .ref gC]) (rest := []) ⟨hx, hb, hml, hown, hts⟩ (C_X0_codeAll l dC dI cI cZ cP N0 tO c0 h0 hA hQ hM hF p0 pK pX pY pC pV pR pU pG pW (nI cd) x er 0 sg gC S X fc (ahF fl) ff fq fp hc (fun _ => ahF_rng hfl) hxq hX hS0) (cwV 2 hts gX5_draftNext_X0_codeAll rfl rfl rfl (by decide +kernel) ⟨Nat.le_of_ble_eq_true rfl, Nat.le_of_ble_eq_true rfl⟩) ⟨Gv.blind, va_recv hK hP (ci := 0) (q0 := 3) rfl rfl, Gv.of (hE.S hS hAN) ⟨(hP.sub [3, 4, 5, 6, 7, 8, 9, 10, 11, 12, 13, 14, 15, 2] rfl), hN.sub [3, 4, 5, 6, 7, 8, 9, 10, 11, 12, 13, 14, 15, 2] (by decide) rfl⟩⟩ rfl rfl hl.1 rfl (lv_room (Nat.le_of_ble_eq_true rfl)) dX5_draftNext_94 ⟨Nat.le_of_ble_eq_true rfl, Nat.le_of_ble_eq_true rfl⟩) hS (fun q _ h => inL_sub [0, 2, 3, 4, 5, 6, 7, 8, 9, 10, 11] rfl q h) (inL_sub [0, 2, 3, 4, 5, 6, 7, 8, 9, 10, 11] rfl) (fun u t H locs ht hvm hw hB hz1 hk1 hS => ?_)
    obtain ⟨fz_5, fg_6, S1_7⟩ := u
    rw [ht] at hB
    have hP := va_back (L := [c0, hQ, hM, hF, p0, pK, pX, pY, pC, pV, pR]) hP hN rfl [3, 6, 7, 8, 9, 10, 11, 12, 13, 14, 15] rfl rfl (fun q h1 h2 => hk1 q h1 h2) hB
    clear hB hk1 hz1 hvm ht t
    have hP : va_P (dC, dI) vwCl [(g0, .inr (5, [.ref gC, .ref gR, .ref c0, .ref w0, .ref v0, .ref gB, .ref p0, .int (nI cd), .int db, .int st, .int bw, .int ki, .int sg, .int ak])), (gR, .inl (cP, 24, .inr (.inr (.inr (.inr fr))))), (gC, .inl (cI, 768, .inl fc)), (c0, .inr (0, [.ref h0, .int (nI S1_7.1), .int S1_7.2.1, .int S1_7.2.2.1, .int S1_7.2.2.2])), (h0, .inr (3, [.ref hA, .ref hQ, .ref hM, .ref hF])), (hA, .inl (cI, 1140, .inl (ahF fl))), (hQ, .inl (cI, 16, .inl fz_5)), (hM, .inl (cI, 768, .inl (mdF fc (ahF fl) x 0 sg))), (hF, .inl (cI, 64, .inl fg_6)), (p0, .inr (2, [.ref pK, .ref pX, .ref pY, .ref pC, .ref pV, .ref pR, .ref pU, .ref pG, .ref pW, .int (nI cd), .int x, .int (erF fc (mdF fc (ahF fl) x 0 sg) 768), .int 0, .int sg])), (pK, .inl (cI, 12, .inl (fun k => nI ((csC fc (ahF fl) x 0).2.1 k)))), (pX, .inl (cI, 12, .inl ((csC fc (ahF fl) x 0).2.2.1))), (pY, .inl (cI, 12, .inl ((csC fc (ahF fl) x 0).2.2.2.1))), (pC, .inl (cI, 12, .inl ((csC fc (ahF fl) x 0).2.2.2.2.1))), (pV, .inl (cI, 768, .inl ((csC fc (ahF fl) x 0).2.2.2.2.2))), (pR, .inl (cI, 768, .inl (mdF fc (ahF fl) x 0 sg))), (r0, .inr (2, [.ref rK, .ref rX, .ref rY, .ref rC, .ref rV, .ref rR, .ref rU, .ref rG, .ref rW, .int rnum, .int rq, .int rer, .int rky, .int rsm])), (rR, .inl (cI, 768, .inl fl))] H := hP
    have hw : stOK S1_7 := hw
    have hwr_4 := hw
    have hs1 := hwr_4
    refine lv_aload_n hx hb dX5_draftNext_97 rfl (lv_at hl 1 rfl) ?_
    refine va_get (D := (dC, dI)) (ci := 5) (v := .ref p0) (C := RX5) (T := TX5) (N := 14) hx hb hts hinX5 hown hK hP 0 rfl rfl 6 (by decide) (hts (.fieldLink RX5 44 "GreyReel" "draft" "LGreyReel$Picture;") (List.mem_of_getElem? (i := 5) (by decide +kernel))) (fun _ h9 => h9) rfl dX5_draftNext_98 ?_
    refine va_get (D := (dC, dI)) (ci := 2) (v := .int 0) (C := RX2) (T := TX2) (N := 14) hx hb hts hinX2 hown hK hP 9 rfl rfl 12 (by decide) (hts (.fieldLink RX5 155 "GreyReel$Picture" "isKeyPicture" "Z") (List.mem_of_getElem? (i := 10) (by decide +kernel))) (fun _ h9 => h9) rfl dX5_draftNext_101 ?_
    refine lv_if_ne (tgt := 142) hx hb dX5_draftNext_104 (by decide) (fun c104 => ?_) (fun c104 => ?_)
    · skip
      exact False.elim (c104 rfl)
    · skip
      refine lv_aload_n hx hb dX5_draftNext_107 rfl (lv_at hl 1 rfl) ?_
      refine va_get (D := (dC, dI)) (ci := 5) (v := .ref p0) (C := RX5) (T := TX5) (N := 14) hx hb hts hinX5 hown hK hP 0 rfl rfl 6 (by decide) (hts (.fieldLink RX5 44 "GreyReel" "draft" "LGreyReel$Picture;") (List.mem_of_getElem? (i := 5) (by decide +kernel))) (fun _ h9 => h9) rfl dX5_draftNext_108 ?_
      refine vp_callSi (va_Run.run (va_runV (As := []) (rest := []) ⟨hx, hb, hml, hown, hts⟩ (C_X2_freshBlocks l dC dI cI cZ cP N0 tO p0 pK pX pY pC pV pR pU pG pW (nI cd) x (erF fc (mdF fc (ahF fl) x 0 sg) 768) 0 sg ((csC fc (ahF fl) x 0).2.1) (fun j hj => (cs_sound hj hc (fun _ => ahF_rng hfl) hxq).1)) (cwV 0 hts gX5_draftNext_X2_freshBlocks rfl rfl rfl (by decide +kernel) ⟨Nat.le_of_ble_eq_true rfl, Nat.le_of_ble_eq_true rfl⟩) ⟨Gv.blind, va_recv hK hP (ci := 2) (q0 := 9) rfl rfl, Gv.of (hE.S hS hAN) (hP.sub [9, 10] rfl)⟩ rfl rfl hl.1 rfl (lv_room (Nat.le_of_ble_eq_true rfl)) dX5_draftNext_111 ⟨Nat.le_of_ble_eq_true rfl, Nat.le_of_ble_eq_true rfl⟩)) (fun r_8 hr_8 => ?_)
      have hr_8 : r_8 = 12 - nI (cntK ((csC fc (ahF fl) x 0).2.1) 0 12) - nI (cntK ((csC fc (ahF fl) x 0).2.1) 1 12) := hr_8
      have hfb := hr_8
      refine lv_bipush (v := 8) hx hb dX5_draftNext_114 (by decide +kernel) ?_
      refine lv_icmp_le (tgt := 142) hx hb dX5_draftNext_116 (by decide) (fun c116 => ?_) (fun c116 => ?_)
      · skip
        exact W.vret hx hb hr (fun t ht hW => ⟨⟨(fz_5, fg_6, S1_7, 0), rfl, ⟨(by unfold kyF; rw [if_pos (hkd0.symm.trans c71)]; exact (if_pos (by rw [← hfb]; exact c116)).symm), hs1⟩, by show va_P _ _ _ t.heap; rw [ht]; exact hP.sub [3, 5, 6, 7, 8, 9, 10, 11, 12, 13, 14, 15] rfl⟩, hS.F ht⟩) hS.2.2 dX5_draftNext_142
      · skip
        refine lv_aload_n hx hb dX5_draftNext_119 rfl (lv_at hl 1 rfl) ?_
        refine va_get (D := (dC, dI)) (ci := 5) (v := .ref p0) (C := RX5) (T := TX5) (N := 14) hx hb hts hinX5 hown hK hP 0 rfl rfl 6 (by decide) (hts (.fieldLink RX5 44 "GreyReel" "draft" "LGreyReel$Picture;") (List.mem_of_getElem? (i := 5) (by decide +kernel))) (fun _ h9 => h9) rfl dX5_draftNext_120 ?_
        refine lv_iconst (v := 1) hx hb dX5_draftNext_123 (by decide) ?_
        refine wa_put (D := (dC, dI)) (ci := 2) (v := .int 1) (ty := .boolean) (C := RX2) (T := TX2) (N := 14) hx hb hts hinX2 tyX2 tyX2_ok nmX2 hown hK hP (hN.D rfl) hS (List.mem_of_getElem? (i := 5) rfl) 9 rfl rfl 12 (by decide) (hts (.fieldLink RX5 155 "GreyReel$Picture" "isKeyPicture" "Z") (List.mem_of_getElem? (i := 10) (by decide +kernel))) (fun _ h9 => h9) rfl (by decide +kernel) (by decide +kernel) rfl (Nat.le_of_ble_eq_true rfl) dX5_draftNext_124 (fun H locs hP hS => ?_)
        have hP : va_P (dC, dI) vwCl [(g0, .inr (5, [.ref gC, .ref gR, .ref c0, .ref w0, .ref v0, .ref gB, .ref p0, .int (nI cd), .int db, .int st, .int bw, .int ki, .int sg, .int ak])), (gR, .inl (cP, 24, .inr (.inr (.inr (.inr fr))))), (gC, .inl (cI, 768, .inl fc)), (c0, .inr (0, [.ref h0, .int (nI S1_7.1), .int S1_7.2.1, .int S1_7.2.2.1, .int S1_7.2.2.2])), (h0, .inr (3, [.ref hA, .ref hQ, .ref hM, .ref hF])), (hA, .inl (cI, 1140, .inl (ahF fl))), (hQ, .inl (cI, 16, .inl fz_5)), (hM, .inl (cI, 768, .inl (mdF fc (ahF fl) x 0 sg))), (hF, .inl (cI, 64, .inl fg_6)), (p0, .inr (2, [.ref pK, .ref pX, .ref pY, .ref pC, .ref pV, .ref pR, .ref pU, .ref pG, .ref pW, .int (nI cd), .int x, .int (erF fc (mdF fc (ahF fl) x 0 sg) 768), .int 1, .int sg])), (pK, .inl (cI, 12, .inl (fun k => nI ((csC fc (ahF fl) x 0).2.1 k)))), (pX, .inl (cI, 12, .inl ((csC fc (ahF fl) x 0).2.2.1))), (pY, .inl (cI, 12, .inl ((csC fc (ahF fl) x 0).2.2.2.1))), (pC, .inl (cI, 12, .inl ((csC fc (ahF fl) x 0).2.2.2.2.1))), (pV, .inl (cI, 768, .inl ((csC fc (ahF fl) x 0).2.2.2.2.2))), (pR, .inl (cI, 768, .inl (mdF fc (ahF fl) x 0 sg))), (r0, .inr (2, [.ref rK, .ref rX, .ref rY, .ref rC, .ref rV, .ref rR, .ref rU, .ref rG, .ref rW, .int rnum, .int rq, .int rer, .int rky, .int rsm])), (rR, .inl (cI, 768, .inl fl))] H := hP
        refine lv_aload_n hx hb dX5_draftNext_127 rfl (lv_at hl 1 rfl) ?_
        refine va_get (D := (dC, dI)) (ci := 5) (v := .ref c0) (C := RX5) (T := TX5) (N := 14) hx hb hts hinX5 hown hK hP 0 rfl rfl 2 (by decide) (hts (.fieldLink RX5 22 "GreyReel" "coder" "LGreyReel$Coder;") (List.mem_of_getElem? (i := 2) (by decide +kernel))) (fun _ h9 => h9) rfl dX5_draftNext_128 ?_
        refine lv_aload_n hx hb dX5_draftNext_131 rfl (lv_at hl 1 rfl) ?_
        refine va_get (D := (dC, dI)) (ci := 5) (v := .ref p0) (C := RX5) (T := TX5) (N := 14) hx hb hts hinX5 hown hK hP 0 rfl rfl 6 (by decide) (hts (.fieldLink RX5 44 "GreyReel" "draft" "LGreyReel$Picture;") (List.mem_of_getElem? (i := 5) (by decide +kernel))) (fun _ h9 => h9) rfl dX5_draftNext_132 ?_
        refine lv_aload_n hx hb dX5_draftNext_135 rfl (lv_at hl 1 rfl) ?_
        refine va_get (D := (dC, dI)) (ci := 5) (v := .ref gC) (C := RX5) (T := TX5) (N := 14) hx hb hts hinX5 hown hK hP 0 rfl rfl 0 (by decide) (hts (.fieldLink RX5 9 "GreyReel" "canvas" "[I") (List.mem_of_getElem? (i := 11) (by decide +kernel))) (fun _ h9 => h9) rfl dX5_draftNext_136 ?_
        refine va_callv (va_runV (As := [.ref p0, .ref gC]) (rest := []) ⟨hx, hb, hml, hown, hts⟩ (C_X0_codeAll l dC dI cI cZ cP N0 tO c0 h0 hA hQ hM hF p0 pK pX pY pC pV pR pU pG pW (nI cd) x (erF fc (mdF fc (ahF fl) x 0 sg) 768) 1 sg gC S1_7 ((mdF fc (ahF fl) x 0 sg), (csC fc (ahF fl) x 0).2.1, (csC fc (ahF fl) x 0).2.2.1, (csC fc (ahF fl) x 0).2.2.2.1, (csC fc (ahF fl) x 0).2.2.2.2.1, (csC fc (ahF fl) x 0).2.2.2.2.2) fc (ahF fl) fg_6 fz_5 (mdF fc (ahF fl) x 0 sg) hc (fun _ => ahF_rng hfl) hxq ⟨mdF_rng hc (fun _ => ahF_rng hfl) hxq, (csIt_ok hc (fun _ => ahF_rng hfl) hxq cs0_ok 12 (Nat.le_refl _)).2⟩ hs1) (cwV 2 hts gX5_draftNext_X0_codeAll rfl rfl rfl (by decide +kernel) ⟨Nat.le_of_ble_eq_true rfl, Nat.le_of_ble_eq_true rfl⟩) ⟨Gv.blind, va_recv hK hP (ci := 0) (q0 := 3) rfl rfl, Gv.of (hE.S hS hAN) ⟨(hP.sub [3, 4, 5, 6, 7, 8, 9, 10, 11, 12, 13, 14, 15, 2] rfl), hN.sub [3, 4, 5, 6, 7, 8, 9, 10, 11, 12, 13, 14, 15, 2] (by decide) rfl⟩⟩ rfl rfl hl.1 rfl (lv_room (Nat.le_of_ble_eq_true rfl)) dX5_draftNext_139 ⟨Nat.le_of_ble_eq_true rfl, Nat.le_of_ble_eq_true rfl⟩) hS (fun q _ h => inL_sub [0, 2, 3, 4, 5, 6, 7, 8, 9, 10, 11] rfl q h) (inL_sub [0, 2, 3, 4, 5, 6, 7, 8, 9, 10, 11] rfl) (fun u t H locs ht hvm hw hB hz1 hk1 hS => ?_)
        obtain ⟨fz_10, fg_11, S1_12⟩ := u
        rw [ht] at hB
        have hP := va_back (L := [c0, hQ, hM, hF, p0, pK, pX, pY, pC, pV, pR]) hP hN rfl [3, 6, 7, 8, 9, 10, 11, 12, 13, 14, 15] rfl rfl (fun q h1 h2 => hk1 q h1 h2) hB
        clear hB hk1 hz1 hvm ht t
        have hP : va_P (dC, dI) vwCl [(g0, .inr (5, [.ref gC, .ref gR, .ref c0, .ref w0, .ref v0, .ref gB, .ref p0, .int (nI cd), .int db, .int st, .int bw, .int ki, .int sg, .int ak])), (gR, .inl (cP, 24, .inr (.inr (.inr (.inr fr))))), (gC, .inl (cI, 768, .inl fc)), (c0, .inr (0, [.ref h0, .int (nI S1_12.1), .int S1_12.2.1, .int S1_12.2.2.1, .int S1_12.2.2.2])), (h0, .inr (3, [.ref hA, .ref hQ, .ref hM, .ref hF])), (hA, .inl (cI, 1140, .inl (ahF fl))), (hQ, .inl (cI, 16, .inl fz_10)), (hM, .inl (cI, 768, .inl (mdF fc (ahF fl) x 1 sg))), (hF, .inl (cI, 64, .inl fg_11)), (p0, .inr (2, [.ref pK, .ref pX, .ref pY, .ref pC, .ref pV, .ref pR, .ref pU, .ref pG, .ref pW, .int (nI cd), .int x, .int (erF fc (mdF fc (ahF fl) x 1 sg) 768), .int 1, .int sg])), (pK, .inl (cI, 12, .inl (fun k => nI ((csC fc (ahF fl) x 1).2.1 k)))), (pX, .inl (cI, 12, .inl ((csC fc (ahF fl) x 1).2.2.1))), (pY, .inl (cI, 12, .inl ((csC fc (ahF fl) x 1).2.2.2.1))), (pC, .inl (cI, 12, .inl ((csC fc (ahF fl) x 1).2.2.2.2.1))), (pV, .inl (cI, 768, .inl ((csC fc (ahF fl) x 1).2.2.2.2.2))), (pR, .inl (cI, 768, .inl (mdF fc (ahF fl) x 1 sg))), (r0, .inr (2, [.ref rK, .ref rX, .ref rY, .ref rC, .ref rV, .ref rR, .ref rU, .ref rG, .ref rW, .int rnum, .int rq, .int rer, .int rky, .int rsm])), (rR, .inl (cI, 768, .inl fl))] H := hP
        have hw : stOK S1_12 := hw
        have hwr_9 := hw
        have hs2 := hwr_9
        exact W.vret hx hb hr (fun t ht hW => ⟨⟨(fz_10, fg_11, S1_12, 1), rfl, ⟨(by unfold kyF; rw [if_pos (hkd0.symm.trans c71)]; exact (if_neg (by rw [← hfb]; exact c116)).symm), hs2⟩, by show va_P _ _ _ t.heap; rw [ht]; exact hP.sub [3, 5, 6, 7, 8, 9, 10, 11, 12, 13, 14, 15] rfl⟩, hS.F ht⟩) hS.2.2 dX5_draftNext_142
  · skip
    refine lv_iconst (v := 1) hx hb dX5_draftNext_74 (by decide) ?_
    refine lv_goto (tgt := 79) hx hb dX5_draftNext_75 (by decide) ?_
    refine wa_put (D := (dC, dI)) (ci := 2) (v := .int 1) (ty := .boolean) (C := RX2) (T := TX2) (N := 14) hx hb hts hinX2 tyX2 tyX2_ok nmX2 hown hK hP (hN.D rfl) hS (List.mem_of_getElem? (i := 5) rfl) 9 rfl rfl 12 (by decide) (hts (.fieldLink RX5 155 "GreyReel$Picture" "isKeyPicture" "Z") (List.mem_of_getElem? (i := 10) (by decide +kernel))) (fun _ h9 => h9) rfl (by decide +kernel) (by decide +kernel) rfl (Nat.le_of_ble_eq_true rfl) dX5_draftNext_79 (fun H locs hP hS => ?_)
    have hP : va_P (dC, dI) vwCl [(g0, .inr (5, [.ref gC, .ref gR, .ref c0, .ref w0, .ref v0, .ref gB, .ref p0, .int (nI cd), .int db, .int st, .int bw, .int ki, .int sg, .int ak])), (gR, .inl (cP, 24, .inr (.inr (.inr (.inr fr))))), (gC, .inl (cI, 768, .inl fc)), (c0, .inr (0, [.ref h0, .int (nI S.1), .int S.2.1, .int S.2.2.1, .int S.2.2.2])), (h0, .inr (3, [.ref hA, .ref hQ, .ref hM, .ref hF])), (hA, .inl (cI, 1140, .inl (ahF fl))), (hQ, .inl (cI, 16, .inl fq)), (hM, .inl (cI, 768, .inl X.1)), (hF, .inl (cI, 64, .inl ff)), (p0, .inr (2, [.ref pK, .ref pX, .ref pY, .ref pC, .ref pV, .ref pR, .ref pU, .ref pG, .ref pW, .int (nI cd), .int x, .int er, .int 1, .int sg])), (pK, .inl (cI, 12, .inl (fun k => nI (X.2.1 k)))), (pX, .inl (cI, 12, .inl X.2.2.1)), (pY, .inl (cI, 12, .inl X.2.2.2.1)), (pC, .inl (cI, 12, .inl X.2.2.2.2.1)), (pV, .inl (cI, 768, .inl X.2.2.2.2.2)), (pR, .inl (cI, 768, .inl fp)), (r0, .inr (2, [.ref rK, .ref rX, .ref rY, .ref rC, .ref rV, .ref rR, .ref rU, .ref rG, .ref rW, .int rnum, .int rq, .int rer, .int rky, .int rsm])), (rR, .inl (cI, 768, .inl fl))] H := hP
    refine lv_aload_n hx hb dX5_draftNext_82 rfl (lv_at hl 1 rfl) ?_
    refine va_get (D := (dC, dI)) (ci := 5) (v := .ref c0) (C := RX5) (T := TX5) (N := 14) hx hb hts hinX5 hown hK hP 0 rfl rfl 2 (by decide) (hts (.fieldLink RX5 22 "GreyReel" "coder" "LGreyReel$Coder;") (List.mem_of_getElem? (i := 2) (by decide +kernel))) (fun _ h9 => h9) rfl dX5_draftNext_83 ?_
    refine lv_aload_n hx hb dX5_draftNext_86 rfl (lv_at hl 1 rfl) ?_
    refine va_get (D := (dC, dI)) (ci := 5) (v := .ref p0) (C := RX5) (T := TX5) (N := 14) hx hb hts hinX5 hown hK hP 0 rfl rfl 6 (by decide) (hts (.fieldLink RX5 44 "GreyReel" "draft" "LGreyReel$Picture;") (List.mem_of_getElem? (i := 5) (by decide +kernel))) (fun _ h9 => h9) rfl dX5_draftNext_87 ?_
    refine lv_aload_n hx hb dX5_draftNext_90 rfl (lv_at hl 1 rfl) ?_
    refine va_get (D := (dC, dI)) (ci := 5) (v := .ref gC) (C := RX5) (T := TX5) (N := 14) hx hb hts hinX5 hown hK hP 0 rfl rfl 0 (by decide) (hts (.fieldLink RX5 9 "GreyReel" "canvas" "[I") (List.mem_of_getElem? (i := 11) (by decide +kernel))) (fun _ h9 => h9) rfl dX5_draftNext_91 ?_
    refine va_callv (va_runV (As := [.ref p0, .ref gC]) (rest := []) ⟨hx, hb, hml, hown, hts⟩ (C_X0_codeAll l dC dI cI cZ cP N0 tO c0 h0 hA hQ hM hF p0 pK pX pY pC pV pR pU pG pW (nI cd) x er 1 sg gC S X fc (ahF fl) ff fq fp hc (fun _ => ahF_rng hfl) hxq hX hS0) (cwV 2 hts gX5_draftNext_X0_codeAll rfl rfl rfl (by decide +kernel) ⟨Nat.le_of_ble_eq_true rfl, Nat.le_of_ble_eq_true rfl⟩) ⟨Gv.blind, va_recv hK hP (ci := 0) (q0 := 3) rfl rfl, Gv.of (hE.S hS hAN) ⟨(hP.sub [3, 4, 5, 6, 7, 8, 9, 10, 11, 12, 13, 14, 15, 2] rfl), hN.sub [3, 4, 5, 6, 7, 8, 9, 10, 11, 12, 13, 14, 15, 2] (by decide) rfl⟩⟩ rfl rfl hl.1 rfl (lv_room (Nat.le_of_ble_eq_true rfl)) dX5_draftNext_94 ⟨Nat.le_of_ble_eq_true rfl, Nat.le_of_ble_eq_true rfl⟩) hS (fun q _ h => inL_sub [0, 2, 3, 4, 5, 6, 7, 8, 9, 10, 11] rfl q h) (inL_sub [0, 2, 3, 4, 5, 6, 7, 8, 9, 10, 11] rfl) (fun u t H locs ht hvm hw hB hz1 hk1 hS => ?_)
    obtain ⟨fz_14, fg_15, S1_16⟩ := u
    rw [ht] at hB
    have hP := va_back (L := [c0, hQ, hM, hF, p0, pK, pX, pY, pC, pV, pR]) hP hN rfl [3, 6, 7, 8, 9, 10, 11, 12, 13, 14, 15] rfl rfl (fun q h1 h2 => hk1 q h1 h2) hB
    clear hB hk1 hz1 hvm ht t
    have hP : va_P (dC, dI) vwCl [(g0, .inr (5, [.ref gC, .ref gR, .ref c0, .ref w0, .ref v0, .ref gB, .ref p0, .int (nI cd), .int db, .int st, .int bw, .int ki, .int sg, .int ak])), (gR, .inl (cP, 24, .inr (.inr (.inr (.inr fr))))), (gC, .inl (cI, 768, .inl fc)), (c0, .inr (0, [.ref h0, .int (nI S1_16.1), .int S1_16.2.1, .int S1_16.2.2.1, .int S1_16.2.2.2])), (h0, .inr (3, [.ref hA, .ref hQ, .ref hM, .ref hF])), (hA, .inl (cI, 1140, .inl (ahF fl))), (hQ, .inl (cI, 16, .inl fz_14)), (hM, .inl (cI, 768, .inl (mdF fc (ahF fl) x 1 sg))), (hF, .inl (cI, 64, .inl fg_15)), (p0, .inr (2, [.ref pK, .ref pX, .ref pY, .ref pC, .ref pV, .ref pR, .ref pU, .ref pG, .ref pW, .int (nI cd), .int x, .int (erF fc (mdF fc (ahF fl) x 1 sg) 768), .int 1, .int sg])), (pK, .inl (cI, 12, .inl (fun k => nI ((csC fc (ahF fl) x 1).2.1 k)))), (pX, .inl (cI, 12, .inl ((csC fc (ahF fl) x 1).2.2.1))), (pY, .inl (cI, 12, .inl ((csC fc (ahF fl) x 1).2.2.2.1))), (pC, .inl (cI, 12, .inl ((csC fc (ahF fl) x 1).2.2.2.2.1))), (pV, .inl (cI, 768, .inl ((csC fc (ahF fl) x 1).2.2.2.2.2))), (pR, .inl (cI, 768, .inl (mdF fc (ahF fl) x 1 sg))), (r0, .inr (2, [.ref rK, .ref rX, .ref rY, .ref rC, .ref rV, .ref rR, .ref rU, .ref rG, .ref rW, .int rnum, .int rq, .int rer, .int rky, .int rsm])), (rR, .inl (cI, 768, .inl fl))] H := hP
    have hw : stOK S1_16 := hw
    have hwr_13 := hw
    have hs1 := hwr_13
    refine lv_aload_n hx hb dX5_draftNext_97 rfl (lv_at hl 1 rfl) ?_
    refine va_get (D := (dC, dI)) (ci := 5) (v := .ref p0) (C := RX5) (T := TX5) (N := 14) hx hb hts hinX5 hown hK hP 0 rfl rfl 6 (by decide) (hts (.fieldLink RX5 44 "GreyReel" "draft" "LGreyReel$Picture;") (List.mem_of_getElem? (i := 5) (by decide +kernel))) (fun _ h9 => h9) rfl dX5_draftNext_98 ?_
    refine va_get (D := (dC, dI)) (ci := 2) (v := .int 1) (C := RX2) (T := TX2) (N := 14) hx hb hts hinX2 hown hK hP 9 rfl rfl 12 (by decide) (hts (.fieldLink RX5 155 "GreyReel$Picture" "isKeyPicture" "Z") (List.mem_of_getElem? (i := 10) (by decide +kernel))) (fun _ h9 => h9) rfl dX5_draftNext_101 ?_
    refine lv_if_ne (tgt := 142) hx hb dX5_draftNext_104 (by decide) (fun c104 => ?_) (fun c104 => ?_)
    · skip
      exact W.vret hx hb hr (fun t ht hW => ⟨⟨(fz_14, fg_15, S1_16, 1), rfl, ⟨(by unfold kyF; exact (if_neg (fun z => c71 (hkd0.trans z))).symm), hs1⟩, by show va_P _ _ _ t.heap; rw [ht]; exact hP.sub [3, 5, 6, 7, 8, 9, 10, 11, 12, 13, 14, 15] rfl⟩, hS.F ht⟩) hS.2.2 dX5_draftNext_142
    · skip
      exact False.elim (absurd c104 (by decide))
