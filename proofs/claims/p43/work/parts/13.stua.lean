-- vectors
def vOK (v : Int32) : Prop := ¬ v < -6 ∧ v ≤ 6
def hv (v : Int32) : Nat := ((3 : Int32) + v >>> ((1 : Int32) &&& 31)).toNatClampNeg
def lo (v : Int32) : Nat := v.toBitVec.toNat % 2
theorem vOK_ex {v : Int32} (h : vOK v) : ∃ j : Nat, j < 13 ∧ v = nI j - 6 := by
  obtain ⟨h1, h2⟩ := h
  rw [Int32.lt_iff_toInt_lt] at h1
  rw [Int32.le_iff_toInt_le] at h2
  have e1 : (-6 : Int32).toInt = -6 := by decide
  have e2 : (6 : Int32).toInt = 6 := by decide
  rw [e1] at h1
  rw [e2] at h2
  refine ⟨(v.toInt + 6).toNat, by omega, ?_⟩
  apply Int32.toInt_inj.mp
  rw [Int32.toInt_sub, nI_toInt (by omega), e2, Int.bmod_eq_of_le (by omega) (by omega)]
  omega
theorem hl_dec : ∀ j : Nat, j < 13 → hv (nI j - 6) + lo (nI j - 6) ≤ 6 ∧ (3 : Int32) + (nI j - 6) >>> ((1 : Int32) &&& 31) = nI (hv (nI j - 6)) := by decide +kernel
theorem hl_le {v : Int32} (h : vOK v) : hv v + lo v ≤ 6 := by
  obtain ⟨j, hj, rfl⟩ := vOK_ex h
  exact (hl_dec j hj).1
theorem hv_add {v : Int32} (h : vOK v) (X : Nat) : nI (X + 3) + v >>> ((1 : Int32) &&& 31) = nI (X + hv v) := by
  obtain ⟨j, hj, rfl⟩ := vOK_ex h
  rw [← nI_add, ← nI_add, ← (hl_dec j hj).2, Int32.add_assoc]
  rfl
theorem lo_eq (v : Int32) : v &&& 1 = nI (lo v) := pk_and v 1 (by decide)
theorem lo_lt (v : Int32) : lo v < 2 := Nat.mod_lt _ (by decide)
def stA (b : Nat) (vx vy : Int32) : Nat := (b / 4 * 8 + hv vy) * 38 + (b % 4 * 8 + hv vx)
theorem stA_lt {b : Nat} (hb : b < 12) {vx vy : Int32} (hvx : vOK vx) (hvy : vOK vy) {i j : Nat} (hi : i < 8) (hj : j < 8) : stA b vx vy + i * 38 + j + lo vy * 38 + lo vx < 1140 := by
  have h1 := hl_le hvx
  have h2 := hl_le hvy
  unfold stA
  omega
def betweenF (f : Nat → Int32) (k r w : Nat) : Int32 := if r = 0 then (if w = 0 then f k else (f k + f (k + r) + (f (k + w) + f (k + w + r)) + 2) >>> ((2 : Int32) &&& 31)) else (f k + f (k + r) + (f (k + w) + f (k + w + r)) + 2) >>> ((2 : Int32) &&& 31)
/-- a MOVED block, foretold -/
def mvF (fa : Nat → Int32) (b : Nat) (vx vy : Int32) (k : Nat) : Int32 := betweenF fa (stA b vx vy + k / 8 * 38 + k % 8) (lo vx) (lo vy * 38)
def colF (fm : Nat → Int32) (p : Nat) : Nat → Int32
  | 0 => 0
  | n + 1 => colF fm p n + fm (p + n * 32)
def flatF (fm : Nat → Int32) (b : Nat) : Int32 := if b % 4 = 0 then 128 else (colF fm (b / 4 * 8 * 32 + b % 4 * 8 - 1) 8 + 4) >>> ((3 : Int32) &&& 31)
def lfF (fm : Nat → Int32) (b k : Nat) : Int32 := fm (b / 4 * 8 * 32 + b % 4 * 8 - 1 + k / 8 * 32)
def trF (fm : Nat → Int32) (b k : Nat) : Int32 := clipI (fm (b / 4 * 8 * 32 + b % 4 * 8 - 1 + k / 8 * 32) + ((fm (b / 4 * 8 * 32 + b % 4 * 8 - 1 + k / 8 * 32) - fm (b / 4 * 8 * 32 + b % 4 * 8 - 1 + k / 8 * 32 - 4)) * nI (k % 8 + 1)) >>> ((2 : Int32) &&& 31))
def ftF (kd b : Nat) (vx vy : Int32) (fa fm : Nat → Int32) : Nat → Int32 := if kd < 2 then mvF fa b vx vy else if kd = 2 then (fun _ => flatF fm b) else if kd = 3 then lfF fm b else trF fm b
-- the picture ahead
def cy (y : Nat) : Nat := min (y - 3) 23
def cx (x : Nat) : Nat := min (x - 3) 31
theorem cy_le (y : Nat) : cy y ≤ 23 := Nat.min_le_right _ _
theorem cx_le (x : Nat) : cx x ≤ 31 := Nat.min_le_right _ _
theorem cy_eq : ∀ y : Nat, y < 30 → maxI 0 (minI (nI y - 3) (24 - 1)) = nI (cy y) := by decide +kernel
theorem cx_eq : ∀ x : Nat, x < 38 → maxI 0 (minI (nI x - 3) (32 - 1)) = nI (cx x) := by decide +kernel
def ahF (fp : Nat → Int32) (k : Nat) : Int32 := fp (cy (k / 38) * 32 + cx (k % 38))
theorem ahF_at (fp : Nat → Int32) {y x : Nat} (hx : x < 38) : ahF fp (y * 38 + x) = fp (cy y * 32 + cx x) := by
  unfold ahF
  rw [show (y * 38 + x) / 38 = y by omega, show (y * 38 + x) % 38 = x by omega]
-- differences
def dfF (fc ff : Nat → Int32) (b : Nat) : Nat → Int32
  | 0 => 0
  | n + 1 => dfF fc ff b n + absI (fc (b / 4 * 8 * 32 + b % 4 * 8 + n / 8 * 32 + n % 8) - ff n)
def dmC (fc fa : Nat → Int32) (b : Nat) (vx vy : Int32) (ln : Nat) (s : Int32) : Nat → Int32
  | 0 => s
  | c + 1 => dmC fc fa b vx vy ln s c + absI (fc (b / 4 * 8 * 32 + b % 4 * 8 + ln * 32 + c) - betweenF fa (stA b vx vy + ln * 38 + c) (lo vx) (lo vy * 38))
def dmL (fc fa : Nat → Int32) (b : Nat) (vx vy lim : Int32) : Nat → Int32
  | 0 => 0
  | n + 1 => if dmL fc fa b vx vy lim n < lim then dmC fc fa b vx vy n (dmL fc fa b vx vy lim n) 8 else dmL fc fa b vx vy lim n
theorem lti {x y : Int32} (h : ¬ y ≤ x) : x < y := by
  rw [Int32.le_iff_toInt_le] at h
  rw [Int32.lt_iff_toInt_lt]
  omega
theorem nlti {x y : Int32} (h : y ≤ x) : ¬ x < y := by
  rw [Int32.le_iff_toInt_le] at h
  rw [Int32.lt_iff_toInt_lt]
  omega
theorem dmL_stop {fc fa : Nat → Int32} {b : Nat} {vx vy lim : Int32} {n : Nat} (h : lim ≤ dmL fc fa b vx vy lim n) : ∀ k, dmL fc fa b vx vy lim (n + k) = dmL fc fa b vx vy lim n
  | 0 => rfl
  | k + 1 => by
    rw [← Nat.add_assoc]
    show (if dmL fc fa b vx vy lim (n + k) < lim then _ else _) = _
    rw [dmL_stop h k, if_neg (nlti h)]
theorem dmL_end {fc fa : Nat → Int32} {b : Nat} {vx vy lim : Int32} {n : Nat} {x : Int32} (hx : x = dmL fc fa b vx vy lim n) (h : lim ≤ x) (hn : n ≤ 8) : x = dmL fc fa b vx vy lim 8 := by
  obtain ⟨k, hk⟩ : ∃ k, 8 = n + k := ⟨8 - n, by omega⟩
  rw [hk, dmL_stop (by rw [← hx]; exact h) k]
  exact hx
set_option maxHeartbeats 4000000 in
set_option maxRecDepth 100000 in
theorem C_X3_startAhead (l : Launch) (dC : Nat → ClassId) (dI : Nat → Nat → Nat) (cI cZ cP : ClassId) (N0 tO : Nat) (h0 hA hQ hM hF : Nat) (b : Nat) (vx vy : Int32) (h1 : b < 12) (hvx : vOK vx) (hvy : vOK vy) : Met l yX3_startAhead wsX3_startAhead ({ frames := 0, cells := 0, slots := 0, locals := 0 } : Room) (Gv (dC, dI) cI cZ cP N0 tO [.ref h0, .int (nI b), .int vx, .int vy] (fun H => va_P (dC, dI) vwCl [(h0, .inr (3, [.ref hA, .ref hQ, .ref hM, .ref hF]))] H)) (vp_Si (fun r : Int32 => r = nI (stA b vx vy))) 0 0 (fun _ => False) := by
  refine Met.ofW (cc := cX3_startAhead) (maxL := 8) (ret := (some .int)) (by decide) rfl ?_
  intro p e s m args below meth c s₁ B hml hv
  obtain ⟨rfl, hE, hP⟩ := hv
  have hx := B.exec
  have hb := B.bytes
  have hr := B.returns
  have hts := atoms_spec (ws := wsX3_startAhead) B.pre
  have hown : s.vm.findClass RX3 = some m.cls := findClass_of_methodNamed B.named
  have hlocks := B.notSynchronized
  have hK := hE.1
  have hNS := hE.2.1
  have hP : va_P (dC, dI) vwCl [(h0, .inr (3, [.ref hA, .ref hQ, .ref hM, .ref hF]))] s.heap := hP
  have hl := lv_entry ([.ref h0, .int (nI b), .int vx, .int vy]) (n := 8) (Nat.le_of_ble_eq_true rfl)
  rw [lg_entry_eq]
  generalize (lg_sl ([.ref h0, .int (nI b), .int vx, .int vy]) ++ List.replicate (8 - (lg_sl ([.ref h0, .int (nI b), .int vx, .int vy])).length) Slot.unset).toArray = ls at hl ⊢
  have hl : lv_has ls 8 [(0, .ref h0), (1, .int (nI b)), (2, .int vx), (3, .int vy)] := hl
  have h3 := hl_le hvx
  have h4 := hl_le hvy
  refine lv_iload_n hx hb dX3_startAhead_0 rfl (lv_at hl 2 rfl) ?_
  refine lv_bipush (v := (-6)) hx hb dX3_startAhead_1 (by decide +kernel) ?_
  refine lv_icmp_lt (tgt := 12) hx hb dX3_startAhead_3 (by decide) (fun c3 => ?_) (fun c3 => ?_)
  · skip
    exact False.elim (hvx.1 c3)
  · skip
    refine lv_iload_n hx hb dX3_startAhead_6 rfl (lv_at hl 2 rfl) ?_
    refine lv_bipush (v := 6) hx hb dX3_startAhead_7 (by decide +kernel) ?_
    refine lv_icmp_le (tgt := 16) hx hb dX3_startAhead_9 (by decide) (fun c9 => ?_) (fun c9 => ?_)
    · skip
      refine lv_iload_n hx hb dX3_startAhead_16 rfl (lv_at hl 2 rfl) ?_
      refine lv_istore (lv' := [(4, .int vx), (0, .ref h0), (1, .int (nI b)), (2, .int vx), (3, .int vy)]) hx hb dX3_startAhead_17 hl (by decide) rfl (fun ls hl => ?_)
      refine lv_iload_n hx hb dX3_startAhead_19 rfl (lv_at hl 4 rfl) ?_
      refine lv_bipush (v := (-6)) hx hb dX3_startAhead_20 (by decide +kernel) ?_
      refine lv_icmp_lt (tgt := 31) hx hb dX3_startAhead_22 (by decide) (fun c22 => ?_) (fun c22 => ?_)
      · skip
        exact False.elim (hvy.1 c22)
      · skip
        refine lv_iload_n hx hb dX3_startAhead_25 rfl (lv_at hl 4 rfl) ?_
        refine lv_bipush (v := 6) hx hb dX3_startAhead_26 (by decide +kernel) ?_
        refine lv_icmp_le (tgt := 35) hx hb dX3_startAhead_28 (by decide) (fun c28 => ?_) (fun c28 => ?_)
        · skip
          refine lv_iload_n hx hb dX3_startAhead_35 rfl (lv_at hl 4 rfl) ?_
          refine lv_istore (lv' := [(5, .int vy), (4, .int vx), (0, .ref h0), (1, .int (nI b)), (2, .int vx), (3, .int vy)]) hx hb dX3_startAhead_36 hl (by decide) rfl (fun ls hl => ?_)
          refine lv_iload_n hx hb dX3_startAhead_38 rfl (lv_at hl 3 rfl) ?_
          refine lv_iconst (v := 4) hx hb dX3_startAhead_39 (by decide) ?_
          refine lv_irem hx hb dX3_startAhead_40 (by decide) ?_
          refine lv_topr (show _ = nI (b % 4) from pk_rem (a := b) (d := 4) (by omega) (by omega) (by omega)) ?_
          refine lv_bipush (v := 8) hx hb dX3_startAhead_41 (by decide +kernel) ?_
          refine lv_imul hx hb dX3_startAhead_43 ?_
          refine lv_topr (show _ = nI ((b % 4) * 8) from pk_mul (b % 4) 8) ?_
          refine lv_iconst (v := 3) hx hb dX3_startAhead_44 (by decide) ?_
          refine lv_iadd hx hb dX3_startAhead_45 ?_
          refine lv_topr (show _ = nI (((b % 4) * 8) + 3) from nI_add ((b % 4) * 8) 3) ?_
          refine lv_iload hx hb dX3_startAhead_46 (lv_at hl 1 rfl) ?_
          refine lv_iconst (v := 1) hx hb dX3_startAhead_48 (by decide) ?_
          refine lv_ishr hx hb dX3_startAhead_49 ?_
          refine lv_iadd hx hb dX3_startAhead_50 ?_
          refine lv_topr (show _ = nI (b % 4 * 8 + hv vx) from hv_add hvx _) ?_
          refine lv_istore (lv' := [(6, .int (nI (b % 4 * 8 + hv vx))), (5, .int vy), (4, .int vx), (0, .ref h0), (1, .int (nI b)), (2, .int vx), (3, .int vy)]) hx hb dX3_startAhead_51 hl (by decide) rfl (fun ls hl => ?_)
          refine lv_iload_n hx hb dX3_startAhead_53 rfl (lv_at hl 4 rfl) ?_
          refine lv_iconst (v := 4) hx hb dX3_startAhead_54 (by decide) ?_
          refine lv_idiv hx hb dX3_startAhead_55 (by decide) ?_
          refine lv_topr (show _ = nI (b / 4) from pk_div (a := b) (d := 4) (by omega) (by omega) (by omega)) ?_
          refine lv_bipush (v := 8) hx hb dX3_startAhead_56 (by decide +kernel) ?_
          refine lv_imul hx hb dX3_startAhead_58 ?_
          refine lv_topr (show _ = nI ((b / 4) * 8) from pk_mul (b / 4) 8) ?_
          refine lv_iconst (v := 3) hx hb dX3_startAhead_59 (by decide) ?_
          refine lv_iadd hx hb dX3_startAhead_60 ?_
          refine lv_topr (show _ = nI (((b / 4) * 8) + 3) from nI_add ((b / 4) * 8) 3) ?_
          refine lv_iload hx hb dX3_startAhead_61 (lv_at hl 1 rfl) ?_
          refine lv_iconst (v := 1) hx hb dX3_startAhead_63 (by decide) ?_
          refine lv_ishr hx hb dX3_startAhead_64 ?_
          refine lv_iadd hx hb dX3_startAhead_65 ?_
          refine lv_topr (show _ = nI (b / 4 * 8 + hv vy) from hv_add hvy _) ?_
          refine lv_istore (lv' := [(7, .int (nI (b / 4 * 8 + hv vy))), (6, .int (nI (b % 4 * 8 + hv vx))), (5, .int vy), (4, .int vx), (0, .ref h0), (1, .int (nI b)), (2, .int vx), (3, .int vy)]) hx hb dX3_startAhead_66 hl (by decide) rfl (fun ls hl => ?_)
          refine lv_iload hx hb dX3_startAhead_68 (lv_at hl 0 rfl) ?_
          refine lv_bipush (v := 38) hx hb dX3_startAhead_70 (by decide +kernel) ?_
          refine lv_imul hx hb dX3_startAhead_72 ?_
          refine lv_topr (show _ = nI ((b / 4 * 8 + hv vy) * 38) from pk_mul (b / 4 * 8 + hv vy) 38) ?_
          refine lv_iload hx hb dX3_startAhead_73 (lv_at hl 1 rfl) ?_
          refine lv_iadd hx hb dX3_startAhead_75 ?_
          refine lv_topr (show _ = nI (((b / 4 * 8 + hv vy) * 38) + (b % 4 * 8 + hv vx)) from nI_add ((b / 4 * 8 + hv vy) * 38) (b % 4 * 8 + hv vx)) ?_
          exact W.iret (v := nI (((b / 4 * 8 + hv vy) * 38) + (b % 4 * 8 + hv vx))) hx hb hr (fun t ht hW => ⟨nI (((b / 4 * 8 + hv vy) * 38) + (b % 4 * 8 + hv vx)), rfl, rfl, ht⟩) (fun _ h => by cases h) dX3_startAhead_76
        · skip
          exact False.elim (c28 hvy.2)
    · skip
      exact False.elim (c9 hvx.2)
set_option maxHeartbeats 4000000 in
set_option maxRecDepth 100000 in
theorem C_X3_between (l : Launch) (dC : Nat → ClassId) (dI : Nat → Nat → Nat) (cI cZ cP : ClassId) (N0 tO : Nat) (h0 hA hQ hM hF : Nat) (fa : Nat → Int32) (k rt w : Nat) (h1 : k + w + rt < 1140) : Met l yX3_between wsX3_between ({ frames := 0, cells := 0, slots := 0, locals := 0 } : Room) (Gv (dC, dI) cI cZ cP N0 tO [.ref h0, .int (nI k), .int (nI rt), .int (nI w)] (fun H => va_P (dC, dI) vwCl [(h0, .inr (3, [.ref hA, .ref hQ, .ref hM, .ref hF])), (hA, .inl (cI, 1140, .inl fa))] H)) (vp_Si (fun r : Int32 => r = betweenF fa k rt w)) 0 0 (fun _ => False) := by
  refine Met.ofW (cc := cX3_between) (maxL := 6) (ret := (some .int)) (by decide) rfl ?_
  intro p e s m args below meth c s₁ B hml hv
  obtain ⟨rfl, hE, hP⟩ := hv
  have hx := B.exec
  have hb := B.bytes
  have hr := B.returns
  have hts := atoms_spec (ws := wsX3_between) B.pre
  have hown : s.vm.findClass RX3 = some m.cls := findClass_of_methodNamed B.named
  have hlocks := B.notSynchronized
  have hK := hE.1
  have hNS := hE.2.1
  have hP : va_P (dC, dI) vwCl [(h0, .inr (3, [.ref hA, .ref hQ, .ref hM, .ref hF])), (hA, .inl (cI, 1140, .inl fa))] s.heap := hP
  have hinX3 : ∀ w ∈ wsX30, w ∈ wsX3_between := by decide +kernel
  have hl := lv_entry ([.ref h0, .int (nI k), .int (nI rt), .int (nI w)]) (n := 6) (Nat.le_of_ble_eq_true rfl)
  rw [lg_entry_eq]
  generalize (lg_sl ([.ref h0, .int (nI k), .int (nI rt), .int (nI w)]) ++ List.replicate (6 - (lg_sl ([.ref h0, .int (nI k), .int (nI rt), .int (nI w)])).length) Slot.unset).toArray = ls at hl ⊢
  have hl : lv_has ls 6 [(0, .ref h0), (1, .int (nI k)), (2, .int (nI rt)), (3, .int (nI w))] := hl
  refine lv_iload_n hx hb dX3_between_0 rfl (lv_at hl 2 rfl) ?_
  refine lv_if_ne (tgt := 15) hx hb dX3_between_1 (by decide) (fun c1 => ?_) (fun c1 => ?_)
  · skip
    have c1 : ¬ rt = 0 := fun z => c1 ((nI_eq (a := rt) (b := 0) (by omega) (by omega)).mpr z)
    refine lv_aload_n hx hb dX3_between_15 rfl (lv_at hl 0 rfl) ?_
    refine va_get (D := (dC, dI)) (ci := 3) (v := .ref hA) (C := RX3) (T := TX3) (N := 4) hx hb hts hinX3 hown hK hP 0 rfl rfl 0 (by decide) (hts (.fieldLink RX3 11 "GreyReel$Studio" "ahead" "[I") (List.mem_of_getElem? (i := 1) (by decide +kernel))) (fun _ h9 => h9) rfl dX3_between_16 ?_
    refine lv_iload_n hx hb dX3_between_19 rfl (lv_at hl 1 rfl) ?_
    refine wa_iald (D := (dC, dI)) (i := k) (f := fa) hx hb hK hP 1 0 rfl rfl (by omega) (by omega) dX3_between_20 ?_
    refine lv_aload_n hx hb dX3_between_21 rfl (lv_at hl 0 rfl) ?_
    refine va_get (D := (dC, dI)) (ci := 3) (v := .ref hA) (C := RX3) (T := TX3) (N := 4) hx hb hts hinX3 hown hK hP 0 rfl rfl 0 (by decide) (hts (.fieldLink RX3 11 "GreyReel$Studio" "ahead" "[I") (List.mem_of_getElem? (i := 1) (by decide +kernel))) (fun _ h9 => h9) rfl dX3_between_22 ?_
    refine lv_iload_n hx hb dX3_between_25 rfl (lv_at hl 1 rfl) ?_
    refine lv_iload_n hx hb dX3_between_26 rfl (lv_at hl 2 rfl) ?_
    refine lv_iadd hx hb dX3_between_27 ?_
    refine lv_topr (show _ = nI (k + rt) from nI_add k rt) ?_
    refine wa_iald (D := (dC, dI)) (i := (k + rt)) (f := fa) hx hb hK hP 1 0 rfl rfl (by omega) (by omega) dX3_between_28 ?_
    refine lv_iadd hx hb dX3_between_29 ?_
    refine lv_topi (fun x_1 ex_1 => ?_)
    refine lv_istore (lv' := [(4, .int x_1), (0, .ref h0), (1, .int (nI k)), (2, .int (nI rt)), (3, .int (nI w))]) hx hb dX3_between_30 hl (by decide) rfl (fun ls hl => ?_)
    refine lv_aload_n hx hb dX3_between_32 rfl (lv_at hl 1 rfl) ?_
    refine va_get (D := (dC, dI)) (ci := 3) (v := .ref hA) (C := RX3) (T := TX3) (N := 4) hx hb hts hinX3 hown hK hP 0 rfl rfl 0 (by decide) (hts (.fieldLink RX3 11 "GreyReel$Studio" "ahead" "[I") (List.mem_of_getElem? (i := 1) (by decide +kernel))) (fun _ h9 => h9) rfl dX3_between_33 ?_
    refine lv_iload_n hx hb dX3_between_36 rfl (lv_at hl 2 rfl) ?_
    refine lv_iload_n hx hb dX3_between_37 rfl (lv_at hl 4 rfl) ?_
    refine lv_iadd hx hb dX3_between_38 ?_
    refine lv_topr (show _ = nI (k + w) from nI_add k w) ?_
    refine wa_iald (D := (dC, dI)) (i := (k + w)) (f := fa) hx hb hK hP 1 0 rfl rfl (by omega) (by omega) dX3_between_39 ?_
    refine lv_aload_n hx hb dX3_between_40 rfl (lv_at hl 1 rfl) ?_
    refine va_get (D := (dC, dI)) (ci := 3) (v := .ref hA) (C := RX3) (T := TX3) (N := 4) hx hb hts hinX3 hown hK hP 0 rfl rfl 0 (by decide) (hts (.fieldLink RX3 11 "GreyReel$Studio" "ahead" "[I") (List.mem_of_getElem? (i := 1) (by decide +kernel))) (fun _ h9 => h9) rfl dX3_between_41 ?_
    refine lv_iload_n hx hb dX3_between_44 rfl (lv_at hl 2 rfl) ?_
    refine lv_iload_n hx hb dX3_between_45 rfl (lv_at hl 4 rfl) ?_
    refine lv_iadd hx hb dX3_between_46 ?_
    refine lv_topr (show _ = nI (k + w) from nI_add k w) ?_
    refine lv_iload_n hx hb dX3_between_47 rfl (lv_at hl 3 rfl) ?_
    refine lv_iadd hx hb dX3_between_48 ?_
    refine lv_topr (show _ = nI ((k + w) + rt) from nI_add (k + w) rt) ?_
    refine wa_iald (D := (dC, dI)) (i := ((k + w) + rt)) (f := fa) hx hb hK hP 1 0 rfl rfl (by omega) (by omega) dX3_between_49 ?_
    refine lv_iadd hx hb dX3_between_50 ?_
    refine lv_topi (fun x_2 ex_2 => ?_)
    refine lv_istore (lv' := [(5, .int x_2), (4, .int x_1), (0, .ref h0), (1, .int (nI k)), (2, .int (nI rt)), (3, .int (nI w))]) hx hb dX3_between_51 hl (by decide) rfl (fun ls hl => ?_)
    refine lv_iload hx hb dX3_between_53 (lv_at hl 1 rfl) ?_
    refine lv_iload hx hb dX3_between_55 (lv_at hl 0 rfl) ?_
    refine lv_iadd hx hb dX3_between_57 ?_
    refine lv_iconst (v := 2) hx hb dX3_between_58 (by decide) ?_
    refine lv_iadd hx hb dX3_between_59 ?_
    refine lv_iconst (v := 2) hx hb dX3_between_60 (by decide) ?_
    refine lv_ishr hx hb dX3_between_61 ?_
    exact W.iret (v := ((x_1 + x_2) + 2) >>> (2 &&& 31)) hx hb hr (fun t ht hW => ⟨((x_1 + x_2) + 2) >>> (2 &&& 31), rfl, (by subst ex_2 ex_1; rw [betweenF, if_neg c1] <;> rfl), ht⟩) (fun _ h => by cases h) dX3_between_62
  · skip
    have c1 : rt = 0 := (nI_eq (a := rt) (b := 0) (by omega) (by omega)).mp c1
    refine lv_iload_n hx hb dX3_between_4 rfl (lv_at hl 3 rfl) ?_
    refine lv_if_ne (tgt := 15) hx hb dX3_between_5 (by decide) (fun c5 => ?_) (fun c5 => ?_)
    · skip
      have c5 : ¬ w = 0 := fun z => c5 ((nI_eq (a := w) (b := 0) (by omega) (by omega)).mpr z)
      refine lv_aload_n hx hb dX3_between_15 rfl (lv_at hl 0 rfl) ?_
      refine va_get (D := (dC, dI)) (ci := 3) (v := .ref hA) (C := RX3) (T := TX3) (N := 4) hx hb hts hinX3 hown hK hP 0 rfl rfl 0 (by decide) (hts (.fieldLink RX3 11 "GreyReel$Studio" "ahead" "[I") (List.mem_of_getElem? (i := 1) (by decide +kernel))) (fun _ h9 => h9) rfl dX3_between_16 ?_
      refine lv_iload_n hx hb dX3_between_19 rfl (lv_at hl 1 rfl) ?_
      refine wa_iald (D := (dC, dI)) (i := k) (f := fa) hx hb hK hP 1 0 rfl rfl (by omega) (by omega) dX3_between_20 ?_
      refine lv_aload_n hx hb dX3_between_21 rfl (lv_at hl 0 rfl) ?_
      refine va_get (D := (dC, dI)) (ci := 3) (v := .ref hA) (C := RX3) (T := TX3) (N := 4) hx hb hts hinX3 hown hK hP 0 rfl rfl 0 (by decide) (hts (.fieldLink RX3 11 "GreyReel$Studio" "ahead" "[I") (List.mem_of_getElem? (i := 1) (by decide +kernel))) (fun _ h9 => h9) rfl dX3_between_22 ?_
      refine lv_iload_n hx hb dX3_between_25 rfl (lv_at hl 1 rfl) ?_
      refine lv_iload_n hx hb dX3_between_26 rfl (lv_at hl 2 rfl) ?_
      refine lv_iadd hx hb dX3_between_27 ?_
      refine lv_topr (show _ = nI (k + rt) from nI_add k rt) ?_
      refine wa_iald (D := (dC, dI)) (i := (k + rt)) (f := fa) hx hb hK hP 1 0 rfl rfl (by omega) (by omega) dX3_between_28 ?_
      refine lv_iadd hx hb dX3_between_29 ?_
      refine lv_topi (fun x_3 ex_3 => ?_)
      refine lv_istore (lv' := [(4, .int x_3), (0, .ref h0), (1, .int (nI k)), (2, .int (nI rt)), (3, .int (nI w))]) hx hb dX3_between_30 hl (by decide) rfl (fun ls hl => ?_)
      refine lv_aload_n hx hb dX3_between_32 rfl (lv_at hl 1 rfl) ?_
      refine va_get (D := (dC, dI)) (ci := 3) (v := .ref hA) (C := RX3) (T := TX3) (N := 4) hx hb hts hinX3 hown hK hP 0 rfl rfl 0 (by decide) (hts (.fieldLink RX3 11 "GreyReel$Studio" "ahead" "[I") (List.mem_of_getElem? (i := 1) (by decide +kernel))) (fun _ h9 => h9) rfl dX3_between_33 ?_
      refine lv_iload_n hx hb dX3_between_36 rfl (lv_at hl 2 rfl) ?_
      refine lv_iload_n hx hb dX3_between_37 rfl (lv_at hl 4 rfl) ?_
      refine lv_iadd hx hb dX3_between_38 ?_
      refine lv_topr (show _ = nI (k + w) from nI_add k w) ?_
      refine wa_iald (D := (dC, dI)) (i := (k + w)) (f := fa) hx hb hK hP 1 0 rfl rfl (by omega) (by omega) dX3_between_39 ?_
      refine lv_aload_n hx hb dX3_between_40 rfl (lv_at hl 1 rfl) ?_
      refine va_get (D := (dC, dI)) (ci := 3) (v := .ref hA) (C := RX3) (T := TX3) (N := 4) hx hb hts hinX3 hown hK hP 0 rfl rfl 0 (by decide) (hts (.fieldLink RX3 11 "GreyReel$Studio" "ahead" "[I") (List.mem_of_getElem? (i := 1) (by decide +kernel))) (fun _ h9 => h9) rfl dX3_between_41 ?_
      refine lv_iload_n hx hb dX3_between_44 rfl (lv_at hl 2 rfl) ?_
      refine lv_iload_n hx hb dX3_between_45 rfl (lv_at hl 4 rfl) ?_
      refine lv_iadd hx hb dX3_between_46 ?_
      refine lv_topr (show _ = nI (k + w) from nI_add k w) ?_
      refine lv_iload_n hx hb dX3_between_47 rfl (lv_at hl 3 rfl) ?_
      refine lv_iadd hx hb dX3_between_48 ?_
      refine lv_topr (show _ = nI ((k + w) + rt) from nI_add (k + w) rt) ?_
      refine wa_iald (D := (dC, dI)) (i := ((k + w) + rt)) (f := fa) hx hb hK hP 1 0 rfl rfl (by omega) (by omega) dX3_between_49 ?_
      refine lv_iadd hx hb dX3_between_50 ?_
      refine lv_topi (fun x_4 ex_4 => ?_)
      refine lv_istore (lv' := [(5, .int x_4), (4, .int x_3), (0, .ref h0), (1, .int (nI k)), (2, .int (nI rt)), (3, .int (nI w))]) hx hb dX3_between_51 hl (by decide) rfl (fun ls hl => ?_)
      refine lv_iload hx hb dX3_between_53 (lv_at hl 1 rfl) ?_
      refine lv_iload hx hb dX3_between_55 (lv_at hl 0 rfl) ?_
      refine lv_iadd hx hb dX3_between_57 ?_
      refine lv_iconst (v := 2) hx hb dX3_between_58 (by decide) ?_
      refine lv_iadd hx hb dX3_between_59 ?_
      refine lv_iconst (v := 2) hx hb dX3_between_60 (by decide) ?_
      refine lv_ishr hx hb dX3_between_61 ?_
      exact W.iret (v := ((x_3 + x_4) + 2) >>> (2 &&& 31)) hx hb hr (fun t ht hW => ⟨((x_3 + x_4) + 2) >>> (2 &&& 31), rfl, (by subst ex_4 ex_3; rw [betweenF, if_pos c1, if_neg c5] <;> rfl), ht⟩) (fun _ h => by cases h) dX3_between_62
    · skip
      have c5 : w = 0 := (nI_eq (a := w) (b := 0) (by omega) (by omega)).mp c5
      refine lv_aload_n hx hb dX3_between_8 rfl (lv_at hl 0 rfl) ?_
      refine va_get (D := (dC, dI)) (ci := 3) (v := .ref hA) (C := RX3) (T := TX3) (N := 4) hx hb hts hinX3 hown hK hP 0 rfl rfl 0 (by decide) (hts (.fieldLink RX3 11 "GreyReel$Studio" "ahead" "[I") (List.mem_of_getElem? (i := 1) (by decide +kernel))) (fun _ h9 => h9) rfl dX3_between_9 ?_
      refine lv_iload_n hx hb dX3_between_12 rfl (lv_at hl 1 rfl) ?_
      refine wa_iald (D := (dC, dI)) (i := k) (f := fa) hx hb hK hP 1 0 rfl rfl (by omega) (by omega) dX3_between_13 ?_
      exact W.iret (v := fa k) hx hb hr (fun t ht hW => ⟨fa k, rfl, (by rw [betweenF, if_pos c1, if_pos c5] <;> rfl), ht⟩) (fun _ h => by cases h) dX3_between_14
set_option maxHeartbeats 4000000 in
set_option maxRecDepth 100000 in
theorem C_X3_foretellMoved (l : Launch) (dC : Nat → ClassId) (dI : Nat → Nat → Nat) (cI cZ cP : ClassId) (N0 tO : Nat) (h0 hA hQ hM hF : Nat) (fa ff : Nat → Int32) (b : Nat) (vx vy : Int32) (h1 : b < 12) (hvx : vOK vx) (hvy : vOK vy) : Met l yX3_foretellMoved wsX3_foretellMoved ({ frames := 1, cells := 0, slots := 0, locals := 27 } : Room) (Gv (dC, dI) cI cZ cP N0 tO [.ref h0, .int (nI b), .int vx, .int vy] (fun H => va_P (dC, dI) vwCl [(h0, .inr (3, [.ref hA, .ref hQ, .ref hM, .ref hF])), (hA, .inl (cI, 1140, .inl fa)), (hF, .inl (cI, 64, .inl ff))] H ∧ AD N0 [h0, hA, hF])) (va_Qv (fun (_ : Unit) => True) (fun (_ : Unit) (t : State) => va_P (dC, dI) vwCl [(hF, .inl (cI, 64, .inl (mvF fa b vx vy)))] t.heap) (inL [hF])) 0 0 (inL [hF]) := by
  refine Met.ofW (cc := cX3_foretellMoved) (maxL := 9) (ret := none) (by decide) rfl ?_
  intro p e s m args below meth c s₁ B hml hv
  obtain ⟨rfl, hE, hP, hN⟩ := hv
  have hx := B.exec
  have hb := B.bytes
  have hr := B.returns
  have hts := atoms_spec (ws := wsX3_foretellMoved) B.pre
  have hown : s.vm.findClass RX3 = some m.cls := findClass_of_methodNamed B.named
  have hlocks := B.notSynchronized
  have hK := hE.1
  have hNS := hE.2.1
  have hS : va_S (inL [hF]) s.heap s.heap [] := va_S.rf
  have hAN : ∀ q : Nat, (inL [hF]) q → N0 ≤ q := fun q h => hN.in [2] rfl q h
  have hP : va_P (dC, dI) vwCl [(h0, .inr (3, [.ref hA, .ref hQ, .ref hM, .ref hF])), (hA, .inl (cI, 1140, .inl fa)), (hF, .inl (cI, 64, .inl ff))] s.heap := hP
  have hinX3 : ∀ w ∈ wsX30, w ∈ wsX3_foretellMoved := by decide +kernel
  have hl := lv_entry ([.ref h0, .int (nI b), .int vx, .int vy]) (n := 9) (Nat.le_of_ble_eq_true rfl)
  rw [lg_entry_eq]
  generalize (lg_sl ([.ref h0, .int (nI b), .int vx, .int vy]) ++ List.replicate (9 - (lg_sl ([.ref h0, .int (nI b), .int vx, .int vy])).length) Slot.unset).toArray = ls at hl ⊢
  have hl : lv_has ls 9 [(0, .ref h0), (1, .int (nI b)), (2, .int vx), (3, .int vy)] := hl
  have h3 := hl_le hvx
  have h4 := hl_le hvy
  have h5 := @stA_lt b h1 vx vy hvx hvy
  refine lv_aload_n hx hb dX3_foretellMoved_0 rfl (lv_at hl 0 rfl) ?_
  refine lv_iload_n hx hb dX3_foretellMoved_1 rfl (lv_at hl 1 rfl) ?_
  refine lv_iload_n hx hb dX3_foretellMoved_2 rfl (lv_at hl 2 rfl) ?_
  refine lv_iload_n hx hb dX3_foretellMoved_3 rfl (lv_at hl 3 rfl) ?_
  refine vp_callSi (va_Run.run (va_runV (As := [.int (nI b), .int vx, .int vy]) (rest := []) ⟨hx, hb, hml, hown, hts⟩ (C_X3_startAhead l dC dI cI cZ cP N0 tO h0 hA hQ hM hF b vx vy h1 hvx hvy) (cwV 3 hts gX3_foretellMoved_X3_startAhead rfl rfl rfl (by decide +kernel) ⟨Nat.le_of_ble_eq_true rfl, Nat.le_of_ble_eq_true rfl⟩) ⟨Gv.blind, va_recv hK hP (ci := 3) (q0 := 0) rfl rfl, Gv.of (hE.S hS hAN) (hP.sub [0] rfl)⟩ rfl rfl hl.1 rfl (lv_room (Nat.le_of_ble_eq_true rfl)) dX3_foretellMoved_4 ⟨Nat.le_of_ble_eq_true rfl, Nat.le_of_ble_eq_true rfl⟩)) (fun r_1 hr_1 => ?_)
  have hr_1 : r_1 = nI (stA b vx vy) := hr_1
  refine lv_topr hr_1 ?_
  refine lv_istore (lv' := [(4, .int (nI (stA b vx vy))), (0, .ref h0), (1, .int (nI b)), (2, .int vx), (3, .int vy)]) hx hb dX3_foretellMoved_7 hl (by decide) rfl (fun ls hl => ?_)
  refine lv_iload_n hx hb dX3_foretellMoved_9 rfl (lv_at hl 3 rfl) ?_
  refine lv_iconst (v := 1) hx hb dX3_foretellMoved_10 (by decide) ?_
  refine lv_iand hx hb dX3_foretellMoved_11 ?_
  refine lv_topr (show _ = nI (lo vx) from lo_eq vx) ?_
  refine lv_istore (lv' := [(5, .int (nI (lo vx))), (4, .int (nI (stA b vx vy))), (0, .ref h0), (1, .int (nI b)), (2, .int vx), (3, .int vy)]) hx hb dX3_foretellMoved_12 hl (by decide) rfl (fun ls hl => ?_)
  refine lv_iload_n hx hb dX3_foretellMoved_14 rfl (lv_at hl 5 rfl) ?_
  refine lv_iconst (v := 1) hx hb dX3_foretellMoved_15 (by decide) ?_
  refine lv_iand hx hb dX3_foretellMoved_16 ?_
  refine lv_topr (show _ = nI (lo vy) from lo_eq vy) ?_
  refine lv_bipush (v := 38) hx hb dX3_foretellMoved_17 (by decide +kernel) ?_
  refine lv_imul hx hb dX3_foretellMoved_19 ?_
  refine lv_topr (show _ = nI ((lo vy) * 38) from pk_mul (lo vy) 38) ?_
  refine lv_istore (lv' := [(6, .int (nI ((lo vy) * 38))), (5, .int (nI (lo vx))), (4, .int (nI (stA b vx vy))), (0, .ref h0), (1, .int (nI b)), (2, .int vx), (3, .int vy)]) hx hb dX3_foretellMoved_20 hl (by decide) rfl (fun ls hl => ?_)
  refine lv_iconst (v := 0) hx hb dX3_foretellMoved_22 (by decide) ?_
  refine lv_istore (lv' := [(7, .int 0), (6, .int (nI ((lo vy) * 38))), (5, .int (nI (lo vx))), (4, .int (nI (stA b vx vy))), (0, .ref h0), (1, .int (nI b)), (2, .int vx), (3, .int vy)]) hx hb dX3_foretellMoved_23 hl (by decide) rfl (fun ls hl => ?_)
  have L25 : ∀ (n25 : Nat) (i : Nat) (f1 : Nat → Int32), (i ≤ 64) → 64 - i < n25 → f1 = (fillTo (mvF fa b vx vy) ff i) → ∀ (H : Heap) (locs : List Loc) (ls : Array Slot), va_P (dC, dI) vwCl [(h0, .inr (3, [.ref hA, .ref hQ, .ref hM, .ref hF])), (hA, .inl (cI, 1140, .inl fa)), (hF, .inl (cI, 64, .inl f1))] H → va_S (inL [hF]) s.heap H locs → lv_has ls 9 [(7, .int (nI i)), (6, .int (nI ((lo vy) * 38))), (5, .int (nI (lo vx))), (4, .int (nI (stA b vx vy))), (0, .ref h0), (1, .int (nI b)), (2, .int vx), (3, .int vy)] → W p l e (headSpec wsX3_foretellMoved ({ frames := 1, cells := 0, slots := 0, locals := 27 } : Room)).room s m ([.ref h0, .int (nI b), .int vx, .int vy] : List Value).toArray below meth c H locs 0 0 (MQ below (va_Qv (fun (_ : Unit) => True) (fun (_ : Unit) (t : State) => va_P (dC, dI) vwCl [(hF, .inl (cI, 64, .inl (mvF fa b vx vy)))] t.heap) (inL [hF])) ([.ref h0, .int (nI b), .int vx, .int vy] : List Value).toArray s 0 0 (inL [hF])) (F0 m 25 ls []) := by
    intro n25
    induction n25 with
    | zero => intro i f1 hi hz; exact absurd hz (Nat.not_lt_zero _)
    | succ n25 ih25 =>
      intro i f1 hi hfu ef1 H locs ls hP hS hl
      refine lv_iload hx hb dX3_foretellMoved_25 (lv_at hl 0 rfl) ?_
      refine lv_bipush (v := 64) hx hb dX3_foretellMoved_27 (by decide +kernel) ?_
      refine lv_icmp_ge (tgt := 74) hx hb dX3_foretellMoved_29 (by decide) (fun c29 => ?_) (fun c29 => ?_)
      · skip
        have c29 : 64 ≤ i := (nI_leI (a := 64) (b := i) (by omega) (by omega)).mp c29
        obtain rfl : i = 64 := by omega
        have hP := hP.cong 2 (mvF fa b vx vy) rfl (fun k hk => by rw [ef1]; exact fillTo_at _ _ hk)
        have hP : va_P (dC, dI) vwCl [(h0, .inr (3, [.ref hA, .ref hQ, .ref hM, .ref hF])), (hA, .inl (cI, 1140, .inl fa)), (hF, .inl (cI, 64, .inl (mvF fa b vx vy)))] H := hP
        exact W.vret hx hb hr (fun t ht hW => ⟨⟨(), rfl, trivial, by show va_P _ _ _ t.heap; rw [ht]; exact hP.sub [2] rfl⟩, hS.F ht⟩) hS.2.2 dX3_foretellMoved_74
      · skip
        have c29 : ¬ 64 ≤ i := fun z => c29 ((nI_leI (a := 64) (b := i) (by omega) (by omega)).mpr z)
        refine lv_iload hx hb dX3_foretellMoved_32 (lv_at hl 3 rfl) ?_
        refine lv_iload hx hb dX3_foretellMoved_34 (lv_at hl 0 rfl) ?_
        refine lv_bipush (v := 8) hx hb dX3_foretellMoved_36 (by decide +kernel) ?_
        refine lv_idiv hx hb dX3_foretellMoved_38 (by decide) ?_
        refine lv_topr (show _ = nI (i / 8) from pk_div (a := i) (d := 8) (by omega) (by omega) (by omega)) ?_
        refine lv_bipush (v := 38) hx hb dX3_foretellMoved_39 (by decide +kernel) ?_
        refine lv_imul hx hb dX3_foretellMoved_41 ?_
        refine lv_topr (show _ = nI ((i / 8) * 38) from pk_mul (i / 8) 38) ?_
        refine lv_iadd hx hb dX3_foretellMoved_42 ?_
        refine lv_topr (show _ = nI ((stA b vx vy) + ((i / 8) * 38)) from nI_add (stA b vx vy) ((i / 8) * 38)) ?_
        refine lv_iload hx hb dX3_foretellMoved_43 (lv_at hl 0 rfl) ?_
        refine lv_bipush (v := 8) hx hb dX3_foretellMoved_45 (by decide +kernel) ?_
        refine lv_irem hx hb dX3_foretellMoved_47 (by decide) ?_
        refine lv_topr (show _ = nI (i % 8) from pk_rem (a := i) (d := 8) (by omega) (by omega) (by omega)) ?_
        refine lv_iadd hx hb dX3_foretellMoved_48 ?_
        refine lv_topr (show _ = nI (((stA b vx vy) + ((i / 8) * 38)) + (i % 8)) from nI_add ((stA b vx vy) + ((i / 8) * 38)) (i % 8)) ?_
        refine lv_istore (lv' := [(8, .int (nI (((stA b vx vy) + ((i / 8) * 38)) + (i % 8)))), (7, .int (nI i)), (6, .int (nI ((lo vy) * 38))), (5, .int (nI (lo vx))), (4, .int (nI (stA b vx vy))), (0, .ref h0), (1, .int (nI b)), (2, .int vx), (3, .int vy)]) hx hb dX3_foretellMoved_49 hl (by decide) rfl (fun ls hl => ?_)
        refine lv_aload_n hx hb dX3_foretellMoved_51 rfl (lv_at hl 5 rfl) ?_
        refine va_get (D := (dC, dI)) (ci := 3) (v := .ref hF) (C := RX3) (T := TX3) (N := 4) hx hb hts hinX3 hown hK hP 0 rfl rfl 3 (by decide) (hts (.fieldLink RX3 21 "GreyReel$Studio" "foretold" "[I") (List.mem_of_getElem? (i := 1) (by decide +kernel))) (fun _ h9 => h9) rfl dX3_foretellMoved_52 ?_
        refine lv_iload hx hb dX3_foretellMoved_55 (lv_at hl 1 rfl) ?_
        refine lv_aload_n hx hb dX3_foretellMoved_57 rfl (lv_at hl 5 rfl) ?_
        refine lv_iload hx hb dX3_foretellMoved_58 (lv_at hl 0 rfl) ?_
        refine lv_iload hx hb dX3_foretellMoved_60 (lv_at hl 3 rfl) ?_
        refine lv_iload hx hb dX3_foretellMoved_62 (lv_at hl 2 rfl) ?_
        refine vp_callSi (va_Run.run (va_runV (As := [.int (nI (((stA b vx vy) + ((i / 8) * 38)) + (i % 8))), .int (nI (lo vx)), .int (nI ((lo vy) * 38))]) (rest := [.int (nI i), .ref hF]) ⟨hx, hb, hml, hown, hts⟩ (C_X3_between l dC dI cI cZ cP N0 tO h0 hA hQ hM hF fa (((stA b vx vy) + ((i / 8) * 38)) + (i % 8)) (lo vx) ((lo vy) * 38) (h5 (by omega) (by omega))) (cwV 3 hts gX3_foretellMoved_X3_between rfl rfl rfl (by decide +kernel) ⟨Nat.le_of_ble_eq_true rfl, Nat.le_of_ble_eq_true rfl⟩) ⟨Gv.blind, va_recv hK hP (ci := 3) (q0 := 0) rfl rfl, Gv.of (hE.S hS hAN) (hP.sub [0, 1] rfl)⟩ rfl rfl hl.1 rfl (lv_room (Nat.le_of_ble_eq_true rfl)) dX3_foretellMoved_64 ⟨Nat.le_of_ble_eq_true rfl, Nat.le_of_ble_eq_true rfl⟩)) (fun r_2 hr_2 => ?_)
        have hr_2 : r_2 = betweenF fa (((stA b vx vy) + ((i / 8) * 38)) + (i % 8)) (lo vx) ((lo vy) * 38) := hr_2
        refine wa_iast (D := (dC, dI)) (i := i) (f := f1) hx hb hK hP (hN.D rfl) hS (List.mem_of_getElem? (i := 0) rfl) 2 0 rfl rfl (by omega) (by omega) dX3_foretellMoved_67 (fun H locs hP hS => ?_)
        obtain ⟨f_3, ef_3⟩ : ∃ z, z = upd f1 i r_2 := ⟨_, rfl⟩
        rw [← ef_3] at hP
        have hP : va_P (dC, dI) vwCl [(h0, .inr (3, [.ref hA, .ref hQ, .ref hM, .ref hF])), (hA, .inl (cI, 1140, .inl fa)), (hF, .inl (cI, 64, .inl f_3))] H := hP
        refine lv_iinc (v := nI (i + 1)) (lv' := [(7, .int (nI (i + 1))), (8, .int (nI (((stA b vx vy) + ((i / 8) * 38)) + (i % 8)))), (6, .int (nI ((lo vy) * 38))), (5, .int (nI (lo vx))), (4, .int (nI (stA b vx vy))), (0, .ref h0), (1, .int (nI b)), (2, .int vx), (3, .int vy)]) hx hb dX3_foretellMoved_68 hl (k := 1) rfl (show nI i + Int32.ofInt 1 = nI (i + 1) from nI_add _ _) (by decide) rfl (fun ls hl => ?_)
        refine lv_goto (tgt := 25) hx hb dX3_foretellMoved_71 (by decide) ?_
        exact ih25 (i + 1) f_3 (by omega) (by omega) (by rw [ef_3, hr_2, ef1]; exact fillTo_s _ _ _ rfl) _ _ _ hP hS (lv_sub hl [0, 2, 3, 4, 5, 6, 7, 8] rfl)
  exact L25 (64 + 1) 0 ff (by omega) (Nat.lt_succ_self _) (fillTo_0 _ _).symm _ _ _ hP hS (lv_sub hl [0, 1, 2, 3, 4, 5, 6, 7] rfl)
set_option maxHeartbeats 4000000 in
set_option maxRecDepth 100000 in
theorem C_X3_foretellFlat (l : Launch) (dC : Nat → ClassId) (dI : Nat → Nat → Nat) (cI cZ cP : ClassId) (N0 tO : Nat) (h0 hA hQ hM hF : Nat) (fm ff : Nat → Int32) (b : Nat) (h1 : b < 12) : Met l yX3_foretellFlat wsX3_foretellFlat ({ frames := 1, cells := 0, slots := 0, locals := 23 } : Room) (Gv (dC, dI) cI cZ cP N0 tO [.ref h0, .int (nI b)] (fun H => va_P (dC, dI) vwCl [(h0, .inr (3, [.ref hA, .ref hQ, .ref hM, .ref hF])), (hM, .inl (cI, 768, .inl fm)), (hF, .inl (cI, 64, .inl ff))] H ∧ AD N0 [h0, hM, hF])) (va_Qv (fun (_ : Unit) => True) (fun (_ : Unit) (t : State) => va_P (dC, dI) vwCl [(hF, .inl (cI, 64, .inl (fun _ => flatF fm b)))] t.heap) (inL [hF])) 0 0 (inL [hF]) := by
  refine Met.ofW (cc := cX3_foretellFlat) (maxL := 6) (ret := none) (by decide) rfl ?_
  intro p e s m args below meth c s₁ B hml hv
  obtain ⟨rfl, hE, hP, hN⟩ := hv
  have hx := B.exec
  have hb := B.bytes
  have hr := B.returns
  have hts := atoms_spec (ws := wsX3_foretellFlat) B.pre
  have hown : s.vm.findClass RX3 = some m.cls := findClass_of_methodNamed B.named
  have hlocks := B.notSynchronized
  have hK := hE.1
  have hNS := hE.2.1
  have hS : va_S (inL [hF]) s.heap s.heap [] := va_S.rf
  have hAN : ∀ q : Nat, (inL [hF]) q → N0 ≤ q := fun q h => hN.in [2] rfl q h
  have hP : va_P (dC, dI) vwCl [(h0, .inr (3, [.ref hA, .ref hQ, .ref hM, .ref hF])), (hM, .inl (cI, 768, .inl fm)), (hF, .inl (cI, 64, .inl ff))] s.heap := hP
  have hinX3 : ∀ w ∈ wsX30, w ∈ wsX3_foretellFlat := by decide +kernel
  have hl := lv_entry ([.ref h0, .int (nI b)]) (n := 6) (Nat.le_of_ble_eq_true rfl)
  rw [lg_entry_eq]
  generalize (lg_sl ([.ref h0, .int (nI b)]) ++ List.replicate (6 - (lg_sl ([.ref h0, .int (nI b)])).length) Slot.unset).toArray = ls at hl ⊢
  have hl : lv_has ls 6 [(0, .ref h0), (1, .int (nI b))] := hl
  refine lv_sipush (v := 128) hx hb dX3_foretellFlat_0 (by decide +kernel) ?_
  refine lv_istore_n (lv' := [(2, .int 128), (0, .ref h0), (1, .int (nI b))]) hx hb dX3_foretellFlat_3 rfl hl (by decide) rfl (fun ls hl => ?_)
  refine lv_iload_n hx hb dX3_foretellFlat_4 rfl (lv_at hl 2 rfl) ?_
  refine vp_callSi (va_Run.run (va_runSN (As := [.int (nI b)]) (rest := []) ⟨hx, hb, hml, hown, hts⟩ (C_X5_isFirstOfBand l dC dI cI cZ cP N0 tO b (by omega)) ⟨va_cnB 1 hts gX3_foretellFlat_X5_isFirstOfBand_n58 rfl rfl rfl hNS.2.2.2.2.1.2.2.1 (hts (.initialized RX5) (List.mem_of_getElem? (i := 4) (by decide +kernel))) (by decide +kernel) ⟨Nat.le_of_ble_eq_true rfl, Nat.le_of_ble_eq_true rfl⟩, (hts (.static yX5_isFirstOfBand) (List.mem_of_getElem? (i := 3) (by decide +kernel))), trivial⟩ ⟨Gv.blind, Gv.of (hE.S hS hAN) trivial⟩ rfl rfl hl.1 rfl (lv_room (Nat.le_of_ble_eq_true rfl)) dX3_foretellFlat_5 ⟨Nat.le_of_ble_eq_true rfl, Nat.le_of_ble_eq_true rfl⟩)) (fun r_1 hr_1 => ?_)
  have hr_1 : r_1 = isFB b := hr_1
  refine lv_if_ne (tgt := 61) hx hb dX3_foretellFlat_8 (by decide) (fun c8 => ?_) (fun c8 => ?_)
  · skip
    have hb4 := isFB_t hr_1 c8
    refine lv_aload_n hx hb dX3_foretellFlat_61 rfl (lv_at hl 1 rfl) ?_
    refine va_get (D := (dC, dI)) (ci := 3) (v := .ref hF) (C := RX3) (T := TX3) (N := 4) hx hb hts hinX3 hown hK hP 0 rfl rfl 3 (by decide) (hts (.fieldLink RX3 21 "GreyReel$Studio" "foretold" "[I") (List.mem_of_getElem? (i := 2) (by decide +kernel))) (fun _ h9 => h9) rfl dX3_foretellFlat_62 ?_
    refine lv_iload_n hx hb dX3_foretellFlat_65 rfl (lv_at hl 0 rfl) ?_
    refine va_callv (va_runS (As := [.ref hF, .int 128]) (rest := []) ⟨hx, hb, hml, hown, hts⟩ (C_J7_fill_53178 l dC dI cI cZ cP N0 tO hF 64 ff 128 (by omega)) (va_cwS 2 hts gX3_foretellFlat_J7_fill_53178 rfl rfl rfl (by decide +kernel) ⟨Nat.le_of_ble_eq_true rfl, Nat.le_of_ble_eq_true rfl⟩) ⟨Gv.blind, Gv.of (hE.S hS hAN) ⟨(hP.sub [2] rfl), hN.sub [2] (by decide) rfl⟩⟩ rfl rfl hl.1 rfl (lv_room (Nat.le_of_ble_eq_true rfl)) dX3_foretellFlat_66 ⟨Nat.le_of_ble_eq_true rfl, Nat.le_of_ble_eq_true rfl⟩) hS (fun q _ h => inL_sub [0] rfl q h) (inL_sub [0] rfl) (fun u t H locs ht hvm hw hB hz1 hk1 hS => ?_)
    rw [ht] at hB
    have hP := va_back (L := [hF]) hP hN rfl [2] rfl rfl (fun q h1 h2 => hk1 q h1 h2) hB
    clear hB hk1 hz1 hvm ht t
    have hP : va_P (dC, dI) vwCl [(h0, .inr (3, [.ref hA, .ref hQ, .ref hM, .ref hF])), (hM, .inl (cI, 768, .inl fm)), (hF, .inl (cI, 64, .inl (fun _ => 128)))] H := hP
    have hw : True := hw
    have hwr_2 := hw
    have hfl : 128 = flatF fm b := (by rw [flatF, if_pos hb4])
    rw [hfl] at hP
    have hP : va_P (dC, dI) vwCl [(h0, .inr (3, [.ref hA, .ref hQ, .ref hM, .ref hF])), (hM, .inl (cI, 768, .inl fm)), (hF, .inl (cI, 64, .inl (fun _ => flatF fm b)))] H := hP
    exact W.vret hx hb hr (fun t ht hW => ⟨⟨(), rfl, trivial, by show va_P _ _ _ t.heap; rw [ht]; exact hP.sub [2] rfl⟩, hS.F ht⟩) hS.2.2 dX3_foretellFlat_69
  · skip
    have hb4 := isFB_f hr_1 c8
    refine lv_iload_n hx hb dX3_foretellFlat_11 rfl (lv_at hl 2 rfl) ?_
    refine vp_callSi (va_Run.run (va_runSN (As := [.int (nI b)]) (rest := []) ⟨hx, hb, hml, hown, hts⟩ (C_X5_firstPointOf l dC dI cI cZ cP N0 tO b (by omega)) ⟨va_cnB 1 hts gX3_foretellFlat_X5_firstPointOf_n49 rfl rfl rfl hNS.2.2.2.2.1.2.1 (hts (.initialized RX5) (List.mem_of_getElem? (i := 4) (by decide +kernel))) (by decide +kernel) ⟨Nat.le_of_ble_eq_true rfl, Nat.le_of_ble_eq_true rfl⟩, (hts (.static yX5_firstPointOf) (List.mem_of_getElem? (i := 6) (by decide +kernel))), trivial⟩ ⟨Gv.blind, Gv.of (hE.S hS hAN) trivial⟩ rfl rfl hl.1 rfl (lv_room (Nat.le_of_ble_eq_true rfl)) dX3_foretellFlat_12 ⟨Nat.le_of_ble_eq_true rfl, Nat.le_of_ble_eq_true rfl⟩)) (fun r_3 hr_3 => ?_)
    have hr_3 : r_3 = nI (b / 4 * 8 * 32 + b % 4 * 8) := hr_3
    refine lv_topr hr_3 ?_
    refine lv_iconst (v := 1) hx hb dX3_foretellFlat_15 (by decide) ?_
    refine lv_isub hx hb dX3_foretellFlat_16 ?_
    refine lv_topr (show _ = nI ((b / 4 * 8 * 32 + b % 4 * 8) - 1) from pk_sub (a := (b / 4 * 8 * 32 + b % 4 * 8)) (b := 1) (by omega)) ?_
    refine lv_istore_n (lv' := [(3, .int (nI ((b / 4 * 8 * 32 + b % 4 * 8) - 1))), (2, .int 128), (0, .ref h0), (1, .int (nI b))]) hx hb dX3_foretellFlat_17 rfl hl (by decide) rfl (fun ls hl => ?_)
    refine lv_iconst (v := 0) hx hb dX3_foretellFlat_18 (by decide) ?_
    refine lv_istore (lv' := [(4, .int 0), (3, .int (nI ((b / 4 * 8 * 32 + b % 4 * 8) - 1))), (2, .int 128), (0, .ref h0), (1, .int (nI b))]) hx hb dX3_foretellFlat_19 hl (by decide) rfl (fun ls hl => ?_)
    refine lv_iconst (v := 0) hx hb dX3_foretellFlat_21 (by decide) ?_
    refine lv_istore (lv' := [(5, .int 0), (4, .int 0), (3, .int (nI ((b / 4 * 8 * 32 + b % 4 * 8) - 1))), (2, .int 128), (0, .ref h0), (1, .int (nI b))]) hx hb dX3_foretellFlat_22 hl (by decide) rfl (fun ls hl => ?_)
    have L24 : ∀ (n24 : Nat) (i : Nat) (x4 : Int32), (i ≤ 8) → 8 - i < n24 → x4 = (colF fm (b / 4 * 8 * 32 + b % 4 * 8 - 1) i) → ∀ (H : Heap) (locs : List Loc) (ls : Array Slot), va_P (dC, dI) vwCl [(h0, .inr (3, [.ref hA, .ref hQ, .ref hM, .ref hF])), (hM, .inl (cI, 768, .inl fm)), (hF, .inl (cI, 64, .inl ff))] H → va_S (inL [hF]) s.heap H locs → lv_has ls 6 [(5, .int (nI i)), (4, .int x4), (3, .int (nI ((b / 4 * 8 * 32 + b % 4 * 8) - 1))), (2, .int 128), (0, .ref h0), (1, .int (nI b))] → W p l e (headSpec wsX3_foretellFlat ({ frames := 1, cells := 0, slots := 0, locals := 23 } : Room)).room s m ([.ref h0, .int (nI b)] : List Value).toArray below meth c H locs 0 0 (MQ below (va_Qv (fun (_ : Unit) => True) (fun (_ : Unit) (t : State) => va_P (dC, dI) vwCl [(hF, .inl (cI, 64, .inl (fun _ => flatF fm b)))] t.heap) (inL [hF])) ([.ref h0, .int (nI b)] : List Value).toArray s 0 0 (inL [hF])) (F0 m 24 ls []) := by
      intro n24
      induction n24 with
      | zero => intro i x4 hi hz; exact absurd hz (Nat.not_lt_zero _)
      | succ n24 ih24 =>
        intro i x4 hi hfu ex4 H locs ls hP hS hl
        refine lv_iload hx hb dX3_foretellFlat_24 (lv_at hl 0 rfl) ?_
        refine lv_bipush (v := 8) hx hb dX3_foretellFlat_26 (by decide +kernel) ?_
        refine lv_icmp_ge (tgt := 54) hx hb dX3_foretellFlat_28 (by decide) (fun c28 => ?_) (fun c28 => ?_)
        · skip
          have c28 : 8 ≤ i := (nI_leI (a := 8) (b := i) (by omega) (by omega)).mp c28
          obtain rfl : i = 8 := by omega
          refine lv_iload hx hb dX3_foretellFlat_54 (lv_at hl 1 rfl) ?_
          refine lv_iconst (v := 4) hx hb dX3_foretellFlat_56 (by decide) ?_
          refine lv_iadd hx hb dX3_foretellFlat_57 ?_
          refine lv_iconst (v := 3) hx hb dX3_foretellFlat_58 (by decide) ?_
          refine lv_ishr hx hb dX3_foretellFlat_59 ?_
          refine lv_topi (fun x_4 ex_4 => ?_)
          refine lv_istore_n (lv' := [(2, .int x_4), (5, .int (nI 8)), (4, .int x4), (3, .int (nI ((b / 4 * 8 * 32 + b % 4 * 8) - 1))), (0, .ref h0), (1, .int (nI b))]) hx hb dX3_foretellFlat_60 rfl hl (by decide) rfl (fun ls hl => ?_)
          refine lv_aload_n hx hb dX3_foretellFlat_61 rfl (lv_at hl 4 rfl) ?_
          refine va_get (D := (dC, dI)) (ci := 3) (v := .ref hF) (C := RX3) (T := TX3) (N := 4) hx hb hts hinX3 hown hK hP 0 rfl rfl 3 (by decide) (hts (.fieldLink RX3 21 "GreyReel$Studio" "foretold" "[I") (List.mem_of_getElem? (i := 2) (by decide +kernel))) (fun _ h9 => h9) rfl dX3_foretellFlat_62 ?_
          refine lv_iload_n hx hb dX3_foretellFlat_65 rfl (lv_at hl 0 rfl) ?_
          refine va_callv (va_runS (As := [.ref hF, .int x_4]) (rest := []) ⟨hx, hb, hml, hown, hts⟩ (C_J7_fill_53178 l dC dI cI cZ cP N0 tO hF 64 ff x_4 (by omega)) (va_cwS 2 hts gX3_foretellFlat_J7_fill_53178 rfl rfl rfl (by decide +kernel) ⟨Nat.le_of_ble_eq_true rfl, Nat.le_of_ble_eq_true rfl⟩) ⟨Gv.blind, Gv.of (hE.S hS hAN) ⟨(hP.sub [2] rfl), hN.sub [2] (by decide) rfl⟩⟩ rfl rfl hl.1 rfl (lv_room (Nat.le_of_ble_eq_true rfl)) dX3_foretellFlat_66 ⟨Nat.le_of_ble_eq_true rfl, Nat.le_of_ble_eq_true rfl⟩) hS (fun q _ h => inL_sub [0] rfl q h) (inL_sub [0] rfl) (fun u t H locs ht hvm hw hB hz1 hk1 hS => ?_)
          rw [ht] at hB
          have hP := va_back (L := [hF]) hP hN rfl [2] rfl rfl (fun q h1 h2 => hk1 q h1 h2) hB
          clear hB hk1 hz1 hvm ht t
          have hP : va_P (dC, dI) vwCl [(h0, .inr (3, [.ref hA, .ref hQ, .ref hM, .ref hF])), (hM, .inl (cI, 768, .inl fm)), (hF, .inl (cI, 64, .inl (fun _ => x_4)))] H := hP
          have hw : True := hw
          have hwr_5 := hw
          have hfl : x_4 = flatF fm b := (by rw [ex_4, ex4, flatF, if_neg hb4])
          rw [hfl] at hP
          have hP : va_P (dC, dI) vwCl [(h0, .inr (3, [.ref hA, .ref hQ, .ref hM, .ref hF])), (hM, .inl (cI, 768, .inl fm)), (hF, .inl (cI, 64, .inl (fun _ => flatF fm b)))] H := hP
          exact W.vret hx hb hr (fun t ht hW => ⟨⟨(), rfl, trivial, by show va_P _ _ _ t.heap; rw [ht]; exact hP.sub [2] rfl⟩, hS.F ht⟩) hS.2.2 dX3_foretellFlat_69
        · skip
          have c28 : ¬ 8 ≤ i := fun z => c28 ((nI_leI (a := 8) (b := i) (by omega) (by omega)).mpr z)
          refine lv_iload hx hb dX3_foretellFlat_31 (lv_at hl 1 rfl) ?_
          refine lv_aload_n hx hb dX3_foretellFlat_33 rfl (lv_at hl 4 rfl) ?_
          refine va_get (D := (dC, dI)) (ci := 3) (v := .ref hM) (C := RX3) (T := TX3) (N := 4) hx hb hts hinX3 hown hK hP 0 rfl rfl 2 (by decide) (hts (.fieldLink RX3 18 "GreyReel$Studio" "made" "[I") (List.mem_of_getElem? (i := 1) (by decide +kernel))) (fun _ h9 => h9) rfl dX3_foretellFlat_34 ?_
          refine lv_iload_n hx hb dX3_foretellFlat_37 rfl (lv_at hl 2 rfl) ?_
          refine lv_iload hx hb dX3_foretellFlat_38 (lv_at hl 0 rfl) ?_
          refine lv_bipush (v := 32) hx hb dX3_foretellFlat_40 (by decide +kernel) ?_
          refine lv_imul hx hb dX3_foretellFlat_42 ?_
          refine lv_topr (show _ = nI (i * 32) from pk_mul i 32) ?_
          refine lv_iadd hx hb dX3_foretellFlat_43 ?_
          refine lv_topr (show _ = nI (((b / 4 * 8 * 32 + b % 4 * 8) - 1) + (i * 32)) from nI_add ((b / 4 * 8 * 32 + b % 4 * 8) - 1) (i * 32)) ?_
          refine wa_iald (D := (dC, dI)) (i := (((b / 4 * 8 * 32 + b % 4 * 8) - 1) + (i * 32))) (f := fm) hx hb hK hP 1 0 rfl rfl (by omega) (by omega) dX3_foretellFlat_44 ?_
          refine lv_iadd hx hb dX3_foretellFlat_45 ?_
          refine lv_topi (fun x_6 ex_6 => ?_)
          refine lv_istore (lv' := [(4, .int x_6), (5, .int (nI i)), (3, .int (nI ((b / 4 * 8 * 32 + b % 4 * 8) - 1))), (2, .int 128), (0, .ref h0), (1, .int (nI b))]) hx hb dX3_foretellFlat_46 hl (by decide) rfl (fun ls hl => ?_)
          refine lv_iinc (v := nI (i + 1)) (lv' := [(5, .int (nI (i + 1))), (4, .int x_6), (3, .int (nI ((b / 4 * 8 * 32 + b % 4 * 8) - 1))), (2, .int 128), (0, .ref h0), (1, .int (nI b))]) hx hb dX3_foretellFlat_48 hl (k := 1) rfl (show nI i + Int32.ofInt 1 = nI (i + 1) from nI_add _ _) (by decide) rfl (fun ls hl => ?_)
          refine lv_goto (tgt := 24) hx hb dX3_foretellFlat_51 (by decide) ?_
          exact ih24 (i + 1) x_6 (by omega) (by omega) (by rw [ex_6, ex4] <;> rfl) _ _ _ hP hS (lv_sub hl [0, 1, 2, 3, 4, 5] rfl)
    exact L24 (8 + 1) 0 0 (by omega) (Nat.lt_succ_self _) rfl _ _ _ hP hS (lv_sub hl [0, 1, 2, 3, 4, 5] rfl)
set_option maxHeartbeats 4000000 in
set_option maxRecDepth 100000 in
theorem C_X3_foretellLeft (l : Launch) (dC : Nat → ClassId) (dI : Nat → Nat → Nat) (cI cZ cP : ClassId) (N0 tO : Nat) (h0 hA hQ hM hF : Nat) (fm ff : Nat → Int32) (b : Nat) (h1 : b < 12) (h2 : ¬ b % 4 = 0) : Met l yX3_foretellLeft wsX3_foretellLeft ({ frames := 1, cells := 0, slots := 0, locals := 20 } : Room) (Gv (dC, dI) cI cZ cP N0 tO [.ref h0, .int (nI b)] (fun H => va_P (dC, dI) vwCl [(h0, .inr (3, [.ref hA, .ref hQ, .ref hM, .ref hF])), (hM, .inl (cI, 768, .inl fm)), (hF, .inl (cI, 64, .inl ff))] H ∧ AD N0 [h0, hM, hF])) (va_Qv (fun (_ : Unit) => True) (fun (_ : Unit) (t : State) => va_P (dC, dI) vwCl [(hF, .inl (cI, 64, .inl (lfF fm b)))] t.heap) (inL [hF])) 0 0 (inL [hF]) := by
  refine Met.ofW (cc := cX3_foretellLeft) (maxL := 4) (ret := none) (by decide) rfl ?_
  intro p e s m args below meth c s₁ B hml hv
  obtain ⟨rfl, hE, hP, hN⟩ := hv
  have hx := B.exec
  have hb := B.bytes
  have hr := B.returns
  have hts := atoms_spec (ws := wsX3_foretellLeft) B.pre
  have hown : s.vm.findClass RX3 = some m.cls := findClass_of_methodNamed B.named
  have hlocks := B.notSynchronized
  have hK := hE.1
  have hNS := hE.2.1
  have hS : va_S (inL [hF]) s.heap s.heap [] := va_S.rf
  have hAN : ∀ q : Nat, (inL [hF]) q → N0 ≤ q := fun q h => hN.in [2] rfl q h
  have hP : va_P (dC, dI) vwCl [(h0, .inr (3, [.ref hA, .ref hQ, .ref hM, .ref hF])), (hM, .inl (cI, 768, .inl fm)), (hF, .inl (cI, 64, .inl ff))] s.heap := hP
  have hinX3 : ∀ w ∈ wsX30, w ∈ wsX3_foretellLeft := by decide +kernel
  have hl := lv_entry ([.ref h0, .int (nI b)]) (n := 4) (Nat.le_of_ble_eq_true rfl)
  rw [lg_entry_eq]
  generalize (lg_sl ([.ref h0, .int (nI b)]) ++ List.replicate (4 - (lg_sl ([.ref h0, .int (nI b)])).length) Slot.unset).toArray = ls at hl ⊢
  have hl : lv_has ls 4 [(0, .ref h0), (1, .int (nI b))] := hl
  refine lv_iload_n hx hb dX3_foretellLeft_0 rfl (lv_at hl 1 rfl) ?_
  refine vp_callSi (va_Run.run (va_runSN (As := [.int (nI b)]) (rest := []) ⟨hx, hb, hml, hown, hts⟩ (C_X5_isFirstOfBand l dC dI cI cZ cP N0 tO b (by omega)) ⟨va_cnB 1 hts gX3_foretellLeft_X5_isFirstOfBand_n58 rfl rfl rfl hNS.2.2.2.2.1.2.2.1 (hts (.initialized RX5) (List.mem_of_getElem? (i := 4) (by decide +kernel))) (by decide +kernel) ⟨Nat.le_of_ble_eq_true rfl, Nat.le_of_ble_eq_true rfl⟩, (hts (.static yX5_isFirstOfBand) (List.mem_of_getElem? (i := 3) (by decide +kernel))), trivial⟩ ⟨Gv.blind, Gv.of (hE.S hS hAN) trivial⟩ rfl rfl hl.1 rfl (lv_room (Nat.le_of_ble_eq_true rfl)) dX3_foretellLeft_1 ⟨Nat.le_of_ble_eq_true rfl, Nat.le_of_ble_eq_true rfl⟩)) (fun r_1 hr_1 => ?_)
  have hr_1 : r_1 = isFB b := hr_1
  refine lv_if_eq (tgt := 8) hx hb dX3_foretellLeft_4 (by decide) (fun c4 => ?_) (fun c4 => ?_)
  · skip
    refine lv_iload_n hx hb dX3_foretellLeft_8 rfl (lv_at hl 1 rfl) ?_
    refine vp_callSi (va_Run.run (va_runSN (As := [.int (nI b)]) (rest := []) ⟨hx, hb, hml, hown, hts⟩ (C_X5_firstPointOf l dC dI cI cZ cP N0 tO b (by omega)) ⟨va_cnB 1 hts gX3_foretellLeft_X5_firstPointOf_n49 rfl rfl rfl hNS.2.2.2.2.1.2.1 (hts (.initialized RX5) (List.mem_of_getElem? (i := 4) (by decide +kernel))) (by decide +kernel) ⟨Nat.le_of_ble_eq_true rfl, Nat.le_of_ble_eq_true rfl⟩, (hts (.static yX5_firstPointOf) (List.mem_of_getElem? (i := 6) (by decide +kernel))), trivial⟩ ⟨Gv.blind, Gv.of (hE.S hS hAN) trivial⟩ rfl rfl hl.1 rfl (lv_room (Nat.le_of_ble_eq_true rfl)) dX3_foretellLeft_9 ⟨Nat.le_of_ble_eq_true rfl, Nat.le_of_ble_eq_true rfl⟩)) (fun r_2 hr_2 => ?_)
    have hr_2 : r_2 = nI (b / 4 * 8 * 32 + b % 4 * 8) := hr_2
    refine lv_topr hr_2 ?_
    refine lv_iconst (v := 1) hx hb dX3_foretellLeft_12 (by decide) ?_
    refine lv_isub hx hb dX3_foretellLeft_13 ?_
    refine lv_topr (show _ = nI ((b / 4 * 8 * 32 + b % 4 * 8) - 1) from pk_sub (a := (b / 4 * 8 * 32 + b % 4 * 8)) (b := 1) (by omega)) ?_
    refine lv_istore_n (lv' := [(2, .int (nI ((b / 4 * 8 * 32 + b % 4 * 8) - 1))), (0, .ref h0), (1, .int (nI b))]) hx hb dX3_foretellLeft_14 rfl hl (by decide) rfl (fun ls hl => ?_)
    refine lv_iconst (v := 0) hx hb dX3_foretellLeft_15 (by decide) ?_
    refine lv_istore_n (lv' := [(3, .int 0), (2, .int (nI ((b / 4 * 8 * 32 + b % 4 * 8) - 1))), (0, .ref h0), (1, .int (nI b))]) hx hb dX3_foretellLeft_16 rfl hl (by decide) rfl (fun ls hl => ?_)
    have L17 : ∀ (n17 : Nat) (i : Nat) (f1 : Nat → Int32), (i ≤ 64) → 64 - i < n17 → f1 = (fillTo (lfF fm b) ff i) → ∀ (H : Heap) (locs : List Loc) (ls : Array Slot), va_P (dC, dI) vwCl [(h0, .inr (3, [.ref hA, .ref hQ, .ref hM, .ref hF])), (hM, .inl (cI, 768, .inl fm)), (hF, .inl (cI, 64, .inl f1))] H → va_S (inL [hF]) s.heap H locs → lv_has ls 4 [(3, .int (nI i)), (2, .int (nI ((b / 4 * 8 * 32 + b % 4 * 8) - 1))), (0, .ref h0), (1, .int (nI b))] → W p l e (headSpec wsX3_foretellLeft ({ frames := 1, cells := 0, slots := 0, locals := 20 } : Room)).room s m ([.ref h0, .int (nI b)] : List Value).toArray below meth c H locs 0 0 (MQ below (va_Qv (fun (_ : Unit) => True) (fun (_ : Unit) (t : State) => va_P (dC, dI) vwCl [(hF, .inl (cI, 64, .inl (lfF fm b)))] t.heap) (inL [hF])) ([.ref h0, .int (nI b)] : List Value).toArray s 0 0 (inL [hF])) (F0 m 17 ls []) := by
      intro n17
      induction n17 with
      | zero => intro i f1 hi hz; exact absurd hz (Nat.not_lt_zero _)
      | succ n17 ih17 =>
        intro i f1 hi hfu ef1 H locs ls hP hS hl
        refine lv_iload_n hx hb dX3_foretellLeft_17 rfl (lv_at hl 0 rfl) ?_
        refine lv_bipush (v := 64) hx hb dX3_foretellLeft_18 (by decide +kernel) ?_
        refine lv_icmp_ge (tgt := 49) hx hb dX3_foretellLeft_20 (by decide) (fun c20 => ?_) (fun c20 => ?_)
        · skip
          have c20 : 64 ≤ i := (nI_leI (a := 64) (b := i) (by omega) (by omega)).mp c20
          obtain rfl : i = 64 := by omega
          have hP := hP.cong 2 (lfF fm b) rfl (fun k hk => by rw [ef1]; exact fillTo_at _ _ hk)
          have hP : va_P (dC, dI) vwCl [(h0, .inr (3, [.ref hA, .ref hQ, .ref hM, .ref hF])), (hM, .inl (cI, 768, .inl fm)), (hF, .inl (cI, 64, .inl (lfF fm b)))] H := hP
          exact W.vret hx hb hr (fun t ht hW => ⟨⟨(), rfl, trivial, by show va_P _ _ _ t.heap; rw [ht]; exact hP.sub [2] rfl⟩, hS.F ht⟩) hS.2.2 dX3_foretellLeft_49
        · skip
          have c20 : ¬ 64 ≤ i := fun z => c20 ((nI_leI (a := 64) (b := i) (by omega) (by omega)).mpr z)
          refine lv_aload_n hx hb dX3_foretellLeft_23 rfl (lv_at hl 2 rfl) ?_
          refine va_get (D := (dC, dI)) (ci := 3) (v := .ref hF) (C := RX3) (T := TX3) (N := 4) hx hb hts hinX3 hown hK hP 0 rfl rfl 3 (by decide) (hts (.fieldLink RX3 21 "GreyReel$Studio" "foretold" "[I") (List.mem_of_getElem? (i := 1) (by decide +kernel))) (fun _ h9 => h9) rfl dX3_foretellLeft_24 ?_
          refine lv_iload_n hx hb dX3_foretellLeft_27 rfl (lv_at hl 0 rfl) ?_
          refine lv_aload_n hx hb dX3_foretellLeft_28 rfl (lv_at hl 2 rfl) ?_
          refine va_get (D := (dC, dI)) (ci := 3) (v := .ref hM) (C := RX3) (T := TX3) (N := 4) hx hb hts hinX3 hown hK hP 0 rfl rfl 2 (by decide) (hts (.fieldLink RX3 18 "GreyReel$Studio" "made" "[I") (List.mem_of_getElem? (i := 2) (by decide +kernel))) (fun _ h9 => h9) rfl dX3_foretellLeft_29 ?_
          refine lv_iload_n hx hb dX3_foretellLeft_32 rfl (lv_at hl 1 rfl) ?_
          refine lv_iload_n hx hb dX3_foretellLeft_33 rfl (lv_at hl 0 rfl) ?_
          refine lv_bipush (v := 8) hx hb dX3_foretellLeft_34 (by decide +kernel) ?_
          refine lv_idiv hx hb dX3_foretellLeft_36 (by decide) ?_
          refine lv_topr (show _ = nI (i / 8) from pk_div (a := i) (d := 8) (by omega) (by omega) (by omega)) ?_
          refine lv_bipush (v := 32) hx hb dX3_foretellLeft_37 (by decide +kernel) ?_
          refine lv_imul hx hb dX3_foretellLeft_39 ?_
          refine lv_topr (show _ = nI ((i / 8) * 32) from pk_mul (i / 8) 32) ?_
          refine lv_iadd hx hb dX3_foretellLeft_40 ?_
          refine lv_topr (show _ = nI (((b / 4 * 8 * 32 + b % 4 * 8) - 1) + ((i / 8) * 32)) from nI_add ((b / 4 * 8 * 32 + b % 4 * 8) - 1) ((i / 8) * 32)) ?_
          refine wa_iald (D := (dC, dI)) (i := (((b / 4 * 8 * 32 + b % 4 * 8) - 1) + ((i / 8) * 32))) (f := fm) hx hb hK hP 1 0 rfl rfl (by omega) (by omega) dX3_foretellLeft_41 ?_
          refine lv_topi (fun x_3 ex_3 => ?_)
          refine wa_iast (D := (dC, dI)) (i := i) (f := f1) hx hb hK hP (hN.D rfl) hS (List.mem_of_getElem? (i := 0) rfl) 2 0 rfl rfl (by omega) (by omega) dX3_foretellLeft_42 (fun H locs hP hS => ?_)
          obtain ⟨f_4, ef_4⟩ : ∃ z, z = upd f1 i x_3 := ⟨_, rfl⟩
          rw [← ef_4] at hP
          have hP : va_P (dC, dI) vwCl [(h0, .inr (3, [.ref hA, .ref hQ, .ref hM, .ref hF])), (hM, .inl (cI, 768, .inl fm)), (hF, .inl (cI, 64, .inl f_4))] H := hP
          refine lv_iinc (v := nI (i + 1)) (lv' := [(3, .int (nI (i + 1))), (2, .int (nI ((b / 4 * 8 * 32 + b % 4 * 8) - 1))), (0, .ref h0), (1, .int (nI b))]) hx hb dX3_foretellLeft_43 hl (k := 0) rfl (show nI i + Int32.ofInt 1 = nI (i + 1) from nI_add _ _) (by decide) rfl (fun ls hl => ?_)
          refine lv_goto (tgt := 17) hx hb dX3_foretellLeft_46 (by decide) ?_
          exact ih17 (i + 1) f_4 (by omega) (by omega) (by rw [ef_4, ex_3, ef1]; exact fillTo_s _ _ _ rfl) _ _ _ hP hS (lv_sub hl [0, 1, 2, 3] rfl)
    exact L17 (64 + 1) 0 ff (by omega) (Nat.lt_succ_self _) (fillTo_0 _ _).symm _ _ _ hP hS (lv_sub hl [0, 1, 2, 3] rfl)
  · skip
    exact False.elim (h2 (isFB_t hr_1 c4))
set_option maxHeartbeats 4000000 in
set_option maxRecDepth 100000 in
theorem C_X3_foretellTrend (l : Launch) (dC : Nat → ClassId) (dI : Nat → Nat → Nat) (cI cZ cP : ClassId) (N0 tO : Nat) (h0 hA hQ hM hF : Nat) (fm ff : Nat → Int32) (b : Nat) (h1 : b < 12) (h2 : ¬ b % 4 = 0) : Met l yX3_foretellTrend wsX3_foretellTrend ({ frames := 1, cells := 0, slots := 0, locals := 20 } : Room) (Gv (dC, dI) cI cZ cP N0 tO [.ref h0, .int (nI b)] (fun H => va_P (dC, dI) vwCl [(h0, .inr (3, [.ref hA, .ref hQ, .ref hM, .ref hF])), (hM, .inl (cI, 768, .inl fm)), (hF, .inl (cI, 64, .inl ff))] H ∧ AD N0 [h0, hM, hF])) (va_Qv (fun (_ : Unit) => True) (fun (_ : Unit) (t : State) => va_P (dC, dI) vwCl [(hF, .inl (cI, 64, .inl (trF fm b)))] t.heap) (inL [hF])) 0 0 (inL [hF]) := by
  refine Met.ofW (cc := cX3_foretellTrend) (maxL := 6) (ret := none) (by decide) rfl ?_
  intro p e s m args below meth c s₁ B hml hv
  obtain ⟨rfl, hE, hP, hN⟩ := hv
  have hx := B.exec
  have hb := B.bytes
  have hr := B.returns
  have hts := atoms_spec (ws := wsX3_foretellTrend) B.pre
  have hown : s.vm.findClass RX3 = some m.cls := findClass_of_methodNamed B.named
  have hlocks := B.notSynchronized
  have hK := hE.1
  have hNS := hE.2.1
  have hS : va_S (inL [hF]) s.heap s.heap [] := va_S.rf
  have hAN : ∀ q : Nat, (inL [hF]) q → N0 ≤ q := fun q h => hN.in [2] rfl q h
  have hP : va_P (dC, dI) vwCl [(h0, .inr (3, [.ref hA, .ref hQ, .ref hM, .ref hF])), (hM, .inl (cI, 768, .inl fm)), (hF, .inl (cI, 64, .inl ff))] s.heap := hP
  have hinX3 : ∀ w ∈ wsX30, w ∈ wsX3_foretellTrend := by decide +kernel
  have hl := lv_entry ([.ref h0, .int (nI b)]) (n := 6) (Nat.le_of_ble_eq_true rfl)
  rw [lg_entry_eq]
  generalize (lg_sl ([.ref h0, .int (nI b)]) ++ List.replicate (6 - (lg_sl ([.ref h0, .int (nI b)])).length) Slot.unset).toArray = ls at hl ⊢
  have hl : lv_has ls 6 [(0, .ref h0), (1, .int (nI b))] := hl
  refine lv_iload_n hx hb dX3_foretellTrend_0 rfl (lv_at hl 1 rfl) ?_
  refine vp_callSi (va_Run.run (va_runSN (As := [.int (nI b)]) (rest := []) ⟨hx, hb, hml, hown, hts⟩ (C_X5_isFirstOfBand l dC dI cI cZ cP N0 tO b (by omega)) ⟨va_cnB 1 hts gX3_foretellTrend_X5_isFirstOfBand_n58 rfl rfl rfl hNS.2.2.2.2.1.2.2.1 (hts (.initialized RX5) (List.mem_of_getElem? (i := 4) (by decide +kernel))) (by decide +kernel) ⟨Nat.le_of_ble_eq_true rfl, Nat.le_of_ble_eq_true rfl⟩, (hts (.static yX5_isFirstOfBand) (List.mem_of_getElem? (i := 3) (by decide +kernel))), trivial⟩ ⟨Gv.blind, Gv.of (hE.S hS hAN) trivial⟩ rfl rfl hl.1 rfl (lv_room (Nat.le_of_ble_eq_true rfl)) dX3_foretellTrend_1 ⟨Nat.le_of_ble_eq_true rfl, Nat.le_of_ble_eq_true rfl⟩)) (fun r_1 hr_1 => ?_)
  have hr_1 : r_1 = isFB b := hr_1
  refine lv_if_eq (tgt := 8) hx hb dX3_foretellTrend_4 (by decide) (fun c4 => ?_) (fun c4 => ?_)
  · skip
    refine lv_iload_n hx hb dX3_foretellTrend_8 rfl (lv_at hl 1 rfl) ?_
    refine vp_callSi (va_Run.run (va_runSN (As := [.int (nI b)]) (rest := []) ⟨hx, hb, hml, hown, hts⟩ (C_X5_firstPointOf l dC dI cI cZ cP N0 tO b (by omega)) ⟨va_cnB 1 hts gX3_foretellTrend_X5_firstPointOf_n49 rfl rfl rfl hNS.2.2.2.2.1.2.1 (hts (.initialized RX5) (List.mem_of_getElem? (i := 4) (by decide +kernel))) (by decide +kernel) ⟨Nat.le_of_ble_eq_true rfl, Nat.le_of_ble_eq_true rfl⟩, (hts (.static yX5_firstPointOf) (List.mem_of_getElem? (i := 6) (by decide +kernel))), trivial⟩ ⟨Gv.blind, Gv.of (hE.S hS hAN) trivial⟩ rfl rfl hl.1 rfl (lv_room (Nat.le_of_ble_eq_true rfl)) dX3_foretellTrend_9 ⟨Nat.le_of_ble_eq_true rfl, Nat.le_of_ble_eq_true rfl⟩)) (fun r_2 hr_2 => ?_)
    have hr_2 : r_2 = nI (b / 4 * 8 * 32 + b % 4 * 8) := hr_2
    refine lv_topr hr_2 ?_
    refine lv_iconst (v := 1) hx hb dX3_foretellTrend_12 (by decide) ?_
    refine lv_isub hx hb dX3_foretellTrend_13 ?_
    refine lv_topr (show _ = nI ((b / 4 * 8 * 32 + b % 4 * 8) - 1) from pk_sub (a := (b / 4 * 8 * 32 + b % 4 * 8)) (b := 1) (by omega)) ?_
    refine lv_istore_n (lv' := [(2, .int (nI ((b / 4 * 8 * 32 + b % 4 * 8) - 1))), (0, .ref h0), (1, .int (nI b))]) hx hb dX3_foretellTrend_14 rfl hl (by decide) rfl (fun ls hl => ?_)
    refine lv_iconst (v := 0) hx hb dX3_foretellTrend_15 (by decide) ?_
    refine lv_istore_n (lv' := [(3, .int 0), (2, .int (nI ((b / 4 * 8 * 32 + b % 4 * 8) - 1))), (0, .ref h0), (1, .int (nI b))]) hx hb dX3_foretellTrend_16 rfl hl (by decide) rfl (fun ls hl => ?_)
    have L17 : ∀ (n17 : Nat) (i : Nat) (f1 : Nat → Int32), (i ≤ 64) → 64 - i < n17 → f1 = (fillTo (trF fm b) ff i) → ∀ (H : Heap) (locs : List Loc) (ls : Array Slot), va_P (dC, dI) vwCl [(h0, .inr (3, [.ref hA, .ref hQ, .ref hM, .ref hF])), (hM, .inl (cI, 768, .inl fm)), (hF, .inl (cI, 64, .inl f1))] H → va_S (inL [hF]) s.heap H locs → lv_has ls 6 [(3, .int (nI i)), (2, .int (nI ((b / 4 * 8 * 32 + b % 4 * 8) - 1))), (0, .ref h0), (1, .int (nI b))] → W p l e (headSpec wsX3_foretellTrend ({ frames := 1, cells := 0, slots := 0, locals := 20 } : Room)).room s m ([.ref h0, .int (nI b)] : List Value).toArray below meth c H locs 0 0 (MQ below (va_Qv (fun (_ : Unit) => True) (fun (_ : Unit) (t : State) => va_P (dC, dI) vwCl [(hF, .inl (cI, 64, .inl (trF fm b)))] t.heap) (inL [hF])) ([.ref h0, .int (nI b)] : List Value).toArray s 0 0 (inL [hF])) (F0 m 17 ls []) := by
      intro n17
      induction n17 with
      | zero => intro i f1 hi hz; exact absurd hz (Nat.not_lt_zero _)
      | succ n17 ih17 =>
        intro i f1 hi hfu ef1 H locs ls hP hS hl
        refine lv_iload_n hx hb dX3_foretellTrend_17 rfl (lv_at hl 0 rfl) ?_
        refine lv_bipush (v := 64) hx hb dX3_foretellTrend_18 (by decide +kernel) ?_
        refine lv_icmp_ge (tgt := 89) hx hb dX3_foretellTrend_20 (by decide) (fun c20 => ?_) (fun c20 => ?_)
        · skip
          have c20 : 64 ≤ i := (nI_leI (a := 64) (b := i) (by omega) (by omega)).mp c20
          obtain rfl : i = 64 := by omega
          have hP := hP.cong 2 (trF fm b) rfl (fun k hk => by rw [ef1]; exact fillTo_at _ _ hk)
          have hP : va_P (dC, dI) vwCl [(h0, .inr (3, [.ref hA, .ref hQ, .ref hM, .ref hF])), (hM, .inl (cI, 768, .inl fm)), (hF, .inl (cI, 64, .inl (trF fm b)))] H := hP
          exact W.vret hx hb hr (fun t ht hW => ⟨⟨(), rfl, trivial, by show va_P _ _ _ t.heap; rw [ht]; exact hP.sub [2] rfl⟩, hS.F ht⟩) hS.2.2 dX3_foretellTrend_89
        · skip
          have c20 : ¬ 64 ≤ i := fun z => c20 ((nI_leI (a := 64) (b := i) (by omega) (by omega)).mpr z)
          refine lv_aload_n hx hb dX3_foretellTrend_23 rfl (lv_at hl 2 rfl) ?_
          refine va_get (D := (dC, dI)) (ci := 3) (v := .ref hM) (C := RX3) (T := TX3) (N := 4) hx hb hts hinX3 hown hK hP 0 rfl rfl 2 (by decide) (hts (.fieldLink RX3 18 "GreyReel$Studio" "made" "[I") (List.mem_of_getElem? (i := 1) (by decide +kernel))) (fun _ h9 => h9) rfl dX3_foretellTrend_24 ?_
          refine lv_iload_n hx hb dX3_foretellTrend_27 rfl (lv_at hl 1 rfl) ?_
          refine lv_iload_n hx hb dX3_foretellTrend_28 rfl (lv_at hl 0 rfl) ?_
          refine lv_bipush (v := 8) hx hb dX3_foretellTrend_29 (by decide +kernel) ?_
          refine lv_idiv hx hb dX3_foretellTrend_31 (by decide) ?_
          refine lv_topr (show _ = nI (i / 8) from pk_div (a := i) (d := 8) (by omega) (by omega) (by omega)) ?_
          refine lv_bipush (v := 32) hx hb dX3_foretellTrend_32 (by decide +kernel) ?_
          refine lv_imul hx hb dX3_foretellTrend_34 ?_
          refine lv_topr (show _ = nI ((i / 8) * 32) from pk_mul (i / 8) 32) ?_
          refine lv_iadd hx hb dX3_foretellTrend_35 ?_
          refine lv_topr (show _ = nI (((b / 4 * 8 * 32 + b % 4 * 8) - 1) + ((i / 8) * 32)) from nI_add ((b / 4 * 8 * 32 + b % 4 * 8) - 1) ((i / 8) * 32)) ?_
          refine wa_iald (D := (dC, dI)) (i := (((b / 4 * 8 * 32 + b % 4 * 8) - 1) + ((i / 8) * 32))) (f := fm) hx hb hK hP 1 0 rfl rfl (by omega) (by omega) dX3_foretellTrend_36 ?_
          refine lv_topi (fun x_3 ex_3 => ?_)
          refine lv_istore (lv' := [(4, .int x_3), (3, .int (nI i)), (2, .int (nI ((b / 4 * 8 * 32 + b % 4 * 8) - 1))), (0, .ref h0), (1, .int (nI b))]) hx hb dX3_foretellTrend_37 hl (by decide) rfl (fun ls hl => ?_)
          refine lv_aload_n hx hb dX3_foretellTrend_39 rfl (lv_at hl 3 rfl) ?_
          refine va_get (D := (dC, dI)) (ci := 3) (v := .ref hM) (C := RX3) (T := TX3) (N := 4) hx hb hts hinX3 hown hK hP 0 rfl rfl 2 (by decide) (hts (.fieldLink RX3 18 "GreyReel$Studio" "made" "[I") (List.mem_of_getElem? (i := 1) (by decide +kernel))) (fun _ h9 => h9) rfl dX3_foretellTrend_40 ?_
          refine lv_iload_n hx hb dX3_foretellTrend_43 rfl (lv_at hl 2 rfl) ?_
          refine lv_iload_n hx hb dX3_foretellTrend_44 rfl (lv_at hl 1 rfl) ?_
          refine lv_bipush (v := 8) hx hb dX3_foretellTrend_45 (by decide +kernel) ?_
          refine lv_idiv hx hb dX3_foretellTrend_47 (by decide) ?_
          refine lv_topr (show _ = nI (i / 8) from pk_div (a := i) (d := 8) (by omega) (by omega) (by omega)) ?_
          refine lv_bipush (v := 32) hx hb dX3_foretellTrend_48 (by decide +kernel) ?_
          refine lv_imul hx hb dX3_foretellTrend_50 ?_
          refine lv_topr (show _ = nI ((i / 8) * 32) from pk_mul (i / 8) 32) ?_
          refine lv_iadd hx hb dX3_foretellTrend_51 ?_
          refine lv_topr (show _ = nI (((b / 4 * 8 * 32 + b % 4 * 8) - 1) + ((i / 8) * 32)) from nI_add ((b / 4 * 8 * 32 + b % 4 * 8) - 1) ((i / 8) * 32)) ?_
          refine lv_iconst (v := 4) hx hb dX3_foretellTrend_52 (by decide) ?_
          refine lv_isub hx hb dX3_foretellTrend_53 ?_
          refine lv_topr (show _ = nI ((((b / 4 * 8 * 32 + b % 4 * 8) - 1) + ((i / 8) * 32)) - 4) from pk_sub (a := (((b / 4 * 8 * 32 + b % 4 * 8) - 1) + ((i / 8) * 32))) (b := 4) (by omega)) ?_
          refine wa_iald (D := (dC, dI)) (i := ((((b / 4 * 8 * 32 + b % 4 * 8) - 1) + ((i / 8) * 32)) - 4)) (f := fm) hx hb hK hP 1 0 rfl rfl (by omega) (by omega) dX3_foretellTrend_54 ?_
          refine lv_topi (fun x_4 ex_4 => ?_)
          refine lv_istore (lv' := [(5, .int x_4), (4, .int x_3), (3, .int (nI i)), (2, .int (nI ((b / 4 * 8 * 32 + b % 4 * 8) - 1))), (0, .ref h0), (1, .int (nI b))]) hx hb dX3_foretellTrend_55 hl (by decide) rfl (fun ls hl => ?_)
          refine lv_aload_n hx hb dX3_foretellTrend_57 rfl (lv_at hl 4 rfl) ?_
          refine va_get (D := (dC, dI)) (ci := 3) (v := .ref hF) (C := RX3) (T := TX3) (N := 4) hx hb hts hinX3 hown hK hP 0 rfl rfl 3 (by decide) (hts (.fieldLink RX3 21 "GreyReel$Studio" "foretold" "[I") (List.mem_of_getElem? (i := 2) (by decide +kernel))) (fun _ h9 => h9) rfl dX3_foretellTrend_58 ?_
          refine lv_iload_n hx hb dX3_foretellTrend_61 rfl (lv_at hl 2 rfl) ?_
          refine lv_iload hx hb dX3_foretellTrend_62 (lv_at hl 1 rfl) ?_
          refine lv_iload hx hb dX3_foretellTrend_64 (lv_at hl 1 rfl) ?_
          refine lv_iload hx hb dX3_foretellTrend_66 (lv_at hl 0 rfl) ?_
          refine lv_isub hx hb dX3_foretellTrend_68 ?_
          refine lv_iload_n hx hb dX3_foretellTrend_69 rfl (lv_at hl 2 rfl) ?_
          refine lv_bipush (v := 8) hx hb dX3_foretellTrend_70 (by decide +kernel) ?_
          refine lv_irem hx hb dX3_foretellTrend_72 (by decide) ?_
          refine lv_topr (show _ = nI (i % 8) from pk_rem (a := i) (d := 8) (by omega) (by omega) (by omega)) ?_
          refine lv_iconst (v := 1) hx hb dX3_foretellTrend_73 (by decide) ?_
          refine lv_iadd hx hb dX3_foretellTrend_74 ?_
          refine lv_topr (show _ = nI ((i % 8) + 1) from nI_add (i % 8) 1) ?_
          refine lv_imul hx hb dX3_foretellTrend_75 ?_
          refine lv_iconst (v := 2) hx hb dX3_foretellTrend_76 (by decide) ?_
          refine lv_ishr hx hb dX3_foretellTrend_77 ?_
          refine lv_iadd hx hb dX3_foretellTrend_78 ?_
          refine vp_callSi (va_Run.run (va_runSN (As := [.int (x_3 + (((x_3 - x_4) * (nI ((i % 8) + 1))) >>> (2 &&& 31)))]) (rest := [.int (nI i), .ref hF]) ⟨hx, hb, hml, hown, hts⟩ (C_X5_clip l dC dI cI cZ cP N0 tO (x_3 + (((x_3 - x_4) * (nI ((i % 8) + 1))) >>> (2 &&& 31))) ) ⟨va_cnB 1 hts gX3_foretellTrend_X5_clip_n68 rfl rfl rfl hNS.2.2.2.2.1.2.2.2 (hts (.initialized RX5) (List.mem_of_getElem? (i := 4) (by decide +kernel))) (by decide +kernel) ⟨Nat.le_of_ble_eq_true rfl, Nat.le_of_ble_eq_true rfl⟩, (hts (.static yX5_clip) (List.mem_of_getElem? (i := 8) (by decide +kernel))), trivial⟩ ⟨Gv.blind, Gv.of (hE.S hS hAN) trivial⟩ rfl rfl hl.1 rfl (lv_room (Nat.le_of_ble_eq_true rfl)) dX3_foretellTrend_79 ⟨Nat.le_of_ble_eq_true rfl, Nat.le_of_ble_eq_true rfl⟩)) (fun r_5 hr_5 => ?_)
          have hr_5 : r_5 = clipI (x_3 + (((x_3 - x_4) * (nI ((i % 8) + 1))) >>> (2 &&& 31))) := hr_5
          refine wa_iast (D := (dC, dI)) (i := i) (f := f1) hx hb hK hP (hN.D rfl) hS (List.mem_of_getElem? (i := 0) rfl) 2 0 rfl rfl (by omega) (by omega) dX3_foretellTrend_82 (fun H locs hP hS => ?_)
          obtain ⟨f_6, ef_6⟩ : ∃ z, z = upd f1 i r_5 := ⟨_, rfl⟩
          rw [← ef_6] at hP
          have hP : va_P (dC, dI) vwCl [(h0, .inr (3, [.ref hA, .ref hQ, .ref hM, .ref hF])), (hM, .inl (cI, 768, .inl fm)), (hF, .inl (cI, 64, .inl f_6))] H := hP
          refine lv_iinc (v := nI (i + 1)) (lv' := [(3, .int (nI (i + 1))), (5, .int x_4), (4, .int x_3), (2, .int (nI ((b / 4 * 8 * 32 + b % 4 * 8) - 1))), (0, .ref h0), (1, .int (nI b))]) hx hb dX3_foretellTrend_83 hl (k := 2) rfl (show nI i + Int32.ofInt 1 = nI (i + 1) from nI_add _ _) (by decide) rfl (fun ls hl => ?_)
          refine lv_goto (tgt := 17) hx hb dX3_foretellTrend_86 (by decide) ?_
          exact ih17 (i + 1) f_6 (by omega) (by omega) (by rw [ef_6, hr_5, ex_4, ex_3, ef1]; exact fillTo_s _ _ _ rfl) _ _ _ hP hS (lv_sub hl [0, 3, 4, 5] rfl)
    exact L17 (64 + 1) 0 ff (by omega) (Nat.lt_succ_self _) (fillTo_0 _ _).symm _ _ _ hP hS (lv_sub hl [0, 1, 2, 3] rfl)
  · skip
    exact False.elim (h2 (isFB_t hr_1 c4))
set_option maxHeartbeats 4000000 in
set_option maxRecDepth 100000 in
theorem C_X3_foretell (l : Launch) (dC : Nat → ClassId) (dI : Nat → Nat → Nat) (cI cZ cP : ClassId) (N0 tO : Nat) (h0 hA hQ hM hF : Nat) (fa fm ff : Nat → Int32) (kd b : Nat) (vx vy : Int32) (h1 : b < 12) (hkd : kd < 5) (h2 : 3 ≤ kd → ¬ b % 4 = 0) (hvx : vOK vx) (hvy : vOK vy) : Met l yX3_foretell wsX3_foretell ({ frames := 2, cells := 0, slots := 0, locals := 55 } : Room) (Gv (dC, dI) cI cZ cP N0 tO [.ref h0, .int (nI kd), .int (nI b), .int vx, .int vy] (fun H => va_P (dC, dI) vwCl [(h0, .inr (3, [.ref hA, .ref hQ, .ref hM, .ref hF])), (hA, .inl (cI, 1140, .inl fa)), (hM, .inl (cI, 768, .inl fm)), (hF, .inl (cI, 64, .inl ff))] H ∧ AD N0 [h0, hA, hM, hF])) (va_Qv (fun (_ : Unit) => True) (fun (_ : Unit) (t : State) => va_P (dC, dI) vwCl [(hF, .inl (cI, 64, .inl (ftF kd b vx vy fa fm)))] t.heap) (inL [hF])) 0 0 (inL [hF]) := by
  refine Met.ofW (cc := cX3_foretell) (maxL := 5) (ret := none) (by decide) rfl ?_
  intro p e s m args below meth c s₁ B hml hv
  obtain ⟨rfl, hE, hP, hN⟩ := hv
  have hx := B.exec
  have hb := B.bytes
  have hr := B.returns
  have hts := atoms_spec (ws := wsX3_foretell) B.pre
  have hown : s.vm.findClass RX3 = some m.cls := findClass_of_methodNamed B.named
  have hlocks := B.notSynchronized
  have hK := hE.1
  have hNS := hE.2.1
  have hS : va_S (inL [hF]) s.heap s.heap [] := va_S.rf
  have hAN : ∀ q : Nat, (inL [hF]) q → N0 ≤ q := fun q h => hN.in [3] rfl q h
  have hP : va_P (dC, dI) vwCl [(h0, .inr (3, [.ref hA, .ref hQ, .ref hM, .ref hF])), (hA, .inl (cI, 1140, .inl fa)), (hM, .inl (cI, 768, .inl fm)), (hF, .inl (cI, 64, .inl ff))] s.heap := hP
  have hl := lv_entry ([.ref h0, .int (nI kd), .int (nI b), .int vx, .int vy]) (n := 5) (Nat.le_of_ble_eq_true rfl)
  rw [lg_entry_eq]
  generalize (lg_sl ([.ref h0, .int (nI kd), .int (nI b), .int vx, .int vy]) ++ List.replicate (5 - (lg_sl ([.ref h0, .int (nI kd), .int (nI b), .int vx, .int vy])).length) Slot.unset).toArray = ls at hl ⊢
  have hl : lv_has ls 5 [(0, .ref h0), (1, .int (nI kd)), (2, .int (nI b)), (3, .int vx), (4, .int vy)] := hl
  refine lv_iload_n hx hb dX3_foretell_0 rfl (lv_at hl 1 rfl) ?_
  rcases (show kd = 0 ∨ kd = 1 ∨ kd = 2 ∨ kd = 3 ∨ kd = 4 from (by omega)) with hk1 | hk1 | hk1 | hk1 | hk1
  · skip
    refine lv_tableIn (off := 31) (tgt := 32) hx hb dX3_foretell_1 (by rw [hk1]; decide) (by rw [hk1]; decide) (by rw [hk1]; rfl) (by decide) ?_
    refine lv_aload_n hx hb dX3_foretell_32 rfl (lv_at hl 0 rfl) ?_
    refine lv_iload_n hx hb dX3_foretell_33 rfl (lv_at hl 2 rfl) ?_
    refine lv_iload_n hx hb dX3_foretell_34 rfl (lv_at hl 3 rfl) ?_
    refine lv_iload hx hb dX3_foretell_35 (lv_at hl 4 rfl) ?_
    refine va_callv (va_runV (As := [.int (nI b), .int vx, .int vy]) (rest := []) ⟨hx, hb, hml, hown, hts⟩ (C_X3_foretellMoved l dC dI cI cZ cP N0 tO h0 hA hQ hM hF fa ff b vx vy h1 hvx hvy) (cwV 3 hts gX3_foretell_X3_foretellMoved rfl rfl rfl (by decide +kernel) ⟨Nat.le_of_ble_eq_true rfl, Nat.le_of_ble_eq_true rfl⟩) ⟨Gv.blind, va_recv hK hP (ci := 3) (q0 := 0) rfl rfl, Gv.of (hE.S hS hAN) ⟨(hP.sub [0, 1, 3] rfl), hN.sub [0, 1, 3] (by decide) rfl⟩⟩ rfl rfl hl.1 rfl (lv_room (Nat.le_of_ble_eq_true rfl)) dX3_foretell_37 ⟨Nat.le_of_ble_eq_true rfl, Nat.le_of_ble_eq_true rfl⟩) hS (fun q _ h => inL_sub [0] rfl q h) (inL_sub [0] rfl) (fun u t H locs ht hvm hw hB hz1 hk1 hS => ?_)
    rw [ht] at hB
    have hP := va_back (L := [hF]) hP hN rfl [3] rfl rfl (fun q h1 h2 => hk1 q h1 h2) hB
    clear hB hk1 hz1 hvm ht t
    have hP : va_P (dC, dI) vwCl [(h0, .inr (3, [.ref hA, .ref hQ, .ref hM, .ref hF])), (hA, .inl (cI, 1140, .inl fa)), (hM, .inl (cI, 768, .inl fm)), (hF, .inl (cI, 64, .inl (mvF fa b vx vy)))] H := hP
    have hw : True := hw
    have hwr_1 := hw
    refine lv_goto (tgt := 64) hx hb dX3_foretell_40 (by decide) ?_
    have hft : (mvF fa b vx vy) = ftF kd b vx vy fa fm := by rw [hk1]; rfl
    rw [hft] at hP
    have hP : va_P (dC, dI) vwCl [(h0, .inr (3, [.ref hA, .ref hQ, .ref hM, .ref hF])), (hA, .inl (cI, 1140, .inl fa)), (hM, .inl (cI, 768, .inl fm)), (hF, .inl (cI, 64, .inl (ftF kd b vx vy fa fm)))] H := hP
    exact W.vret hx hb hr (fun t ht hW => ⟨⟨(), rfl, trivial, by show va_P _ _ _ t.heap; rw [ht]; exact hP.sub [3] rfl⟩, hS.F ht⟩) hS.2.2 dX3_foretell_64
  · skip
    refine lv_tableIn (off := 31) (tgt := 32) hx hb dX3_foretell_1 (by rw [hk1]; decide) (by rw [hk1]; decide) (by rw [hk1]; rfl) (by decide) ?_
    refine lv_aload_n hx hb dX3_foretell_32 rfl (lv_at hl 0 rfl) ?_
    refine lv_iload_n hx hb dX3_foretell_33 rfl (lv_at hl 2 rfl) ?_
    refine lv_iload_n hx hb dX3_foretell_34 rfl (lv_at hl 3 rfl) ?_
    refine lv_iload hx hb dX3_foretell_35 (lv_at hl 4 rfl) ?_
    refine va_callv (va_runV (As := [.int (nI b), .int vx, .int vy]) (rest := []) ⟨hx, hb, hml, hown, hts⟩ (C_X3_foretellMoved l dC dI cI cZ cP N0 tO h0 hA hQ hM hF fa ff b vx vy h1 hvx hvy) (cwV 3 hts gX3_foretell_X3_foretellMoved rfl rfl rfl (by decide +kernel) ⟨Nat.le_of_ble_eq_true rfl, Nat.le_of_ble_eq_true rfl⟩) ⟨Gv.blind, va_recv hK hP (ci := 3) (q0 := 0) rfl rfl, Gv.of (hE.S hS hAN) ⟨(hP.sub [0, 1, 3] rfl), hN.sub [0, 1, 3] (by decide) rfl⟩⟩ rfl rfl hl.1 rfl (lv_room (Nat.le_of_ble_eq_true rfl)) dX3_foretell_37 ⟨Nat.le_of_ble_eq_true rfl, Nat.le_of_ble_eq_true rfl⟩) hS (fun q _ h => inL_sub [0] rfl q h) (inL_sub [0] rfl) (fun u t H locs ht hvm hw hB hz1 hk1 hS => ?_)
    rw [ht] at hB
    have hP := va_back (L := [hF]) hP hN rfl [3] rfl rfl (fun q h1 h2 => hk1 q h1 h2) hB
    clear hB hk1 hz1 hvm ht t
    have hP : va_P (dC, dI) vwCl [(h0, .inr (3, [.ref hA, .ref hQ, .ref hM, .ref hF])), (hA, .inl (cI, 1140, .inl fa)), (hM, .inl (cI, 768, .inl fm)), (hF, .inl (cI, 64, .inl (mvF fa b vx vy)))] H := hP
    have hw : True := hw
    have hwr_2 := hw
    refine lv_goto (tgt := 64) hx hb dX3_foretell_40 (by decide) ?_
    have hft : (mvF fa b vx vy) = ftF kd b vx vy fa fm := by rw [hk1]; rfl
    rw [hft] at hP
    have hP : va_P (dC, dI) vwCl [(h0, .inr (3, [.ref hA, .ref hQ, .ref hM, .ref hF])), (hA, .inl (cI, 1140, .inl fa)), (hM, .inl (cI, 768, .inl fm)), (hF, .inl (cI, 64, .inl (ftF kd b vx vy fa fm)))] H := hP
    exact W.vret hx hb hr (fun t ht hW => ⟨⟨(), rfl, trivial, by show va_P _ _ _ t.heap; rw [ht]; exact hP.sub [3] rfl⟩, hS.F ht⟩) hS.2.2 dX3_foretell_64
  · skip
    refine lv_tableIn (off := 42) (tgt := 43) hx hb dX3_foretell_1 (by rw [hk1]; decide) (by rw [hk1]; decide) (by rw [hk1]; rfl) (by decide) ?_
    refine lv_aload_n hx hb dX3_foretell_43 rfl (lv_at hl 0 rfl) ?_
    refine lv_iload_n hx hb dX3_foretell_44 rfl (lv_at hl 2 rfl) ?_
    refine va_callv (va_runV (As := [.int (nI b)]) (rest := []) ⟨hx, hb, hml, hown, hts⟩ (C_X3_foretellFlat l dC dI cI cZ cP N0 tO h0 hA hQ hM hF fm ff b h1) (cwV 1 hts gX3_foretell_X3_foretellFlat rfl rfl rfl (by decide +kernel) ⟨Nat.le_of_ble_eq_true rfl, Nat.le_of_ble_eq_true rfl⟩) ⟨Gv.blind, va_recv hK hP (ci := 3) (q0 := 0) rfl rfl, Gv.of (hE.S hS hAN) ⟨(hP.sub [0, 2, 3] rfl), hN.sub [0, 2, 3] (by decide) rfl⟩⟩ rfl rfl hl.1 rfl (lv_room (Nat.le_of_ble_eq_true rfl)) dX3_foretell_45 ⟨Nat.le_of_ble_eq_true rfl, Nat.le_of_ble_eq_true rfl⟩) hS (fun q _ h => inL_sub [0] rfl q h) (inL_sub [0] rfl) (fun u t H locs ht hvm hw hB hz1 hk1 hS => ?_)
    rw [ht] at hB
    have hP := va_back (L := [hF]) hP hN rfl [3] rfl rfl (fun q h1 h2 => hk1 q h1 h2) hB
    clear hB hk1 hz1 hvm ht t
    have hP : va_P (dC, dI) vwCl [(h0, .inr (3, [.ref hA, .ref hQ, .ref hM, .ref hF])), (hA, .inl (cI, 1140, .inl fa)), (hM, .inl (cI, 768, .inl fm)), (hF, .inl (cI, 64, .inl (fun _ => flatF fm b)))] H := hP
    have hw : True := hw
    have hwr_3 := hw
    refine lv_goto (tgt := 64) hx hb dX3_foretell_48 (by decide) ?_
    have hft : (fun _ => flatF fm b) = ftF kd b vx vy fa fm := by rw [hk1]; rfl
    rw [hft] at hP
    have hP : va_P (dC, dI) vwCl [(h0, .inr (3, [.ref hA, .ref hQ, .ref hM, .ref hF])), (hA, .inl (cI, 1140, .inl fa)), (hM, .inl (cI, 768, .inl fm)), (hF, .inl (cI, 64, .inl (ftF kd b vx vy fa fm)))] H := hP
    exact W.vret hx hb hr (fun t ht hW => ⟨⟨(), rfl, trivial, by show va_P _ _ _ t.heap; rw [ht]; exact hP.sub [3] rfl⟩, hS.F ht⟩) hS.2.2 dX3_foretell_64
  · skip
    refine lv_tableIn (off := 50) (tgt := 51) hx hb dX3_foretell_1 (by rw [hk1]; decide) (by rw [hk1]; decide) (by rw [hk1]; rfl) (by decide) ?_
    refine lv_aload_n hx hb dX3_foretell_51 rfl (lv_at hl 0 rfl) ?_
    refine lv_iload_n hx hb dX3_foretell_52 rfl (lv_at hl 2 rfl) ?_
    refine va_callv (va_runV (As := [.int (nI b)]) (rest := []) ⟨hx, hb, hml, hown, hts⟩ (C_X3_foretellLeft l dC dI cI cZ cP N0 tO h0 hA hQ hM hF fm ff b h1 (h2 (by omega))) (cwV 1 hts gX3_foretell_X3_foretellLeft rfl rfl rfl (by decide +kernel) ⟨Nat.le_of_ble_eq_true rfl, Nat.le_of_ble_eq_true rfl⟩) ⟨Gv.blind, va_recv hK hP (ci := 3) (q0 := 0) rfl rfl, Gv.of (hE.S hS hAN) ⟨(hP.sub [0, 2, 3] rfl), hN.sub [0, 2, 3] (by decide) rfl⟩⟩ rfl rfl hl.1 rfl (lv_room (Nat.le_of_ble_eq_true rfl)) dX3_foretell_53 ⟨Nat.le_of_ble_eq_true rfl, Nat.le_of_ble_eq_true rfl⟩) hS (fun q _ h => inL_sub [0] rfl q h) (inL_sub [0] rfl) (fun u t H locs ht hvm hw hB hz1 hk1 hS => ?_)
    rw [ht] at hB
    have hP := va_back (L := [hF]) hP hN rfl [3] rfl rfl (fun q h1 h2 => hk1 q h1 h2) hB
    clear hB hk1 hz1 hvm ht t
    have hP : va_P (dC, dI) vwCl [(h0, .inr (3, [.ref hA, .ref hQ, .ref hM, .ref hF])), (hA, .inl (cI, 1140, .inl fa)), (hM, .inl (cI, 768, .inl fm)), (hF, .inl (cI, 64, .inl (lfF fm b)))] H := hP
    have hw : True := hw
    have hwr_4 := hw
    refine lv_goto (tgt := 64) hx hb dX3_foretell_56 (by decide) ?_
    have hft : (lfF fm b) = ftF kd b vx vy fa fm := by rw [hk1]; rfl
    rw [hft] at hP
    have hP : va_P (dC, dI) vwCl [(h0, .inr (3, [.ref hA, .ref hQ, .ref hM, .ref hF])), (hA, .inl (cI, 1140, .inl fa)), (hM, .inl (cI, 768, .inl fm)), (hF, .inl (cI, 64, .inl (ftF kd b vx vy fa fm)))] H := hP
    exact W.vret hx hb hr (fun t ht hW => ⟨⟨(), rfl, trivial, by show va_P _ _ _ t.heap; rw [ht]; exact hP.sub [3] rfl⟩, hS.F ht⟩) hS.2.2 dX3_foretell_64
  · skip
    refine lv_tableOut (tgt := 59) hx hb dX3_foretell_1 (by rw [hk1]; decide) (by decide) ?_
    refine lv_aload_n hx hb dX3_foretell_59 rfl (lv_at hl 0 rfl) ?_
    refine lv_iload_n hx hb dX3_foretell_60 rfl (lv_at hl 2 rfl) ?_
    refine va_callv (va_runV (As := [.int (nI b)]) (rest := []) ⟨hx, hb, hml, hown, hts⟩ (C_X3_foretellTrend l dC dI cI cZ cP N0 tO h0 hA hQ hM hF fm ff b h1 (h2 (by omega))) (cwV 1 hts gX3_foretell_X3_foretellTrend rfl rfl rfl (by decide +kernel) ⟨Nat.le_of_ble_eq_true rfl, Nat.le_of_ble_eq_true rfl⟩) ⟨Gv.blind, va_recv hK hP (ci := 3) (q0 := 0) rfl rfl, Gv.of (hE.S hS hAN) ⟨(hP.sub [0, 2, 3] rfl), hN.sub [0, 2, 3] (by decide) rfl⟩⟩ rfl rfl hl.1 rfl (lv_room (Nat.le_of_ble_eq_true rfl)) dX3_foretell_61 ⟨Nat.le_of_ble_eq_true rfl, Nat.le_of_ble_eq_true rfl⟩) hS (fun q _ h => inL_sub [0] rfl q h) (inL_sub [0] rfl) (fun u t H locs ht hvm hw hB hz1 hk1 hS => ?_)
    rw [ht] at hB
    have hP := va_back (L := [hF]) hP hN rfl [3] rfl rfl (fun q h1 h2 => hk1 q h1 h2) hB
    clear hB hk1 hz1 hvm ht t
    have hP : va_P (dC, dI) vwCl [(h0, .inr (3, [.ref hA, .ref hQ, .ref hM, .ref hF])), (hA, .inl (cI, 1140, .inl fa)), (hM, .inl (cI, 768, .inl fm)), (hF, .inl (cI, 64, .inl (trF fm b)))] H := hP
    have hw : True := hw
    have hwr_5 := hw
    have hft : (trF fm b) = ftF kd b vx vy fa fm := by rw [hk1]; rfl
    rw [hft] at hP
    have hP : va_P (dC, dI) vwCl [(h0, .inr (3, [.ref hA, .ref hQ, .ref hM, .ref hF])), (hA, .inl (cI, 1140, .inl fa)), (hM, .inl (cI, 768, .inl fm)), (hF, .inl (cI, 64, .inl (ftF kd b vx vy fa fm)))] H := hP
    exact W.vret hx hb hr (fun t ht hW => ⟨⟨(), rfl, trivial, by show va_P _ _ _ t.heap; rw [ht]; exact hP.sub [3] rfl⟩, hS.F ht⟩) hS.2.2 dX3_foretell_64
set_option maxHeartbeats 4000000 in
set_option maxRecDepth 100000 in
theorem C_X3_lookAhead (l : Launch) (dC : Nat → ClassId) (dI : Nat → Nat → Nat) (cI cZ cP : ClassId) (N0 tO : Nat) (h0 hA hQ hM hF : Nat) (hp : Nat) (fa fp : Nat → Int32)  : Met l yX3_lookAhead wsX3_lookAhead ({ frames := 2, cells := 0, slots := 0, locals := 53 } : Room) (Gv (dC, dI) cI cZ cP N0 tO [.ref h0, .ref hp] (fun H => va_P (dC, dI) vwCl [(h0, .inr (3, [.ref hA, .ref hQ, .ref hM, .ref hF])), (hA, .inl (cI, 1140, .inl fa)), (hp, .inl (cI, 768, .inl fp))] H ∧ AD N0 [h0, hA, hp])) (va_Qv (fun (_ : Unit) => True) (fun (_ : Unit) (t : State) => va_P (dC, dI) vwCl [(hA, .inl (cI, 1140, .inl (ahF fp)))] t.heap) (inL [hA])) 0 0 (inL [hA]) := by
  refine Met.ofW (cc := cX3_lookAhead) (maxL := 5) (ret := none) (by decide) rfl ?_
  intro p e s m args below meth c s₁ B hml hv
  obtain ⟨rfl, hE, hP, hN⟩ := hv
  have hx := B.exec
  have hb := B.bytes
  have hr := B.returns
  have hts := atoms_spec (ws := wsX3_lookAhead) B.pre
  have hown : s.vm.findClass RX3 = some m.cls := findClass_of_methodNamed B.named
  have hlocks := B.notSynchronized
  have hK := hE.1
  have hNS := hE.2.1
  have hS : va_S (inL [hA]) s.heap s.heap [] := va_S.rf
  have hAN : ∀ q : Nat, (inL [hA]) q → N0 ≤ q := fun q h => hN.in [1] rfl q h
  have hP : va_P (dC, dI) vwCl [(h0, .inr (3, [.ref hA, .ref hQ, .ref hM, .ref hF])), (hA, .inl (cI, 1140, .inl fa)), (hp, .inl (cI, 768, .inl fp))] s.heap := hP
  have hinX3 : ∀ w ∈ wsX30, w ∈ wsX3_lookAhead := by decide +kernel
  have hl := lv_entry ([.ref h0, .ref hp]) (n := 5) (Nat.le_of_ble_eq_true rfl)
  rw [lg_entry_eq]
  generalize (lg_sl ([.ref h0, .ref hp]) ++ List.replicate (5 - (lg_sl ([.ref h0, .ref hp])).length) Slot.unset).toArray = ls at hl ⊢
  have hl : lv_has ls 5 [(0, .ref h0), (1, .ref hp)] := hl
  refine lv_iconst (v := 0) hx hb dX3_lookAhead_0 (by decide) ?_
  refine lv_istore_n (lv' := [(2, .int 0), (0, .ref h0), (1, .ref hp)]) hx hb dX3_lookAhead_1 rfl hl (by decide) rfl (fun ls hl => ?_)
  have L2 : ∀ (n2 : Nat) (y : Nat) (f1 : Nat → Int32), (y ≤ 30) → 30 - y < n2 → f1 = (fillTo (ahF fp) fa (y * 38)) → ∀ (H : Heap) (locs : List Loc) (ls : Array Slot), va_P (dC, dI) vwCl [(h0, .inr (3, [.ref hA, .ref hQ, .ref hM, .ref hF])), (hA, .inl (cI, 1140, .inl f1)), (hp, .inl (cI, 768, .inl fp))] H → va_S (inL [hA]) s.heap H locs → lv_has ls 5 [(2, .int (nI y)), (0, .ref h0), (1, .ref hp)] → W p l e (headSpec wsX3_lookAhead ({ frames := 2, cells := 0, slots := 0, locals := 53 } : Room)).room s m ([.ref h0, .ref hp] : List Value).toArray below meth c H locs 0 0 (MQ below (va_Qv (fun (_ : Unit) => True) (fun (_ : Unit) (t : State) => va_P (dC, dI) vwCl [(hA, .inl (cI, 1140, .inl (ahF fp)))] t.heap) (inL [hA])) ([.ref h0, .ref hp] : List Value).toArray s 0 0 (inL [hA])) (F0 m 2 ls []) := by
    intro n2
    induction n2 with
    | zero => intro y f1 hy hz; exact absurd hz (Nat.not_lt_zero _)
    | succ n2 ih2 =>
      intro y f1 hy hfu ef1 H locs ls hP hS hl
      have hcy := cy_le y
      refine lv_iload_n hx hb dX3_lookAhead_2 rfl (lv_at hl 0 rfl) ?_
      refine lv_bipush (v := 30) hx hb dX3_lookAhead_3 (by decide +kernel) ?_
      refine lv_icmp_ge (tgt := 67) hx hb dX3_lookAhead_5 (by decide) (fun c5 => ?_) (fun c5 => ?_)
      · skip
        have c5 : 30 ≤ y := (nI_leI (a := 30) (b := y) (by omega) (by omega)).mp c5
        obtain rfl : y = 30 := by omega
        have hP := hP.cong 1 (ahF fp) rfl (fun k hk => by rw [ef1]; exact fillTo_at _ _ hk)
        have hP : va_P (dC, dI) vwCl [(h0, .inr (3, [.ref hA, .ref hQ, .ref hM, .ref hF])), (hA, .inl (cI, 1140, .inl (ahF fp))), (hp, .inl (cI, 768, .inl fp))] H := hP
        exact W.vret hx hb hr (fun t ht hW => ⟨⟨(), rfl, trivial, by show va_P _ _ _ t.heap; rw [ht]; exact hP.sub [1] rfl⟩, hS.F ht⟩) hS.2.2 dX3_lookAhead_67
      · skip
        have c5 : ¬ 30 ≤ y := fun z => c5 ((nI_leI (a := 30) (b := y) (by omega) (by omega)).mpr z)
        refine lv_iload_n hx hb dX3_lookAhead_8 rfl (lv_at hl 0 rfl) ?_
        refine lv_iconst (v := 3) hx hb dX3_lookAhead_9 (by decide) ?_
        refine lv_isub hx hb dX3_lookAhead_10 ?_
        refine lv_bipush (v := 24) hx hb dX3_lookAhead_11 (by decide +kernel) ?_
        refine vp_callSi (va_Run.run (va_runSN (As := [.int ((nI y) - 3), .int 24]) (rest := []) ⟨hx, hb, hml, hown, hts⟩ (C_X5_onRow l dC dI cI cZ cP N0 tO ((nI y) - 3) 24 ) ⟨va_cnB 2 hts gX3_lookAhead_X5_onRow_n24 rfl rfl rfl hNS.2.2.2.2.1.1 (hts (.initialized RX5) (List.mem_of_getElem? (i := 3) (by decide +kernel))) (by decide +kernel) ⟨Nat.le_of_ble_eq_true rfl, Nat.le_of_ble_eq_true rfl⟩, (hts (.static yX5_onRow) (List.mem_of_getElem? (i := 2) (by decide +kernel))), trivial⟩ ⟨Gv.blind, Gv.of (hE.S hS hAN) trivial⟩ rfl rfl hl.1 rfl (lv_room (Nat.le_of_ble_eq_true rfl)) dX3_lookAhead_13 ⟨Nat.le_of_ble_eq_true rfl, Nat.le_of_ble_eq_true rfl⟩)) (fun r_1 hr_1 => ?_)
        have hr_1 : r_1 = maxI 0 (minI ((nI y) - 3) (24 - 1)) := hr_1
        refine lv_topr (show _ = nI (cy y) from (hr_1).trans (cy_eq y (by omega))) ?_
        refine lv_bipush (v := 32) hx hb dX3_lookAhead_16 (by decide +kernel) ?_
        refine lv_imul hx hb dX3_lookAhead_18 ?_
        refine lv_topr (show _ = nI ((cy y) * 32) from pk_mul (cy y) 32) ?_
        refine lv_istore_n (lv' := [(3, .int (nI ((cy y) * 32))), (2, .int (nI y)), (0, .ref h0), (1, .ref hp)]) hx hb dX3_lookAhead_19 rfl hl (by decide) rfl (fun ls hl => ?_)
        refine lv_iconst (v := 0) hx hb dX3_lookAhead_20 (by decide) ?_
        refine lv_istore (lv' := [(4, .int 0), (3, .int (nI ((cy y) * 32))), (2, .int (nI y)), (0, .ref h0), (1, .ref hp)]) hx hb dX3_lookAhead_21 hl (by decide) rfl (fun ls hl => ?_)
        have L23 : ∀ (n23 : Nat) (x : Nat) (f2 : Nat → Int32), (x ≤ 38) → 38 - x < n23 → f2 = (fillTo (ahF fp) fa (y * 38 + x)) → ∀ (H : Heap) (locs : List Loc) (ls : Array Slot), va_P (dC, dI) vwCl [(h0, .inr (3, [.ref hA, .ref hQ, .ref hM, .ref hF])), (hA, .inl (cI, 1140, .inl f2)), (hp, .inl (cI, 768, .inl fp))] H → va_S (inL [hA]) s.heap H locs → lv_has ls 5 [(4, .int (nI x)), (3, .int (nI ((cy y) * 32))), (2, .int (nI y)), (0, .ref h0), (1, .ref hp)] → W p l e (headSpec wsX3_lookAhead ({ frames := 2, cells := 0, slots := 0, locals := 53 } : Room)).room s m ([.ref h0, .ref hp] : List Value).toArray below meth c H locs 0 0 (MQ below (va_Qv (fun (_ : Unit) => True) (fun (_ : Unit) (t : State) => va_P (dC, dI) vwCl [(hA, .inl (cI, 1140, .inl (ahF fp)))] t.heap) (inL [hA])) ([.ref h0, .ref hp] : List Value).toArray s 0 0 (inL [hA])) (F0 m 23 ls []) := by
          intro n23
          induction n23 with
          | zero => intro x f2 hx38 hz; exact absurd hz (Nat.not_lt_zero _)
          | succ n23 ih23 =>
            intro x f2 hx38 hfu ef2 H locs ls hP hS hl
            have hcx := cx_le x
            refine lv_iload hx hb dX3_lookAhead_23 (lv_at hl 0 rfl) ?_
            refine lv_bipush (v := 38) hx hb dX3_lookAhead_25 (by decide +kernel) ?_
            refine lv_icmp_ge (tgt := 61) hx hb dX3_lookAhead_27 (by decide) (fun c27 => ?_) (fun c27 => ?_)
            · skip
              have c27 : 38 ≤ x := (nI_leI (a := 38) (b := x) (by omega) (by omega)).mp c27
              obtain rfl : x = 38 := by omega
              refine lv_iinc (v := nI (y + 1)) (lv' := [(2, .int (nI (y + 1))), (4, .int (nI 38)), (3, .int (nI ((cy y) * 32))), (0, .ref h0), (1, .ref hp)]) hx hb dX3_lookAhead_61 hl (k := 2) rfl (show nI y + Int32.ofInt 1 = nI (y + 1) from nI_add _ _) (by decide) rfl (fun ls hl => ?_)
              refine lv_goto (tgt := 2) hx hb dX3_lookAhead_64 (by decide) ?_
              exact ih2 (y + 1) f2 (by omega) (by omega) (by rw [ef2]; congr 1; omega) _ _ _ hP hS (lv_sub hl [0, 3, 4] rfl)
            · skip
              have c27 : ¬ 38 ≤ x := fun z => c27 ((nI_leI (a := 38) (b := x) (by omega) (by omega)).mpr z)
              refine lv_aload_n hx hb dX3_lookAhead_30 rfl (lv_at hl 3 rfl) ?_
              refine va_get (D := (dC, dI)) (ci := 3) (v := .ref hA) (C := RX3) (T := TX3) (N := 4) hx hb hts hinX3 hown hK hP 0 rfl rfl 0 (by decide) (hts (.fieldLink RX3 11 "GreyReel$Studio" "ahead" "[I") (List.mem_of_getElem? (i := 1) (by decide +kernel))) (fun _ h9 => h9) rfl dX3_lookAhead_31 ?_
              refine lv_iload_n hx hb dX3_lookAhead_34 rfl (lv_at hl 2 rfl) ?_
              refine lv_bipush (v := 38) hx hb dX3_lookAhead_35 (by decide +kernel) ?_
              refine lv_imul hx hb dX3_lookAhead_37 ?_
              refine lv_topr (show _ = nI (y * 38) from pk_mul y 38) ?_
              refine lv_iload hx hb dX3_lookAhead_38 (lv_at hl 0 rfl) ?_
              refine lv_iadd hx hb dX3_lookAhead_40 ?_
              refine lv_topr (show _ = nI ((y * 38) + x) from nI_add (y * 38) x) ?_
              refine lv_aload_n hx hb dX3_lookAhead_41 rfl (lv_at hl 4 rfl) ?_
              refine lv_iload_n hx hb dX3_lookAhead_42 rfl (lv_at hl 1 rfl) ?_
              refine lv_iload hx hb dX3_lookAhead_43 (lv_at hl 0 rfl) ?_
              refine lv_iconst (v := 3) hx hb dX3_lookAhead_45 (by decide) ?_
              refine lv_isub hx hb dX3_lookAhead_46 ?_
              refine lv_bipush (v := 32) hx hb dX3_lookAhead_47 (by decide +kernel) ?_
              refine vp_callSi (va_Run.run (va_runSN (As := [.int ((nI x) - 3), .int 32]) (rest := [.int (nI ((cy y) * 32)), .ref hp, .int (nI ((y * 38) + x)), .ref hA]) ⟨hx, hb, hml, hown, hts⟩ (C_X5_onRow l dC dI cI cZ cP N0 tO ((nI x) - 3) 32 ) ⟨va_cnB 2 hts gX3_lookAhead_X5_onRow_n24 rfl rfl rfl hNS.2.2.2.2.1.1 (hts (.initialized RX5) (List.mem_of_getElem? (i := 3) (by decide +kernel))) (by decide +kernel) ⟨Nat.le_of_ble_eq_true rfl, Nat.le_of_ble_eq_true rfl⟩, (hts (.static yX5_onRow) (List.mem_of_getElem? (i := 2) (by decide +kernel))), trivial⟩ ⟨Gv.blind, Gv.of (hE.S hS hAN) trivial⟩ rfl rfl hl.1 rfl (lv_room (Nat.le_of_ble_eq_true rfl)) dX3_lookAhead_49 ⟨Nat.le_of_ble_eq_true rfl, Nat.le_of_ble_eq_true rfl⟩)) (fun r_2 hr_2 => ?_)
              have hr_2 : r_2 = maxI 0 (minI ((nI x) - 3) (32 - 1)) := hr_2
              refine lv_topr (show _ = nI (cx x) from (hr_2).trans (cx_eq x (by omega))) ?_
              refine lv_iadd hx hb dX3_lookAhead_52 ?_
              refine lv_topr (show _ = nI (((cy y) * 32) + (cx x)) from nI_add ((cy y) * 32) (cx x)) ?_
              refine wa_iald (D := (dC, dI)) (i := (((cy y) * 32) + (cx x))) (f := fp) hx hb hK hP 2 0 rfl rfl (by omega) (by omega) dX3_lookAhead_53 ?_
              refine lv_topi (fun x_3 ex_3 => ?_)
              refine wa_iast (D := (dC, dI)) (i := ((y * 38) + x)) (f := f2) hx hb hK hP (hN.D rfl) hS (List.mem_of_getElem? (i := 0) rfl) 1 0 rfl rfl (by omega) (by omega) dX3_lookAhead_54 (fun H locs hP hS => ?_)
              obtain ⟨f_4, ef_4⟩ : ∃ z, z = upd f2 ((y * 38) + x) x_3 := ⟨_, rfl⟩
              rw [← ef_4] at hP
              have hP : va_P (dC, dI) vwCl [(h0, .inr (3, [.ref hA, .ref hQ, .ref hM, .ref hF])), (hA, .inl (cI, 1140, .inl f_4)), (hp, .inl (cI, 768, .inl fp))] H := hP
              refine lv_iinc (v := nI (x + 1)) (lv' := [(4, .int (nI (x + 1))), (3, .int (nI ((cy y) * 32))), (2, .int (nI y)), (0, .ref h0), (1, .ref hp)]) hx hb dX3_lookAhead_55 hl (k := 0) rfl (show nI x + Int32.ofInt 1 = nI (x + 1) from nI_add _ _) (by decide) rfl (fun ls hl => ?_)
              refine lv_goto (tgt := 23) hx hb dX3_lookAhead_58 (by decide) ?_
              exact ih23 (x + 1) f_4 (by omega) (by omega) (by rw [ef_4, ex_3, ef2]; exact fillTo_s _ _ _ (ahF_at fp (by omega)).symm) _ _ _ hP hS (lv_sub hl [0, 1, 2, 3, 4] rfl)
        exact L23 (38 + 1) 0 f1 (by omega) (Nat.lt_succ_self _) (by rw [ef1]; rfl) _ _ _ hP hS (lv_sub hl [0, 1, 2, 3, 4] rfl)
  exact L2 (30 + 1) 0 fa (by omega) (Nat.lt_succ_self _) (by rw [Nat.zero_mul]; exact (fillTo_0 _ _).symm) _ _ _ hP hS (lv_sub hl [0, 1, 2] rfl)
set_option maxHeartbeats 4000000 in
set_option maxRecDepth 100000 in
theorem C_X3_difference (l : Launch) (dC : Nat → ClassId) (dI : Nat → Nat → Nat) (cI cZ cP : ClassId) (N0 tO : Nat) (h0 hA hQ hM hF : Nat) (hC : Nat) (fc ff : Nat → Int32) (b : Nat) (h1 : b < 12) : Met l yX3_difference wsX3_difference ({ frames := 1, cells := 0, slots := 0, locals := 32 } : Room) (Gv (dC, dI) cI cZ cP N0 tO [.ref h0, .ref hC, .int (nI b)] (fun H => va_P (dC, dI) vwCl [(h0, .inr (3, [.ref hA, .ref hQ, .ref hM, .ref hF])), (hC, .inl (cI, 768, .inl fc)), (hF, .inl (cI, 64, .inl ff))] H)) (vp_Si (fun r : Int32 => r = dfF fc ff b 64)) 0 0 (fun _ => False) := by
  refine Met.ofW (cc := cX3_difference) (maxL := 6) (ret := (some .int)) (by decide) rfl ?_
  intro p e s m args below meth c s₁ B hml hv
  obtain ⟨rfl, hE, hP⟩ := hv
  have hx := B.exec
  have hb := B.bytes
  have hr := B.returns
  have hts := atoms_spec (ws := wsX3_difference) B.pre
  have hown : s.vm.findClass RX3 = some m.cls := findClass_of_methodNamed B.named
  have hlocks := B.notSynchronized
  have hK := hE.1
  have hNS := hE.2.1
  have hP : va_P (dC, dI) vwCl [(h0, .inr (3, [.ref hA, .ref hQ, .ref hM, .ref hF])), (hC, .inl (cI, 768, .inl fc)), (hF, .inl (cI, 64, .inl ff))] s.heap := hP
  have hinX3 : ∀ w ∈ wsX30, w ∈ wsX3_difference := by decide +kernel
  have hl := lv_entry ([.ref h0, .ref hC, .int (nI b)]) (n := 6) (Nat.le_of_ble_eq_true rfl)
  rw [lg_entry_eq]
  generalize (lg_sl ([.ref h0, .ref hC, .int (nI b)]) ++ List.replicate (6 - (lg_sl ([.ref h0, .ref hC, .int (nI b)])).length) Slot.unset).toArray = ls at hl ⊢
  have hl : lv_has ls 6 [(0, .ref h0), (1, .ref hC), (2, .int (nI b))] := hl
  refine lv_iload_n hx hb dX3_difference_0 rfl (lv_at hl 2 rfl) ?_
  refine vp_callSi (va_Run.run (va_runSN (As := [.int (nI b)]) (rest := []) ⟨hx, hb, hml, hown, hts⟩ (C_X5_firstPointOf l dC dI cI cZ cP N0 tO b (by omega)) ⟨va_cnB 1 hts gX3_difference_X5_firstPointOf_n49 rfl rfl rfl hNS.2.2.2.2.1.2.1 (hts (.initialized RX5) (List.mem_of_getElem? (i := 7) (by decide +kernel))) (by decide +kernel) ⟨Nat.le_of_ble_eq_true rfl, Nat.le_of_ble_eq_true rfl⟩, (hts (.static yX5_firstPointOf) (List.mem_of_getElem? (i := 6) (by decide +kernel))), trivial⟩ ⟨Gv.blind, Gv.of hE trivial⟩ rfl rfl hl.1 rfl (lv_room (Nat.le_of_ble_eq_true rfl)) dX3_difference_1 ⟨Nat.le_of_ble_eq_true rfl, Nat.le_of_ble_eq_true rfl⟩)) (fun r_1 hr_1 => ?_)
  have hr_1 : r_1 = nI (b / 4 * 8 * 32 + b % 4 * 8) := hr_1
  refine lv_topr hr_1 ?_
  refine lv_istore_n (lv' := [(3, .int (nI (b / 4 * 8 * 32 + b % 4 * 8))), (0, .ref h0), (1, .ref hC), (2, .int (nI b))]) hx hb dX3_difference_4 rfl hl (by decide) rfl (fun ls hl => ?_)
  refine lv_iconst (v := 0) hx hb dX3_difference_5 (by decide) ?_
  refine lv_istore (lv' := [(4, .int 0), (3, .int (nI (b / 4 * 8 * 32 + b % 4 * 8))), (0, .ref h0), (1, .ref hC), (2, .int (nI b))]) hx hb dX3_difference_6 hl (by decide) rfl (fun ls hl => ?_)
  refine lv_iconst (v := 0) hx hb dX3_difference_8 (by decide) ?_
  refine lv_istore (lv' := [(5, .int 0), (4, .int 0), (3, .int (nI (b / 4 * 8 * 32 + b % 4 * 8))), (0, .ref h0), (1, .ref hC), (2, .int (nI b))]) hx hb dX3_difference_9 hl (by decide) rfl (fun ls hl => ?_)
  have L11 : ∀ (n11 : Nat) (i : Nat) (x4 : Int32), (i ≤ 64) → 64 - i < n11 → x4 = (dfF fc ff b i) → ∀ (ls : Array Slot), lv_has ls 6 [(5, .int (nI i)), (4, .int x4), (3, .int (nI (b / 4 * 8 * 32 + b % 4 * 8))), (0, .ref h0), (1, .ref hC), (2, .int (nI b))] → W p l e (headSpec wsX3_difference ({ frames := 1, cells := 0, slots := 0, locals := 32 } : Room)).room s m ([.ref h0, .ref hC, .int (nI b)] : List Value).toArray below meth c s.heap [] 0 0 (MQ below (vp_Si (fun r : Int32 => r = dfF fc ff b 64)) ([.ref h0, .ref hC, .int (nI b)] : List Value).toArray s 0 0 (fun _ => False)) (F0 m 11 ls []) := by
    intro n11
    induction n11 with
    | zero => intro i x4 hi hz; exact absurd hz (Nat.not_lt_zero _)
    | succ n11 ih11 =>
      intro i x4 hi hfu ex4 ls hl
      refine lv_iload hx hb dX3_difference_11 (lv_at hl 0 rfl) ?_
      refine lv_bipush (v := 64) hx hb dX3_difference_13 (by decide +kernel) ?_
      refine lv_icmp_ge (tgt := 58) hx hb dX3_difference_15 (by decide) (fun c15 => ?_) (fun c15 => ?_)
      · skip
        have c15 : 64 ≤ i := (nI_leI (a := 64) (b := i) (by omega) (by omega)).mp c15
        obtain rfl : i = 64 := by omega
        refine lv_iload hx hb dX3_difference_58 (lv_at hl 1 rfl) ?_
        exact W.iret (v := x4) hx hb hr (fun t ht hW => ⟨x4, rfl, (by rw [ex4] <;> rfl), ht⟩) (fun _ h => by cases h) dX3_difference_60
      · skip
        have c15 : ¬ 64 ≤ i := fun z => c15 ((nI_leI (a := 64) (b := i) (by omega) (by omega)).mpr z)
        refine lv_iload hx hb dX3_difference_18 (lv_at hl 1 rfl) ?_
        refine lv_aload_n hx hb dX3_difference_20 rfl (lv_at hl 4 rfl) ?_
        refine lv_iload_n hx hb dX3_difference_21 rfl (lv_at hl 2 rfl) ?_
        refine lv_iload hx hb dX3_difference_22 (lv_at hl 0 rfl) ?_
        refine lv_bipush (v := 8) hx hb dX3_difference_24 (by decide +kernel) ?_
        refine lv_idiv hx hb dX3_difference_26 (by decide) ?_
        refine lv_topr (show _ = nI (i / 8) from pk_div (a := i) (d := 8) (by omega) (by omega) (by omega)) ?_
        refine lv_bipush (v := 32) hx hb dX3_difference_27 (by decide +kernel) ?_
        refine lv_imul hx hb dX3_difference_29 ?_
        refine lv_topr (show _ = nI ((i / 8) * 32) from pk_mul (i / 8) 32) ?_
        refine lv_iadd hx hb dX3_difference_30 ?_
        refine lv_topr (show _ = nI ((b / 4 * 8 * 32 + b % 4 * 8) + ((i / 8) * 32)) from nI_add (b / 4 * 8 * 32 + b % 4 * 8) ((i / 8) * 32)) ?_
        refine lv_iload hx hb dX3_difference_31 (lv_at hl 0 rfl) ?_
        refine lv_bipush (v := 8) hx hb dX3_difference_33 (by decide +kernel) ?_
        refine lv_irem hx hb dX3_difference_35 (by decide) ?_
        refine lv_topr (show _ = nI (i % 8) from pk_rem (a := i) (d := 8) (by omega) (by omega) (by omega)) ?_
        refine lv_iadd hx hb dX3_difference_36 ?_
        refine lv_topr (show _ = nI (((b / 4 * 8 * 32 + b % 4 * 8) + ((i / 8) * 32)) + (i % 8)) from nI_add ((b / 4 * 8 * 32 + b % 4 * 8) + ((i / 8) * 32)) (i % 8)) ?_
        refine wa_iald (D := (dC, dI)) (i := (((b / 4 * 8 * 32 + b % 4 * 8) + ((i / 8) * 32)) + (i % 8))) (f := fc) hx hb hK hP 1 0 rfl rfl (by omega) (by omega) dX3_difference_37 ?_
        refine lv_aload_n hx hb dX3_difference_38 rfl (lv_at hl 3 rfl) ?_
        refine va_get (D := (dC, dI)) (ci := 3) (v := .ref hF) (C := RX3) (T := TX3) (N := 4) hx hb hts hinX3 hown hK hP 0 rfl rfl 3 (by decide) (hts (.fieldLink RX3 21 "GreyReel$Studio" "foretold" "[I") (List.mem_of_getElem? (i := 1) (by decide +kernel))) (fun _ h9 => h9) rfl dX3_difference_39 ?_
        refine lv_iload hx hb dX3_difference_42 (lv_at hl 0 rfl) ?_
        refine wa_iald (D := (dC, dI)) (i := i) (f := ff) hx hb hK hP 2 0 rfl rfl (by omega) (by omega) dX3_difference_44 ?_
        refine lv_isub hx hb dX3_difference_45 ?_
        refine va_mabs hx hb (hml.trans hl.1.symm) hown (hts (.methodLink RX3 53 Lib.Math.abs.name) (List.mem_of_getElem? (i := 2) (by decide +kernel))) (hts (.static Lib.Math.abs.name) (List.mem_of_getElem? (i := 3) (by decide +kernel))) (hts (.initialized "java/lang/Math") (List.mem_of_getElem? (i := 4) (by decide +kernel))) (hts (.code Lib.Math.abs.name Lib.Math.abs.code 1 (some .int)) (List.mem_of_getElem? (i := 5) (by decide +kernel))) (Nat.le_of_ble_eq_true rfl) (Nat.le_of_ble_eq_true rfl) (Nat.le_of_ble_eq_true rfl) (Nat.le_of_ble_eq_true rfl) dX3_difference_46 ?_
        refine lv_topr (show _ = absI ((fc (((b / 4 * 8 * 32 + b % 4 * 8) + ((i / 8) * 32)) + (i % 8))) - (ff i)) from rfl) ?_
        refine lv_iadd hx hb dX3_difference_49 ?_
        refine lv_topi (fun x_2 ex_2 => ?_)
        refine lv_istore (lv' := [(4, .int x_2), (5, .int (nI i)), (3, .int (nI (b / 4 * 8 * 32 + b % 4 * 8))), (0, .ref h0), (1, .ref hC), (2, .int (nI b))]) hx hb dX3_difference_50 hl (by decide) rfl (fun ls hl => ?_)
        refine lv_iinc (v := nI (i + 1)) (lv' := [(5, .int (nI (i + 1))), (4, .int x_2), (3, .int (nI (b / 4 * 8 * 32 + b % 4 * 8))), (0, .ref h0), (1, .ref hC), (2, .int (nI b))]) hx hb dX3_difference_52 hl (k := 1) rfl (show nI i + Int32.ofInt 1 = nI (i + 1) from nI_add _ _) (by decide) rfl (fun ls hl => ?_)
        refine lv_goto (tgt := 11) hx hb dX3_difference_55 (by decide) ?_
        exact ih11 (i + 1) x_2 (by omega) (by omega) (by rw [ex_2, ex4] <;> rfl) _ (lv_sub hl [0, 1, 2, 3, 4, 5] rfl)
  exact L11 (64 + 1) 0 0 (by omega) (Nat.lt_succ_self _) rfl _ (lv_sub hl [0, 1, 2, 3, 4, 5] rfl)
set_option maxHeartbeats 4000000 in
set_option maxRecDepth 100000 in
theorem C_X3_differenceMoved (l : Launch) (dC : Nat → ClassId) (dI : Nat → Nat → Nat) (cI cZ cP : ClassId) (N0 tO : Nat) (h0 hA hQ hM hF : Nat) (hC : Nat) (fc fa : Nat → Int32) (b : Nat) (vx vy lim : Int32) (h1 : b < 12) (hvx : vOK vx) (hvy : vOK vy) : Met l yX3_differenceMoved wsX3_differenceMoved ({ frames := 1, cells := 0, slots := 0, locals := 32 } : Room) (Gv (dC, dI) cI cZ cP N0 tO [.ref h0, .ref hC, .int (nI b), .int vx, .int vy, .int lim] (fun H => va_P (dC, dI) vwCl [(h0, .inr (3, [.ref hA, .ref hQ, .ref hM, .ref hF])), (hC, .inl (cI, 768, .inl fc)), (hA, .inl (cI, 1140, .inl fa))] H)) (vp_Si (fun r : Int32 => r = dmL fc fa b vx vy lim 8)) 0 0 (fun _ => False) := by
  refine Met.ofW (cc := cX3_differenceMoved) (maxL := 14) (ret := (some .int)) (by decide) rfl ?_
  intro p e s m args below meth c s₁ B hml hv
  obtain ⟨rfl, hE, hP⟩ := hv
  have hx := B.exec
  have hb := B.bytes
  have hr := B.returns
  have hts := atoms_spec (ws := wsX3_differenceMoved) B.pre
  have hown : s.vm.findClass RX3 = some m.cls := findClass_of_methodNamed B.named
  have hlocks := B.notSynchronized
  have hK := hE.1
  have hNS := hE.2.1
  have hP : va_P (dC, dI) vwCl [(h0, .inr (3, [.ref hA, .ref hQ, .ref hM, .ref hF])), (hC, .inl (cI, 768, .inl fc)), (hA, .inl (cI, 1140, .inl fa))] s.heap := hP
  have hl := lv_entry ([.ref h0, .ref hC, .int (nI b), .int vx, .int vy, .int lim]) (n := 14) (Nat.le_of_ble_eq_true rfl)
  rw [lg_entry_eq]
  generalize (lg_sl ([.ref h0, .ref hC, .int (nI b), .int vx, .int vy, .int lim]) ++ List.replicate (14 - (lg_sl ([.ref h0, .ref hC, .int (nI b), .int vx, .int vy, .int lim])).length) Slot.unset).toArray = ls at hl ⊢
  have hl : lv_has ls 14 [(0, .ref h0), (1, .ref hC), (2, .int (nI b)), (3, .int vx), (4, .int vy), (5, .int lim)] := hl
  have h5 := @stA_lt b h1 vx vy hvx hvy
  refine lv_aload_n hx hb dX3_differenceMoved_0 rfl (lv_at hl 0 rfl) ?_
  refine lv_iload_n hx hb dX3_differenceMoved_1 rfl (lv_at hl 2 rfl) ?_
  refine lv_iload_n hx hb dX3_differenceMoved_2 rfl (lv_at hl 3 rfl) ?_
  refine lv_iload hx hb dX3_differenceMoved_3 (lv_at hl 4 rfl) ?_
  refine vp_callSi (va_Run.run (va_runV (As := [.int (nI b), .int vx, .int vy]) (rest := []) ⟨hx, hb, hml, hown, hts⟩ (C_X3_startAhead l dC dI cI cZ cP N0 tO h0 hA hQ hM hF b vx vy h1 hvx hvy) (cwV 3 hts gX3_differenceMoved_X3_startAhead rfl rfl rfl (by decide +kernel) ⟨Nat.le_of_ble_eq_true rfl, Nat.le_of_ble_eq_true rfl⟩) ⟨Gv.blind, va_recv hK hP (ci := 3) (q0 := 0) rfl rfl, Gv.of hE (hP.sub [0] rfl)⟩ rfl rfl hl.1 rfl (lv_room (Nat.le_of_ble_eq_true rfl)) dX3_differenceMoved_5 ⟨Nat.le_of_ble_eq_true rfl, Nat.le_of_ble_eq_true rfl⟩)) (fun r_1 hr_1 => ?_)
  have hr_1 : r_1 = nI (stA b vx vy) := hr_1
  refine lv_topr hr_1 ?_
  refine lv_istore (lv' := [(6, .int (nI (stA b vx vy))), (0, .ref h0), (1, .ref hC), (2, .int (nI b)), (3, .int vx), (4, .int vy), (5, .int lim)]) hx hb dX3_differenceMoved_8 hl (by decide) rfl (fun ls hl => ?_)
  refine lv_iload_n hx hb dX3_differenceMoved_10 rfl (lv_at hl 4 rfl) ?_
  refine lv_iconst (v := 1) hx hb dX3_differenceMoved_11 (by decide) ?_
  refine lv_iand hx hb dX3_differenceMoved_12 ?_
  refine lv_topr (show _ = nI (lo vx) from lo_eq vx) ?_
  refine lv_istore (lv' := [(7, .int (nI (lo vx))), (6, .int (nI (stA b vx vy))), (0, .ref h0), (1, .ref hC), (2, .int (nI b)), (3, .int vx), (4, .int vy), (5, .int lim)]) hx hb dX3_differenceMoved_13 hl (by decide) rfl (fun ls hl => ?_)
  refine lv_iload hx hb dX3_differenceMoved_15 (lv_at hl 6 rfl) ?_
  refine lv_iconst (v := 1) hx hb dX3_differenceMoved_17 (by decide) ?_
  refine lv_iand hx hb dX3_differenceMoved_18 ?_
  refine lv_topr (show _ = nI (lo vy) from lo_eq vy) ?_
  refine lv_bipush (v := 38) hx hb dX3_differenceMoved_19 (by decide +kernel) ?_
  refine lv_imul hx hb dX3_differenceMoved_21 ?_
  refine lv_topr (show _ = nI ((lo vy) * 38) from pk_mul (lo vy) 38) ?_
  refine lv_istore (lv' := [(8, .int (nI ((lo vy) * 38))), (7, .int (nI (lo vx))), (6, .int (nI (stA b vx vy))), (0, .ref h0), (1, .ref hC), (2, .int (nI b)), (3, .int vx), (4, .int vy), (5, .int lim)]) hx hb dX3_differenceMoved_22 hl (by decide) rfl (fun ls hl => ?_)
  refine lv_iload_n hx hb dX3_differenceMoved_24 rfl (lv_at hl 5 rfl) ?_
  refine vp_callSi (va_Run.run (va_runSN (As := [.int (nI b)]) (rest := []) ⟨hx, hb, hml, hown, hts⟩ (C_X5_firstPointOf l dC dI cI cZ cP N0 tO b (by omega)) ⟨va_cnB 1 hts gX3_differenceMoved_X5_firstPointOf_n49 rfl rfl rfl hNS.2.2.2.2.1.2.1 (hts (.initialized RX5) (List.mem_of_getElem? (i := 11) (by decide +kernel))) (by decide +kernel) ⟨Nat.le_of_ble_eq_true rfl, Nat.le_of_ble_eq_true rfl⟩, (hts (.static yX5_firstPointOf) (List.mem_of_getElem? (i := 10) (by decide +kernel))), trivial⟩ ⟨Gv.blind, Gv.of hE trivial⟩ rfl rfl hl.1 rfl (lv_room (Nat.le_of_ble_eq_true rfl)) dX3_differenceMoved_25 ⟨Nat.le_of_ble_eq_true rfl, Nat.le_of_ble_eq_true rfl⟩)) (fun r_2 hr_2 => ?_)
  have hr_2 : r_2 = nI (b / 4 * 8 * 32 + b % 4 * 8) := hr_2
  refine lv_topr hr_2 ?_
  refine lv_istore (lv' := [(9, .int (nI (b / 4 * 8 * 32 + b % 4 * 8))), (8, .int (nI ((lo vy) * 38))), (7, .int (nI (lo vx))), (6, .int (nI (stA b vx vy))), (0, .ref h0), (1, .ref hC), (2, .int (nI b)), (3, .int vx), (4, .int vy), (5, .int lim)]) hx hb dX3_differenceMoved_28 hl (by decide) rfl (fun ls hl => ?_)
  refine lv_iconst (v := 0) hx hb dX3_differenceMoved_30 (by decide) ?_
  refine lv_istore (lv' := [(10, .int 0), (9, .int (nI (b / 4 * 8 * 32 + b % 4 * 8))), (8, .int (nI ((lo vy) * 38))), (7, .int (nI (lo vx))), (6, .int (nI (stA b vx vy))), (0, .ref h0), (1, .ref hC), (2, .int (nI b)), (3, .int vx), (4, .int vy), (5, .int lim)]) hx hb dX3_differenceMoved_31 hl (by decide) rfl (fun ls hl => ?_)
  refine lv_iconst (v := 0) hx hb dX3_differenceMoved_33 (by decide) ?_
  refine lv_istore (lv' := [(11, .int 0), (10, .int 0), (9, .int (nI (b / 4 * 8 * 32 + b % 4 * 8))), (8, .int (nI ((lo vy) * 38))), (7, .int (nI (lo vx))), (6, .int (nI (stA b vx vy))), (0, .ref h0), (1, .ref hC), (2, .int (nI b)), (3, .int vx), (4, .int vy), (5, .int lim)]) hx hb dX3_differenceMoved_34 hl (by decide) rfl (fun ls hl => ?_)
  have L36 : ∀ (n36 : Nat) (i : Nat) (x10 : Int32), (i ≤ 8) → 8 - i < n36 → x10 = (dmL fc fa b vx vy lim i) → ∀ (ls : Array Slot), lv_has ls 14 [(11, .int (nI i)), (10, .int x10), (9, .int (nI (b / 4 * 8 * 32 + b % 4 * 8))), (8, .int (nI ((lo vy) * 38))), (7, .int (nI (lo vx))), (6, .int (nI (stA b vx vy))), (0, .ref h0), (1, .ref hC), (2, .int (nI b)), (3, .int vx), (4, .int vy), (5, .int lim)] → W p l e (headSpec wsX3_differenceMoved ({ frames := 1, cells := 0, slots := 0, locals := 32 } : Room)).room s m ([.ref h0, .ref hC, .int (nI b), .int vx, .int vy, .int lim] : List Value).toArray below meth c s.heap [] 0 0 (MQ below (vp_Si (fun r : Int32 => r = dmL fc fa b vx vy lim 8)) ([.ref h0, .ref hC, .int (nI b), .int vx, .int vy, .int lim] : List Value).toArray s 0 0 (fun _ => False)) (F0 m 36 ls []) := by
    intro n36
    induction n36 with
    | zero => intro i x10 hi hz; exact absurd hz (Nat.not_lt_zero _)
    | succ n36 ih36 =>
      intro i x10 hi hfu ex10 ls hl
      refine lv_iload hx hb dX3_differenceMoved_36 (lv_at hl 0 rfl) ?_
      refine lv_bipush (v := 8) hx hb dX3_differenceMoved_38 (by decide +kernel) ?_
      refine lv_icmp_ge (tgt := 117) hx hb dX3_differenceMoved_40 (by decide) (fun c40 => ?_) (fun c40 => ?_)
      · skip
        have c40 : 8 ≤ i := (nI_leI (a := 8) (b := i) (by omega) (by omega)).mp c40
        obtain rfl : i = 8 := by omega
        refine lv_iload hx hb dX3_differenceMoved_117 (lv_at hl 1 rfl) ?_
        exact W.iret (v := x10) hx hb hr (fun t ht hW => ⟨x10, rfl, ex10, ht⟩) (fun _ h => by cases h) dX3_differenceMoved_119
      · skip
        have c40 : ¬ 8 ≤ i := fun z => c40 ((nI_leI (a := 8) (b := i) (by omega) (by omega)).mpr z)
        refine lv_iload hx hb dX3_differenceMoved_43 (lv_at hl 1 rfl) ?_
        refine lv_iload hx hb dX3_differenceMoved_45 (lv_at hl 11 rfl) ?_
        refine lv_icmp_ge (tgt := 117) hx hb dX3_differenceMoved_47 (by decide) (fun c47 => ?_) (fun c47 => ?_)
        · skip
          refine lv_iload hx hb dX3_differenceMoved_117 (lv_at hl 1 rfl) ?_
          exact W.iret (v := x10) hx hb hr (fun t ht hW => ⟨x10, rfl, (dmL_end ex10 c47 (by omega)), ht⟩) (fun _ h => by cases h) dX3_differenceMoved_119
        · skip
          refine lv_iconst (v := 0) hx hb dX3_differenceMoved_50 (by decide) ?_
          refine lv_istore (lv' := [(12, .int 0), (11, .int (nI i)), (10, .int x10), (9, .int (nI (b / 4 * 8 * 32 + b % 4 * 8))), (8, .int (nI ((lo vy) * 38))), (7, .int (nI (lo vx))), (6, .int (nI (stA b vx vy))), (0, .ref h0), (1, .ref hC), (2, .int (nI b)), (3, .int vx), (4, .int vy), (5, .int lim)]) hx hb dX3_differenceMoved_51 hl (by decide) rfl (fun ls hl => ?_)
          have L53 : ∀ (n53 : Nat) (k : Nat) (y10 : Int32), (k ≤ 8) → 8 - k < n53 → y10 = (dmC fc fa b vx vy i (dmL fc fa b vx vy lim i) k) → ∀ (ls : Array Slot), lv_has ls 14 [(12, .int (nI k)), (11, .int (nI i)), (10, .int y10), (9, .int (nI (b / 4 * 8 * 32 + b % 4 * 8))), (8, .int (nI ((lo vy) * 38))), (7, .int (nI (lo vx))), (6, .int (nI (stA b vx vy))), (0, .ref h0), (1, .ref hC), (2, .int (nI b)), (3, .int vx), (4, .int vy), (5, .int lim)] → W p l e (headSpec wsX3_differenceMoved ({ frames := 1, cells := 0, slots := 0, locals := 32 } : Room)).room s m ([.ref h0, .ref hC, .int (nI b), .int vx, .int vy, .int lim] : List Value).toArray below meth c s.heap [] 0 0 (MQ below (vp_Si (fun r : Int32 => r = dmL fc fa b vx vy lim 8)) ([.ref h0, .ref hC, .int (nI b), .int vx, .int vy, .int lim] : List Value).toArray s 0 0 (fun _ => False)) (F0 m 53 ls []) := by
            intro n53
            induction n53 with
            | zero => intro k y10 hc hz; exact absurd hz (Nat.not_lt_zero _)
            | succ n53 ih53 =>
              intro k y10 hc hfu ey10 ls hl
              refine lv_iload hx hb dX3_differenceMoved_53 (lv_at hl 0 rfl) ?_
              refine lv_bipush (v := 8) hx hb dX3_differenceMoved_55 (by decide +kernel) ?_
              refine lv_icmp_ge (tgt := 111) hx hb dX3_differenceMoved_57 (by decide) (fun c57 => ?_) (fun c57 => ?_)
              · skip
                have c57 : 8 ≤ k := (nI_leI (a := 8) (b := k) (by omega) (by omega)).mp c57
                obtain rfl : k = 8 := by omega
                refine lv_iinc (v := nI (i + 1)) (lv' := [(11, .int (nI (i + 1))), (12, .int (nI 8)), (10, .int y10), (9, .int (nI (b / 4 * 8 * 32 + b % 4 * 8))), (8, .int (nI ((lo vy) * 38))), (7, .int (nI (lo vx))), (6, .int (nI (stA b vx vy))), (0, .ref h0), (1, .ref hC), (2, .int (nI b)), (3, .int vx), (4, .int vy), (5, .int lim)]) hx hb dX3_differenceMoved_111 hl (k := 1) rfl (show nI i + Int32.ofInt 1 = nI (i + 1) from nI_add _ _) (by decide) rfl (fun ls hl => ?_)
                refine lv_goto (tgt := 36) hx hb dX3_differenceMoved_114 (by decide) ?_
                exact ih36 (i + 1) y10 (by omega) (by omega) (by rw [ey10]; exact (if_pos (by rw [← ex10]; exact lti c47)).symm) _ (lv_sub hl [0, 2, 3, 4, 5, 6, 7, 8, 9, 10, 11, 12] rfl)
              · skip
                have c57 : ¬ 8 ≤ k := fun z => c57 ((nI_leI (a := 8) (b := k) (by omega) (by omega)).mpr z)
                refine lv_aload_n hx hb dX3_differenceMoved_60 rfl (lv_at hl 7 rfl) ?_
                refine lv_iload hx hb dX3_differenceMoved_61 (lv_at hl 6 rfl) ?_
                refine lv_iload hx hb dX3_differenceMoved_63 (lv_at hl 1 rfl) ?_
                refine lv_bipush (v := 38) hx hb dX3_differenceMoved_65 (by decide +kernel) ?_
                refine lv_imul hx hb dX3_differenceMoved_67 ?_
                refine lv_topr (show _ = nI (i * 38) from pk_mul i 38) ?_
                refine lv_iadd hx hb dX3_differenceMoved_68 ?_
                refine lv_topr (show _ = nI ((stA b vx vy) + (i * 38)) from nI_add (stA b vx vy) (i * 38)) ?_
                refine lv_iload hx hb dX3_differenceMoved_69 (lv_at hl 0 rfl) ?_
                refine lv_iadd hx hb dX3_differenceMoved_71 ?_
                refine lv_topr (show _ = nI (((stA b vx vy) + (i * 38)) + k) from nI_add ((stA b vx vy) + (i * 38)) k) ?_
                refine lv_iload hx hb dX3_differenceMoved_72 (lv_at hl 5 rfl) ?_
                refine lv_iload hx hb dX3_differenceMoved_74 (lv_at hl 4 rfl) ?_
                refine vp_callSi (va_Run.run (va_runV (As := [.int (nI (((stA b vx vy) + (i * 38)) + k)), .int (nI (lo vx)), .int (nI ((lo vy) * 38))]) (rest := []) ⟨hx, hb, hml, hown, hts⟩ (C_X3_between l dC dI cI cZ cP N0 tO h0 hA hQ hM hF fa (((stA b vx vy) + (i * 38)) + k) (lo vx) ((lo vy) * 38) (h5 (by omega) (by omega))) (cwV 3 hts gX3_differenceMoved_X3_between rfl rfl rfl (by decide +kernel) ⟨Nat.le_of_ble_eq_true rfl, Nat.le_of_ble_eq_true rfl⟩) ⟨Gv.blind, va_recv hK hP (ci := 3) (q0 := 0) rfl rfl, Gv.of hE (hP.sub [0, 2] rfl)⟩ rfl rfl hl.1 rfl (lv_room (Nat.le_of_ble_eq_true rfl)) dX3_differenceMoved_76 ⟨Nat.le_of_ble_eq_true rfl, Nat.le_of_ble_eq_true rfl⟩)) (fun r_3 hr_3 => ?_)
                have hr_3 : r_3 = betweenF fa (((stA b vx vy) + (i * 38)) + k) (lo vx) ((lo vy) * 38) := hr_3
                refine lv_istore (lv' := [(13, .int r_3), (12, .int (nI k)), (11, .int (nI i)), (10, .int y10), (9, .int (nI (b / 4 * 8 * 32 + b % 4 * 8))), (8, .int (nI ((lo vy) * 38))), (7, .int (nI (lo vx))), (6, .int (nI (stA b vx vy))), (0, .ref h0), (1, .ref hC), (2, .int (nI b)), (3, .int vx), (4, .int vy), (5, .int lim)]) hx hb dX3_differenceMoved_79 hl (by decide) rfl (fun ls hl => ?_)
                refine lv_iload hx hb dX3_differenceMoved_81 (lv_at hl 3 rfl) ?_
                refine lv_aload_n hx hb dX3_differenceMoved_83 rfl (lv_at hl 9 rfl) ?_
                refine lv_iload hx hb dX3_differenceMoved_84 (lv_at hl 4 rfl) ?_
                refine lv_iload hx hb dX3_differenceMoved_86 (lv_at hl 2 rfl) ?_
                refine lv_bipush (v := 32) hx hb dX3_differenceMoved_88 (by decide +kernel) ?_
                refine lv_imul hx hb dX3_differenceMoved_90 ?_
                refine lv_topr (show _ = nI (i * 32) from pk_mul i 32) ?_
                refine lv_iadd hx hb dX3_differenceMoved_91 ?_
                refine lv_topr (show _ = nI ((b / 4 * 8 * 32 + b % 4 * 8) + (i * 32)) from nI_add (b / 4 * 8 * 32 + b % 4 * 8) (i * 32)) ?_
                refine lv_iload hx hb dX3_differenceMoved_92 (lv_at hl 1 rfl) ?_
                refine lv_iadd hx hb dX3_differenceMoved_94 ?_
                refine lv_topr (show _ = nI (((b / 4 * 8 * 32 + b % 4 * 8) + (i * 32)) + k) from nI_add ((b / 4 * 8 * 32 + b % 4 * 8) + (i * 32)) k) ?_
                refine wa_iald (D := (dC, dI)) (i := (((b / 4 * 8 * 32 + b % 4 * 8) + (i * 32)) + k)) (f := fc) hx hb hK hP 1 0 rfl rfl (by omega) (by omega) dX3_differenceMoved_95 ?_
                refine lv_iload hx hb dX3_differenceMoved_96 (lv_at hl 0 rfl) ?_
                refine lv_isub hx hb dX3_differenceMoved_98 ?_
                refine va_mabs hx hb (hml.trans hl.1.symm) hown (hts (.methodLink RX3 53 Lib.Math.abs.name) (List.mem_of_getElem? (i := 1) (by decide +kernel))) (hts (.static Lib.Math.abs.name) (List.mem_of_getElem? (i := 2) (by decide +kernel))) (hts (.initialized "java/lang/Math") (List.mem_of_getElem? (i := 3) (by decide +kernel))) (hts (.code Lib.Math.abs.name Lib.Math.abs.code 1 (some .int)) (List.mem_of_getElem? (i := 4) (by decide +kernel))) (Nat.le_of_ble_eq_true rfl) (Nat.le_of_ble_eq_true rfl) (Nat.le_of_ble_eq_true rfl) (Nat.le_of_ble_eq_true rfl) dX3_differenceMoved_99 ?_
                refine lv_topr (show _ = absI ((fc (((b / 4 * 8 * 32 + b % 4 * 8) + (i * 32)) + k)) - r_3) from rfl) ?_
                refine lv_iadd hx hb dX3_differenceMoved_102 ?_
                refine lv_topi (fun x_4 ex_4 => ?_)
                refine lv_istore (lv' := [(10, .int x_4), (13, .int r_3), (12, .int (nI k)), (11, .int (nI i)), (9, .int (nI (b / 4 * 8 * 32 + b % 4 * 8))), (8, .int (nI ((lo vy) * 38))), (7, .int (nI (lo vx))), (6, .int (nI (stA b vx vy))), (0, .ref h0), (1, .ref hC), (2, .int (nI b)), (3, .int vx), (4, .int vy), (5, .int lim)]) hx hb dX3_differenceMoved_103 hl (by decide) rfl (fun ls hl => ?_)
                refine lv_iinc (v := nI (k + 1)) (lv' := [(12, .int (nI (k + 1))), (10, .int x_4), (13, .int r_3), (11, .int (nI i)), (9, .int (nI (b / 4 * 8 * 32 + b % 4 * 8))), (8, .int (nI ((lo vy) * 38))), (7, .int (nI (lo vx))), (6, .int (nI (stA b vx vy))), (0, .ref h0), (1, .ref hC), (2, .int (nI b)), (3, .int vx), (4, .int vy), (5, .int lim)]) hx hb dX3_differenceMoved_105 hl (k := 2) rfl (show nI k + Int32.ofInt 1 = nI (k + 1) from nI_add _ _) (by decide) rfl (fun ls hl => ?_)
                refine lv_goto (tgt := 53) hx hb dX3_differenceMoved_108 (by decide) ?_
                exact ih53 (k + 1) x_4 (by omega) (by omega) (by rw [ex_4, hr_3, ey10] <;> rfl) _ (lv_sub hl [0, 3, 1, 4, 5, 6, 7, 8, 9, 10, 11, 12, 13] rfl)
          exact L53 (8 + 1) 0 x10 (by omega) (Nat.lt_succ_self _) (by rw [ex10] <;> rfl) _ (lv_sub hl [0, 1, 2, 3, 4, 5, 6, 7, 8, 9, 10, 11, 12] rfl)
  exact L36 (8 + 1) 0 0 (by omega) (Nat.lt_succ_self _) rfl _ (lv_sub hl [0, 1, 2, 3, 4, 5, 6, 7, 8, 9, 10, 11] rfl)
