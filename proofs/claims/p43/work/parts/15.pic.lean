def fbN (ub : Nat → Nat) : Nat → Nat
  | 0 => 0
  | n + 1 => fbN ub n + (ub n + 7) / 8
def lnz (fv : Nat → Int32) (b : Nat) : Nat → Nat
  | 0 => 0
  | n + 1 => lnz fv b n + (if fv (b * 64 + n) = 0 then 0 else 1)
def cntK (kd : Nat → Nat) (w : Nat) : Nat → Nat
  | 0 => 0
  | n + 1 => cntK kd w n + (if kd n = w then 1 else 0)
def bgN (fg : Nat → Int32) : Nat → Nat
  | 0 => 0
  | n + 1 => bgN fg n + (if fg n = 0 then 0 else 1)
def exF (fx : Nat → Int32) (b : Nat) : Int32 := if b % 4 = 0 then 0 else fx (b - 1)
def zI (x : Int32) : Int32 := if x = 0 then 0 else 1
theorem fbN_lt {ub : Nat → Nat} (h : ∀ j, j < 3 → ub j < 1048576) : ∀ {k : Nat}, k ≤ 3 → fbN ub k ≤ k * 131072
  | 0, _ => Nat.zero_le _
  | n + 1, hn => by
    have h1 := fbN_lt h (k := n) (by omega)
    have h2 := h n (by omega)
    show fbN ub n + (ub n + 7) / 8 ≤ _
    omega
theorem lnz_0 {fv : Nat → Int32} {b n : Nat} (h : fv (b * 64 + n) = 0) : nI (lnz fv b n) + 0 = nI (lnz fv b (n + 1)) := by
  show _ = nI (lnz fv b n + (if fv (b * 64 + n) = 0 then 0 else 1))
  rw [if_pos h]; exact nI_add _ 0
theorem lnz_1 {fv : Nat → Int32} {b n : Nat} (h : ¬ fv (b * 64 + n) = 0) : nI (lnz fv b n) + 1 = nI (lnz fv b (n + 1)) := by
  show _ = nI (lnz fv b n + (if fv (b * 64 + n) = 0 then 0 else 1))
  rw [if_neg h]; exact nI_add _ 1
theorem cntK_0 {kd : Nat → Nat} {w n : Nat} (h : ¬ kd n = w) : nI (cntK kd w n) + 0 = nI (cntK kd w (n + 1)) := by
  show _ = nI (cntK kd w n + (if kd n = w then 1 else 0))
  rw [if_neg h]; exact nI_add _ 0
theorem cntK_1 {kd : Nat → Nat} {w n : Nat} (h : kd n = w) : nI (cntK kd w n) + 1 = nI (cntK kd w (n + 1)) := by
  show _ = nI (cntK kd w n + (if kd n = w then 1 else 0))
  rw [if_pos h]; exact nI_add _ 1
theorem bgN_0 {fg : Nat → Int32} {n : Nat} (h : fg n = 0) : nI (bgN fg n) + 0 = nI (bgN fg (n + 1)) := by
  show _ = nI (bgN fg n + (if fg n = 0 then 0 else 1))
  rw [if_pos h]; exact nI_add _ 0
theorem bgN_1 {fg : Nat → Int32} {n : Nat} (h : ¬ fg n = 0) : nI (bgN fg n) + 1 = nI (bgN fg (n + 1)) := by
  show _ = nI (bgN fg n + (if fg n = 0 then 0 else 1))
  rw [if_neg h]; exact nI_add _ 1
-- checksums
def dgR (fw : Nat → Int32) (s : Nat) (d : Int64) : Nat → Int64
  | 0 => d
  | n + 1 => dgR fw s d n * 31 + (fw (s + n)).toInt64
def dgP (ub : Nat → Nat) (fg fw : Nat → Int32) (len k : Nat) (d : Int64) : Int64 :=
  dgR fw (fbN ub k) (((d * 31 + (nI ((ub k + 7) / 8)).toInt64) * 31 + (nI (ub k)).toInt64) * 31 + (zI (fg k)).toInt64) (min ((ub k + 7) / 8) (len - fbN ub k))
def dgBk (kd : Nat → Nat) (fx fy fv : Nat → Int32) (d : Int64) : Nat → Int64
  | 0 => d
  | n + 1 => (((dgBk kd fx fy fv d n * 31 + (nI (kd n)).toInt64) * 31 + (fx n).toInt64) * 31 + (fy n).toInt64) * 31 + (nI (lnz fv n 64)).toInt64
def dgPs (ub : Nat → Nat) (fg fw : Nat → Int32) (len : Nat) (d : Int64) : Nat → Int64
  | 0 => d
  | n + 1 => dgP ub fg fw len n (dgPs ub fg fw len d n)
def dgO (kd : Nat → Nat) (fx fy fv : Nat → Int32) (ub : Nat → Nat) (fg fw : Nat → Int32) (len : Nat) (q er ky : Int32) (d : Int64) : Int64 :=
  dgPs ub fg fw len (dgBk kd fx fy fv (((d * 31 + (zI ky).toInt64) * 31 + q.toInt64) * 31 + er.toInt64) 12) 3
set_option maxHeartbeats 4000000 in
set_option maxRecDepth 100000 in
theorem C_X2_bytesIn (l : Launch) (dC : Nat → ClassId) (dI : Nat → Nat → Nat) (cI cZ cP : ClassId) (N0 tO : Nat) (p0 pK pX pY pC pV pR pU pG pW : Nat) (num q er ky sm : Int32) (ub : Nat → Nat) (k : Nat) (h1 : k < 3) (h2 : ub k < 1048576) : Met l yX2_bytesIn wsX2_bytesIn ({ frames := 0, cells := 0, slots := 0, locals := 0 } : Room) (Gv (dC, dI) cI cZ cP N0 tO [.ref p0, .int (nI k)] (fun H => va_P (dC, dI) vwCl [(p0, .inr (2, [.ref pK, .ref pX, .ref pY, .ref pC, .ref pV, .ref pR, .ref pU, .ref pG, .ref pW, .int num, .int q, .int er, .int ky, .int sm])), (pU, .inl (cI, 3, .inl (fun k => nI (ub k))))] H)) (vp_Si (fun r : Int32 => r = nI ((ub k + 7) / 8))) 0 0 (fun _ => False) := by
  refine Met.ofW (cc := cX2_bytesIn) (maxL := 2) (ret := (some .int)) (by decide) rfl ?_
  intro p e s m args below meth c s₁ B hml hv
  obtain ⟨rfl, hE, hP⟩ := hv
  have hx := B.exec
  have hb := B.bytes
  have hr := B.returns
  have hts := atoms_spec (ws := wsX2_bytesIn) B.pre
  have hown : s.vm.findClass RX2 = some m.cls := findClass_of_methodNamed B.named
  have hlocks := B.notSynchronized
  have hK := hE.1
  have hNS := hE.2.1
  have hP : va_P (dC, dI) vwCl [(p0, .inr (2, [.ref pK, .ref pX, .ref pY, .ref pC, .ref pV, .ref pR, .ref pU, .ref pG, .ref pW, .int num, .int q, .int er, .int ky, .int sm])), (pU, .inl (cI, 3, .inl (fun k => nI (ub k))))] s.heap := hP
  have hinX2 : ∀ w ∈ wsX20, w ∈ wsX2_bytesIn := by decide +kernel
  have hl := lv_entry ([.ref p0, .int (nI k)]) (n := 2) (Nat.le_of_ble_eq_true rfl)
  rw [lg_entry_eq]
  generalize (lg_sl ([.ref p0, .int (nI k)]) ++ List.replicate (2 - (lg_sl ([.ref p0, .int (nI k)])).length) Slot.unset).toArray = ls at hl ⊢
  have hl : lv_has ls 2 [(0, .ref p0), (1, .int (nI k))] := hl
  refine lv_aload_n hx hb dX2_bytesIn_0 rfl (lv_at hl 0 rfl) ?_
  refine va_get (D := (dC, dI)) (ci := 2) (v := .ref pU) (C := RX2) (T := TX2) (N := 14) hx hb hts hinX2 hown hK hP 0 rfl rfl 6 (by decide) (hts (.fieldLink RX2 30 "GreyReel$Picture" "usedBits" "[I") (List.mem_of_getElem? (i := 1) (by decide +kernel))) (fun _ h9 => h9) rfl dX2_bytesIn_1 ?_
  refine lv_iload_n hx hb dX2_bytesIn_4 rfl (lv_at hl 1 rfl) ?_
  refine wa_iald (D := (dC, dI)) (i := k) (f := (fun k => nI (ub k))) hx hb hK hP 1 0 rfl rfl (by omega) (by omega) dX2_bytesIn_5 ?_
  refine lv_bipush (v := 7) hx hb dX2_bytesIn_6 (by decide +kernel) ?_
  refine lv_iadd hx hb dX2_bytesIn_8 ?_
  refine lv_topr (show _ = nI ((ub k) + 7) from nI_add (ub k) 7) ?_
  refine lv_bipush (v := 8) hx hb dX2_bytesIn_9 (by decide +kernel) ?_
  refine lv_idiv hx hb dX2_bytesIn_11 (by decide) ?_
  refine lv_topr (show _ = nI (((ub k) + 7) / 8) from pk_div (a := ((ub k) + 7)) (d := 8) (by omega) (by omega) (by omega)) ?_
  exact W.iret (v := nI (((ub k) + 7) / 8)) hx hb hr (fun t ht hW => ⟨nI (((ub k) + 7) / 8), rfl, rfl, ht⟩) (fun _ h => by cases h) dX2_bytesIn_12
set_option maxHeartbeats 4000000 in
set_option maxRecDepth 100000 in
theorem C_X2_firstByteOf (l : Launch) (dC : Nat → ClassId) (dI : Nat → Nat → Nat) (cI cZ cP : ClassId) (N0 tO : Nat) (p0 pK pX pY pC pV pR pU pG pW : Nat) (num q er ky sm : Int32) (ub : Nat → Nat) (k : Nat) (h1 : k ≤ 3) (hub : ∀ j, j < 3 → ub j < 1048576) : Met l yX2_firstByteOf wsX2_firstByteOf ({ frames := 1, cells := 0, slots := 0, locals := 21 } : Room) (Gv (dC, dI) cI cZ cP N0 tO [.ref p0, .int (nI k)] (fun H => va_P (dC, dI) vwCl [(p0, .inr (2, [.ref pK, .ref pX, .ref pY, .ref pC, .ref pV, .ref pR, .ref pU, .ref pG, .ref pW, .int num, .int q, .int er, .int ky, .int sm])), (pU, .inl (cI, 3, .inl (fun k => nI (ub k))))] H)) (vp_Si (fun r : Int32 => r = nI (fbN ub k))) 0 0 (fun _ => False) := by
  refine Met.ofW (cc := cX2_firstByteOf) (maxL := 4) (ret := (some .int)) (by decide) rfl ?_
  intro p e s m args below meth c s₁ B hml hv
  obtain ⟨rfl, hE, hP⟩ := hv
  have hx := B.exec
  have hb := B.bytes
  have hr := B.returns
  have hts := atoms_spec (ws := wsX2_firstByteOf) B.pre
  have hown : s.vm.findClass RX2 = some m.cls := findClass_of_methodNamed B.named
  have hlocks := B.notSynchronized
  have hK := hE.1
  have hNS := hE.2.1
  have hP : va_P (dC, dI) vwCl [(p0, .inr (2, [.ref pK, .ref pX, .ref pY, .ref pC, .ref pV, .ref pR, .ref pU, .ref pG, .ref pW, .int num, .int q, .int er, .int ky, .int sm])), (pU, .inl (cI, 3, .inl (fun k => nI (ub k))))] s.heap := hP
  have hl := lv_entry ([.ref p0, .int (nI k)]) (n := 4) (Nat.le_of_ble_eq_true rfl)
  rw [lg_entry_eq]
  generalize (lg_sl ([.ref p0, .int (nI k)]) ++ List.replicate (4 - (lg_sl ([.ref p0, .int (nI k)])).length) Slot.unset).toArray = ls at hl ⊢
  have hl : lv_has ls 4 [(0, .ref p0), (1, .int (nI k))] := hl
  refine lv_iconst (v := 0) hx hb dX2_firstByteOf_0 (by decide) ?_
  refine lv_istore_n (lv' := [(2, .int 0), (0, .ref p0), (1, .int (nI k))]) hx hb dX2_firstByteOf_1 rfl hl (by decide) rfl (fun ls hl => ?_)
  refine lv_iconst (v := 0) hx hb dX2_firstByteOf_2 (by decide) ?_
  refine lv_istore_n (lv' := [(3, .int 0), (2, .int 0), (0, .ref p0), (1, .int (nI k))]) hx hb dX2_firstByteOf_3 rfl hl (by decide) rfl (fun ls hl => ?_)
  have L4 : ∀ (n4 : Nat) (i : Nat), (i ≤ k) → k - i < n4 → ∀ (ls : Array Slot), lv_has ls 4 [(3, .int (nI i)), (2, .int (nI (fbN ub i))), (0, .ref p0), (1, .int (nI k))] → W p l e (headSpec wsX2_firstByteOf ({ frames := 1, cells := 0, slots := 0, locals := 21 } : Room)).room s m ([.ref p0, .int (nI k)] : List Value).toArray below meth c s.heap [] 0 0 (MQ below (vp_Si (fun r : Int32 => r = nI (fbN ub k))) ([.ref p0, .int (nI k)] : List Value).toArray s 0 0 (fun _ => False)) (F0 m 4 ls []) := by
    intro n4
    induction n4 with
    | zero => intro i hi hz; exact absurd hz (Nat.not_lt_zero _)
    | succ n4 ih4 =>
      intro i hi hfu ls hl
      have hf := fbN_lt hub (k := i) (by omega)
      have hf2 := hub
      refine lv_iload_n hx hb dX2_firstByteOf_4 rfl (lv_at hl 0 rfl) ?_
      refine lv_iload_n hx hb dX2_firstByteOf_5 rfl (lv_at hl 3 rfl) ?_
      refine lv_icmp_ge (tgt := 23) hx hb dX2_firstByteOf_6 (by decide) (fun c6 => ?_) (fun c6 => ?_)
      · skip
        have c6 : k ≤ i := (nI_leI (a := k) (b := i) (by omega) (by omega)).mp c6
        obtain rfl : i = k := by omega
        refine lv_iload_n hx hb dX2_firstByteOf_23 rfl (lv_at hl 1 rfl) ?_
        exact W.iret (v := nI (fbN ub i)) hx hb hr (fun t ht hW => ⟨nI (fbN ub i), rfl, rfl, ht⟩) (fun _ h => by cases h) dX2_firstByteOf_24
      · skip
        have c6 : ¬ k ≤ i := fun z => c6 ((nI_leI (a := k) (b := i) (by omega) (by omega)).mpr z)
        have hf3 := hub i (by omega)
        refine lv_iload_n hx hb dX2_firstByteOf_9 rfl (lv_at hl 1 rfl) ?_
        refine lv_aload_n hx hb dX2_firstByteOf_10 rfl (lv_at hl 2 rfl) ?_
        refine lv_iload_n hx hb dX2_firstByteOf_11 rfl (lv_at hl 0 rfl) ?_
        refine vp_callSi (va_Run.run (va_runV (As := [.int (nI i)]) (rest := [.int (nI (fbN ub i))]) ⟨hx, hb, hml, hown, hts⟩ (C_X2_bytesIn l dC dI cI cZ cP N0 tO p0 pK pX pY pC pV pR pU pG pW num q er ky sm ub i (by omega) (hub i (by omega))) (cwV 1 hts gX2_firstByteOf_X2_bytesIn rfl rfl rfl (by decide +kernel) ⟨Nat.le_of_ble_eq_true rfl, Nat.le_of_ble_eq_true rfl⟩) ⟨Gv.blind, va_recv hK hP (ci := 2) (q0 := 0) rfl rfl, Gv.of hE (hP.sub [0, 1] rfl)⟩ rfl rfl hl.1 rfl (lv_room (Nat.le_of_ble_eq_true rfl)) dX2_firstByteOf_12 ⟨Nat.le_of_ble_eq_true rfl, Nat.le_of_ble_eq_true rfl⟩)) (fun r_1 hr_1 => ?_)
        have hr_1 : r_1 = nI ((ub i + 7) / 8) := hr_1
        refine lv_topr hr_1 ?_
        refine lv_iadd hx hb dX2_firstByteOf_15 ?_
        refine lv_topr (show _ = nI ((fbN ub i) + ((ub i + 7) / 8)) from nI_add (fbN ub i) ((ub i + 7) / 8)) ?_
        refine lv_istore_n (lv' := [(2, .int (nI ((fbN ub i) + ((ub i + 7) / 8)))), (3, .int (nI i)), (0, .ref p0), (1, .int (nI k))]) hx hb dX2_firstByteOf_16 rfl hl (by decide) rfl (fun ls hl => ?_)
        refine lv_iinc (v := nI (i + 1)) (lv' := [(3, .int (nI (i + 1))), (2, .int (nI ((fbN ub i) + ((ub i + 7) / 8)))), (0, .ref p0), (1, .int (nI k))]) hx hb dX2_firstByteOf_17 hl (k := 1) rfl (show nI i + Int32.ofInt 1 = nI (i + 1) from nI_add _ _) (by decide) rfl (fun ls hl => ?_)
        refine lv_goto (tgt := 4) hx hb dX2_firstByteOf_20 (by decide) ?_
        exact ih4 (i + 1) (by omega) (by omega) _ (lv_sub hl [0, 1, 2, 3] rfl)
  exact L4 (k + 1) 0 (by omega) (Nat.lt_succ_self _) _ (lv_sub hl [0, 1, 2, 3] rfl)
set_option maxHeartbeats 4000000 in
set_option maxRecDepth 100000 in
theorem C_X2_bytesInAll (l : Launch) (dC : Nat → ClassId) (dI : Nat → Nat → Nat) (cI cZ cP : ClassId) (N0 tO : Nat) (p0 pK pX pY pC pV pR pU pG pW : Nat) (num q er ky sm : Int32) (ub : Nat → Nat) (hub : ∀ j, j < 3 → ub j < 1048576) : Met l yX2_bytesInAll wsX2_bytesInAll ({ frames := 2, cells := 0, slots := 0, locals := 44 } : Room) (Gv (dC, dI) cI cZ cP N0 tO [.ref p0] (fun H => va_P (dC, dI) vwCl [(p0, .inr (2, [.ref pK, .ref pX, .ref pY, .ref pC, .ref pV, .ref pR, .ref pU, .ref pG, .ref pW, .int num, .int q, .int er, .int ky, .int sm])), (pU, .inl (cI, 3, .inl (fun k => nI (ub k))))] H)) (vp_Si (fun r : Int32 => r = nI (fbN ub 3))) 0 0 (fun _ => False) := by
  refine Met.ofW (cc := cX2_bytesInAll) (maxL := 1) (ret := (some .int)) (by decide) rfl ?_
  intro p e s m args below meth c s₁ B hml hv
  obtain ⟨rfl, hE, hP⟩ := hv
  have hx := B.exec
  have hb := B.bytes
  have hr := B.returns
  have hts := atoms_spec (ws := wsX2_bytesInAll) B.pre
  have hown : s.vm.findClass RX2 = some m.cls := findClass_of_methodNamed B.named
  have hlocks := B.notSynchronized
  have hK := hE.1
  have hNS := hE.2.1
  have hP : va_P (dC, dI) vwCl [(p0, .inr (2, [.ref pK, .ref pX, .ref pY, .ref pC, .ref pV, .ref pR, .ref pU, .ref pG, .ref pW, .int num, .int q, .int er, .int ky, .int sm])), (pU, .inl (cI, 3, .inl (fun k => nI (ub k))))] s.heap := hP
  have hl := lv_entry ([.ref p0]) (n := 1) (Nat.le_of_ble_eq_true rfl)
  rw [lg_entry_eq]
  generalize (lg_sl ([.ref p0]) ++ List.replicate (1 - (lg_sl ([.ref p0])).length) Slot.unset).toArray = ls at hl ⊢
  have hl : lv_has ls 1 [(0, .ref p0)] := hl
  refine lv_aload_n hx hb dX2_bytesInAll_0 rfl (lv_at hl 0 rfl) ?_
  refine lv_iconst (v := 3) hx hb dX2_bytesInAll_1 (by decide) ?_
  refine vp_callSi (va_Run.run (va_runV (As := [.int 3]) (rest := []) ⟨hx, hb, hml, hown, hts⟩ (C_X2_firstByteOf l dC dI cI cZ cP N0 tO p0 pK pX pY pC pV pR pU pG pW num q er ky sm ub 3 (by omega) hub) (cwV 1 hts gX2_bytesInAll_X2_firstByteOf rfl rfl rfl (by decide +kernel) ⟨Nat.le_of_ble_eq_true rfl, Nat.le_of_ble_eq_true rfl⟩) ⟨Gv.blind, va_recv hK hP (ci := 2) (q0 := 0) rfl rfl, Gv.of hE (hP.sub [0, 1] rfl)⟩ rfl rfl hl.1 rfl (lv_room (Nat.le_of_ble_eq_true rfl)) dX2_bytesInAll_2 ⟨Nat.le_of_ble_eq_true rfl, Nat.le_of_ble_eq_true rfl⟩)) (fun r_1 hr_1 => ?_)
  have hr_1 : r_1 = nI (fbN ub 3) := hr_1
  refine lv_topr hr_1 ?_
  exact W.iret (v := nI (fbN ub 3)) hx hb hr (fun t ht hW => ⟨nI (fbN ub 3), rfl, rfl, ht⟩) (fun _ h => by cases h) dX2_bytesInAll_5
set_option maxHeartbeats 4000000 in
set_option maxRecDepth 100000 in
theorem C_X2_levelsNotZero (l : Launch) (dC : Nat → ClassId) (dI : Nat → Nat → Nat) (cI cZ cP : ClassId) (N0 tO : Nat) (p0 pK pX pY pC pV pR pU pG pW : Nat) (num q er ky sm : Int32) (fv : Nat → Int32) (b : Nat) (h1 : b < 12) : Met l yX2_levelsNotZero wsX2_levelsNotZero ({ frames := 0, cells := 0, slots := 0, locals := 0 } : Room) (Gv (dC, dI) cI cZ cP N0 tO [.ref p0, .int (nI b)] (fun H => va_P (dC, dI) vwCl [(p0, .inr (2, [.ref pK, .ref pX, .ref pY, .ref pC, .ref pV, .ref pR, .ref pU, .ref pG, .ref pW, .int num, .int q, .int er, .int ky, .int sm])), (pV, .inl (cI, 768, .inl fv))] H)) (vp_Si (fun r : Int32 => r = nI (lnz fv b 64))) 0 0 (fun _ => False) := by
  refine Met.ofW (cc := cX2_levelsNotZero) (maxL := 4) (ret := (some .int)) (by decide) rfl ?_
  intro p e s m args below meth c s₁ B hml hv
  obtain ⟨rfl, hE, hP⟩ := hv
  have hx := B.exec
  have hb := B.bytes
  have hr := B.returns
  have hts := atoms_spec (ws := wsX2_levelsNotZero) B.pre
  have hown : s.vm.findClass RX2 = some m.cls := findClass_of_methodNamed B.named
  have hlocks := B.notSynchronized
  have hK := hE.1
  have hNS := hE.2.1
  have hP : va_P (dC, dI) vwCl [(p0, .inr (2, [.ref pK, .ref pX, .ref pY, .ref pC, .ref pV, .ref pR, .ref pU, .ref pG, .ref pW, .int num, .int q, .int er, .int ky, .int sm])), (pV, .inl (cI, 768, .inl fv))] s.heap := hP
  have hinX2 : ∀ w ∈ wsX20, w ∈ wsX2_levelsNotZero := by decide +kernel
  have hl := lv_entry ([.ref p0, .int (nI b)]) (n := 4) (Nat.le_of_ble_eq_true rfl)
  rw [lg_entry_eq]
  generalize (lg_sl ([.ref p0, .int (nI b)]) ++ List.replicate (4 - (lg_sl ([.ref p0, .int (nI b)])).length) Slot.unset).toArray = ls at hl ⊢
  have hl : lv_has ls 4 [(0, .ref p0), (1, .int (nI b))] := hl
  refine lv_iconst (v := 0) hx hb dX2_levelsNotZero_0 (by decide) ?_
  refine lv_istore_n (lv' := [(2, .int 0), (0, .ref p0), (1, .int (nI b))]) hx hb dX2_levelsNotZero_1 rfl hl (by decide) rfl (fun ls hl => ?_)
  refine lv_iconst (v := 0) hx hb dX2_levelsNotZero_2 (by decide) ?_
  refine lv_istore_n (lv' := [(3, .int 0), (2, .int 0), (0, .ref p0), (1, .int (nI b))]) hx hb dX2_levelsNotZero_3 rfl hl (by decide) rfl (fun ls hl => ?_)
  have L4 : ∀ (n4 : Nat) (i : Nat) (x2 : Int32), (i ≤ 64) → 64 - i < n4 → x2 = (nI (lnz fv b i)) → ∀ (ls : Array Slot), lv_has ls 4 [(3, .int (nI i)), (2, .int x2), (0, .ref p0), (1, .int (nI b))] → W p l e (headSpec wsX2_levelsNotZero ({ frames := 0, cells := 0, slots := 0, locals := 0 } : Room)).room s m ([.ref p0, .int (nI b)] : List Value).toArray below meth c s.heap [] 0 0 (MQ below (vp_Si (fun r : Int32 => r = nI (lnz fv b 64))) ([.ref p0, .int (nI b)] : List Value).toArray s 0 0 (fun _ => False)) (F0 m 4 ls []) := by
    intro n4
    induction n4 with
    | zero => intro i x2 hi hz; exact absurd hz (Nat.not_lt_zero _)
    | succ n4 ih4 =>
      intro i x2 hi hfu ex2 ls hl
      refine lv_iload_n hx hb dX2_levelsNotZero_4 rfl (lv_at hl 0 rfl) ?_
      refine lv_bipush (v := 64) hx hb dX2_levelsNotZero_5 (by decide +kernel) ?_
      refine lv_icmp_ge (tgt := 38) hx hb dX2_levelsNotZero_7 (by decide) (fun c7 => ?_) (fun c7 => ?_)
      · skip
        have c7 : 64 ≤ i := (nI_leI (a := 64) (b := i) (by omega) (by omega)).mp c7
        obtain rfl : i = 64 := by omega
        refine lv_iload_n hx hb dX2_levelsNotZero_38 rfl (lv_at hl 1 rfl) ?_
        exact W.iret (v := x2) hx hb hr (fun t ht hW => ⟨x2, rfl, (by rw [ex2] <;> rfl), ht⟩) (fun _ h => by cases h) dX2_levelsNotZero_39
      · skip
        have c7 : ¬ 64 ≤ i := fun z => c7 ((nI_leI (a := 64) (b := i) (by omega) (by omega)).mpr z)
        refine lv_iload_n hx hb dX2_levelsNotZero_10 rfl (lv_at hl 1 rfl) ?_
        refine lv_aload_n hx hb dX2_levelsNotZero_11 rfl (lv_at hl 2 rfl) ?_
        refine va_get (D := (dC, dI)) (ci := 2) (v := .ref pV) (C := RX2) (T := TX2) (N := 14) hx hb hts hinX2 hown hK hP 0 rfl rfl 4 (by decide) (hts (.fieldLink RX2 24 "GreyReel$Picture" "level" "[I") (List.mem_of_getElem? (i := 1) (by decide +kernel))) (fun _ h9 => h9) rfl dX2_levelsNotZero_12 ?_
        refine lv_iload_n hx hb dX2_levelsNotZero_15 rfl (lv_at hl 3 rfl) ?_
        refine lv_bipush (v := 64) hx hb dX2_levelsNotZero_16 (by decide +kernel) ?_
        refine lv_imul hx hb dX2_levelsNotZero_18 ?_
        refine lv_topr (show _ = nI (b * 64) from pk_mul b 64) ?_
        refine lv_iload_n hx hb dX2_levelsNotZero_19 rfl (lv_at hl 0 rfl) ?_
        refine lv_iadd hx hb dX2_levelsNotZero_20 ?_
        refine lv_topr (show _ = nI ((b * 64) + i) from nI_add (b * 64) i) ?_
        refine wa_iald (D := (dC, dI)) (i := ((b * 64) + i)) (f := fv) hx hb hK hP 1 0 rfl rfl (by omega) (by omega) dX2_levelsNotZero_21 ?_
        refine lv_if_ne (tgt := 29) hx hb dX2_levelsNotZero_22 (by decide) (fun c22 => ?_) (fun c22 => ?_)
        · skip
          refine lv_iconst (v := 1) hx hb dX2_levelsNotZero_29 (by decide) ?_
          refine lv_iadd hx hb dX2_levelsNotZero_30 ?_
          refine lv_topi (fun x_1 ex_1 => ?_)
          refine lv_istore_n (lv' := [(2, .int x_1), (3, .int (nI i)), (0, .ref p0), (1, .int (nI b))]) hx hb dX2_levelsNotZero_31 rfl hl (by decide) rfl (fun ls hl => ?_)
          refine lv_iinc (v := nI (i + 1)) (lv' := [(3, .int (nI (i + 1))), (2, .int x_1), (0, .ref p0), (1, .int (nI b))]) hx hb dX2_levelsNotZero_32 hl (k := 1) rfl (show nI i + Int32.ofInt 1 = nI (i + 1) from nI_add _ _) (by decide) rfl (fun ls hl => ?_)
          refine lv_goto (tgt := 4) hx hb dX2_levelsNotZero_35 (by decide) ?_
          exact ih4 (i + 1) x_1 (by omega) (by omega) (by rw [ex_1, ex2]; exact lnz_1 c22) _ (lv_sub hl [0, 1, 2, 3] rfl)
        · skip
          refine lv_iconst (v := 0) hx hb dX2_levelsNotZero_25 (by decide) ?_
          refine lv_goto (tgt := 30) hx hb dX2_levelsNotZero_26 (by decide) ?_
          refine lv_iadd hx hb dX2_levelsNotZero_30 ?_
          refine lv_topi (fun x_2 ex_2 => ?_)
          refine lv_istore_n (lv' := [(2, .int x_2), (3, .int (nI i)), (0, .ref p0), (1, .int (nI b))]) hx hb dX2_levelsNotZero_31 rfl hl (by decide) rfl (fun ls hl => ?_)
          refine lv_iinc (v := nI (i + 1)) (lv' := [(3, .int (nI (i + 1))), (2, .int x_2), (0, .ref p0), (1, .int (nI b))]) hx hb dX2_levelsNotZero_32 hl (k := 1) rfl (show nI i + Int32.ofInt 1 = nI (i + 1) from nI_add _ _) (by decide) rfl (fun ls hl => ?_)
          refine lv_goto (tgt := 4) hx hb dX2_levelsNotZero_35 (by decide) ?_
          exact ih4 (i + 1) x_2 (by omega) (by omega) (by rw [ex_2, ex2]; exact lnz_0 c22) _ (lv_sub hl [0, 1, 2, 3] rfl)
  exact L4 (64 + 1) 0 0 (by omega) (Nat.lt_succ_self _) rfl _ (lv_sub hl [0, 1, 2, 3] rfl)
set_option maxHeartbeats 4000000 in
set_option maxRecDepth 100000 in
theorem C_X2_blocksOf (l : Launch) (dC : Nat → ClassId) (dI : Nat → Nat → Nat) (cI cZ cP : ClassId) (N0 tO : Nat) (p0 pK pX pY pC pV pR pU pG pW : Nat) (num q er ky sm : Int32) (kd : Nat → Nat) (w : Nat) (h1 : w < 5) (hkd : ∀ j, j < 12 → kd j < 5) : Met l yX2_blocksOf wsX2_blocksOf ({ frames := 0, cells := 0, slots := 0, locals := 0 } : Room) (Gv (dC, dI) cI cZ cP N0 tO [.ref p0, .int (nI w)] (fun H => va_P (dC, dI) vwCl [(p0, .inr (2, [.ref pK, .ref pX, .ref pY, .ref pC, .ref pV, .ref pR, .ref pU, .ref pG, .ref pW, .int num, .int q, .int er, .int ky, .int sm])), (pK, .inl (cI, 12, .inl (fun k => nI (kd k))))] H)) (vp_Si (fun r : Int32 => r = nI (cntK kd w 12))) 0 0 (fun _ => False) := by
  refine Met.ofW (cc := cX2_blocksOf) (maxL := 4) (ret := (some .int)) (by decide) rfl ?_
  intro p e s m args below meth c s₁ B hml hv
  obtain ⟨rfl, hE, hP⟩ := hv
  have hx := B.exec
  have hb := B.bytes
  have hr := B.returns
  have hts := atoms_spec (ws := wsX2_blocksOf) B.pre
  have hown : s.vm.findClass RX2 = some m.cls := findClass_of_methodNamed B.named
  have hlocks := B.notSynchronized
  have hK := hE.1
  have hNS := hE.2.1
  have hP : va_P (dC, dI) vwCl [(p0, .inr (2, [.ref pK, .ref pX, .ref pY, .ref pC, .ref pV, .ref pR, .ref pU, .ref pG, .ref pW, .int num, .int q, .int er, .int ky, .int sm])), (pK, .inl (cI, 12, .inl (fun k => nI (kd k))))] s.heap := hP
  have hinX2 : ∀ w ∈ wsX20, w ∈ wsX2_blocksOf := by decide +kernel
  have hl := lv_entry ([.ref p0, .int (nI w)]) (n := 4) (Nat.le_of_ble_eq_true rfl)
  rw [lg_entry_eq]
  generalize (lg_sl ([.ref p0, .int (nI w)]) ++ List.replicate (4 - (lg_sl ([.ref p0, .int (nI w)])).length) Slot.unset).toArray = ls at hl ⊢
  have hl : lv_has ls 4 [(0, .ref p0), (1, .int (nI w))] := hl
  refine lv_iconst (v := 0) hx hb dX2_blocksOf_0 (by decide) ?_
  refine lv_istore_n (lv' := [(2, .int 0), (0, .ref p0), (1, .int (nI w))]) hx hb dX2_blocksOf_1 rfl hl (by decide) rfl (fun ls hl => ?_)
  refine lv_iconst (v := 0) hx hb dX2_blocksOf_2 (by decide) ?_
  refine lv_istore_n (lv' := [(3, .int 0), (2, .int 0), (0, .ref p0), (1, .int (nI w))]) hx hb dX2_blocksOf_3 rfl hl (by decide) rfl (fun ls hl => ?_)
  have L4 : ∀ (n4 : Nat) (i : Nat) (x2 : Int32), (i ≤ 12) → 12 - i < n4 → x2 = (nI (cntK kd w i)) → ∀ (ls : Array Slot), lv_has ls 4 [(3, .int (nI i)), (2, .int x2), (0, .ref p0), (1, .int (nI w))] → W p l e (headSpec wsX2_blocksOf ({ frames := 0, cells := 0, slots := 0, locals := 0 } : Room)).room s m ([.ref p0, .int (nI w)] : List Value).toArray below meth c s.heap [] 0 0 (MQ below (vp_Si (fun r : Int32 => r = nI (cntK kd w 12))) ([.ref p0, .int (nI w)] : List Value).toArray s 0 0 (fun _ => False)) (F0 m 4 ls []) := by
    intro n4
    induction n4 with
    | zero => intro i x2 hi hz; exact absurd hz (Nat.not_lt_zero _)
    | succ n4 ih4 =>
      intro i x2 hi hfu ex2 ls hl
      refine lv_iload_n hx hb dX2_blocksOf_4 rfl (lv_at hl 0 rfl) ?_
      refine lv_bipush (v := 12) hx hb dX2_blocksOf_5 (by decide +kernel) ?_
      refine lv_icmp_ge (tgt := 34) hx hb dX2_blocksOf_7 (by decide) (fun c7 => ?_) (fun c7 => ?_)
      · skip
        have c7 : 12 ≤ i := (nI_leI (a := 12) (b := i) (by omega) (by omega)).mp c7
        obtain rfl : i = 12 := by omega
        refine lv_iload_n hx hb dX2_blocksOf_34 rfl (lv_at hl 1 rfl) ?_
        exact W.iret (v := x2) hx hb hr (fun t ht hW => ⟨x2, rfl, (by rw [ex2] <;> rfl), ht⟩) (fun _ h => by cases h) dX2_blocksOf_35
      · skip
        have c7 : ¬ 12 ≤ i := fun z => c7 ((nI_leI (a := 12) (b := i) (by omega) (by omega)).mpr z)
        refine lv_iload_n hx hb dX2_blocksOf_10 rfl (lv_at hl 1 rfl) ?_
        refine lv_aload_n hx hb dX2_blocksOf_11 rfl (lv_at hl 2 rfl) ?_
        refine va_get (D := (dC, dI)) (ci := 2) (v := .ref pK) (C := RX2) (T := TX2) (N := 14) hx hb hts hinX2 hown hK hP 0 rfl rfl 0 (by decide) (hts (.fieldLink RX2 9 "GreyReel$Picture" "kind" "[I") (List.mem_of_getElem? (i := 1) (by decide +kernel))) (fun _ h9 => h9) rfl dX2_blocksOf_12 ?_
        refine lv_iload_n hx hb dX2_blocksOf_15 rfl (lv_at hl 0 rfl) ?_
        have hk5 := hkd i (by omega)
        refine wa_iald (D := (dC, dI)) (i := i) (f := (fun k => nI (kd k))) hx hb hK hP 1 0 rfl rfl (by omega) (by omega) dX2_blocksOf_16 ?_
        refine lv_iload_n hx hb dX2_blocksOf_17 rfl (lv_at hl 3 rfl) ?_
        refine lv_icmp_ne (tgt := 25) hx hb dX2_blocksOf_18 (by decide) (fun c18 => ?_) (fun c18 => ?_)
        · skip
          have c18 : ¬ (kd i) = w := fun z => c18 ((nI_eq (a := (kd i)) (b := w) (by omega) (by omega)).mpr z)
          refine lv_iconst (v := 0) hx hb dX2_blocksOf_25 (by decide) ?_
          refine lv_iadd hx hb dX2_blocksOf_26 ?_
          refine lv_topi (fun x_1 ex_1 => ?_)
          refine lv_istore_n (lv' := [(2, .int x_1), (3, .int (nI i)), (0, .ref p0), (1, .int (nI w))]) hx hb dX2_blocksOf_27 rfl hl (by decide) rfl (fun ls hl => ?_)
          refine lv_iinc (v := nI (i + 1)) (lv' := [(3, .int (nI (i + 1))), (2, .int x_1), (0, .ref p0), (1, .int (nI w))]) hx hb dX2_blocksOf_28 hl (k := 1) rfl (show nI i + Int32.ofInt 1 = nI (i + 1) from nI_add _ _) (by decide) rfl (fun ls hl => ?_)
          refine lv_goto (tgt := 4) hx hb dX2_blocksOf_31 (by decide) ?_
          exact ih4 (i + 1) x_1 (by omega) (by omega) (by rw [ex_1, ex2]; exact cntK_0 c18) _ (lv_sub hl [0, 1, 2, 3] rfl)
        · skip
          have c18 : (kd i) = w := (nI_eq (a := (kd i)) (b := w) (by omega) (by omega)).mp c18
          refine lv_iconst (v := 1) hx hb dX2_blocksOf_21 (by decide) ?_
          refine lv_goto (tgt := 26) hx hb dX2_blocksOf_22 (by decide) ?_
          refine lv_iadd hx hb dX2_blocksOf_26 ?_
          refine lv_topi (fun x_2 ex_2 => ?_)
          refine lv_istore_n (lv' := [(2, .int x_2), (3, .int (nI i)), (0, .ref p0), (1, .int (nI w))]) hx hb dX2_blocksOf_27 rfl hl (by decide) rfl (fun ls hl => ?_)
          refine lv_iinc (v := nI (i + 1)) (lv' := [(3, .int (nI (i + 1))), (2, .int x_2), (0, .ref p0), (1, .int (nI w))]) hx hb dX2_blocksOf_28 hl (k := 1) rfl (show nI i + Int32.ofInt 1 = nI (i + 1) from nI_add _ _) (by decide) rfl (fun ls hl => ?_)
          refine lv_goto (tgt := 4) hx hb dX2_blocksOf_31 (by decide) ?_
          exact ih4 (i + 1) x_2 (by omega) (by omega) (by rw [ex_2, ex2]; exact cntK_1 c18) _ (lv_sub hl [0, 1, 2, 3] rfl)
  exact L4 (12 + 1) 0 0 (by omega) (Nat.lt_succ_self _) rfl _ (lv_sub hl [0, 1, 2, 3] rfl)
set_option maxHeartbeats 4000000 in
set_option maxRecDepth 100000 in
theorem C_X2_freshBlocks (l : Launch) (dC : Nat → ClassId) (dI : Nat → Nat → Nat) (cI cZ cP : ClassId) (N0 tO : Nat) (p0 pK pX pY pC pV pR pU pG pW : Nat) (num q er ky sm : Int32) (kd : Nat → Nat) (hkd : ∀ j, j < 12 → kd j < 5) : Met l yX2_freshBlocks wsX2_freshBlocks ({ frames := 1, cells := 0, slots := 0, locals := 23 } : Room) (Gv (dC, dI) cI cZ cP N0 tO [.ref p0] (fun H => va_P (dC, dI) vwCl [(p0, .inr (2, [.ref pK, .ref pX, .ref pY, .ref pC, .ref pV, .ref pR, .ref pU, .ref pG, .ref pW, .int num, .int q, .int er, .int ky, .int sm])), (pK, .inl (cI, 12, .inl (fun k => nI (kd k))))] H)) (vp_Si (fun r : Int32 => r = 12 - nI (cntK kd 0 12) - nI (cntK kd 1 12))) 0 0 (fun _ => False) := by
  refine Met.ofW (cc := cX2_freshBlocks) (maxL := 1) (ret := (some .int)) (by decide) rfl ?_
  intro p e s m args below meth c s₁ B hml hv
  obtain ⟨rfl, hE, hP⟩ := hv
  have hx := B.exec
  have hb := B.bytes
  have hr := B.returns
  have hts := atoms_spec (ws := wsX2_freshBlocks) B.pre
  have hown : s.vm.findClass RX2 = some m.cls := findClass_of_methodNamed B.named
  have hlocks := B.notSynchronized
  have hK := hE.1
  have hNS := hE.2.1
  have hP : va_P (dC, dI) vwCl [(p0, .inr (2, [.ref pK, .ref pX, .ref pY, .ref pC, .ref pV, .ref pR, .ref pU, .ref pG, .ref pW, .int num, .int q, .int er, .int ky, .int sm])), (pK, .inl (cI, 12, .inl (fun k => nI (kd k))))] s.heap := hP
  have hl := lv_entry ([.ref p0]) (n := 1) (Nat.le_of_ble_eq_true rfl)
  rw [lg_entry_eq]
  generalize (lg_sl ([.ref p0]) ++ List.replicate (1 - (lg_sl ([.ref p0])).length) Slot.unset).toArray = ls at hl ⊢
  have hl : lv_has ls 1 [(0, .ref p0)] := hl
  refine lv_bipush (v := 12) hx hb dX2_freshBlocks_0 (by decide +kernel) ?_
  refine lv_aload_n hx hb dX2_freshBlocks_2 rfl (lv_at hl 0 rfl) ?_
  refine lv_iconst (v := 0) hx hb dX2_freshBlocks_3 (by decide) ?_
  refine vp_callSi (va_Run.run (va_runV (As := [.int 0]) (rest := [.int 12]) ⟨hx, hb, hml, hown, hts⟩ (C_X2_blocksOf l dC dI cI cZ cP N0 tO p0 pK pX pY pC pV pR pU pG pW num q er ky sm kd 0 (by omega) hkd) (cwV 1 hts gX2_freshBlocks_X2_blocksOf rfl rfl rfl (by decide +kernel) ⟨Nat.le_of_ble_eq_true rfl, Nat.le_of_ble_eq_true rfl⟩) ⟨Gv.blind, va_recv hK hP (ci := 2) (q0 := 0) rfl rfl, Gv.of hE (hP.sub [0, 1] rfl)⟩ rfl rfl hl.1 rfl (lv_room (Nat.le_of_ble_eq_true rfl)) dX2_freshBlocks_4 ⟨Nat.le_of_ble_eq_true rfl, Nat.le_of_ble_eq_true rfl⟩)) (fun r_1 hr_1 => ?_)
  have hr_1 : r_1 = nI (cntK kd 0 12) := hr_1
  refine lv_topr hr_1 ?_
  refine lv_isub hx hb dX2_freshBlocks_7 ?_
  refine lv_aload_n hx hb dX2_freshBlocks_8 rfl (lv_at hl 0 rfl) ?_
  refine lv_iconst (v := 1) hx hb dX2_freshBlocks_9 (by decide) ?_
  refine vp_callSi (va_Run.run (va_runV (As := [.int 1]) (rest := [.int (12 - (nI (cntK kd 0 12)))]) ⟨hx, hb, hml, hown, hts⟩ (C_X2_blocksOf l dC dI cI cZ cP N0 tO p0 pK pX pY pC pV pR pU pG pW num q er ky sm kd 1 (by omega) hkd) (cwV 1 hts gX2_freshBlocks_X2_blocksOf rfl rfl rfl (by decide +kernel) ⟨Nat.le_of_ble_eq_true rfl, Nat.le_of_ble_eq_true rfl⟩) ⟨Gv.blind, va_recv hK hP (ci := 2) (q0 := 0) rfl rfl, Gv.of hE (hP.sub [0, 1] rfl)⟩ rfl rfl hl.1 rfl (lv_room (Nat.le_of_ble_eq_true rfl)) dX2_freshBlocks_10 ⟨Nat.le_of_ble_eq_true rfl, Nat.le_of_ble_eq_true rfl⟩)) (fun r_2 hr_2 => ?_)
  have hr_2 : r_2 = nI (cntK kd 1 12) := hr_2
  refine lv_topr hr_2 ?_
  refine lv_isub hx hb dX2_freshBlocks_13 ?_
  exact W.iret (v := (12 - (nI (cntK kd 0 12))) - (nI (cntK kd 1 12))) hx hb hr (fun t ht hW => ⟨(12 - (nI (cntK kd 0 12))) - (nI (cntK kd 1 12)), rfl, rfl, ht⟩) (fun _ h => by cases h) dX2_freshBlocks_14
set_option maxHeartbeats 4000000 in
set_option maxRecDepth 100000 in
theorem C_X2_bandsGot (l : Launch) (dC : Nat → ClassId) (dI : Nat → Nat → Nat) (cI cZ cP : ClassId) (N0 tO : Nat) (p0 pK pX pY pC pV pR pU pG pW : Nat) (num q er ky sm : Int32) (fg : Nat → Int32)  : Met l yX2_bandsGot wsX2_bandsGot ({ frames := 0, cells := 0, slots := 0, locals := 0 } : Room) (Gv (dC, dI) cI cZ cP N0 tO [.ref p0] (fun H => va_P (dC, dI) vwCl [(p0, .inr (2, [.ref pK, .ref pX, .ref pY, .ref pC, .ref pV, .ref pR, .ref pU, .ref pG, .ref pW, .int num, .int q, .int er, .int ky, .int sm])), (pG, .inl (cZ, 3, .inl fg))] H)) (vp_Si (fun r : Int32 => r = nI (bgN fg 3))) 0 0 (fun _ => False) := by
  refine Met.ofW (cc := cX2_bandsGot) (maxL := 3) (ret := (some .int)) (by decide) rfl ?_
  intro p e s m args below meth c s₁ B hml hv
  obtain ⟨rfl, hE, hP⟩ := hv
  have hx := B.exec
  have hb := B.bytes
  have hr := B.returns
  have hts := atoms_spec (ws := wsX2_bandsGot) B.pre
  have hown : s.vm.findClass RX2 = some m.cls := findClass_of_methodNamed B.named
  have hlocks := B.notSynchronized
  have hK := hE.1
  have hNS := hE.2.1
  have hP : va_P (dC, dI) vwCl [(p0, .inr (2, [.ref pK, .ref pX, .ref pY, .ref pC, .ref pV, .ref pR, .ref pU, .ref pG, .ref pW, .int num, .int q, .int er, .int ky, .int sm])), (pG, .inl (cZ, 3, .inl fg))] s.heap := hP
  have hinX2 : ∀ w ∈ wsX20, w ∈ wsX2_bandsGot := by decide +kernel
  have hl := lv_entry ([.ref p0]) (n := 3) (Nat.le_of_ble_eq_true rfl)
  rw [lg_entry_eq]
  generalize (lg_sl ([.ref p0]) ++ List.replicate (3 - (lg_sl ([.ref p0])).length) Slot.unset).toArray = ls at hl ⊢
  have hl : lv_has ls 3 [(0, .ref p0)] := hl
  refine lv_iconst (v := 0) hx hb dX2_bandsGot_0 (by decide) ?_
  refine lv_istore_n (lv' := [(1, .int 0), (0, .ref p0)]) hx hb dX2_bandsGot_1 rfl hl (by decide) rfl (fun ls hl => ?_)
  refine lv_iconst (v := 0) hx hb dX2_bandsGot_2 (by decide) ?_
  refine lv_istore_n (lv' := [(2, .int 0), (1, .int 0), (0, .ref p0)]) hx hb dX2_bandsGot_3 rfl hl (by decide) rfl (fun ls hl => ?_)
  have L4 : ∀ (n4 : Nat) (i : Nat) (x1 : Int32), (i ≤ 3) → 3 - i < n4 → x1 = (nI (bgN fg i)) → ∀ (ls : Array Slot), lv_has ls 3 [(2, .int (nI i)), (1, .int x1), (0, .ref p0)] → W p l e (headSpec wsX2_bandsGot ({ frames := 0, cells := 0, slots := 0, locals := 0 } : Room)).room s m ([.ref p0] : List Value).toArray below meth c s.heap [] 0 0 (MQ below (vp_Si (fun r : Int32 => r = nI (bgN fg 3))) ([.ref p0] : List Value).toArray s 0 0 (fun _ => False)) (F0 m 4 ls []) := by
    intro n4
    induction n4 with
    | zero => intro i x1 hi hz; exact absurd hz (Nat.not_lt_zero _)
    | succ n4 ih4 =>
      intro i x1 hi hfu ex1 ls hl
      refine lv_iload_n hx hb dX2_bandsGot_4 rfl (lv_at hl 0 rfl) ?_
      refine lv_iconst (v := 3) hx hb dX2_bandsGot_5 (by decide) ?_
      refine lv_icmp_ge (tgt := 32) hx hb dX2_bandsGot_6 (by decide) (fun c6 => ?_) (fun c6 => ?_)
      · skip
        have c6 : 3 ≤ i := (nI_leI (a := 3) (b := i) (by omega) (by omega)).mp c6
        obtain rfl : i = 3 := by omega
        refine lv_iload_n hx hb dX2_bandsGot_32 rfl (lv_at hl 1 rfl) ?_
        exact W.iret (v := x1) hx hb hr (fun t ht hW => ⟨x1, rfl, (by rw [ex1] <;> rfl), ht⟩) (fun _ h => by cases h) dX2_bandsGot_33
      · skip
        have c6 : ¬ 3 ≤ i := fun z => c6 ((nI_leI (a := 3) (b := i) (by omega) (by omega)).mpr z)
        refine lv_iload_n hx hb dX2_bandsGot_9 rfl (lv_at hl 1 rfl) ?_
        refine lv_aload_n hx hb dX2_bandsGot_10 rfl (lv_at hl 2 rfl) ?_
        refine va_get (D := (dC, dI)) (ci := 2) (v := .ref pG) (C := RX2) (T := TX2) (N := 14) hx hb hts hinX2 hown hK hP 0 rfl rfl 7 (by decide) (hts (.fieldLink RX2 33 "GreyReel$Picture" "got" "[Z") (List.mem_of_getElem? (i := 1) (by decide +kernel))) (fun _ h9 => h9) rfl dX2_bandsGot_11 ?_
        refine lv_iload_n hx hb dX2_bandsGot_14 rfl (lv_at hl 0 rfl) ?_
        refine wa_zald (D := (dC, dI)) (i := i) (f := fg) hx hb hK hP 1 1 rfl rfl (by omega) (by omega) dX2_bandsGot_15 ?_
        refine lv_if_eq (tgt := 23) hx hb dX2_bandsGot_16 (by decide) (fun c16 => ?_) (fun c16 => ?_)
        · skip
          refine lv_iconst (v := 0) hx hb dX2_bandsGot_23 (by decide) ?_
          refine lv_iadd hx hb dX2_bandsGot_24 ?_
          refine lv_topi (fun x_1 ex_1 => ?_)
          refine lv_istore_n (lv' := [(1, .int x_1), (2, .int (nI i)), (0, .ref p0)]) hx hb dX2_bandsGot_25 rfl hl (by decide) rfl (fun ls hl => ?_)
          refine lv_iinc (v := nI (i + 1)) (lv' := [(2, .int (nI (i + 1))), (1, .int x_1), (0, .ref p0)]) hx hb dX2_bandsGot_26 hl (k := 1) rfl (show nI i + Int32.ofInt 1 = nI (i + 1) from nI_add _ _) (by decide) rfl (fun ls hl => ?_)
          refine lv_goto (tgt := 4) hx hb dX2_bandsGot_29 (by decide) ?_
          exact ih4 (i + 1) x_1 (by omega) (by omega) (by rw [ex_1, ex1]; exact bgN_0 c16) _ (lv_sub hl [0, 1, 2] rfl)
        · skip
          refine lv_iconst (v := 1) hx hb dX2_bandsGot_19 (by decide) ?_
          refine lv_goto (tgt := 24) hx hb dX2_bandsGot_20 (by decide) ?_
          refine lv_iadd hx hb dX2_bandsGot_24 ?_
          refine lv_topi (fun x_2 ex_2 => ?_)
          refine lv_istore_n (lv' := [(1, .int x_2), (2, .int (nI i)), (0, .ref p0)]) hx hb dX2_bandsGot_25 rfl hl (by decide) rfl (fun ls hl => ?_)
          refine lv_iinc (v := nI (i + 1)) (lv' := [(2, .int (nI (i + 1))), (1, .int x_2), (0, .ref p0)]) hx hb dX2_bandsGot_26 hl (k := 1) rfl (show nI i + Int32.ofInt 1 = nI (i + 1) from nI_add _ _) (by decide) rfl (fun ls hl => ?_)
          refine lv_goto (tgt := 4) hx hb dX2_bandsGot_29 (by decide) ?_
          exact ih4 (i + 1) x_2 (by omega) (by omega) (by rw [ex_2, ex1]; exact bgN_1 c16) _ (lv_sub hl [0, 1, 2] rfl)
  exact L4 (3 + 1) 0 0 (by omega) (Nat.lt_succ_self _) rfl _ (lv_sub hl [0, 1, 2] rfl)
set_option maxHeartbeats 4000000 in
set_option maxRecDepth 100000 in
theorem C_X2_expectedX (l : Launch) (dC : Nat → ClassId) (dI : Nat → Nat → Nat) (cI cZ cP : ClassId) (N0 tO : Nat) (p0 pK pX pY pC pV pR pU pG pW : Nat) (num q er ky sm : Int32) (fx : Nat → Int32) (b : Nat) (h1 : b < 12) : Met l yX2_expectedX wsX2_expectedX ({ frames := 1, cells := 0, slots := 0, locals := 20 } : Room) (Gv (dC, dI) cI cZ cP N0 tO [.ref p0, .int (nI b)] (fun H => va_P (dC, dI) vwCl [(p0, .inr (2, [.ref pK, .ref pX, .ref pY, .ref pC, .ref pV, .ref pR, .ref pU, .ref pG, .ref pW, .int num, .int q, .int er, .int ky, .int sm])), (pX, .inl (cI, 12, .inl fx))] H)) (vp_Si (fun r : Int32 => r = exF fx b)) 0 0 (fun _ => False) := by
  refine Met.ofW (cc := cX2_expectedX) (maxL := 2) (ret := (some .int)) (by decide) rfl ?_
  intro p e s m args below meth c s₁ B hml hv
  obtain ⟨rfl, hE, hP⟩ := hv
  have hx := B.exec
  have hb := B.bytes
  have hr := B.returns
  have hts := atoms_spec (ws := wsX2_expectedX) B.pre
  have hown : s.vm.findClass RX2 = some m.cls := findClass_of_methodNamed B.named
  have hlocks := B.notSynchronized
  have hK := hE.1
  have hNS := hE.2.1
  have hP : va_P (dC, dI) vwCl [(p0, .inr (2, [.ref pK, .ref pX, .ref pY, .ref pC, .ref pV, .ref pR, .ref pU, .ref pG, .ref pW, .int num, .int q, .int er, .int ky, .int sm])), (pX, .inl (cI, 12, .inl fx))] s.heap := hP
  have hinX2 : ∀ w ∈ wsX20, w ∈ wsX2_expectedX := by decide +kernel
  have hl := lv_entry ([.ref p0, .int (nI b)]) (n := 2) (Nat.le_of_ble_eq_true rfl)
  rw [lg_entry_eq]
  generalize (lg_sl ([.ref p0, .int (nI b)]) ++ List.replicate (2 - (lg_sl ([.ref p0, .int (nI b)])).length) Slot.unset).toArray = ls at hl ⊢
  have hl : lv_has ls 2 [(0, .ref p0), (1, .int (nI b))] := hl
  refine lv_iload_n hx hb dX2_expectedX_0 rfl (lv_at hl 1 rfl) ?_
  refine vp_callSi (va_Run.run (va_runSN (As := [.int (nI b)]) (rest := []) ⟨hx, hb, hml, hown, hts⟩ (C_X5_isFirstOfBand l dC dI cI cZ cP N0 tO b (by omega)) ⟨va_cnB 1 hts gX2_expectedX_X5_isFirstOfBand_n67 rfl rfl rfl hNS.2.2.2.1 (hts (.initialized RX5) (List.mem_of_getElem? (i := 3) (by decide +kernel))) (by decide +kernel) ⟨Nat.le_of_ble_eq_true rfl, Nat.le_of_ble_eq_true rfl⟩, (hts (.static yX5_isFirstOfBand) (List.mem_of_getElem? (i := 2) (by decide +kernel))), trivial⟩ ⟨Gv.blind, Gv.of hE trivial⟩ rfl rfl hl.1 rfl (lv_room (Nat.le_of_ble_eq_true rfl)) dX2_expectedX_1 ⟨Nat.le_of_ble_eq_true rfl, Nat.le_of_ble_eq_true rfl⟩)) (fun r_1 hr_1 => ?_)
  have hr_1 : r_1 = isFB b := hr_1
  refine lv_if_eq (tgt := 11) hx hb dX2_expectedX_4 (by decide) (fun c4 => ?_) (fun c4 => ?_)
  · skip
    have hb4 := isFB_f hr_1 c4
    refine lv_aload_n hx hb dX2_expectedX_11 rfl (lv_at hl 0 rfl) ?_
    refine va_get (D := (dC, dI)) (ci := 2) (v := .ref pX) (C := RX2) (T := TX2) (N := 14) hx hb hts hinX2 hown hK hP 0 rfl rfl 1 (by decide) (hts (.fieldLink RX2 15 "GreyReel$Picture" "vx" "[I") (List.mem_of_getElem? (i := 1) (by decide +kernel))) (fun _ h9 => h9) rfl dX2_expectedX_12 ?_
    refine lv_iload_n hx hb dX2_expectedX_15 rfl (lv_at hl 1 rfl) ?_
    refine lv_iconst (v := 1) hx hb dX2_expectedX_16 (by decide) ?_
    refine lv_isub hx hb dX2_expectedX_17 ?_
    refine lv_topr (show _ = nI (b - 1) from pk_sub (a := b) (b := 1) (by omega)) ?_
    refine wa_iald (D := (dC, dI)) (i := (b - 1)) (f := fx) hx hb hK hP 1 0 rfl rfl (by omega) (by omega) dX2_expectedX_18 ?_
    exact W.iret (v := fx (b - 1)) hx hb hr (fun t ht hW => ⟨fx (b - 1), rfl, (by rw [exF, if_neg hb4]), ht⟩) (fun _ h => by cases h) dX2_expectedX_19
  · skip
    have hb4 := isFB_t hr_1 c4
    refine lv_iconst (v := 0) hx hb dX2_expectedX_7 (by decide) ?_
    refine lv_goto (tgt := 19) hx hb dX2_expectedX_8 (by decide) ?_
    exact W.iret (v := 0) hx hb hr (fun t ht hW => ⟨0, rfl, (by rw [exF, if_pos hb4]), ht⟩) (fun _ h => by cases h) dX2_expectedX_19
set_option maxHeartbeats 4000000 in
set_option maxRecDepth 100000 in
theorem C_X2_expectedY (l : Launch) (dC : Nat → ClassId) (dI : Nat → Nat → Nat) (cI cZ cP : ClassId) (N0 tO : Nat) (p0 pK pX pY pC pV pR pU pG pW : Nat) (num q er ky sm : Int32) (fx : Nat → Int32) (b : Nat) (h1 : b < 12) : Met l yX2_expectedY wsX2_expectedY ({ frames := 1, cells := 0, slots := 0, locals := 20 } : Room) (Gv (dC, dI) cI cZ cP N0 tO [.ref p0, .int (nI b)] (fun H => va_P (dC, dI) vwCl [(p0, .inr (2, [.ref pK, .ref pX, .ref pY, .ref pC, .ref pV, .ref pR, .ref pU, .ref pG, .ref pW, .int num, .int q, .int er, .int ky, .int sm])), (pY, .inl (cI, 12, .inl fx))] H)) (vp_Si (fun r : Int32 => r = exF fx b)) 0 0 (fun _ => False) := by
  refine Met.ofW (cc := cX2_expectedY) (maxL := 2) (ret := (some .int)) (by decide) rfl ?_
  intro p e s m args below meth c s₁ B hml hv
  obtain ⟨rfl, hE, hP⟩ := hv
  have hx := B.exec
  have hb := B.bytes
  have hr := B.returns
  have hts := atoms_spec (ws := wsX2_expectedY) B.pre
  have hown : s.vm.findClass RX2 = some m.cls := findClass_of_methodNamed B.named
  have hlocks := B.notSynchronized
  have hK := hE.1
  have hNS := hE.2.1
  have hP : va_P (dC, dI) vwCl [(p0, .inr (2, [.ref pK, .ref pX, .ref pY, .ref pC, .ref pV, .ref pR, .ref pU, .ref pG, .ref pW, .int num, .int q, .int er, .int ky, .int sm])), (pY, .inl (cI, 12, .inl fx))] s.heap := hP
  have hinX2 : ∀ w ∈ wsX20, w ∈ wsX2_expectedY := by decide +kernel
  have hl := lv_entry ([.ref p0, .int (nI b)]) (n := 2) (Nat.le_of_ble_eq_true rfl)
  rw [lg_entry_eq]
  generalize (lg_sl ([.ref p0, .int (nI b)]) ++ List.replicate (2 - (lg_sl ([.ref p0, .int (nI b)])).length) Slot.unset).toArray = ls at hl ⊢
  have hl : lv_has ls 2 [(0, .ref p0), (1, .int (nI b))] := hl
  refine lv_iload_n hx hb dX2_expectedY_0 rfl (lv_at hl 1 rfl) ?_
  refine vp_callSi (va_Run.run (va_runSN (As := [.int (nI b)]) (rest := []) ⟨hx, hb, hml, hown, hts⟩ (C_X5_isFirstOfBand l dC dI cI cZ cP N0 tO b (by omega)) ⟨va_cnB 1 hts gX2_expectedY_X5_isFirstOfBand_n67 rfl rfl rfl hNS.2.2.2.1 (hts (.initialized RX5) (List.mem_of_getElem? (i := 3) (by decide +kernel))) (by decide +kernel) ⟨Nat.le_of_ble_eq_true rfl, Nat.le_of_ble_eq_true rfl⟩, (hts (.static yX5_isFirstOfBand) (List.mem_of_getElem? (i := 2) (by decide +kernel))), trivial⟩ ⟨Gv.blind, Gv.of hE trivial⟩ rfl rfl hl.1 rfl (lv_room (Nat.le_of_ble_eq_true rfl)) dX2_expectedY_1 ⟨Nat.le_of_ble_eq_true rfl, Nat.le_of_ble_eq_true rfl⟩)) (fun r_1 hr_1 => ?_)
  have hr_1 : r_1 = isFB b := hr_1
  refine lv_if_eq (tgt := 11) hx hb dX2_expectedY_4 (by decide) (fun c4 => ?_) (fun c4 => ?_)
  · skip
    have hb4 := isFB_f hr_1 c4
    refine lv_aload_n hx hb dX2_expectedY_11 rfl (lv_at hl 0 rfl) ?_
    refine va_get (D := (dC, dI)) (ci := 2) (v := .ref pY) (C := RX2) (T := TX2) (N := 14) hx hb hts hinX2 hown hK hP 0 rfl rfl 2 (by decide) (hts (.fieldLink RX2 18 "GreyReel$Picture" "vy" "[I") (List.mem_of_getElem? (i := 1) (by decide +kernel))) (fun _ h9 => h9) rfl dX2_expectedY_12 ?_
    refine lv_iload_n hx hb dX2_expectedY_15 rfl (lv_at hl 1 rfl) ?_
    refine lv_iconst (v := 1) hx hb dX2_expectedY_16 (by decide) ?_
    refine lv_isub hx hb dX2_expectedY_17 ?_
    refine lv_topr (show _ = nI (b - 1) from pk_sub (a := b) (b := 1) (by omega)) ?_
    refine wa_iald (D := (dC, dI)) (i := (b - 1)) (f := fx) hx hb hK hP 1 0 rfl rfl (by omega) (by omega) dX2_expectedY_18 ?_
    exact W.iret (v := fx (b - 1)) hx hb hr (fun t ht hW => ⟨fx (b - 1), rfl, (by rw [exF, if_neg hb4]), ht⟩) (fun _ h => by cases h) dX2_expectedY_19
  · skip
    have hb4 := isFB_t hr_1 c4
    refine lv_iconst (v := 0) hx hb dX2_expectedY_7 (by decide) ?_
    refine lv_goto (tgt := 19) hx hb dX2_expectedY_8 (by decide) ?_
    exact W.iret (v := 0) hx hb hr (fun t ht hW => ⟨0, rfl, (by rw [exF, if_pos hb4]), ht⟩) (fun _ h => by cases h) dX2_expectedY_19
set_option maxHeartbeats 8000000 in
set_option maxRecDepth 100000 in
theorem C_X2_digestPacket (l : Launch) (dC : Nat → ClassId) (dI : Nat → Nat → Nat) (cI cZ cP : ClassId) (N0 tO : Nat) (p0 pK pX pY pC pV pR pU pG pW : Nat) (num q er ky sm : Int32) (ub : Nat → Nat) (fg fw : Nat → Int32) (len k : Nat) (d : Int64) (h1 : k < 3) (hub : ∀ j, j < 3 → ub j < 1048576) (hlen : len < 1048576) : Met l yX2_digestPacket wsX2_digestPacket ({ frames := 2, cells := 0, slots := 0, locals := 44 } : Room) (Gv (dC, dI) cI cZ cP N0 tO [.ref p0, .long d, .int (nI k)] (fun H => va_P (dC, dI) vwCl [(p0, .inr (2, [.ref pK, .ref pX, .ref pY, .ref pC, .ref pV, .ref pR, .ref pU, .ref pG, .ref pW, .int num, .int q, .int er, .int ky, .int sm])), (pU, .inl (cI, 3, .inl (fun k => nI (ub k)))), (pG, .inl (cZ, 3, .inl fg)), (pW, .inl (cI, len, .inl fw))] H)) (vp_Sl (fun r : Int64 => r = dgP ub fg fw len k d)) 0 0 (fun _ => False) := by
  refine Met.ofW (cc := cX2_digestPacket) (maxL := 8) (ret := (some .long)) (by decide) rfl ?_
  intro p e s m args below meth c s₁ B hml hv
  obtain ⟨rfl, hE, hP⟩ := hv
  have hx := B.exec
  have hb := B.bytes
  have hr := B.returns
  have hts := atoms_spec (ws := wsX2_digestPacket) B.pre
  have hown : s.vm.findClass RX2 = some m.cls := findClass_of_methodNamed B.named
  have hlocks := B.notSynchronized
  have hK := hE.1
  have hNS := hE.2.1
  have hP : va_P (dC, dI) vwCl [(p0, .inr (2, [.ref pK, .ref pX, .ref pY, .ref pC, .ref pV, .ref pR, .ref pU, .ref pG, .ref pW, .int num, .int q, .int er, .int ky, .int sm])), (pU, .inl (cI, 3, .inl (fun k => nI (ub k)))), (pG, .inl (cZ, 3, .inl fg)), (pW, .inl (cI, len, .inl fw))] s.heap := hP
  have hinX2 : ∀ w ∈ wsX20, w ∈ wsX2_digestPacket := by decide +kernel
  have hl := lv_entry ([.ref p0, .long d, .int (nI k)]) (n := 8) (Nat.le_of_ble_eq_true rfl)
  rw [lg_entry_eq]
  generalize (lg_sl ([.ref p0, .long d, .int (nI k)]) ++ List.replicate (8 - (lg_sl ([.ref p0, .long d, .int (nI k)])).length) Slot.unset).toArray = ls at hl ⊢
  have hl : lv_has ls 8 [(0, .ref p0), (1, .long d), (3, .int (nI k))] := hl
  have hfb := fbN_lt hub (k := k) (by omega)
  have hu2 := hub k h1
  refine lv_lload_n hx hb dX2_digestPacket_0 rfl (lv_at hl 1 rfl) ?_
  refine lv_ldc2 (v := 31) hx hb hown (hts (.constantLong RX2 71 (31)) (List.mem_of_getElem? (i := 1) (by decide +kernel))) dX2_digestPacket_1 ?_
  refine lv_lmul hx hb dX2_digestPacket_4 ?_
  refine lv_aload_n hx hb dX2_digestPacket_5 rfl (lv_at hl 0 rfl) ?_
  refine lv_iload_n hx hb dX2_digestPacket_6 rfl (lv_at hl 2 rfl) ?_
  refine vp_callSi (va_Run.run (va_runV (As := [.int (nI k)]) (rest := [.long (d * 31)]) ⟨hx, hb, hml, hown, hts⟩ (C_X2_bytesIn l dC dI cI cZ cP N0 tO p0 pK pX pY pC pV pR pU pG pW num q er ky sm ub k h1 (hub k h1)) (cwV 1 hts gX2_digestPacket_X2_bytesIn rfl rfl rfl (by decide +kernel) ⟨Nat.le_of_ble_eq_true rfl, Nat.le_of_ble_eq_true rfl⟩) ⟨Gv.blind, va_recv hK hP (ci := 2) (q0 := 0) rfl rfl, Gv.of hE (hP.sub [0, 1] rfl)⟩ rfl rfl hl.1 rfl (lv_room (Nat.le_of_ble_eq_true rfl)) dX2_digestPacket_7 ⟨Nat.le_of_ble_eq_true rfl, Nat.le_of_ble_eq_true rfl⟩)) (fun r_1 hr_1 => ?_)
  have hr_1 : r_1 = nI ((ub k + 7) / 8) := hr_1
  refine lv_topr hr_1 ?_
  refine lv_i2l (v := (nI ((ub k + 7) / 8)).toInt64) hx hb dX2_digestPacket_10 rfl ?_
  refine lv_ladd hx hb dX2_digestPacket_11 ?_
  refine lv_topl (fun x_2 ex_2 => ?_)
  refine lv_lstore (lv' := [(4, .long x_2), (0, .ref p0), (1, .long d), (3, .int (nI k))]) hx hb dX2_digestPacket_12 hl (by decide) rfl (fun ls hl => ?_)
  refine lv_lload hx hb dX2_digestPacket_14 (lv_at hl 0 rfl) ?_
  refine lv_ldc2 (v := 31) hx hb hown (hts (.constantLong RX2 71 (31)) (List.mem_of_getElem? (i := 1) (by decide +kernel))) dX2_digestPacket_16 ?_
  refine lv_lmul hx hb dX2_digestPacket_19 ?_
  refine lv_aload_n hx hb dX2_digestPacket_20 rfl (lv_at hl 1 rfl) ?_
  refine va_get (D := (dC, dI)) (ci := 2) (v := .ref pU) (C := RX2) (T := TX2) (N := 14) hx hb hts hinX2 hown hK hP 0 rfl rfl 6 (by decide) (hts (.fieldLink RX2 30 "GreyReel$Picture" "usedBits" "[I") (List.mem_of_getElem? (i := 2) (by decide +kernel))) (fun _ h9 => h9) rfl dX2_digestPacket_21 ?_
  refine lv_iload_n hx hb dX2_digestPacket_24 rfl (lv_at hl 3 rfl) ?_
  refine wa_iald (D := (dC, dI)) (i := k) (f := (fun k => nI (ub k))) hx hb hK hP 1 0 rfl rfl (by omega) (by omega) dX2_digestPacket_25 ?_
  refine lv_i2l (v := (nI (ub k)).toInt64) hx hb dX2_digestPacket_26 rfl ?_
  refine lv_ladd hx hb dX2_digestPacket_27 ?_
  refine lv_topl (fun x_3 ex_3 => ?_)
  refine lv_lstore (lv' := [(4, .long x_3), (0, .ref p0), (1, .long d), (3, .int (nI k))]) hx hb dX2_digestPacket_28 hl (by decide) rfl (fun ls hl => ?_)
  refine lv_lload hx hb dX2_digestPacket_30 (lv_at hl 0 rfl) ?_
  refine lv_ldc2 (v := 31) hx hb hown (hts (.constantLong RX2 71 (31)) (List.mem_of_getElem? (i := 1) (by decide +kernel))) dX2_digestPacket_32 ?_
  refine lv_lmul hx hb dX2_digestPacket_35 ?_
  refine lv_aload_n hx hb dX2_digestPacket_36 rfl (lv_at hl 1 rfl) ?_
  refine va_get (D := (dC, dI)) (ci := 2) (v := .ref pG) (C := RX2) (T := TX2) (N := 14) hx hb hts hinX2 hown hK hP 0 rfl rfl 7 (by decide) (hts (.fieldLink RX2 33 "GreyReel$Picture" "got" "[Z") (List.mem_of_getElem? (i := 3) (by decide +kernel))) (fun _ h9 => h9) rfl dX2_digestPacket_37 ?_
  refine lv_iload_n hx hb dX2_digestPacket_40 rfl (lv_at hl 3 rfl) ?_
  refine wa_zald (D := (dC, dI)) (i := k) (f := fg) hx hb hK hP 2 1 rfl rfl (by omega) (by omega) dX2_digestPacket_41 ?_
  have J50 : ∀ (ls : Array Slot), lv_has ls 8 [(4, .long x_3), (0, .ref p0), (1, .long d), (3, .int (nI k))] → W p l e (headSpec wsX2_digestPacket ({ frames := 2, cells := 0, slots := 0, locals := 44 } : Room)).room s m ([.ref p0, .long d, .int (nI k)] : List Value).toArray below meth c s.heap [] 0 0 (MQ below (vp_Sl (fun r : Int64 => r = dgP ub fg fw len k d)) ([.ref p0, .long d, .int (nI k)] : List Value).toArray s 0 0 (fun _ => False)) (F0 m 50 ls [.int (zI (fg k)), .long (x_3 * 31)]) := by
    intro ls hl
    refine lv_i2l (v := (zI (fg k)).toInt64) hx hb dX2_digestPacket_50 rfl ?_
    refine lv_ladd hx hb dX2_digestPacket_51 ?_
    refine lv_topl (fun x_4 ex_4 => ?_)
    refine lv_lstore (lv' := [(4, .long x_4), (0, .ref p0), (1, .long d), (3, .int (nI k))]) hx hb dX2_digestPacket_52 hl (by decide) rfl (fun ls hl => ?_)
    refine lv_aload_n hx hb dX2_digestPacket_54 rfl (lv_at hl 1 rfl) ?_
    refine lv_iload_n hx hb dX2_digestPacket_55 rfl (lv_at hl 3 rfl) ?_
    refine vp_callSi (va_Run.run (va_runV (As := [.int (nI k)]) (rest := []) ⟨hx, hb, hml, hown, hts⟩ (C_X2_firstByteOf l dC dI cI cZ cP N0 tO p0 pK pX pY pC pV pR pU pG pW num q er ky sm ub k (by omega) hub) (cwV 1 hts gX2_digestPacket_X2_firstByteOf rfl rfl rfl (by decide +kernel) ⟨Nat.le_of_ble_eq_true rfl, Nat.le_of_ble_eq_true rfl⟩) ⟨Gv.blind, va_recv hK hP (ci := 2) (q0 := 0) rfl rfl, Gv.of hE (hP.sub [0, 1] rfl)⟩ rfl rfl hl.1 rfl (lv_room (Nat.le_of_ble_eq_true rfl)) dX2_digestPacket_56 ⟨Nat.le_of_ble_eq_true rfl, Nat.le_of_ble_eq_true rfl⟩)) (fun r_5 hr_5 => ?_)
    have hr_5 : r_5 = nI (fbN ub k) := hr_5
    refine lv_topr hr_5 ?_
    refine lv_istore (lv' := [(6, .int (nI (fbN ub k))), (4, .long x_4), (0, .ref p0), (1, .long d), (3, .int (nI k))]) hx hb dX2_digestPacket_59 hl (by decide) rfl (fun ls hl => ?_)
    refine lv_iload hx hb dX2_digestPacket_61 (lv_at hl 0 rfl) ?_
    refine lv_istore (lv' := [(7, .int (nI (fbN ub k))), (6, .int (nI (fbN ub k))), (4, .long x_4), (0, .ref p0), (1, .long d), (3, .int (nI k))]) hx hb dX2_digestPacket_63 hl (by decide) rfl (fun ls hl => ?_)
    have L65 : ∀ (n65 : Nat) (i : Nat) (x4 : Int64), (i ≤ min ((ub k + 7) / 8) (len - fbN ub k)) → len - i < n65 → x4 = (dgR fw (fbN ub k) (((d * 31 + (nI ((ub k + 7) / 8)).toInt64) * 31 + (nI (ub k)).toInt64) * 31 + (zI (fg k)).toInt64) i) → ∀ (ls : Array Slot), lv_has ls 8 [(7, .int (nI (fbN ub k + i))), (6, .int (nI (fbN ub k))), (4, .long x4), (0, .ref p0), (1, .long d), (3, .int (nI k))] → W p l e (headSpec wsX2_digestPacket ({ frames := 2, cells := 0, slots := 0, locals := 44 } : Room)).room s m ([.ref p0, .long d, .int (nI k)] : List Value).toArray below meth c s.heap [] 0 0 (MQ below (vp_Sl (fun r : Int64 => r = dgP ub fg fw len k d)) ([.ref p0, .long d, .int (nI k)] : List Value).toArray s 0 0 (fun _ => False)) (F0 m 65 ls []) := by
      intro n65
      induction n65 with
      | zero => intro i x4 hi hz; exact absurd hz (Nat.not_lt_zero _)
      | succ n65 ih65 =>
        intro i x4 hi hfu ex4 ls hl
        refine lv_iload hx hb dX2_digestPacket_65 (lv_at hl 0 rfl) ?_
        refine lv_iload hx hb dX2_digestPacket_67 (lv_at hl 1 rfl) ?_
        refine lv_aload_n hx hb dX2_digestPacket_69 rfl (lv_at hl 3 rfl) ?_
        refine lv_iload_n hx hb dX2_digestPacket_70 rfl (lv_at hl 5 rfl) ?_
        refine vp_callSi (va_Run.run (va_runV (As := [.int (nI k)]) (rest := [.int (nI (fbN ub k)), .int (nI (fbN ub k + i))]) ⟨hx, hb, hml, hown, hts⟩ (C_X2_bytesIn l dC dI cI cZ cP N0 tO p0 pK pX pY pC pV pR pU pG pW num q er ky sm ub k h1 (hub k h1)) (cwV 1 hts gX2_digestPacket_X2_bytesIn rfl rfl rfl (by decide +kernel) ⟨Nat.le_of_ble_eq_true rfl, Nat.le_of_ble_eq_true rfl⟩) ⟨Gv.blind, va_recv hK hP (ci := 2) (q0 := 0) rfl rfl, Gv.of hE (hP.sub [0, 1] rfl)⟩ rfl rfl hl.1 rfl (lv_room (Nat.le_of_ble_eq_true rfl)) dX2_digestPacket_71 ⟨Nat.le_of_ble_eq_true rfl, Nat.le_of_ble_eq_true rfl⟩)) (fun r_6 hr_6 => ?_)
        have hr_6 : r_6 = nI ((ub k + 7) / 8) := hr_6
        refine lv_topr hr_6 ?_
        refine lv_iadd hx hb dX2_digestPacket_74 ?_
        refine lv_topr (show _ = nI ((fbN ub k) + ((ub k + 7) / 8)) from nI_add (fbN ub k) ((ub k + 7) / 8)) ?_
        refine lv_icmp_ge (tgt := 111) hx hb dX2_digestPacket_75 (by decide) (fun c75 => ?_) (fun c75 => ?_)
        · skip
          have c75 : ((fbN ub k) + ((ub k + 7) / 8)) ≤ (fbN ub k + i) := (nI_leI (a := ((fbN ub k) + ((ub k + 7) / 8))) (b := (fbN ub k + i)) (by omega) (by omega)).mp c75
          refine lv_lload hx hb dX2_digestPacket_111 (lv_at hl 2 rfl) ?_
          exact W.lret (v := x4) hx hb hr (fun t ht hW => ⟨x4, rfl, (by rw [ex4]; congr 1; omega), ht⟩) (fun _ h => by cases h) dX2_digestPacket_113
        · skip
          have c75 : ¬ ((fbN ub k) + ((ub k + 7) / 8)) ≤ (fbN ub k + i) := fun z => c75 ((nI_leI (a := ((fbN ub k) + ((ub k + 7) / 8))) (b := (fbN ub k + i)) (by omega) (by omega)).mpr z)
          refine lv_iload hx hb dX2_digestPacket_78 (lv_at hl 0 rfl) ?_
          refine lv_aload_n hx hb dX2_digestPacket_80 rfl (lv_at hl 3 rfl) ?_
          refine va_get (D := (dC, dI)) (ci := 2) (v := .ref pW) (C := RX2) (T := TX2) (N := 14) hx hb hts hinX2 hown hK hP 0 rfl rfl 8 (by decide) (hts (.fieldLink RX2 37 "GreyReel$Picture" "row" "[I") (List.mem_of_getElem? (i := 4) (by decide +kernel))) (fun _ h9 => h9) rfl dX2_digestPacket_81 ?_
          refine va_alen (D := (dC, dI)) (v := nI len) hx hb hK hP 3 0 rfl rfl rfl dX2_digestPacket_84 ?_
          refine lv_icmp_ge (tgt := 111) hx hb dX2_digestPacket_85 (by decide) (fun c85 => ?_) (fun c85 => ?_)
          · skip
            have c85 : len ≤ (fbN ub k + i) := (nI_leI (a := len) (b := (fbN ub k + i)) (by omega) (by omega)).mp c85
            refine lv_lload hx hb dX2_digestPacket_111 (lv_at hl 2 rfl) ?_
            exact W.lret (v := x4) hx hb hr (fun t ht hW => ⟨x4, rfl, (by rw [ex4]; congr 1; omega), ht⟩) (fun _ h => by cases h) dX2_digestPacket_113
          · skip
            have c85 : ¬ len ≤ (fbN ub k + i) := fun z => c85 ((nI_leI (a := len) (b := (fbN ub k + i)) (by omega) (by omega)).mpr z)
            refine lv_lload hx hb dX2_digestPacket_88 (lv_at hl 2 rfl) ?_
            refine lv_ldc2 (v := 31) hx hb hown (hts (.constantLong RX2 71 (31)) (List.mem_of_getElem? (i := 1) (by decide +kernel))) dX2_digestPacket_90 ?_
            refine lv_lmul hx hb dX2_digestPacket_93 ?_
            refine lv_aload_n hx hb dX2_digestPacket_94 rfl (lv_at hl 3 rfl) ?_
            refine va_get (D := (dC, dI)) (ci := 2) (v := .ref pW) (C := RX2) (T := TX2) (N := 14) hx hb hts hinX2 hown hK hP 0 rfl rfl 8 (by decide) (hts (.fieldLink RX2 37 "GreyReel$Picture" "row" "[I") (List.mem_of_getElem? (i := 4) (by decide +kernel))) (fun _ h9 => h9) rfl dX2_digestPacket_95 ?_
            refine lv_iload hx hb dX2_digestPacket_98 (lv_at hl 0 rfl) ?_
            refine wa_iald (D := (dC, dI)) (i := (fbN ub k + i)) (f := fw) hx hb hK hP 3 0 rfl rfl (by omega) (by omega) dX2_digestPacket_100 ?_
            refine lv_i2l (v := (fw (fbN ub k + i)).toInt64) hx hb dX2_digestPacket_101 rfl ?_
            refine lv_ladd hx hb dX2_digestPacket_102 ?_
            refine lv_topl (fun x_7 ex_7 => ?_)
            refine lv_lstore (lv' := [(4, .long x_7), (7, .int (nI (fbN ub k + i))), (6, .int (nI (fbN ub k))), (0, .ref p0), (1, .long d), (3, .int (nI k))]) hx hb dX2_digestPacket_103 hl (by decide) rfl (fun ls hl => ?_)
            refine lv_iinc (v := nI (fbN ub k + i + 1)) (lv' := [(7, .int (nI (fbN ub k + i + 1))), (4, .long x_7), (6, .int (nI (fbN ub k))), (0, .ref p0), (1, .long d), (3, .int (nI k))]) hx hb dX2_digestPacket_105 hl (k := 1) rfl (show nI (fbN ub k + i) + Int32.ofInt 1 = nI (fbN ub k + i + 1) from nI_add _ _) (by decide) rfl (fun ls hl => ?_)
            refine lv_goto (tgt := 65) hx hb dX2_digestPacket_108 (by decide) ?_
            exact ih65 (i + 1) x_7 (by omega) (by omega) (by rw [ex_7, ex4] <;> rfl) _ (lv_sub hl [0, 2, 1, 3, 4, 5] rfl)
    exact L65 (len + 1) 0 x_4 (Nat.zero_le _) (Nat.lt_succ_self _) (by rw [ex_4, ex_3, ex_2] <;> rfl) _ (lv_sub hl [0, 1, 2, 3, 4, 5] rfl)
  refine lv_if_eq (tgt := 49) hx hb dX2_digestPacket_42 (by decide) (fun c42 => ?_) (fun c42 => ?_)
  · skip
    refine lv_iconst (v := 0) hx hb dX2_digestPacket_49 (by decide) ?_
    refine lv_topr (show _ = zI (fg k) from (by rw [zI, if_pos c42])) ?_
    exact J50 _ (lv_sub hl [0, 1, 2, 3] rfl)
  · skip
    refine lv_iconst (v := 1) hx hb dX2_digestPacket_45 (by decide) ?_
    refine lv_topr (show _ = zI (fg k) from (by rw [zI, if_neg c42])) ?_
    refine lv_goto (tgt := 50) hx hb dX2_digestPacket_46 (by decide) ?_
    exact J50 _ (lv_sub hl [0, 1, 2, 3] rfl)
set_option maxHeartbeats 4000000 in
set_option maxRecDepth 100000 in
theorem C_X2_digestOn (l : Launch) (dC : Nat → ClassId) (dI : Nat → Nat → Nat) (cI cZ cP : ClassId) (N0 tO : Nat) (p0 pK pX pY pC pV pR pU pG pW : Nat) (num q er ky sm : Int32) (kd : Nat → Nat) (fx fy fv : Nat → Int32) (ub : Nat → Nat) (fg fw : Nat → Int32) (len : Nat) (d : Int64) (hub : ∀ j, j < 3 → ub j < 1048576) (hlen : len < 1048576) : Met l yX2_digestOn wsX2_digestOn ({ frames := 3, cells := 0, slots := 0, locals := 71 } : Room) (Gv (dC, dI) cI cZ cP N0 tO [.ref p0, .long d] (fun H => va_P (dC, dI) vwCl [(p0, .inr (2, [.ref pK, .ref pX, .ref pY, .ref pC, .ref pV, .ref pR, .ref pU, .ref pG, .ref pW, .int num, .int q, .int er, .int ky, .int sm])), (pK, .inl (cI, 12, .inl (fun k => nI (kd k)))), (pX, .inl (cI, 12, .inl fx)), (pY, .inl (cI, 12, .inl fy)), (pV, .inl (cI, 768, .inl fv)), (pU, .inl (cI, 3, .inl (fun k => nI (ub k)))), (pG, .inl (cZ, 3, .inl fg)), (pW, .inl (cI, len, .inl fw))] H)) (vp_Sl (fun r : Int64 => r = dgO kd fx fy fv ub fg fw len q er ky d)) 0 0 (fun _ => False) := by
  refine Met.ofW (cc := cX2_digestOn) (maxL := 6) (ret := (some .long)) (by decide) rfl ?_
  intro p e s m args below meth c s₁ B hml hv
  obtain ⟨rfl, hE, hP⟩ := hv
  have hx := B.exec
  have hb := B.bytes
  have hr := B.returns
  have hts := atoms_spec (ws := wsX2_digestOn) B.pre
  have hown : s.vm.findClass RX2 = some m.cls := findClass_of_methodNamed B.named
  have hlocks := B.notSynchronized
  have hK := hE.1
  have hNS := hE.2.1
  have hP : va_P (dC, dI) vwCl [(p0, .inr (2, [.ref pK, .ref pX, .ref pY, .ref pC, .ref pV, .ref pR, .ref pU, .ref pG, .ref pW, .int num, .int q, .int er, .int ky, .int sm])), (pK, .inl (cI, 12, .inl (fun k => nI (kd k)))), (pX, .inl (cI, 12, .inl fx)), (pY, .inl (cI, 12, .inl fy)), (pV, .inl (cI, 768, .inl fv)), (pU, .inl (cI, 3, .inl (fun k => nI (ub k)))), (pG, .inl (cZ, 3, .inl fg)), (pW, .inl (cI, len, .inl fw))] s.heap := hP
  have hinX2 : ∀ w ∈ wsX20, w ∈ wsX2_digestOn := by decide +kernel
  have hl := lv_entry ([.ref p0, .long d]) (n := 6) (Nat.le_of_ble_eq_true rfl)
  rw [lg_entry_eq]
  generalize (lg_sl ([.ref p0, .long d]) ++ List.replicate (6 - (lg_sl ([.ref p0, .long d])).length) Slot.unset).toArray = ls at hl ⊢
  have hl : lv_has ls 6 [(0, .ref p0), (1, .long d)] := hl
  refine lv_lload_n hx hb dX2_digestOn_0 rfl (lv_at hl 1 rfl) ?_
  refine lv_ldc2 (v := 31) hx hb hown (hts (.constantLong RX2 71 (31)) (List.mem_of_getElem? (i := 1) (by decide +kernel))) dX2_digestOn_1 ?_
  refine lv_lmul hx hb dX2_digestOn_4 ?_
  refine lv_aload_n hx hb dX2_digestOn_5 rfl (lv_at hl 0 rfl) ?_
  refine va_get (D := (dC, dI)) (ci := 2) (v := .int ky) (C := RX2) (T := TX2) (N := 14) hx hb hts hinX2 hown hK hP 0 rfl rfl 12 (by decide) (hts (.fieldLink RX2 50 "GreyReel$Picture" "isKeyPicture" "Z") (List.mem_of_getElem? (i := 2) (by decide +kernel))) (fun _ h9 => h9) rfl dX2_digestOn_6 ?_
  have J17 : ∀ (ls : Array Slot), lv_has ls 6 [(0, .ref p0), (1, .long d)] → W p l e (headSpec wsX2_digestOn ({ frames := 3, cells := 0, slots := 0, locals := 71 } : Room)).room s m ([.ref p0, .long d] : List Value).toArray below meth c s.heap [] 0 0 (MQ below (vp_Sl (fun r : Int64 => r = dgO kd fx fy fv ub fg fw len q er ky d)) ([.ref p0, .long d] : List Value).toArray s 0 0 (fun _ => False)) (F0 m 17 ls [.int (zI ky), .long (d * 31)]) := by
    intro ls hl
    refine lv_i2l (v := (zI ky).toInt64) hx hb dX2_digestOn_17 rfl ?_
    refine lv_ladd hx hb dX2_digestOn_18 ?_
    refine lv_topl (fun x_1 ex_1 => ?_)
    refine lv_lstore_n (lv' := [(3, .long x_1), (0, .ref p0), (1, .long d)]) hx hb dX2_digestOn_19 rfl hl (by decide) rfl (fun ls hl => ?_)
    refine lv_lload_n hx hb dX2_digestOn_20 rfl (lv_at hl 0 rfl) ?_
    refine lv_ldc2 (v := 31) hx hb hown (hts (.constantLong RX2 71 (31)) (List.mem_of_getElem? (i := 1) (by decide +kernel))) dX2_digestOn_21 ?_
    refine lv_lmul hx hb dX2_digestOn_24 ?_
    refine lv_aload_n hx hb dX2_digestOn_25 rfl (lv_at hl 1 rfl) ?_
    refine va_get (D := (dC, dI)) (ci := 2) (v := .int q) (C := RX2) (T := TX2) (N := 14) hx hb hts hinX2 hown hK hP 0 rfl rfl 10 (by decide) (hts (.fieldLink RX2 44 "GreyReel$Picture" "q" "I") (List.mem_of_getElem? (i := 3) (by decide +kernel))) (fun _ h9 => h9) rfl dX2_digestOn_26 ?_
    refine lv_i2l (v := q.toInt64) hx hb dX2_digestOn_29 rfl ?_
    refine lv_ladd hx hb dX2_digestOn_30 ?_
    refine lv_topl (fun x_2 ex_2 => ?_)
    refine lv_lstore_n (lv' := [(3, .long x_2), (0, .ref p0), (1, .long d)]) hx hb dX2_digestOn_31 rfl hl (by decide) rfl (fun ls hl => ?_)
    refine lv_lload_n hx hb dX2_digestOn_32 rfl (lv_at hl 0 rfl) ?_
    refine lv_ldc2 (v := 31) hx hb hown (hts (.constantLong RX2 71 (31)) (List.mem_of_getElem? (i := 1) (by decide +kernel))) dX2_digestOn_33 ?_
    refine lv_lmul hx hb dX2_digestOn_36 ?_
    refine lv_aload_n hx hb dX2_digestOn_37 rfl (lv_at hl 1 rfl) ?_
    refine va_get (D := (dC, dI)) (ci := 2) (v := .int er) (C := RX2) (T := TX2) (N := 14) hx hb hts hinX2 hown hK hP 0 rfl rfl 11 (by decide) (hts (.fieldLink RX2 47 "GreyReel$Picture" "error" "I") (List.mem_of_getElem? (i := 4) (by decide +kernel))) (fun _ h9 => h9) rfl dX2_digestOn_38 ?_
    refine lv_i2l (v := er.toInt64) hx hb dX2_digestOn_41 rfl ?_
    refine lv_ladd hx hb dX2_digestOn_42 ?_
    refine lv_topl (fun x_3 ex_3 => ?_)
    refine lv_lstore_n (lv' := [(3, .long x_3), (0, .ref p0), (1, .long d)]) hx hb dX2_digestOn_43 rfl hl (by decide) rfl (fun ls hl => ?_)
    refine lv_iconst (v := 0) hx hb dX2_digestOn_44 (by decide) ?_
    refine lv_istore (lv' := [(5, .int 0), (3, .long x_3), (0, .ref p0), (1, .long d)]) hx hb dX2_digestOn_45 hl (by decide) rfl (fun ls hl => ?_)
    have L47 : ∀ (n47 : Nat) (i : Nat) (x3 : Int64), (i ≤ 12) → 12 - i < n47 → x3 = (dgBk kd fx fy fv (((d * 31 + (zI ky).toInt64) * 31 + q.toInt64) * 31 + er.toInt64) i) → ∀ (ls : Array Slot), lv_has ls 6 [(5, .int (nI i)), (3, .long x3), (0, .ref p0), (1, .long d)] → W p l e (headSpec wsX2_digestOn ({ frames := 3, cells := 0, slots := 0, locals := 71 } : Room)).room s m ([.ref p0, .long d] : List Value).toArray below meth c s.heap [] 0 0 (MQ below (vp_Sl (fun r : Int64 => r = dgO kd fx fy fv ub fg fw len q er ky d)) ([.ref p0, .long d] : List Value).toArray s 0 0 (fun _ => False)) (F0 m 47 ls []) := by
      intro n47
      induction n47 with
      | zero => intro i x3 hi hz; exact absurd hz (Nat.not_lt_zero _)
      | succ n47 ih47 =>
        intro i x3 hi hfu ex3 ls hl
        refine lv_iload hx hb dX2_digestOn_47 (lv_at hl 0 rfl) ?_
        refine lv_bipush (v := 12) hx hb dX2_digestOn_49 (by decide +kernel) ?_
        refine lv_icmp_ge (tgt := 119) hx hb dX2_digestOn_51 (by decide) (fun c51 => ?_) (fun c51 => ?_)
        · skip
          have c51 : 12 ≤ i := (nI_leI (a := 12) (b := i) (by omega) (by omega)).mp c51
          obtain rfl : i = 12 := by omega
          refine lv_iconst (v := 0) hx hb dX2_digestOn_119 (by decide) ?_
          refine lv_istore (lv' := [(5, .int 0), (3, .long x3), (0, .ref p0), (1, .long d)]) hx hb dX2_digestOn_120 hl (by decide) rfl (fun ls hl => ?_)
          have L122 : ∀ (n122 : Nat) (i : Nat) (y3 : Int64), (i ≤ 3) → 3 - i < n122 → y3 = (dgPs ub fg fw len (dgBk kd fx fy fv (((d * 31 + (zI ky).toInt64) * 31 + q.toInt64) * 31 + er.toInt64) 12) i) → ∀ (ls : Array Slot), lv_has ls 6 [(5, .int (nI i)), (3, .long y3), (0, .ref p0), (1, .long d)] → W p l e (headSpec wsX2_digestOn ({ frames := 3, cells := 0, slots := 0, locals := 71 } : Room)).room s m ([.ref p0, .long d] : List Value).toArray below meth c s.heap [] 0 0 (MQ below (vp_Sl (fun r : Int64 => r = dgO kd fx fy fv ub fg fw len q er ky d)) ([.ref p0, .long d] : List Value).toArray s 0 0 (fun _ => False)) (F0 m 122 ls []) := by
            intro n122
            induction n122 with
            | zero => intro i y3 hi hz; exact absurd hz (Nat.not_lt_zero _)
            | succ n122 ih122 =>
              intro i y3 hi hfu ey3 ls hl
              refine lv_iload hx hb dX2_digestOn_122 (lv_at hl 0 rfl) ?_
              refine lv_iconst (v := 3) hx hb dX2_digestOn_124 (by decide) ?_
              refine lv_icmp_ge (tgt := 142) hx hb dX2_digestOn_125 (by decide) (fun c125 => ?_) (fun c125 => ?_)
              · skip
                have c125 : 3 ≤ i := (nI_leI (a := 3) (b := i) (by omega) (by omega)).mp c125
                obtain rfl : i = 3 := by omega
                refine lv_lload_n hx hb dX2_digestOn_142 rfl (lv_at hl 1 rfl) ?_
                exact W.lret (v := y3) hx hb hr (fun t ht hW => ⟨y3, rfl, (by rw [ey3] <;> rfl), ht⟩) (fun _ h => by cases h) dX2_digestOn_143
              · skip
                have c125 : ¬ 3 ≤ i := fun z => c125 ((nI_leI (a := 3) (b := i) (by omega) (by omega)).mpr z)
                refine lv_aload_n hx hb dX2_digestOn_128 rfl (lv_at hl 2 rfl) ?_
                refine lv_lload_n hx hb dX2_digestOn_129 rfl (lv_at hl 1 rfl) ?_
                refine lv_iload hx hb dX2_digestOn_130 (lv_at hl 0 rfl) ?_
                refine vp_callSl (va_Run.run (va_runV (As := [.long y3, .int (nI i)]) (rest := []) ⟨hx, hb, hml, hown, hts⟩ (C_X2_digestPacket l dC dI cI cZ cP N0 tO p0 pK pX pY pC pV pR pU pG pW num q er ky sm ub fg fw len i y3 (by omega) hub hlen) (cwV 2 hts gX2_digestOn_X2_digestPacket rfl rfl rfl (by decide +kernel) ⟨Nat.le_of_ble_eq_true rfl, Nat.le_of_ble_eq_true rfl⟩) ⟨Gv.blind, va_recv hK hP (ci := 2) (q0 := 0) rfl rfl, Gv.of hE (hP.sub [0, 5, 6, 7] rfl)⟩ rfl rfl hl.1 rfl (lv_room (Nat.le_of_ble_eq_true rfl)) dX2_digestOn_132 ⟨Nat.le_of_ble_eq_true rfl, Nat.le_of_ble_eq_true rfl⟩)) (fun r_4 hr_4 => ?_)
                have hr_4 : r_4 = dgP ub fg fw len i y3 := hr_4
                refine lv_lstore_n (lv' := [(3, .long r_4), (5, .int (nI i)), (0, .ref p0), (1, .long d)]) hx hb dX2_digestOn_135 rfl hl (by decide) rfl (fun ls hl => ?_)
                refine lv_iinc (v := nI (i + 1)) (lv' := [(5, .int (nI (i + 1))), (3, .long r_4), (0, .ref p0), (1, .long d)]) hx hb dX2_digestOn_136 hl (k := 1) rfl (show nI i + Int32.ofInt 1 = nI (i + 1) from nI_add _ _) (by decide) rfl (fun ls hl => ?_)
                refine lv_goto (tgt := 122) hx hb dX2_digestOn_139 (by decide) ?_
                exact ih122 (i + 1) r_4 (by omega) (by omega) (by rw [hr_4, ey3] <;> rfl) _ (lv_sub hl [0, 1, 2, 3] rfl)
          exact L122 (3 + 1) 0 x3 (by omega) (Nat.lt_succ_self _) (by rw [ex3] <;> rfl) _ (lv_sub hl [0, 1, 2, 3] rfl)
        · skip
          have c51 : ¬ 12 ≤ i := fun z => c51 ((nI_leI (a := 12) (b := i) (by omega) (by omega)).mpr z)
          refine lv_lload_n hx hb dX2_digestOn_54 rfl (lv_at hl 1 rfl) ?_
          refine lv_ldc2 (v := 31) hx hb hown (hts (.constantLong RX2 71 (31)) (List.mem_of_getElem? (i := 1) (by decide +kernel))) dX2_digestOn_55 ?_
          refine lv_lmul hx hb dX2_digestOn_58 ?_
          refine lv_aload_n hx hb dX2_digestOn_59 rfl (lv_at hl 2 rfl) ?_
          refine va_get (D := (dC, dI)) (ci := 2) (v := .ref pK) (C := RX2) (T := TX2) (N := 14) hx hb hts hinX2 hown hK hP 0 rfl rfl 0 (by decide) (hts (.fieldLink RX2 9 "GreyReel$Picture" "kind" "[I") (List.mem_of_getElem? (i := 5) (by decide +kernel))) (fun _ h9 => h9) rfl dX2_digestOn_60 ?_
          refine lv_iload hx hb dX2_digestOn_63 (lv_at hl 0 rfl) ?_
          refine wa_iald (D := (dC, dI)) (i := i) (f := (fun k => nI (kd k))) hx hb hK hP 1 0 rfl rfl (by omega) (by omega) dX2_digestOn_65 ?_
          refine lv_i2l (v := (nI (kd i)).toInt64) hx hb dX2_digestOn_66 rfl ?_
          refine lv_ladd hx hb dX2_digestOn_67 ?_
          refine lv_topl (fun x_5 ex_5 => ?_)
          refine lv_lstore_n (lv' := [(3, .long x_5), (5, .int (nI i)), (0, .ref p0), (1, .long d)]) hx hb dX2_digestOn_68 rfl hl (by decide) rfl (fun ls hl => ?_)
          refine lv_lload_n hx hb dX2_digestOn_69 rfl (lv_at hl 0 rfl) ?_
          refine lv_ldc2 (v := 31) hx hb hown (hts (.constantLong RX2 71 (31)) (List.mem_of_getElem? (i := 1) (by decide +kernel))) dX2_digestOn_70 ?_
          refine lv_lmul hx hb dX2_digestOn_73 ?_
          refine lv_aload_n hx hb dX2_digestOn_74 rfl (lv_at hl 2 rfl) ?_
          refine va_get (D := (dC, dI)) (ci := 2) (v := .ref pX) (C := RX2) (T := TX2) (N := 14) hx hb hts hinX2 hown hK hP 0 rfl rfl 1 (by decide) (hts (.fieldLink RX2 15 "GreyReel$Picture" "vx" "[I") (List.mem_of_getElem? (i := 6) (by decide +kernel))) (fun _ h9 => h9) rfl dX2_digestOn_75 ?_
          refine lv_iload hx hb dX2_digestOn_78 (lv_at hl 1 rfl) ?_
          refine wa_iald (D := (dC, dI)) (i := i) (f := fx) hx hb hK hP 2 0 rfl rfl (by omega) (by omega) dX2_digestOn_80 ?_
          refine lv_i2l (v := (fx i).toInt64) hx hb dX2_digestOn_81 rfl ?_
          refine lv_ladd hx hb dX2_digestOn_82 ?_
          refine lv_topl (fun x_6 ex_6 => ?_)
          refine lv_lstore_n (lv' := [(3, .long x_6), (5, .int (nI i)), (0, .ref p0), (1, .long d)]) hx hb dX2_digestOn_83 rfl hl (by decide) rfl (fun ls hl => ?_)
          refine lv_lload_n hx hb dX2_digestOn_84 rfl (lv_at hl 0 rfl) ?_
          refine lv_ldc2 (v := 31) hx hb hown (hts (.constantLong RX2 71 (31)) (List.mem_of_getElem? (i := 1) (by decide +kernel))) dX2_digestOn_85 ?_
          refine lv_lmul hx hb dX2_digestOn_88 ?_
          refine lv_aload_n hx hb dX2_digestOn_89 rfl (lv_at hl 2 rfl) ?_
          refine va_get (D := (dC, dI)) (ci := 2) (v := .ref pY) (C := RX2) (T := TX2) (N := 14) hx hb hts hinX2 hown hK hP 0 rfl rfl 2 (by decide) (hts (.fieldLink RX2 18 "GreyReel$Picture" "vy" "[I") (List.mem_of_getElem? (i := 7) (by decide +kernel))) (fun _ h9 => h9) rfl dX2_digestOn_90 ?_
          refine lv_iload hx hb dX2_digestOn_93 (lv_at hl 1 rfl) ?_
          refine wa_iald (D := (dC, dI)) (i := i) (f := fy) hx hb hK hP 3 0 rfl rfl (by omega) (by omega) dX2_digestOn_95 ?_
          refine lv_i2l (v := (fy i).toInt64) hx hb dX2_digestOn_96 rfl ?_
          refine lv_ladd hx hb dX2_digestOn_97 ?_
          refine lv_topl (fun x_7 ex_7 => ?_)
          refine lv_lstore_n (lv' := [(3, .long x_7), (5, .int (nI i)), (0, .ref p0), (1, .long d)]) hx hb dX2_digestOn_98 rfl hl (by decide) rfl (fun ls hl => ?_)
          refine lv_lload_n hx hb dX2_digestOn_99 rfl (lv_at hl 0 rfl) ?_
          refine lv_ldc2 (v := 31) hx hb hown (hts (.constantLong RX2 71 (31)) (List.mem_of_getElem? (i := 1) (by decide +kernel))) dX2_digestOn_100 ?_
          refine lv_lmul hx hb dX2_digestOn_103 ?_
          refine lv_aload_n hx hb dX2_digestOn_104 rfl (lv_at hl 2 rfl) ?_
          refine lv_iload hx hb dX2_digestOn_105 (lv_at hl 1 rfl) ?_
          refine vp_callSi (va_Run.run (va_runV (As := [.int (nI i)]) (rest := [.long (x_7 * 31)]) ⟨hx, hb, hml, hown, hts⟩ (C_X2_levelsNotZero l dC dI cI cZ cP N0 tO p0 pK pX pY pC pV pR pU pG pW num q er ky sm fv i (by omega)) (cwV 1 hts gX2_digestOn_X2_levelsNotZero rfl rfl rfl (by decide +kernel) ⟨Nat.le_of_ble_eq_true rfl, Nat.le_of_ble_eq_true rfl⟩) ⟨Gv.blind, va_recv hK hP (ci := 2) (q0 := 0) rfl rfl, Gv.of hE (hP.sub [0, 4] rfl)⟩ rfl rfl hl.1 rfl (lv_room (Nat.le_of_ble_eq_true rfl)) dX2_digestOn_107 ⟨Nat.le_of_ble_eq_true rfl, Nat.le_of_ble_eq_true rfl⟩)) (fun r_8 hr_8 => ?_)
          have hr_8 : r_8 = nI (lnz fv i 64) := hr_8
          refine lv_topr hr_8 ?_
          refine lv_i2l (v := (nI (lnz fv i 64)).toInt64) hx hb dX2_digestOn_110 rfl ?_
          refine lv_ladd hx hb dX2_digestOn_111 ?_
          refine lv_topl (fun x_9 ex_9 => ?_)
          refine lv_lstore_n (lv' := [(3, .long x_9), (5, .int (nI i)), (0, .ref p0), (1, .long d)]) hx hb dX2_digestOn_112 rfl hl (by decide) rfl (fun ls hl => ?_)
          refine lv_iinc (v := nI (i + 1)) (lv' := [(5, .int (nI (i + 1))), (3, .long x_9), (0, .ref p0), (1, .long d)]) hx hb dX2_digestOn_113 hl (k := 1) rfl (show nI i + Int32.ofInt 1 = nI (i + 1) from nI_add _ _) (by decide) rfl (fun ls hl => ?_)
          refine lv_goto (tgt := 47) hx hb dX2_digestOn_116 (by decide) ?_
          exact ih47 (i + 1) x_9 (by omega) (by omega) (by rw [ex_9, ex_7, ex_6, ex_5, ex3] <;> rfl) _ (lv_sub hl [0, 1, 2, 3] rfl)
    exact L47 (12 + 1) 0 x_3 (by omega) (Nat.lt_succ_self _) (by rw [ex_3, ex_2, ex_1] <;> rfl) _ (lv_sub hl [0, 1, 2, 3] rfl)
  refine lv_if_eq (tgt := 16) hx hb dX2_digestOn_9 (by decide) (fun c9 => ?_) (fun c9 => ?_)
  · skip
    refine lv_iconst (v := 0) hx hb dX2_digestOn_16 (by decide) ?_
    refine lv_topr (show _ = zI ky from (by rw [zI, if_pos c9])) ?_
    exact J17 _ (lv_sub hl [0, 1] rfl)
  · skip
    refine lv_iconst (v := 1) hx hb dX2_digestOn_12 (by decide) ?_
    refine lv_topr (show _ = zI ky from (by rw [zI, if_neg c9])) ?_
    refine lv_goto (tgt := 17) hx hb dX2_digestOn_13 (by decide) ?_
    exact J17 _ (lv_sub hl [0, 1] rfl)
