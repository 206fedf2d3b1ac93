set_option maxHeartbeats 8000000 in
set_option maxRecDepth 100000 in
theorem C_X0_codeBlock (l : Launch) (dC : Nat → ClassId) (dI : Nat → Nat → Nat) (cI cZ cP : ClassId) (N0 tO : Nat) (c0 : Nat) (h0 hA hQ hM hF : Nat) (p0 pK pX pY pC pV pR pU pG pW : Nat) (num q er ky sm : Int32) (hC : Nat) (S : BST) (X : CST) (fc fa ff fq : Nat → Int32) (b : Nat) (h1 : b < 12) (hc : rng fc 768) (ha : ky = 0 → rng fa 1140) (hq : qOK q) (hX : csOK X) (hS0 : stOK S) : Met l yX0_codeBlock wsX0_codeBlock ({ frames := 4, cells := 0, slots := 0, locals := 120 } : Room) (Gv (dC, dI) cI cZ cP N0 tO [.ref c0, .ref p0, .ref hC, .int (nI b)] (fun H => va_P (dC, dI) vwCl [(c0, .inr (0, [.ref h0, .int (nI S.1), .int S.2.1, .int S.2.2.1, .int S.2.2.2])), (h0, .inr (3, [.ref hA, .ref hQ, .ref hM, .ref hF])), (hA, .inl (cI, 1140, .inl fa)), (hQ, .inl (cI, 16, .inl fq)), (hM, .inl (cI, 768, .inl X.1)), (hF, .inl (cI, 64, .inl ff)), (p0, .inr (2, [.ref pK, .ref pX, .ref pY, .ref pC, .ref pV, .ref pR, .ref pU, .ref pG, .ref pW, .int num, .int q, .int er, .int ky, .int sm])), (pK, .inl (cI, 12, .inl (fun k => nI (X.2.1 k)))), (pX, .inl (cI, 12, .inl X.2.2.1)), (pY, .inl (cI, 12, .inl X.2.2.2.1)), (pC, .inl (cI, 12, .inl X.2.2.2.2.1)), (pV, .inl (cI, 768, .inl X.2.2.2.2.2)), (hC, .inl (cI, 768, .inl fc))] H ∧ AD N0 [c0, h0, hA, hQ, hM, hF, p0, pK, pX, pY, pC, pV, hC])) (va_Qv (fun (u : (Nat → Int32) × (Nat → Int32) × BST × CST) => match u with | (fz, fg, S1, X1) => X1 = csStep fc fa q ky b X ∧ stOK S1) (fun (u : (Nat → Int32) × (Nat → Int32) × BST × CST) (t : State) => match u with | (fz, fg, S1, X1) => va_P (dC, dI) vwCl [(c0, .inr (0, [.ref h0, .int (nI S1.1), .int S1.2.1, .int S1.2.2.1, .int S1.2.2.2])), (hQ, .inl (cI, 16, .inl fz)), (hM, .inl (cI, 768, .inl X1.1)), (hF, .inl (cI, 64, .inl fg)), (pK, .inl (cI, 12, .inl (fun k => nI (X1.2.1 k)))), (pX, .inl (cI, 12, .inl X1.2.2.1)), (pY, .inl (cI, 12, .inl X1.2.2.2.1)), (pC, .inl (cI, 12, .inl X1.2.2.2.2.1)), (pV, .inl (cI, 768, .inl X1.2.2.2.2.2))] t.heap) (inL [c0, hQ, hM, hF, pK, pX, pY, pC, pV])) 0 0 (inL [c0, hQ, hM, hF, pK, pX, pY, pC, pV]) := by
  refine Met.ofW (cc := cX0_codeBlock) (maxL := 7) (ret := none) (by decide) rfl ?_
  intro p e s m args below meth c s₁ B hml hv
  obtain ⟨rfl, hE, hP, hN⟩ := hv
  have hx := B.exec
  have hb := B.bytes
  have hr := B.returns
  have hts := atoms_spec (ws := wsX0_codeBlock) B.pre
  have hown : s.vm.findClass RX0 = some m.cls := findClass_of_methodNamed B.named
  have hlocks := B.notSynchronized
  have hK := hE.1
  have hNS := hE.2.1
  have hS : va_S (inL [c0, hQ, hM, hF, pK, pX, pY, pC, pV]) s.heap s.heap [] := va_S.rf
  have hAN : ∀ q : Nat, (inL [c0, hQ, hM, hF, pK, pX, pY, pC, pV]) q → N0 ≤ q := fun q h => hN.in [0, 3, 4, 5, 7, 8, 9, 10, 11] rfl q h
  have hP : va_P (dC, dI) vwCl [(c0, .inr (0, [.ref h0, .int (nI S.1), .int S.2.1, .int S.2.2.1, .int S.2.2.2])), (h0, .inr (3, [.ref hA, .ref hQ, .ref hM, .ref hF])), (hA, .inl (cI, 1140, .inl fa)), (hQ, .inl (cI, 16, .inl fq)), (hM, .inl (cI, 768, .inl X.1)), (hF, .inl (cI, 64, .inl ff)), (p0, .inr (2, [.ref pK, .ref pX, .ref pY, .ref pC, .ref pV, .ref pR, .ref pU, .ref pG, .ref pW, .int num, .int q, .int er, .int ky, .int sm])), (pK, .inl (cI, 12, .inl (fun k => nI (X.2.1 k)))), (pX, .inl (cI, 12, .inl X.2.2.1)), (pY, .inl (cI, 12, .inl X.2.2.2.1)), (pC, .inl (cI, 12, .inl X.2.2.2.2.1)), (pV, .inl (cI, 768, .inl X.2.2.2.2.2)), (hC, .inl (cI, 768, .inl fc))] s.heap := hP
  have hinX0 : ∀ w ∈ wsX00, w ∈ wsX0_codeBlock := by decide +kernel
  have hinX2 : ∀ w ∈ wsX20, w ∈ wsX0_codeBlock := by decide +kernel
  have hl := lv_entry ([.ref c0, .ref p0, .ref hC, .int (nI b)]) (n := 7) (Nat.le_of_ble_eq_true rfl)
  rw [lg_entry_eq]
  generalize (lg_sl ([.ref c0, .ref p0, .ref hC, .int (nI b)]) ++ List.replicate (7 - (lg_sl ([.ref c0, .ref p0, .ref hC, .int (nI b)])).length) Slot.unset).toArray = ls at hl ⊢
  have hl : lv_has ls 7 [(0, .ref c0), (1, .ref p0), (2, .ref hC), (3, .int (nI b))] := hl
  have hexv := exF_ok h1 (fun j hj => (hX.2 j hj).1)
  have heyv := exF_ok h1 (fun j hj => (hX.2 j hj).2)
  refine lv_aload_n hx hb dX0_codeBlock_0 rfl (lv_at hl 1 rfl) ?_
  refine va_get (D := (dC, dI)) (ci := 2) (v := .int q) (C := RX2) (T := TX2) (N := 14) hx hb hts hinX2 hown hK hP 6 rfl rfl 10 (by decide) (hts (.fieldLink RX0 41 "GreyReel$Picture" "q" "I") (List.mem_of_getElem? (i := 1) (by decide +kernel))) (fun _ h9 => h9) rfl dX0_codeBlock_1 ?_
  refine lv_istore (lv' := [(4, .int q), (0, .ref c0), (1, .ref p0), (2, .ref hC), (3, .int (nI b))]) hx hb dX0_codeBlock_4 hl (by decide) rfl (fun ls hl => ?_)
  refine lv_aload_n hx hb dX0_codeBlock_6 rfl (lv_at hl 1 rfl) ?_
  refine lv_ldc (v := 1048576) hx hb hown (hts (.constant RX0 58 (1048576)) (List.mem_of_getElem? (i := 2) (by decide +kernel))) dX0_codeBlock_7 ?_
  refine wa_put (D := (dC, dI)) (ci := 0) (v := .int 1048576) (ty := .int) (C := RX0) (T := TX0) (N := 5) hx hb hts hinX0 tyX0 tyX0_ok nmX0 hown hK hP (hN.D rfl) hS (List.mem_of_getElem? (i := 0) rfl) 0 rfl rfl 4 (by decide) (hts (.fieldLink RX0 28 "GreyReel$Coder" "bestPrice" "I") (List.mem_of_getElem? (i := 3) (by decide +kernel))) (fun _ h9 => h9) rfl (by decide +kernel) rfl rfl (Nat.le_of_ble_eq_true rfl) dX0_codeBlock_9 (fun H locs hP hS => ?_)
  have hP : va_P (dC, dI) vwCl [(c0, .inr (0, [.ref h0, .int (nI S.1), .int S.2.1, .int S.2.2.1, .int 1048576])), (h0, .inr (3, [.ref hA, .ref hQ, .ref hM, .ref hF])), (hA, .inl (cI, 1140, .inl fa)), (hQ, .inl (cI, 16, .inl fq)), (hM, .inl (cI, 768, .inl X.1)), (hF, .inl (cI, 64, .inl ff)), (p0, .inr (2, [.ref pK, .ref pX, .ref pY, .ref pC, .ref pV, .ref pR, .ref pU, .ref pG, .ref pW, .int num, .int q, .int er, .int ky, .int sm])), (pK, .inl (cI, 12, .inl (fun k => nI (X.2.1 k)))), (pX, .inl (cI, 12, .inl X.2.2.1)), (pY, .inl (cI, 12, .inl X.2.2.2.1)), (pC, .inl (cI, 12, .inl X.2.2.2.2.1)), (pV, .inl (cI, 768, .inl X.2.2.2.2.2)), (hC, .inl (cI, 768, .inl fc))] H := hP
  refine lv_aload_n hx hb dX0_codeBlock_12 rfl (lv_at hl 2 rfl) ?_
  refine va_get (D := (dC, dI)) (ci := 2) (v := .int ky) (C := RX2) (T := TX2) (N := 14) hx hb hts hinX2 hown hK hP 6 rfl rfl 12 (by decide) (hts (.fieldLink RX0 59 "GreyReel$Picture" "isKeyPicture" "Z") (List.mem_of_getElem? (i := 4) (by decide +kernel))) (fun _ h9 => h9) rfl dX0_codeBlock_13 ?_
  have J26 : ∀ (T1 : BST), (T1 = if ky = 0 then svF fc fa b q (exF X.2.2.1 b) (exF X.2.2.2.1 b) (S.1, S.2.1, S.2.2.1, 1048576) else (S.1, S.2.1, S.2.2.1, 1048576)) → ∀ (H : Heap) (locs : List Loc) (ls : Array Slot), va_P (dC, dI) vwCl [(c0, .inr (0, [.ref h0, .int (nI T1.1), .int T1.2.1, .int T1.2.2.1, .int T1.2.2.2])), (h0, .inr (3, [.ref hA, .ref hQ, .ref hM, .ref hF])), (hA, .inl (cI, 1140, .inl fa)), (hQ, .inl (cI, 16, .inl fq)), (hM, .inl (cI, 768, .inl X.1)), (hF, .inl (cI, 64, .inl ff)), (p0, .inr (2, [.ref pK, .ref pX, .ref pY, .ref pC, .ref pV, .ref pR, .ref pU, .ref pG, .ref pW, .int num, .int q, .int er, .int ky, .int sm])), (pK, .inl (cI, 12, .inl (fun k => nI (X.2.1 k)))), (pX, .inl (cI, 12, .inl X.2.2.1)), (pY, .inl (cI, 12, .inl X.2.2.2.1)), (pC, .inl (cI, 12, .inl X.2.2.2.2.1)), (pV, .inl (cI, 768, .inl X.2.2.2.2.2)), (hC, .inl (cI, 768, .inl fc))] H → va_S (inL [c0, hQ, hM, hF, pK, pX, pY, pC, pV]) s.heap H locs → lv_has ls 7 [(4, .int q), (0, .ref c0), (1, .ref p0), (2, .ref hC), (3, .int (nI b))] → W p l e (headSpec wsX0_codeBlock ({ frames := 4, cells := 0, slots := 0, locals := 120 } : Room)).room s m ([.ref c0, .ref p0, .ref hC, .int (nI b)] : List Value).toArray below meth c H locs 0 0 (MQ below (va_Qv (fun (u : (Nat → Int32) × (Nat → Int32) × BST × CST) => match u with | (fz, fg, S1, X1) => X1 = csStep fc fa q ky b X ∧ stOK S1) (fun (u : (Nat → Int32) × (Nat → Int32) × BST × CST) (t : State) => match u with | (fz, fg, S1, X1) => va_P (dC, dI) vwCl [(c0, .inr (0, [.ref h0, .int (nI S1.1), .int S1.2.1, .int S1.2.2.1, .int S1.2.2.2])), (hQ, .inl (cI, 16, .inl fz)), (hM, .inl (cI, 768, .inl X1.1)), (hF, .inl (cI, 64, .inl fg)), (pK, .inl (cI, 12, .inl (fun k => nI (X1.2.1 k)))), (pX, .inl (cI, 12, .inl X1.2.2.1)), (pY, .inl (cI, 12, .inl X1.2.2.2.1)), (pC, .inl (cI, 12, .inl X1.2.2.2.2.1)), (pV, .inl (cI, 768, .inl X1.2.2.2.2.2))] t.heap) (inL [c0, hQ, hM, hF, pK, pX, pY, pC, pV])) ([.ref c0, .ref p0, .ref hC, .int (nI b)] : List Value).toArray s 0 0 (inL [c0, hQ, hM, hF, pK, pX, pY, pC, pV])) (F0 m 26 ls []) := by
    intro T1 hT1 H locs ls hP hS hl
    refine lv_aload_n hx hb dX0_codeBlock_26 rfl (lv_at hl 1 rfl) ?_
    refine lv_iconst (v := 2) hx hb dX0_codeBlock_27 (by decide) ?_
    refine lv_aload_n hx hb dX0_codeBlock_28 rfl (lv_at hl 3 rfl) ?_
    refine lv_iload_n hx hb dX0_codeBlock_29 rfl (lv_at hl 4 rfl) ?_
    refine lv_iload hx hb dX0_codeBlock_30 (lv_at hl 0 rfl) ?_
    refine va_callv (va_runV (As := [.int 2, .ref hC, .int (nI b), .int q]) (rest := []) ⟨hx, hb, hml, hown, hts⟩ (C_X0_tryKind l dC dI cI cZ cP N0 tO c0 h0 hA hQ hM hF hC T1 fc fa X.1 ff 2 b q h1 (by decide) (fun h => absurd h (by decide))) (cwV 4 hts gX0_codeBlock_X0_tryKind rfl rfl rfl (by decide +kernel) ⟨Nat.le_of_ble_eq_true rfl, Nat.le_of_ble_eq_true rfl⟩) ⟨Gv.blind, va_recv hK hP (ci := 0) (q0 := 0) rfl rfl, Gv.of (hE.S hS hAN) ⟨(hP.sub [0, 1, 2, 4, 5, 12] rfl), hN.sub [0, 1, 2, 4, 5, 12] (by decide) rfl⟩⟩ rfl rfl hl.1 rfl (lv_room (Nat.le_of_ble_eq_true rfl)) dX0_codeBlock_32 ⟨Nat.le_of_ble_eq_true rfl, Nat.le_of_ble_eq_true rfl⟩) hS (fun q _ h => inL_sub [0, 3] rfl q h) (inL_sub [0, 3] rfl) (fun u t H locs ht hvm hw hB hz1 hk1 hS => ?_)
    obtain ⟨S1_2, eu⟩ : ∃ z, z = u := ⟨_, rfl⟩
    subst eu
    rw [ht] at hB
    have hP := va_back (L := [c0, hF]) hP hN rfl [0, 5] rfl rfl (fun q h1 h2 => hk1 q h1 h2) hB
    clear hB hk1 hz1 hvm ht t
    have hP : va_P (dC, dI) vwCl [(c0, .inr (0, [.ref h0, .int (nI S1_2.1), .int S1_2.2.1, .int S1_2.2.2.1, .int S1_2.2.2.2])), (h0, .inr (3, [.ref hA, .ref hQ, .ref hM, .ref hF])), (hA, .inl (cI, 1140, .inl fa)), (hQ, .inl (cI, 16, .inl fq)), (hM, .inl (cI, 768, .inl X.1)), (hF, .inl (cI, 64, .inl (ftF 2 b 0 0 fa X.1))), (p0, .inr (2, [.ref pK, .ref pX, .ref pY, .ref pC, .ref pV, .ref pR, .ref pU, .ref pG, .ref pW, .int num, .int q, .int er, .int ky, .int sm])), (pK, .inl (cI, 12, .inl (fun k => nI (X.2.1 k)))), (pX, .inl (cI, 12, .inl X.2.2.1)), (pY, .inl (cI, 12, .inl X.2.2.2.1)), (pC, .inl (cI, 12, .inl X.2.2.2.2.1)), (pV, .inl (cI, 768, .inl X.2.2.2.2.2)), (hC, .inl (cI, 768, .inl fc))] H := hP
    have hw : S1_2 = tkF fc fa X.1 b 2 q T1 := hw
    have hwr_1 := hw
    have hwr_1 : S1_2 = tkF fc fa X.1 b 2 q T1 := hwr_1
    refine lv_iload_n hx hb dX0_codeBlock_35 rfl (lv_at hl 4 rfl) ?_
    refine vp_callSi (va_Run.run (va_runSN (As := [.int (nI b)]) (rest := []) ⟨hx, hb, hml, hown, hts⟩ (C_X5_isFirstOfBand l dC dI cI cZ cP N0 tO b (by omega)) ⟨va_cnB 1 hts gX0_codeBlock_X5_isFirstOfBand_n69 rfl rfl rfl hNS.2.1.2.2 (hts (.initialized RX5) (List.mem_of_getElem? (i := 34) (by decide +kernel))) (by decide +kernel) ⟨Nat.le_of_ble_eq_true rfl, Nat.le_of_ble_eq_true rfl⟩, (hts (.static yX5_isFirstOfBand) (List.mem_of_getElem? (i := 33) (by decide +kernel))), trivial⟩ ⟨Gv.blind, Gv.of (hE.S hS hAN) trivial⟩ rfl rfl hl.1 rfl (lv_room (Nat.le_of_ble_eq_true rfl)) dX0_codeBlock_36 ⟨Nat.le_of_ble_eq_true rfl, Nat.le_of_ble_eq_true rfl⟩)) (fun r_3 hr_3 => ?_)
    have hr_3 : r_3 = isFB b := hr_3
    have hFB := hr_3
    have J62 : ∀ (T3 : BST) (f3 : Nat → Int32), (T3 = cbT fc fa X.1 b q ky (exF X.2.2.1 b) (exF X.2.2.2.1 b) S) → ∀ (H : Heap) (locs : List Loc) (ls : Array Slot), va_P (dC, dI) vwCl [(c0, .inr (0, [.ref h0, .int (nI T3.1), .int T3.2.1, .int T3.2.2.1, .int T3.2.2.2])), (h0, .inr (3, [.ref hA, .ref hQ, .ref hM, .ref hF])), (hA, .inl (cI, 1140, .inl fa)), (hQ, .inl (cI, 16, .inl fq)), (hM, .inl (cI, 768, .inl X.1)), (hF, .inl (cI, 64, .inl f3)), (p0, .inr (2, [.ref pK, .ref pX, .ref pY, .ref pC, .ref pV, .ref pR, .ref pU, .ref pG, .ref pW, .int num, .int q, .int er, .int ky, .int sm])), (pK, .inl (cI, 12, .inl (fun k => nI (X.2.1 k)))), (pX, .inl (cI, 12, .inl X.2.2.1)), (pY, .inl (cI, 12, .inl X.2.2.2.1)), (pC, .inl (cI, 12, .inl X.2.2.2.2.1)), (pV, .inl (cI, 768, .inl X.2.2.2.2.2)), (hC, .inl (cI, 768, .inl fc))] H → va_S (inL [c0, hQ, hM, hF, pK, pX, pY, pC, pV]) s.heap H locs → lv_has ls 7 [(4, .int q), (0, .ref c0), (1, .ref p0), (2, .ref hC), (3, .int (nI b))] → W p l e (headSpec wsX0_codeBlock ({ frames := 4, cells := 0, slots := 0, locals := 120 } : Room)).room s m ([.ref c0, .ref p0, .ref hC, .int (nI b)] : List Value).toArray below meth c H locs 0 0 (MQ below (va_Qv (fun (u : (Nat → Int32) × (Nat → Int32) × BST × CST) => match u with | (fz, fg, S1, X1) => X1 = csStep fc fa q ky b X ∧ stOK S1) (fun (u : (Nat → Int32) × (Nat → Int32) × BST × CST) (t : State) => match u with | (fz, fg, S1, X1) => va_P (dC, dI) vwCl [(c0, .inr (0, [.ref h0, .int (nI S1.1), .int S1.2.1, .int S1.2.2.1, .int S1.2.2.2])), (hQ, .inl (cI, 16, .inl fz)), (hM, .inl (cI, 768, .inl X1.1)), (hF, .inl (cI, 64, .inl fg)), (pK, .inl (cI, 12, .inl (fun k => nI (X1.2.1 k)))), (pX, .inl (cI, 12, .inl X1.2.2.1)), (pY, .inl (cI, 12, .inl X1.2.2.2.1)), (pC, .inl (cI, 12, .inl X1.2.2.2.2.1)), (pV, .inl (cI, 768, .inl X1.2.2.2.2.2))] t.heap) (inL [c0, hQ, hM, hF, pK, pX, pY, pC, pV])) ([.ref c0, .ref p0, .ref hC, .int (nI b)] : List Value).toArray s 0 0 (inL [c0, hQ, hM, hF, pK, pX, pY, pC, pV])) (F0 m 62 ls []) := by
      intro T3 f3 hT3 H locs ls hP hS hl
      have hg := cb_good (S := S) (ky := ky) h1 hc ha hX.1 hq hexv heyv hS0
      rw [← hT3] at hg
      obtain ⟨hcd, hR⟩ := hg
      have hT31 : T3.1 < 5 := by have := hcd.1; omega
      refine lv_aload_n hx hb dX0_codeBlock_62 rfl (lv_at hl 1 rfl) ?_
      refine va_get (D := (dC, dI)) (ci := 0) (v := .ref h0) (C := RX0) (T := TX0) (N := 5) hx hb hts hinX0 hown hK hP 0 rfl rfl 0 (by decide) (hts (.fieldLink RX0 12 "GreyReel$Coder" "studio" "LGreyReel$Studio;") (List.mem_of_getElem? (i := 5) (by decide +kernel))) (fun _ h9 => h9) rfl dX0_codeBlock_63 ?_
      refine lv_aload_n hx hb dX0_codeBlock_66 rfl (lv_at hl 1 rfl) ?_
      refine va_get (D := (dC, dI)) (ci := 0) (v := .int (nI T3.1)) (C := RX0) (T := TX0) (N := 5) hx hb hts hinX0 hown hK hP 0 rfl rfl 1 (by decide) (hts (.fieldLink RX0 18 "GreyReel$Coder" "bestKind" "I") (List.mem_of_getElem? (i := 6) (by decide +kernel))) (fun _ h9 => h9) rfl dX0_codeBlock_67 ?_
      refine lv_iload_n hx hb dX0_codeBlock_70 rfl (lv_at hl 4 rfl) ?_
      refine lv_aload_n hx hb dX0_codeBlock_71 rfl (lv_at hl 1 rfl) ?_
      refine va_get (D := (dC, dI)) (ci := 0) (v := .int T3.2.1) (C := RX0) (T := TX0) (N := 5) hx hb hts hinX0 hown hK hP 0 rfl rfl 2 (by decide) (hts (.fieldLink RX0 22 "GreyReel$Coder" "bestX" "I") (List.mem_of_getElem? (i := 7) (by decide +kernel))) (fun _ h9 => h9) rfl dX0_codeBlock_72 ?_
      refine lv_aload_n hx hb dX0_codeBlock_75 rfl (lv_at hl 1 rfl) ?_
      refine va_get (D := (dC, dI)) (ci := 0) (v := .int T3.2.2.1) (C := RX0) (T := TX0) (N := 5) hx hb hts hinX0 hown hK hP 0 rfl rfl 3 (by decide) (hts (.fieldLink RX0 25 "GreyReel$Coder" "bestY" "I") (List.mem_of_getElem? (i := 8) (by decide +kernel))) (fun _ h9 => h9) rfl dX0_codeBlock_76 ?_
      refine va_callv (va_runV (As := [.int (nI T3.1), .int (nI b), .int T3.2.1, .int T3.2.2.1]) (rest := []) ⟨hx, hb, hml, hown, hts⟩ (C_X3_foretell l dC dI cI cZ cP N0 tO h0 hA hQ hM hF fa X.1 f3 T3.1 b T3.2.1 T3.2.2.1 h1 (by have := hcd.1; omega) hcd.2.1 hcd.2.2.1.1 hcd.2.2.1.2) (cwV 4 hts gX0_codeBlock_X3_foretell rfl rfl rfl (by decide +kernel) ⟨Nat.le_of_ble_eq_true rfl, Nat.le_of_ble_eq_true rfl⟩) ⟨Gv.blind, va_recv hK hP (ci := 3) (q0 := 1) rfl rfl, Gv.of (hE.S hS hAN) ⟨(hP.sub [1, 2, 4, 5] rfl), hN.sub [1, 2, 4, 5] (by decide) rfl⟩⟩ rfl rfl hl.1 rfl (lv_room (Nat.le_of_ble_eq_true rfl)) dX0_codeBlock_79 ⟨Nat.le_of_ble_eq_true rfl, Nat.le_of_ble_eq_true rfl⟩) hS (fun q _ h => inL_sub [3] rfl q h) (inL_sub [3] rfl) (fun u t H locs ht hvm hw hB hz1 hk1 hS => ?_)
      rw [ht] at hB
      have hP := va_back (L := [hF]) hP hN rfl [5] rfl rfl (fun q h1 h2 => hk1 q h1 h2) hB
      clear hB hk1 hz1 hvm ht t
      have hP : va_P (dC, dI) vwCl [(c0, .inr (0, [.ref h0, .int (nI T3.1), .int T3.2.1, .int T3.2.2.1, .int T3.2.2.2])), (h0, .inr (3, [.ref hA, .ref hQ, .ref hM, .ref hF])), (hA, .inl (cI, 1140, .inl fa)), (hQ, .inl (cI, 16, .inl fq)), (hM, .inl (cI, 768, .inl X.1)), (hF, .inl (cI, 64, .inl (ftF T3.1 b T3.2.1 T3.2.2.1 fa X.1))), (p0, .inr (2, [.ref pK, .ref pX, .ref pY, .ref pC, .ref pV, .ref pR, .ref pU, .ref pG, .ref pW, .int num, .int q, .int er, .int ky, .int sm])), (pK, .inl (cI, 12, .inl (fun k => nI (X.2.1 k)))), (pX, .inl (cI, 12, .inl X.2.2.1)), (pY, .inl (cI, 12, .inl X.2.2.2.1)), (pC, .inl (cI, 12, .inl X.2.2.2.2.1)), (pV, .inl (cI, 768, .inl X.2.2.2.2.2)), (hC, .inl (cI, 768, .inl fc))] H := hP
      have hw : True := hw
      have hwr_4 := hw
      refine lv_aload_n hx hb dX0_codeBlock_82 rfl (lv_at hl 1 rfl) ?_
      refine va_get (D := (dC, dI)) (ci := 0) (v := .ref h0) (C := RX0) (T := TX0) (N := 5) hx hb hts hinX0 hown hK hP 0 rfl rfl 0 (by decide) (hts (.fieldLink RX0 12 "GreyReel$Coder" "studio" "LGreyReel$Studio;") (List.mem_of_getElem? (i := 5) (by decide +kernel))) (fun _ h9 => h9) rfl dX0_codeBlock_83 ?_
      refine lv_aload_n hx hb dX0_codeBlock_86 rfl (lv_at hl 3 rfl) ?_
      refine lv_iload_n hx hb dX0_codeBlock_87 rfl (lv_at hl 4 rfl) ?_
      refine lv_iload hx hb dX0_codeBlock_88 (lv_at hl 0 rfl) ?_
      refine lv_aload_n hx hb dX0_codeBlock_90 rfl (lv_at hl 2 rfl) ?_
      refine va_get (D := (dC, dI)) (ci := 2) (v := .ref pV) (C := RX2) (T := TX2) (N := 14) hx hb hts hinX2 hown hK hP 6 rfl rfl 4 (by decide) (hts (.fieldLink RX0 77 "GreyReel$Picture" "level" "[I") (List.mem_of_getElem? (i := 9) (by decide +kernel))) (fun _ h9 => h9) rfl dX0_codeBlock_91 ?_
      refine va_calli (va_runV (As := [.ref hC, .int (nI b), .int q, .ref pV]) (rest := []) ⟨hx, hb, hml, hown, hts⟩ (C_X3_measure l dC dI cI cZ cP N0 tO h0 hA hQ hM hF hC pV fq fc (ftF T3.1 b T3.2.1 T3.2.2.1 fa X.1) X.2.2.2.2.2 b q h1) (cwV 4 hts gX0_codeBlock_X3_measure rfl rfl rfl (by decide +kernel) ⟨Nat.le_of_ble_eq_true rfl, Nat.le_of_ble_eq_true rfl⟩) ⟨Gv.blind, va_recv hK hP (ci := 3) (q0 := 1) rfl rfl, Gv.of (hE.S hS hAN) ⟨(hP.sub [1, 3, 12, 5, 11] rfl), hN.sub [1, 3, 12, 5, 11] (by decide) rfl⟩⟩ rfl rfl hl.1 rfl (lv_room (Nat.le_of_ble_eq_true rfl)) dX0_codeBlock_94 ⟨Nat.le_of_ble_eq_true rfl, Nat.le_of_ble_eq_true rfl⟩) hS (fun q _ h => inL_sub [1, 8] rfl q h) (inL_sub [1, 8] rfl) (fun r_5 u t H locs ht hvm hw hB hz1 hk1 hS => ?_)
      obtain ⟨fz_6, eu⟩ : ∃ z, z = u := ⟨_, rfl⟩
      subst eu
      rw [ht] at hB
      have hP := va_back (L := [hQ, pV]) hP hN rfl [3, 11] rfl rfl (fun q h1 h2 => hk1 q h1 h2) hB
      clear hB hk1 hz1 hvm ht t
      have hP : va_P (dC, dI) vwCl [(c0, .inr (0, [.ref h0, .int (nI T3.1), .int T3.2.1, .int T3.2.2.1, .int T3.2.2.2])), (h0, .inr (3, [.ref hA, .ref hQ, .ref hM, .ref hF])), (hA, .inl (cI, 1140, .inl fa)), (hQ, .inl (cI, 16, .inl fz_6)), (hM, .inl (cI, 768, .inl X.1)), (hF, .inl (cI, 64, .inl (ftF T3.1 b T3.2.1 T3.2.2.1 fa X.1))), (p0, .inr (2, [.ref pK, .ref pX, .ref pY, .ref pC, .ref pV, .ref pR, .ref pU, .ref pG, .ref pW, .int num, .int q, .int er, .int ky, .int sm])), (pK, .inl (cI, 12, .inl (fun k => nI (X.2.1 k)))), (pX, .inl (cI, 12, .inl X.2.2.1)), (pY, .inl (cI, 12, .inl X.2.2.2.1)), (pC, .inl (cI, 12, .inl X.2.2.2.2.1)), (pV, .inl (cI, 768, .inl (segTo (lvB fc (ftF T3.1 b T3.2.1 T3.2.2.1 fa X.1) b q) X.2.2.2.2.2 (b * 64) 64))), (hC, .inl (cI, 768, .inl fc))] H := hP
      have hw : r_5 = allZ (lvB fc (ftF T3.1 b T3.2.1 T3.2.2.1 fa X.1) b q) 64 := hw
      have hwr_5 := hw
      have hwr_5 : r_5 = allZ (lvB fc (ftF T3.1 b T3.2.1 T3.2.2.1 fa X.1) b q) 64 := hwr_5
      refine lv_istore (lv' := [(5, .int r_5), (4, .int q), (0, .ref c0), (1, .ref p0), (2, .ref hC), (3, .int (nI b))]) hx hb dX0_codeBlock_97 hl (by decide) rfl (fun ls hl => ?_)
      refine lv_aload_n hx hb dX0_codeBlock_99 rfl (lv_at hl 2 rfl) ?_
      refine va_get (D := (dC, dI)) (ci := 0) (v := .int T3.2.1) (C := RX0) (T := TX0) (N := 5) hx hb hts hinX0 hown hK hP 0 rfl rfl 2 (by decide) (hts (.fieldLink RX0 22 "GreyReel$Coder" "bestX" "I") (List.mem_of_getElem? (i := 7) (by decide +kernel))) (fun _ h9 => h9) rfl dX0_codeBlock_100 ?_
      refine lv_aload_n hx hb dX0_codeBlock_103 rfl (lv_at hl 3 rfl) ?_
      refine lv_iload_n hx hb dX0_codeBlock_104 rfl (lv_at hl 5 rfl) ?_
      refine vp_callSi (va_Run.run (va_runV (As := [.int (nI b)]) (rest := [.int T3.2.1]) ⟨hx, hb, hml, hown, hts⟩ (C_X2_expectedX l dC dI cI cZ cP N0 tO p0 pK pX pY pC pV pR pU pG pW num q er ky sm X.2.2.1 b (by omega)) (cwV 1 hts gX0_codeBlock_X2_expectedX rfl rfl rfl (by decide +kernel) ⟨Nat.le_of_ble_eq_true rfl, Nat.le_of_ble_eq_true rfl⟩) ⟨Gv.blind, va_recv hK hP (ci := 2) (q0 := 6) rfl rfl, Gv.of (hE.S hS hAN) (hP.sub [6, 8] rfl)⟩ rfl rfl hl.1 rfl (lv_room (Nat.le_of_ble_eq_true rfl)) dX0_codeBlock_105 ⟨Nat.le_of_ble_eq_true rfl, Nat.le_of_ble_eq_true rfl⟩)) (fun r_7 hr_7 => ?_)
      have hr_7 : r_7 = exF X.2.2.1 b := hr_7
      have J128 : ∀ (x6 : Int32), (¬ x6 = 0 ↔ (T3.2.1 = exF X.2.2.1 b ∧ T3.2.2.1 = exF X.2.2.2.1 b)) → ∀ (H : Heap) (locs : List Loc) (ls : Array Slot), va_P (dC, dI) vwCl [(c0, .inr (0, [.ref h0, .int (nI T3.1), .int T3.2.1, .int T3.2.2.1, .int T3.2.2.2])), (h0, .inr (3, [.ref hA, .ref hQ, .ref hM, .ref hF])), (hA, .inl (cI, 1140, .inl fa)), (hQ, .inl (cI, 16, .inl fz_6)), (hM, .inl (cI, 768, .inl X.1)), (hF, .inl (cI, 64, .inl (ftF T3.1 b T3.2.1 T3.2.2.1 fa X.1))), (p0, .inr (2, [.ref pK, .ref pX, .ref pY, .ref pC, .ref pV, .ref pR, .ref pU, .ref pG, .ref pW, .int num, .int q, .int er, .int ky, .int sm])), (pK, .inl (cI, 12, .inl (fun k => nI (X.2.1 k)))), (pX, .inl (cI, 12, .inl X.2.2.1)), (pY, .inl (cI, 12, .inl X.2.2.2.1)), (pC, .inl (cI, 12, .inl X.2.2.2.2.1)), (pV, .inl (cI, 768, .inl (segTo (lvB fc (ftF T3.1 b T3.2.1 T3.2.2.1 fa X.1) b q) X.2.2.2.2.2 (b * 64) 64))), (hC, .inl (cI, 768, .inl fc))] H → va_S (inL [c0, hQ, hM, hF, pK, pX, pY, pC, pV]) s.heap H locs → lv_has ls 7 [(5, .int r_5), (4, .int q), (0, .ref c0), (1, .ref p0), (2, .ref hC), (3, .int (nI b))] → W p l e (headSpec wsX0_codeBlock ({ frames := 4, cells := 0, slots := 0, locals := 120 } : Room)).room s m ([.ref c0, .ref p0, .ref hC, .int (nI b)] : List Value).toArray below meth c H locs 0 0 (MQ below (va_Qv (fun (u : (Nat → Int32) × (Nat → Int32) × BST × CST) => match u with | (fz, fg, S1, X1) => X1 = csStep fc fa q ky b X ∧ stOK S1) (fun (u : (Nat → Int32) × (Nat → Int32) × BST × CST) (t : State) => match u with | (fz, fg, S1, X1) => va_P (dC, dI) vwCl [(c0, .inr (0, [.ref h0, .int (nI S1.1), .int S1.2.1, .int S1.2.2.1, .int S1.2.2.2])), (hQ, .inl (cI, 16, .inl fz)), (hM, .inl (cI, 768, .inl X1.1)), (hF, .inl (cI, 64, .inl fg)), (pK, .inl (cI, 12, .inl (fun k => nI (X1.2.1 k)))), (pX, .inl (cI, 12, .inl X1.2.2.1)), (pY, .inl (cI, 12, .inl X1.2.2.2.1)), (pC, .inl (cI, 12, .inl X1.2.2.2.2.1)), (pV, .inl (cI, 768, .inl X1.2.2.2.2.2))] t.heap) (inL [c0, hQ, hM, hF, pK, pX, pY, pC, pV])) ([.ref c0, .ref p0, .ref hC, .int (nI b)] : List Value).toArray s 0 0 (inL [c0, hQ, hM, hF, pK, pX, pY, pC, pV])) (F0 m 128 ls [.int x6]) := by
        intro x6 hx6 H locs ls hP hS hl
        refine lv_istore (lv' := [(6, .int x6), (5, .int r_5), (4, .int q), (0, .ref c0), (1, .ref p0), (2, .ref hC), (3, .int (nI b))]) hx hb dX0_codeBlock_128 hl (by decide) rfl (fun ls hl => ?_)
        refine lv_aload_n hx hb dX0_codeBlock_130 rfl (lv_at hl 4 rfl) ?_
        refine va_get (D := (dC, dI)) (ci := 2) (v := .ref pK) (C := RX2) (T := TX2) (N := 14) hx hb hts hinX2 hown hK hP 6 rfl rfl 0 (by decide) (hts (.fieldLink RX0 91 "GreyReel$Picture" "kind" "[I") (List.mem_of_getElem? (i := 10) (by decide +kernel))) (fun _ h9 => h9) rfl dX0_codeBlock_131 ?_
        refine lv_iload_n hx hb dX0_codeBlock_134 rfl (lv_at hl 6 rfl) ?_
        refine lv_aload_n hx hb dX0_codeBlock_135 rfl (lv_at hl 3 rfl) ?_
        refine va_get (D := (dC, dI)) (ci := 0) (v := .int (nI T3.1)) (C := RX0) (T := TX0) (N := 5) hx hb hts hinX0 hown hK hP 0 rfl rfl 1 (by decide) (hts (.fieldLink RX0 18 "GreyReel$Coder" "bestKind" "I") (List.mem_of_getElem? (i := 6) (by decide +kernel))) (fun _ h9 => h9) rfl dX0_codeBlock_136 ?_
        refine lv_iconst (v := 1) hx hb dX0_codeBlock_139 (by decide) ?_
        have J161 : ∀ (kB : Nat), (kB = kindOf T3 (exF X.2.2.1 b) (exF X.2.2.2.1 b) r_5) → ∀ (H : Heap) (locs : List Loc) (ls : Array Slot), va_P (dC, dI) vwCl [(c0, .inr (0, [.ref h0, .int (nI T3.1), .int T3.2.1, .int T3.2.2.1, .int T3.2.2.2])), (h0, .inr (3, [.ref hA, .ref hQ, .ref hM, .ref hF])), (hA, .inl (cI, 1140, .inl fa)), (hQ, .inl (cI, 16, .inl fz_6)), (hM, .inl (cI, 768, .inl X.1)), (hF, .inl (cI, 64, .inl (ftF T3.1 b T3.2.1 T3.2.2.1 fa X.1))), (p0, .inr (2, [.ref pK, .ref pX, .ref pY, .ref pC, .ref pV, .ref pR, .ref pU, .ref pG, .ref pW, .int num, .int q, .int er, .int ky, .int sm])), (pK, .inl (cI, 12, .inl (fun k => nI (X.2.1 k)))), (pX, .inl (cI, 12, .inl X.2.2.1)), (pY, .inl (cI, 12, .inl X.2.2.2.1)), (pC, .inl (cI, 12, .inl X.2.2.2.2.1)), (pV, .inl (cI, 768, .inl (segTo (lvB fc (ftF T3.1 b T3.2.1 T3.2.2.1 fa X.1) b q) X.2.2.2.2.2 (b * 64) 64))), (hC, .inl (cI, 768, .inl fc))] H → va_S (inL [c0, hQ, hM, hF, pK, pX, pY, pC, pV]) s.heap H locs → lv_has ls 7 [(6, .int x6), (5, .int r_5), (4, .int q), (0, .ref c0), (1, .ref p0), (2, .ref hC), (3, .int (nI b))] → W p l e (headSpec wsX0_codeBlock ({ frames := 4, cells := 0, slots := 0, locals := 120 } : Room)).room s m ([.ref c0, .ref p0, .ref hC, .int (nI b)] : List Value).toArray below meth c H locs 0 0 (MQ below (va_Qv (fun (u : (Nat → Int32) × (Nat → Int32) × BST × CST) => match u with | (fz, fg, S1, X1) => X1 = csStep fc fa q ky b X ∧ stOK S1) (fun (u : (Nat → Int32) × (Nat → Int32) × BST × CST) (t : State) => match u with | (fz, fg, S1, X1) => va_P (dC, dI) vwCl [(c0, .inr (0, [.ref h0, .int (nI S1.1), .int S1.2.1, .int S1.2.2.1, .int S1.2.2.2])), (hQ, .inl (cI, 16, .inl fz)), (hM, .inl (cI, 768, .inl X1.1)), (hF, .inl (cI, 64, .inl fg)), (pK, .inl (cI, 12, .inl (fun k => nI (X1.2.1 k)))), (pX, .inl (cI, 12, .inl X1.2.2.1)), (pY, .inl (cI, 12, .inl X1.2.2.2.1)), (pC, .inl (cI, 12, .inl X1.2.2.2.2.1)), (pV, .inl (cI, 768, .inl X1.2.2.2.2.2))] t.heap) (inL [c0, hQ, hM, hF, pK, pX, pY, pC, pV])) ([.ref c0, .ref p0, .ref hC, .int (nI b)] : List Value).toArray s 0 0 (inL [c0, hQ, hM, hF, pK, pX, pY, pC, pV])) (F0 m 161 ls [.int (nI kB), .int (nI b), .ref pK]) := by
          intro kB hkB H locs ls hP hS hl
          refine wa_iast (D := (dC, dI)) (i := b) (f := (fun k => nI (X.2.1 k))) hx hb hK hP (hN.D rfl) hS (List.mem_of_getElem? (i := 4) rfl) 7 0 rfl rfl (by omega) (by omega) dX0_codeBlock_161 (fun H locs hP hS => ?_)
          obtain ⟨f_8, ef_8⟩ : ∃ z, z = upd (fun k => nI (X.2.1 k)) b (nI kB) := ⟨_, rfl⟩
          rw [← ef_8] at hP
          have hP : va_P (dC, dI) vwCl [(c0, .inr (0, [.ref h0, .int (nI T3.1), .int T3.2.1, .int T3.2.2.1, .int T3.2.2.2])), (h0, .inr (3, [.ref hA, .ref hQ, .ref hM, .ref hF])), (hA, .inl (cI, 1140, .inl fa)), (hQ, .inl (cI, 16, .inl fz_6)), (hM, .inl (cI, 768, .inl X.1)), (hF, .inl (cI, 64, .inl (ftF T3.1 b T3.2.1 T3.2.2.1 fa X.1))), (p0, .inr (2, [.ref pK, .ref pX, .ref pY, .ref pC, .ref pV, .ref pR, .ref pU, .ref pG, .ref pW, .int num, .int q, .int er, .int ky, .int sm])), (pK, .inl (cI, 12, .inl f_8)), (pX, .inl (cI, 12, .inl X.2.2.1)), (pY, .inl (cI, 12, .inl X.2.2.2.1)), (pC, .inl (cI, 12, .inl X.2.2.2.2.1)), (pV, .inl (cI, 768, .inl (segTo (lvB fc (ftF T3.1 b T3.2.1 T3.2.2.1 fa X.1) b q) X.2.2.2.2.2 (b * 64) 64))), (hC, .inl (cI, 768, .inl fc))] H := hP
          refine lv_aload_n hx hb dX0_codeBlock_162 rfl (lv_at hl 4 rfl) ?_
          refine va_get (D := (dC, dI)) (ci := 2) (v := .ref pX) (C := RX2) (T := TX2) (N := 14) hx hb hts hinX2 hown hK hP 6 rfl rfl 1 (by decide) (hts (.fieldLink RX0 94 "GreyReel$Picture" "vx" "[I") (List.mem_of_getElem? (i := 11) (by decide +kernel))) (fun _ h9 => h9) rfl dX0_codeBlock_163 ?_
          refine lv_iload_n hx hb dX0_codeBlock_166 rfl (lv_at hl 6 rfl) ?_
          refine lv_aload_n hx hb dX0_codeBlock_167 rfl (lv_at hl 3 rfl) ?_
          refine va_get (D := (dC, dI)) (ci := 0) (v := .int T3.2.1) (C := RX0) (T := TX0) (N := 5) hx hb hts hinX0 hown hK hP 0 rfl rfl 2 (by decide) (hts (.fieldLink RX0 22 "GreyReel$Coder" "bestX" "I") (List.mem_of_getElem? (i := 7) (by decide +kernel))) (fun _ h9 => h9) rfl dX0_codeBlock_168 ?_
          refine lv_topi (fun x_9 ex_9 => ?_)
          refine wa_iast (D := (dC, dI)) (i := b) (f := X.2.2.1) hx hb hK hP (hN.D rfl) hS (List.mem_of_getElem? (i := 5) rfl) 8 0 rfl rfl (by omega) (by omega) dX0_codeBlock_171 (fun H locs hP hS => ?_)
          obtain ⟨f_10, ef_10⟩ : ∃ z, z = upd X.2.2.1 b x_9 := ⟨_, rfl⟩
          rw [← ef_10] at hP
          have hP : va_P (dC, dI) vwCl [(c0, .inr (0, [.ref h0, .int (nI T3.1), .int T3.2.1, .int T3.2.2.1, .int T3.2.2.2])), (h0, .inr (3, [.ref hA, .ref hQ, .ref hM, .ref hF])), (hA, .inl (cI, 1140, .inl fa)), (hQ, .inl (cI, 16, .inl fz_6)), (hM, .inl (cI, 768, .inl X.1)), (hF, .inl (cI, 64, .inl (ftF T3.1 b T3.2.1 T3.2.2.1 fa X.1))), (p0, .inr (2, [.ref pK, .ref pX, .ref pY, .ref pC, .ref pV, .ref pR, .ref pU, .ref pG, .ref pW, .int num, .int q, .int er, .int ky, .int sm])), (pK, .inl (cI, 12, .inl f_8)), (pX, .inl (cI, 12, .inl f_10)), (pY, .inl (cI, 12, .inl X.2.2.2.1)), (pC, .inl (cI, 12, .inl X.2.2.2.2.1)), (pV, .inl (cI, 768, .inl (segTo (lvB fc (ftF T3.1 b T3.2.1 T3.2.2.1 fa X.1) b q) X.2.2.2.2.2 (b * 64) 64))), (hC, .inl (cI, 768, .inl fc))] H := hP
          refine lv_aload_n hx hb dX0_codeBlock_172 rfl (lv_at hl 4 rfl) ?_
          refine va_get (D := (dC, dI)) (ci := 2) (v := .ref pY) (C := RX2) (T := TX2) (N := 14) hx hb hts hinX2 hown hK hP 6 rfl rfl 2 (by decide) (hts (.fieldLink RX0 97 "GreyReel$Picture" "vy" "[I") (List.mem_of_getElem? (i := 12) (by decide +kernel))) (fun _ h9 => h9) rfl dX0_codeBlock_173 ?_
          refine lv_iload_n hx hb dX0_codeBlock_176 rfl (lv_at hl 6 rfl) ?_
          refine lv_aload_n hx hb dX0_codeBlock_177 rfl (lv_at hl 3 rfl) ?_
          refine va_get (D := (dC, dI)) (ci := 0) (v := .int T3.2.2.1) (C := RX0) (T := TX0) (N := 5) hx hb hts hinX0 hown hK hP 0 rfl rfl 3 (by decide) (hts (.fieldLink RX0 25 "GreyReel$Coder" "bestY" "I") (List.mem_of_getElem? (i := 8) (by decide +kernel))) (fun _ h9 => h9) rfl dX0_codeBlock_178 ?_
          refine lv_topi (fun x_11 ex_11 => ?_)
          refine wa_iast (D := (dC, dI)) (i := b) (f := X.2.2.2.1) hx hb hK hP (hN.D rfl) hS (List.mem_of_getElem? (i := 6) rfl) 9 0 rfl rfl (by omega) (by omega) dX0_codeBlock_181 (fun H locs hP hS => ?_)
          obtain ⟨f_12, ef_12⟩ : ∃ z, z = upd X.2.2.2.1 b x_11 := ⟨_, rfl⟩
          rw [← ef_12] at hP
          have hP : va_P (dC, dI) vwCl [(c0, .inr (0, [.ref h0, .int (nI T3.1), .int T3.2.1, .int T3.2.2.1, .int T3.2.2.2])), (h0, .inr (3, [.ref hA, .ref hQ, .ref hM, .ref hF])), (hA, .inl (cI, 1140, .inl fa)), (hQ, .inl (cI, 16, .inl fz_6)), (hM, .inl (cI, 768, .inl X.1)), (hF, .inl (cI, 64, .inl (ftF T3.1 b T3.2.1 T3.2.2.1 fa X.1))), (p0, .inr (2, [.ref pK, .ref pX, .ref pY, .ref pC, .ref pV, .ref pR, .ref pU, .ref pG, .ref pW, .int num, .int q, .int er, .int ky, .int sm])), (pK, .inl (cI, 12, .inl f_8)), (pX, .inl (cI, 12, .inl f_10)), (pY, .inl (cI, 12, .inl f_12)), (pC, .inl (cI, 12, .inl X.2.2.2.2.1)), (pV, .inl (cI, 768, .inl (segTo (lvB fc (ftF T3.1 b T3.2.1 T3.2.2.1 fa X.1) b q) X.2.2.2.2.2 (b * 64) 64))), (hC, .inl (cI, 768, .inl fc))] H := hP
          refine lv_aload_n hx hb dX0_codeBlock_182 rfl (lv_at hl 4 rfl) ?_
          refine va_get (D := (dC, dI)) (ci := 2) (v := .ref pC) (C := RX2) (T := TX2) (N := 14) hx hb hts hinX2 hown hK hP 6 rfl rfl 3 (by decide) (hts (.fieldLink RX0 100 "GreyReel$Picture" "price" "[I") (List.mem_of_getElem? (i := 13) (by decide +kernel))) (fun _ h9 => h9) rfl dX0_codeBlock_183 ?_
          refine lv_iload_n hx hb dX0_codeBlock_186 rfl (lv_at hl 6 rfl) ?_
          refine lv_aload_n hx hb dX0_codeBlock_187 rfl (lv_at hl 3 rfl) ?_
          refine va_get (D := (dC, dI)) (ci := 0) (v := .int T3.2.2.2) (C := RX0) (T := TX0) (N := 5) hx hb hts hinX0 hown hK hP 0 rfl rfl 4 (by decide) (hts (.fieldLink RX0 28 "GreyReel$Coder" "bestPrice" "I") (List.mem_of_getElem? (i := 3) (by decide +kernel))) (fun _ h9 => h9) rfl dX0_codeBlock_188 ?_
          refine lv_topi (fun x_13 ex_13 => ?_)
          refine wa_iast (D := (dC, dI)) (i := b) (f := X.2.2.2.2.1) hx hb hK hP (hN.D rfl) hS (List.mem_of_getElem? (i := 7) rfl) 10 0 rfl rfl (by omega) (by omega) dX0_codeBlock_191 (fun H locs hP hS => ?_)
          obtain ⟨f_14, ef_14⟩ : ∃ z, z = upd X.2.2.2.2.1 b x_13 := ⟨_, rfl⟩
          rw [← ef_14] at hP
          have hP : va_P (dC, dI) vwCl [(c0, .inr (0, [.ref h0, .int (nI T3.1), .int T3.2.1, .int T3.2.2.1, .int T3.2.2.2])), (h0, .inr (3, [.ref hA, .ref hQ, .ref hM, .ref hF])), (hA, .inl (cI, 1140, .inl fa)), (hQ, .inl (cI, 16, .inl fz_6)), (hM, .inl (cI, 768, .inl X.1)), (hF, .inl (cI, 64, .inl (ftF T3.1 b T3.2.1 T3.2.2.1 fa X.1))), (p0, .inr (2, [.ref pK, .ref pX, .ref pY, .ref pC, .ref pV, .ref pR, .ref pU, .ref pG, .ref pW, .int num, .int q, .int er, .int ky, .int sm])), (pK, .inl (cI, 12, .inl f_8)), (pX, .inl (cI, 12, .inl f_10)), (pY, .inl (cI, 12, .inl f_12)), (pC, .inl (cI, 12, .inl f_14)), (pV, .inl (cI, 768, .inl (segTo (lvB fc (ftF T3.1 b T3.2.1 T3.2.2.1 fa X.1) b q) X.2.2.2.2.2 (b * 64) 64))), (hC, .inl (cI, 768, .inl fc))] H := hP
          refine lv_aload_n hx hb dX0_codeBlock_192 rfl (lv_at hl 3 rfl) ?_
          refine va_get (D := (dC, dI)) (ci := 0) (v := .ref h0) (C := RX0) (T := TX0) (N := 5) hx hb hts hinX0 hown hK hP 0 rfl rfl 0 (by decide) (hts (.fieldLink RX0 12 "GreyReel$Coder" "studio" "LGreyReel$Studio;") (List.mem_of_getElem? (i := 5) (by decide +kernel))) (fun _ h9 => h9) rfl dX0_codeBlock_193 ?_
          refine lv_iload_n hx hb dX0_codeBlock_196 rfl (lv_at hl 6 rfl) ?_
          refine lv_iload hx hb dX0_codeBlock_197 (lv_at hl 2 rfl) ?_
          refine lv_aload_n hx hb dX0_codeBlock_199 rfl (lv_at hl 4 rfl) ?_
          refine va_get (D := (dC, dI)) (ci := 2) (v := .ref pV) (C := RX2) (T := TX2) (N := 14) hx hb hts hinX2 hown hK hP 6 rfl rfl 4 (by decide) (hts (.fieldLink RX0 77 "GreyReel$Picture" "level" "[I") (List.mem_of_getElem? (i := 9) (by decide +kernel))) (fun _ h9 => h9) rfl dX0_codeBlock_200 ?_
          refine va_callv (va_runV (As := [.int (nI b), .int q, .ref pV]) (rest := []) ⟨hx, hb, hml, hown, hts⟩ (C_X3_makeBlock l dC dI cI cZ cP N0 tO h0 hA hQ hM hF pV fz_6 X.1 (ftF T3.1 b T3.2.1 T3.2.2.1 fa X.1) (segTo (lvB fc (ftF T3.1 b T3.2.1 T3.2.2.1 fa X.1) b q) X.2.2.2.2.2 (b * 64) 64) b q h1) (cwV 3 hts gX0_codeBlock_X3_makeBlock rfl rfl rfl (by decide +kernel) ⟨Nat.le_of_ble_eq_true rfl, Nat.le_of_ble_eq_true rfl⟩) ⟨Gv.blind, va_recv hK hP (ci := 3) (q0 := 1) rfl rfl, Gv.of (hE.S hS hAN) ⟨(hP.sub [1, 3, 4, 5, 11] rfl), hN.sub [1, 3, 4, 5, 11] (by decide) rfl⟩⟩ rfl rfl hl.1 rfl (lv_room (Nat.le_of_ble_eq_true rfl)) dX0_codeBlock_203 ⟨Nat.le_of_ble_eq_true rfl, Nat.le_of_ble_eq_true rfl⟩) hS (fun q _ h => inL_sub [1, 2] rfl q h) (inL_sub [1, 2] rfl) (fun u t H locs ht hvm hw hB hz1 hk1 hS => ?_)
          obtain ⟨fz_16, eu⟩ : ∃ z, z = u := ⟨_, rfl⟩
          subst eu
          rw [ht] at hB
          have hP := va_back (L := [hQ, hM]) hP hN rfl [3, 4] rfl rfl (fun q h1 h2 => hk1 q h1 h2) hB
          clear hB hk1 hz1 hvm ht t
          have hP : va_P (dC, dI) vwCl [(c0, .inr (0, [.ref h0, .int (nI T3.1), .int T3.2.1, .int T3.2.2.1, .int T3.2.2.2])), (h0, .inr (3, [.ref hA, .ref hQ, .ref hM, .ref hF])), (hA, .inl (cI, 1140, .inl fa)), (hQ, .inl (cI, 16, .inl fz_16)), (hM, .inl (cI, 768, .inl (mdB (mkF (ftF T3.1 b T3.2.1 T3.2.2.1 fa X.1) (segTo (lvB fc (ftF T3.1 b T3.2.1 T3.2.2.1 fa X.1) b q) X.2.2.2.2.2 (b * 64) 64) b q) X.1 b))), (hF, .inl (cI, 64, .inl (ftF T3.1 b T3.2.1 T3.2.2.1 fa X.1))), (p0, .inr (2, [.ref pK, .ref pX, .ref pY, .ref pC, .ref pV, .ref pR, .ref pU, .ref pG, .ref pW, .int num, .int q, .int er, .int ky, .int sm])), (pK, .inl (cI, 12, .inl f_8)), (pX, .inl (cI, 12, .inl f_10)), (pY, .inl (cI, 12, .inl f_12)), (pC, .inl (cI, 12, .inl f_14)), (pV, .inl (cI, 768, .inl (segTo (lvB fc (ftF T3.1 b T3.2.1 T3.2.2.1 fa X.1) b q) X.2.2.2.2.2 (b * 64) 64))), (hC, .inl (cI, 768, .inl fc))] H := hP
          have hw : True := hw
          have hwr_15 := hw
          have hz9 : f_8 = (fun k => nI (va_up X.2.1 b kB k)) := (by rw [ef_8]; exact updN_eq _ _ _)
          rw [hz9] at hP
          clear hz9
          have hP : va_P (dC, dI) vwCl [(c0, .inr (0, [.ref h0, .int (nI T3.1), .int T3.2.1, .int T3.2.2.1, .int T3.2.2.2])), (h0, .inr (3, [.ref hA, .ref hQ, .ref hM, .ref hF])), (hA, .inl (cI, 1140, .inl fa)), (hQ, .inl (cI, 16, .inl fz_16)), (hM, .inl (cI, 768, .inl (mdB (mkF (ftF T3.1 b T3.2.1 T3.2.2.1 fa X.1) (segTo (lvB fc (ftF T3.1 b T3.2.1 T3.2.2.1 fa X.1) b q) X.2.2.2.2.2 (b * 64) 64) b q) X.1 b))), (hF, .inl (cI, 64, .inl (ftF T3.1 b T3.2.1 T3.2.2.1 fa X.1))), (p0, .inr (2, [.ref pK, .ref pX, .ref pY, .ref pC, .ref pV, .ref pR, .ref pU, .ref pG, .ref pW, .int num, .int q, .int er, .int ky, .int sm])), (pK, .inl (cI, 12, .inl (fun k => nI (va_up X.2.1 b kB k)))), (pX, .inl (cI, 12, .inl f_10)), (pY, .inl (cI, 12, .inl f_12)), (pC, .inl (cI, 12, .inl f_14)), (pV, .inl (cI, 768, .inl (segTo (lvB fc (ftF T3.1 b T3.2.1 T3.2.2.1 fa X.1) b q) X.2.2.2.2.2 (b * 64) 64))), (hC, .inl (cI, 768, .inl fc))] H := hP
          exact W.vret hx hb hr (fun t ht hW => ⟨⟨(fz_16, (ftF T3.1 b T3.2.1 T3.2.2.1 fa X.1), T3, ((mdB (mkF (ftF T3.1 b T3.2.1 T3.2.2.1 fa X.1) (segTo (lvB fc (ftF T3.1 b T3.2.1 T3.2.2.1 fa X.1) b q) X.2.2.2.2.2 (b * 64) 64) b q) X.1 b), va_up X.2.1 b kB, f_10, f_12, f_14, (segTo (lvB fc (ftF T3.1 b T3.2.1 T3.2.2.1 fa X.1) b q) X.2.2.2.2.2 (b * 64) 64))), rfl, ⟨(by rw [csStep, ← hR, hkB]; rw [ef_14, ex_13, ef_12, ex_11, ef_10, ex_9, hwr_5]; rfl), hcd.2.2.1⟩, by show va_P _ _ _ t.heap; rw [ht]; exact hP.sub [0, 3, 4, 5, 7, 8, 9, 10, 11] rfl⟩, hS.F ht⟩) hS.2.2 dX0_codeBlock_206
        refine lv_icmp_ne (tgt := 157) hx hb dX0_codeBlock_140 (by decide) (fun c140 => ?_) (fun c140 => ?_)
        · skip
          have c140 : ¬ T3.1 = 1 := fun z => c140 ((nI_eq (a := T3.1) (b := 1) (by omega) (by omega)).mpr z)
          refine lv_aload_n hx hb dX0_codeBlock_157 rfl (lv_at hl 3 rfl) ?_
          refine va_get (D := (dC, dI)) (ci := 0) (v := .int (nI T3.1)) (C := RX0) (T := TX0) (N := 5) hx hb hts hinX0 hown hK hP 0 rfl rfl 1 (by decide) (hts (.fieldLink RX0 18 "GreyReel$Coder" "bestKind" "I") (List.mem_of_getElem? (i := 6) (by decide +kernel))) (fun _ h9 => h9) rfl dX0_codeBlock_158 ?_
          exact J161 T3.1 (by unfold kindOf; exact (if_neg (fun h => c140 h.1)).symm) _ _ _ hP hS (lv_sub hl [0, 1, 2, 3, 4, 5, 6] rfl)
        · skip
          have c140 : T3.1 = 1 := (nI_eq (a := T3.1) (b := 1) (by omega) (by omega)).mp c140
          refine lv_iload hx hb dX0_codeBlock_143 (lv_at hl 0 rfl) ?_
          refine lv_if_eq (tgt := 157) hx hb dX0_codeBlock_145 (by decide) (fun c145 => ?_) (fun c145 => ?_)
          · skip
            refine lv_aload_n hx hb dX0_codeBlock_157 rfl (lv_at hl 3 rfl) ?_
            refine va_get (D := (dC, dI)) (ci := 0) (v := .int (nI T3.1)) (C := RX0) (T := TX0) (N := 5) hx hb hts hinX0 hown hK hP 0 rfl rfl 1 (by decide) (hts (.fieldLink RX0 18 "GreyReel$Coder" "bestKind" "I") (List.mem_of_getElem? (i := 6) (by decide +kernel))) (fun _ h9 => h9) rfl dX0_codeBlock_158 ?_
            exact J161 T3.1 (by unfold kindOf; exact (if_neg (fun h => (hx6.mpr h.2.1) c145)).symm) _ _ _ hP hS (lv_sub hl [0, 1, 2, 3, 4, 5, 6] rfl)
          · skip
            refine lv_iload hx hb dX0_codeBlock_148 (lv_at hl 1 rfl) ?_
            refine lv_if_eq (tgt := 157) hx hb dX0_codeBlock_150 (by decide) (fun c150 => ?_) (fun c150 => ?_)
            · skip
              refine lv_aload_n hx hb dX0_codeBlock_157 rfl (lv_at hl 3 rfl) ?_
              refine va_get (D := (dC, dI)) (ci := 0) (v := .int (nI T3.1)) (C := RX0) (T := TX0) (N := 5) hx hb hts hinX0 hown hK hP 0 rfl rfl 1 (by decide) (hts (.fieldLink RX0 18 "GreyReel$Coder" "bestKind" "I") (List.mem_of_getElem? (i := 6) (by decide +kernel))) (fun _ h9 => h9) rfl dX0_codeBlock_158 ?_
              exact J161 T3.1 (by unfold kindOf; exact (if_neg (fun h => h.2.2 c150)).symm) _ _ _ hP hS (lv_sub hl [0, 1, 2, 3, 4, 5, 6] rfl)
            · skip
              refine lv_iconst (v := 0) hx hb dX0_codeBlock_153 (by decide) ?_
              refine lv_goto (tgt := 161) hx hb dX0_codeBlock_154 (by decide) ?_
              exact J161 0 (by unfold kindOf; exact (if_pos ⟨c140, hx6.mp c145, c150⟩).symm) _ _ _ hP hS (lv_sub hl [0, 1, 2, 3, 4, 5, 6] rfl)
      refine lv_icmp_ne (tgt := 127) hx hb dX0_codeBlock_108 (by decide) (fun c108 => ?_) (fun c108 => ?_)
      · skip
        refine lv_iconst (v := 0) hx hb dX0_codeBlock_127 (by decide) ?_
        exact J128 0 ⟨fun h => absurd rfl h, fun h => absurd (h.1.trans hr_7.symm) c108⟩ _ _ _ hP hS (lv_sub hl [0, 1, 2, 3, 4, 5] rfl)
      · skip
        refine lv_aload_n hx hb dX0_codeBlock_111 rfl (lv_at hl 2 rfl) ?_
        refine va_get (D := (dC, dI)) (ci := 0) (v := .int T3.2.2.1) (C := RX0) (T := TX0) (N := 5) hx hb hts hinX0 hown hK hP 0 rfl rfl 3 (by decide) (hts (.fieldLink RX0 25 "GreyReel$Coder" "bestY" "I") (List.mem_of_getElem? (i := 8) (by decide +kernel))) (fun _ h9 => h9) rfl dX0_codeBlock_112 ?_
        refine lv_aload_n hx hb dX0_codeBlock_115 rfl (lv_at hl 3 rfl) ?_
        refine lv_iload_n hx hb dX0_codeBlock_116 rfl (lv_at hl 5 rfl) ?_
        refine vp_callSi (va_Run.run (va_runV (As := [.int (nI b)]) (rest := [.int T3.2.2.1]) ⟨hx, hb, hml, hown, hts⟩ (C_X2_expectedY l dC dI cI cZ cP N0 tO p0 pK pX pY pC pV pR pU pG pW num q er ky sm X.2.2.2.1 b (by omega)) (cwV 1 hts gX0_codeBlock_X2_expectedY rfl rfl rfl (by decide +kernel) ⟨Nat.le_of_ble_eq_true rfl, Nat.le_of_ble_eq_true rfl⟩) ⟨Gv.blind, va_recv hK hP (ci := 2) (q0 := 6) rfl rfl, Gv.of (hE.S hS hAN) (hP.sub [6, 9] rfl)⟩ rfl rfl hl.1 rfl (lv_room (Nat.le_of_ble_eq_true rfl)) dX0_codeBlock_117 ⟨Nat.le_of_ble_eq_true rfl, Nat.le_of_ble_eq_true rfl⟩)) (fun r_17 hr_17 => ?_)
        have hr_17 : r_17 = exF X.2.2.2.1 b := hr_17
        refine lv_icmp_ne (tgt := 127) hx hb dX0_codeBlock_120 (by decide) (fun c120 => ?_) (fun c120 => ?_)
        · skip
          refine lv_iconst (v := 0) hx hb dX0_codeBlock_127 (by decide) ?_
          exact J128 0 ⟨fun h => absurd rfl h, fun h => absurd (h.2.trans hr_17.symm) c120⟩ _ _ _ hP hS (lv_sub hl [0, 1, 2, 3, 4, 5] rfl)
        · skip
          refine lv_iconst (v := 1) hx hb dX0_codeBlock_123 (by decide) ?_
          refine lv_goto (tgt := 128) hx hb dX0_codeBlock_124 (by decide) ?_
          exact J128 1 ⟨fun _ => ⟨c108.trans hr_7, c120.trans hr_17⟩, fun _ => by decide⟩ _ _ _ hP hS (lv_sub hl [0, 1, 2, 3, 4, 5] rfl)
    refine lv_if_ne (tgt := 62) hx hb dX0_codeBlock_39 (by decide) (fun c39 => ?_) (fun c39 => ?_)
    · skip
      have hb4 := isFB_t hFB c39
      exact J62 S1_2 (ftF 2 b 0 0 fa X.1) (by rw [hwr_1, hT1]; unfold cbT; rw [if_pos hb4]) _ _ _ hP hS (lv_sub hl [0, 1, 2, 3, 4] rfl)
    · skip
      have hb4 := isFB_f hFB c39
      refine lv_aload_n hx hb dX0_codeBlock_42 rfl (lv_at hl 1 rfl) ?_
      refine lv_iconst (v := 3) hx hb dX0_codeBlock_43 (by decide) ?_
      refine lv_aload_n hx hb dX0_codeBlock_44 rfl (lv_at hl 3 rfl) ?_
      refine lv_iload_n hx hb dX0_codeBlock_45 rfl (lv_at hl 4 rfl) ?_
      refine lv_iload hx hb dX0_codeBlock_46 (lv_at hl 0 rfl) ?_
      refine va_callv (va_runV (As := [.int 3, .ref hC, .int (nI b), .int q]) (rest := []) ⟨hx, hb, hml, hown, hts⟩ (C_X0_tryKind l dC dI cI cZ cP N0 tO c0 h0 hA hQ hM hF hC S1_2 fc fa X.1 (ftF 2 b 0 0 fa X.1) 3 b q h1 (by decide) (fun _ => hb4)) (cwV 4 hts gX0_codeBlock_X0_tryKind rfl rfl rfl (by decide +kernel) ⟨Nat.le_of_ble_eq_true rfl, Nat.le_of_ble_eq_true rfl⟩) ⟨Gv.blind, va_recv hK hP (ci := 0) (q0 := 0) rfl rfl, Gv.of (hE.S hS hAN) ⟨(hP.sub [0, 1, 2, 4, 5, 12] rfl), hN.sub [0, 1, 2, 4, 5, 12] (by decide) rfl⟩⟩ rfl rfl hl.1 rfl (lv_room (Nat.le_of_ble_eq_true rfl)) dX0_codeBlock_48 ⟨Nat.le_of_ble_eq_true rfl, Nat.le_of_ble_eq_true rfl⟩) hS (fun q _ h => inL_sub [0, 3] rfl q h) (inL_sub [0, 3] rfl) (fun u t H locs ht hvm hw hB hz1 hk1 hS => ?_)
      obtain ⟨S1_19, eu⟩ : ∃ z, z = u := ⟨_, rfl⟩
      subst eu
      rw [ht] at hB
      have hP := va_back (L := [c0, hF]) hP hN rfl [0, 5] rfl rfl (fun q h1 h2 => hk1 q h1 h2) hB
      clear hB hk1 hz1 hvm ht t
      have hP : va_P (dC, dI) vwCl [(c0, .inr (0, [.ref h0, .int (nI S1_19.1), .int S1_19.2.1, .int S1_19.2.2.1, .int S1_19.2.2.2])), (h0, .inr (3, [.ref hA, .ref hQ, .ref hM, .ref hF])), (hA, .inl (cI, 1140, .inl fa)), (hQ, .inl (cI, 16, .inl fq)), (hM, .inl (cI, 768, .inl X.1)), (hF, .inl (cI, 64, .inl (ftF 3 b 0 0 fa X.1))), (p0, .inr (2, [.ref pK, .ref pX, .ref pY, .ref pC, .ref pV, .ref pR, .ref pU, .ref pG, .ref pW, .int num, .int q, .int er, .int ky, .int sm])), (pK, .inl (cI, 12, .inl (fun k => nI (X.2.1 k)))), (pX, .inl (cI, 12, .inl X.2.2.1)), (pY, .inl (cI, 12, .inl X.2.2.2.1)), (pC, .inl (cI, 12, .inl X.2.2.2.2.1)), (pV, .inl (cI, 768, .inl X.2.2.2.2.2)), (hC, .inl (cI, 768, .inl fc))] H := hP
      have hw : S1_19 = tkF fc fa X.1 b 3 q S1_2 := hw
      have hwr_18 := hw
      have hwr_18 : S1_19 = tkF fc fa X.1 b 3 q S1_2 := hwr_18
      refine lv_aload_n hx hb dX0_codeBlock_51 rfl (lv_at hl 1 rfl) ?_
      refine lv_iconst (v := 4) hx hb dX0_codeBlock_52 (by decide) ?_
      refine lv_aload_n hx hb dX0_codeBlock_53 rfl (lv_at hl 3 rfl) ?_
      refine lv_iload_n hx hb dX0_codeBlock_54 rfl (lv_at hl 4 rfl) ?_
      refine lv_iconst (v := 2) hx hb dX0_codeBlock_55 (by decide) ?_
      refine lv_iload hx hb dX0_codeBlock_56 (lv_at hl 0 rfl) ?_
      refine lv_imul hx hb dX0_codeBlock_58 ?_
      refine va_callv (va_runV (As := [.int 4, .ref hC, .int (nI b), .int (2 * q)]) (rest := []) ⟨hx, hb, hml, hown, hts⟩ (C_X0_tryKind l dC dI cI cZ cP N0 tO c0 h0 hA hQ hM hF hC S1_19 fc fa X.1 (ftF 3 b 0 0 fa X.1) 4 b (2 * q) h1 (by decide) (fun _ => hb4)) (cwV 4 hts gX0_codeBlock_X0_tryKind rfl rfl rfl (by decide +kernel) ⟨Nat.le_of_ble_eq_true rfl, Nat.le_of_ble_eq_true rfl⟩) ⟨Gv.blind, va_recv hK hP (ci := 0) (q0 := 0) rfl rfl, Gv.of (hE.S hS hAN) ⟨(hP.sub [0, 1, 2, 4, 5, 12] rfl), hN.sub [0, 1, 2, 4, 5, 12] (by decide) rfl⟩⟩ rfl rfl hl.1 rfl (lv_room (Nat.le_of_ble_eq_true rfl)) dX0_codeBlock_59 ⟨Nat.le_of_ble_eq_true rfl, Nat.le_of_ble_eq_true rfl⟩) hS (fun q _ h => inL_sub [0, 3] rfl q h) (inL_sub [0, 3] rfl) (fun u t H locs ht hvm hw hB hz1 hk1 hS => ?_)
      obtain ⟨S1_21, eu⟩ : ∃ z, z = u := ⟨_, rfl⟩
      subst eu
      rw [ht] at hB
      have hP := va_back (L := [c0, hF]) hP hN rfl [0, 5] rfl rfl (fun q h1 h2 => hk1 q h1 h2) hB
      clear hB hk1 hz1 hvm ht t
      have hP : va_P (dC, dI) vwCl [(c0, .inr (0, [.ref h0, .int (nI S1_21.1), .int S1_21.2.1, .int S1_21.2.2.1, .int S1_21.2.2.2])), (h0, .inr (3, [.ref hA, .ref hQ, .ref hM, .ref hF])), (hA, .inl (cI, 1140, .inl fa)), (hQ, .inl (cI, 16, .inl fq)), (hM, .inl (cI, 768, .inl X.1)), (hF, .inl (cI, 64, .inl (ftF 4 b 0 0 fa X.1))), (p0, .inr (2, [.ref pK, .ref pX, .ref pY, .ref pC, .ref pV, .ref pR, .ref pU, .ref pG, .ref pW, .int num, .int q, .int er, .int ky, .int sm])), (pK, .inl (cI, 12, .inl (fun k => nI (X.2.1 k)))), (pX, .inl (cI, 12, .inl X.2.2.1)), (pY, .inl (cI, 12, .inl X.2.2.2.1)), (pC, .inl (cI, 12, .inl X.2.2.2.2.1)), (pV, .inl (cI, 768, .inl X.2.2.2.2.2)), (hC, .inl (cI, 768, .inl fc))] H := hP
      have hw : S1_21 = tkF fc fa X.1 b 4 (2 * q) S1_19 := hw
      have hwr_20 := hw
      have hwr_20 : S1_21 = tkF fc fa X.1 b 4 (2 * q) S1_19 := hwr_20
      exact J62 S1_21 (ftF 4 b 0 0 fa X.1) (by rw [hwr_20, hwr_18, hwr_1, hT1]; unfold cbT; rw [if_neg hb4]) _ _ _ hP hS (lv_sub hl [0, 1, 2, 3, 4] rfl)
  refine lv_if_ne (tgt := 26) hx hb dX0_codeBlock_16 (by decide) (fun c16 => ?_) (fun c16 => ?_)
  · skip
    exact J26 (S.1, S.2.1, S.2.2.1, 1048576) (if_neg c16).symm _ _ _ hP hS (lv_sub hl [0, 1, 2, 3, 4] rfl)
  · skip
    refine lv_aload_n hx hb dX0_codeBlock_19 rfl (lv_at hl 1 rfl) ?_
    refine lv_aload_n hx hb dX0_codeBlock_20 rfl (lv_at hl 2 rfl) ?_
    refine lv_aload_n hx hb dX0_codeBlock_21 rfl (lv_at hl 3 rfl) ?_
    refine lv_iload_n hx hb dX0_codeBlock_22 rfl (lv_at hl 4 rfl) ?_
    refine va_callv (va_runV (As := [.ref p0, .ref hC, .int (nI b)]) (rest := []) ⟨hx, hb, hml, hown, hts⟩ (C_X0_seekVector l dC dI cI cZ cP N0 tO c0 h0 hA hQ hM hF p0 pK pX pY pC pV pR pU pG pW num q er ky sm hC (S.1, S.2.1, S.2.2.1, 1048576) fc fa X.2.2.1 X.2.2.2.1 b h1 hS0) (cwV 3 hts gX0_codeBlock_X0_seekVector rfl rfl rfl (by decide +kernel) ⟨Nat.le_of_ble_eq_true rfl, Nat.le_of_ble_eq_true rfl⟩) ⟨Gv.blind, va_recv hK hP (ci := 0) (q0 := 0) rfl rfl, Gv.of (hE.S hS hAN) ⟨(hP.sub [0, 1, 2, 6, 8, 9, 12] rfl), hN.sub [0, 1, 2, 6, 8, 9, 12] (by decide) rfl⟩⟩ rfl rfl hl.1 rfl (lv_room (Nat.le_of_ble_eq_true rfl)) dX0_codeBlock_23 ⟨Nat.le_of_ble_eq_true rfl, Nat.le_of_ble_eq_true rfl⟩) hS (fun q _ h => inL_sub [0] rfl q h) (inL_sub [0] rfl) (fun u t H locs ht hvm hw hB hz1 hk1 hS => ?_)
    obtain ⟨S1_23, eu⟩ : ∃ z, z = u := ⟨_, rfl⟩
    subst eu
    rw [ht] at hB
    have hP := va_back (L := [c0]) hP hN rfl [0] rfl rfl (fun q h1 h2 => hk1 q h1 h2) hB
    clear hB hk1 hz1 hvm ht t
    have hP : va_P (dC, dI) vwCl [(c0, .inr (0, [.ref h0, .int (nI S1_23.1), .int S1_23.2.1, .int S1_23.2.2.1, .int S1_23.2.2.2])), (h0, .inr (3, [.ref hA, .ref hQ, .ref hM, .ref hF])), (hA, .inl (cI, 1140, .inl fa)), (hQ, .inl (cI, 16, .inl fq)), (hM, .inl (cI, 768, .inl X.1)), (hF, .inl (cI, 64, .inl ff)), (p0, .inr (2, [.ref pK, .ref pX, .ref pY, .ref pC, .ref pV, .ref pR, .ref pU, .ref pG, .ref pW, .int num, .int q, .int er, .int ky, .int sm])), (pK, .inl (cI, 12, .inl (fun k => nI (X.2.1 k)))), (pX, .inl (cI, 12, .inl X.2.2.1)), (pY, .inl (cI, 12, .inl X.2.2.2.1)), (pC, .inl (cI, 12, .inl X.2.2.2.2.1)), (pV, .inl (cI, 768, .inl X.2.2.2.2.2)), (hC, .inl (cI, 768, .inl fc))] H := hP
    have hw : S1_23 = svF fc fa b q (exF X.2.2.1 b) (exF X.2.2.2.1 b) (S.1, S.2.1, S.2.2.1, 1048576) := hw
    have hwr_22 := hw
    have hwr_22 : S1_23 = svF fc fa b q (exF X.2.2.1 b) (exF X.2.2.2.1 b) (S.1, S.2.1, S.2.2.1, 1048576) := hwr_22
    exact J26 S1_23 (by rw [hwr_22]; exact (if_pos c16).symm) _ _ _ hP hS (lv_sub hl [0, 1, 2, 3, 4] rfl)
set_option maxHeartbeats 8000000 in
set_option maxRecDepth 100000 in
theorem C_X0_codeAll (l : Launch) (dC : Nat → ClassId) (dI : Nat → Nat → Nat) (cI cZ cP : ClassId) (N0 tO : Nat) (c0 : Nat) (h0 hA hQ hM hF : Nat) (p0 pK pX pY pC pV pR pU pG pW : Nat) (num q er ky sm : Int32) (hC : Nat) (S : BST) (X : CST) (fc fa ff fq fr : Nat → Int32) (hc : rng fc 768) (ha : ky = 0 → rng fa 1140) (hq : qOK q) (hX : csOK X) (hS0 : stOK S) : Met l yX0_codeAll wsX0_codeAll ({ frames := 5, cells := 0, slots := 0, locals := 146 } : Room) (Gv (dC, dI) cI cZ cP N0 tO [.ref c0, .ref p0, .ref hC] (fun H => va_P (dC, dI) vwCl [(c0, .inr (0, [.ref h0, .int (nI S.1), .int S.2.1, .int S.2.2.1, .int S.2.2.2])), (h0, .inr (3, [.ref hA, .ref hQ, .ref hM, .ref hF])), (hA, .inl (cI, 1140, .inl fa)), (hQ, .inl (cI, 16, .inl fq)), (hM, .inl (cI, 768, .inl X.1)), (hF, .inl (cI, 64, .inl ff)), (p0, .inr (2, [.ref pK, .ref pX, .ref pY, .ref pC, .ref pV, .ref pR, .ref pU, .ref pG, .ref pW, .int num, .int q, .int er, .int ky, .int sm])), (pK, .inl (cI, 12, .inl (fun k => nI (X.2.1 k)))), (pX, .inl (cI, 12, .inl X.2.2.1)), (pY, .inl (cI, 12, .inl X.2.2.2.1)), (pC, .inl (cI, 12, .inl X.2.2.2.2.1)), (pV, .inl (cI, 768, .inl X.2.2.2.2.2)), (pR, .inl (cI, 768, .inl fr)), (hC, .inl (cI, 768, .inl fc))] H ∧ AD N0 [c0, h0, hA, hQ, hM, hF, p0, pK, pX, pY, pC, pV, pR, hC])) (va_Qv (fun (u : (Nat → Int32) × (Nat → Int32) × BST) => match u with | (fz, fg, S1) => stOK S1) (fun (u : (Nat → Int32) × (Nat → Int32) × BST) (t : State) => match u with | (fz, fg, S1) => va_P (dC, dI) vwCl [(c0, .inr (0, [.ref h0, .int (nI S1.1), .int S1.2.1, .int S1.2.2.1, .int S1.2.2.2])), (hQ, .inl (cI, 16, .inl fz)), (hM, .inl (cI, 768, .inl (mdF fc fa q ky sm))), (hF, .inl (cI, 64, .inl fg)), (p0, .inr (2, [.ref pK, .ref pX, .ref pY, .ref pC, .ref pV, .ref pR, .ref pU, .ref pG, .ref pW, .int num, .int q, .int (erF fc (mdF fc fa q ky sm) 768), .int ky, .int sm])), (pK, .inl (cI, 12, .inl (fun k => nI ((csC fc fa q ky).2.1 k)))), (pX, .inl (cI, 12, .inl ((csC fc fa q ky).2.2.1))), (pY, .inl (cI, 12, .inl ((csC fc fa q ky).2.2.2.1))), (pC, .inl (cI, 12, .inl ((csC fc fa q ky).2.2.2.2.1))), (pV, .inl (cI, 768, .inl ((csC fc fa q ky).2.2.2.2.2))), (pR, .inl (cI, 768, .inl (mdF fc fa q ky sm)))] t.heap) (inL [c0, hQ, hM, hF, p0, pK, pX, pY, pC, pV, pR])) 0 0 (inL [c0, hQ, hM, hF, p0, pK, pX, pY, pC, pV, pR]) := by
  refine Met.ofW (cc := cX0_codeAll) (maxL := 6) (ret := none) (by decide) rfl ?_
  intro p e s m args below meth c s₁ B hml hv
  obtain ⟨rfl, hE, hP, hN⟩ := hv
  have hx := B.exec
  have hb := B.bytes
  have hr := B.returns
  have hts := atoms_spec (ws := wsX0_codeAll) B.pre
  have hown : s.vm.findClass RX0 = some m.cls := findClass_of_methodNamed B.named
  have hlocks := B.notSynchronized
  have hK := hE.1
  have hNS := hE.2.1
  have hS : va_S (inL [c0, hQ, hM, hF, p0, pK, pX, pY, pC, pV, pR]) s.heap s.heap [] := va_S.rf
  have hAN : ∀ q : Nat, (inL [c0, hQ, hM, hF, p0, pK, pX, pY, pC, pV, pR]) q → N0 ≤ q := fun q h => hN.in [0, 3, 4, 5, 6, 7, 8, 9, 10, 11, 12] rfl q h
  have hP : va_P (dC, dI) vwCl [(c0, .inr (0, [.ref h0, .int (nI S.1), .int S.2.1, .int S.2.2.1, .int S.2.2.2])), (h0, .inr (3, [.ref hA, .ref hQ, .ref hM, .ref hF])), (hA, .inl (cI, 1140, .inl fa)), (hQ, .inl (cI, 16, .inl fq)), (hM, .inl (cI, 768, .inl X.1)), (hF, .inl (cI, 64, .inl ff)), (p0, .inr (2, [.ref pK, .ref pX, .ref pY, .ref pC, .ref pV, .ref pR, .ref pU, .ref pG, .ref pW, .int num, .int q, .int er, .int ky, .int sm])), (pK, .inl (cI, 12, .inl (fun k => nI (X.2.1 k)))), (pX, .inl (cI, 12, .inl X.2.2.1)), (pY, .inl (cI, 12, .inl X.2.2.2.1)), (pC, .inl (cI, 12, .inl X.2.2.2.2.1)), (pV, .inl (cI, 768, .inl X.2.2.2.2.2)), (pR, .inl (cI, 768, .inl fr)), (hC, .inl (cI, 768, .inl fc))] s.heap := hP
  have hinX0 : ∀ w ∈ wsX00, w ∈ wsX0_codeAll := by decide +kernel
  have hinX2 : ∀ w ∈ wsX20, w ∈ wsX0_codeAll := by decide +kernel
  have hinX3 : ∀ w ∈ wsX30, w ∈ wsX0_codeAll := by decide +kernel
  have hl := lv_entry ([.ref c0, .ref p0, .ref hC]) (n := 6) (Nat.le_of_ble_eq_true rfl)
  rw [lg_entry_eq]
  generalize (lg_sl ([.ref c0, .ref p0, .ref hC]) ++ List.replicate (6 - (lg_sl ([.ref c0, .ref p0, .ref hC])).length) Slot.unset).toArray = ls at hl ⊢
  have hl : lv_has ls 6 [(0, .ref c0), (1, .ref p0), (2, .ref hC)] := hl
  refine lv_iconst (v := 0) hx hb dX0_codeAll_0 (by decide) ?_
  refine lv_istore_n (lv' := [(3, .int 0), (0, .ref c0), (1, .ref p0), (2, .ref hC)]) hx hb dX0_codeAll_1 rfl hl (by decide) rfl (fun ls hl => ?_)
  have L2 : ∀ (n2 : Nat) (i : Nat) (T : BST) (Y : CST) (f1 : Nat → Int32) (f2 : Nat → Int32), (i ≤ 12) → (stOK T) → (Y = csIt fc fa q ky X i) → 12 - i < n2 → ∀ (H : Heap) (locs : List Loc) (ls : Array Slot), va_P (dC, dI) vwCl [(c0, .inr (0, [.ref h0, .int (nI T.1), .int T.2.1, .int T.2.2.1, .int T.2.2.2])), (h0, .inr (3, [.ref hA, .ref hQ, .ref hM, .ref hF])), (hA, .inl (cI, 1140, .inl fa)), (hQ, .inl (cI, 16, .inl f1)), (hM, .inl (cI, 768, .inl Y.1)), (hF, .inl (cI, 64, .inl f2)), (p0, .inr (2, [.ref pK, .ref pX, .ref pY, .ref pC, .ref pV, .ref pR, .ref pU, .ref pG, .ref pW, .int num, .int q, .int er, .int ky, .int sm])), (pK, .inl (cI, 12, .inl (fun k => nI (Y.2.1 k)))), (pX, .inl (cI, 12, .inl Y.2.2.1)), (pY, .inl (cI, 12, .inl Y.2.2.2.1)), (pC, .inl (cI, 12, .inl Y.2.2.2.2.1)), (pV, .inl (cI, 768, .inl Y.2.2.2.2.2)), (pR, .inl (cI, 768, .inl fr)), (hC, .inl (cI, 768, .inl fc))] H → va_S (inL [c0, hQ, hM, hF, p0, pK, pX, pY, pC, pV, pR]) s.heap H locs → lv_has ls 6 [(3, .int (nI i)), (0, .ref c0), (1, .ref p0), (2, .ref hC)] → W p l e (headSpec wsX0_codeAll ({ frames := 5, cells := 0, slots := 0, locals := 146 } : Room)).room s m ([.ref c0, .ref p0, .ref hC] : List Value).toArray below meth c H locs 0 0 (MQ below (va_Qv (fun (u : (Nat → Int32) × (Nat → Int32) × BST) => match u with | (fz, fg, S1) => stOK S1) (fun (u : (Nat → Int32) × (Nat → Int32) × BST) (t : State) => match u with | (fz, fg, S1) => va_P (dC, dI) vwCl [(c0, .inr (0, [.ref h0, .int (nI S1.1), .int S1.2.1, .int S1.2.2.1, .int S1.2.2.2])), (hQ, .inl (cI, 16, .inl fz)), (hM, .inl (cI, 768, .inl (mdF fc fa q ky sm))), (hF, .inl (cI, 64, .inl fg)), (p0, .inr (2, [.ref pK, .ref pX, .ref pY, .ref pC, .ref pV, .ref pR, .ref pU, .ref pG, .ref pW, .int num, .int q, .int (erF fc (mdF fc fa q ky sm) 768), .int ky, .int sm])), (pK, .inl (cI, 12, .inl (fun k => nI ((csC fc fa q ky).2.1 k)))), (pX, .inl (cI, 12, .inl ((csC fc fa q ky).2.2.1))), (pY, .inl (cI, 12, .inl ((csC fc fa q ky).2.2.2.1))), (pC, .inl (cI, 12, .inl ((csC fc fa q ky).2.2.2.2.1))), (pV, .inl (cI, 768, .inl ((csC fc fa q ky).2.2.2.2.2))), (pR, .inl (cI, 768, .inl (mdF fc fa q ky sm)))] t.heap) (inL [c0, hQ, hM, hF, p0, pK, pX, pY, pC, pV, pR])) ([.ref c0, .ref p0, .ref hC] : List Value).toArray s 0 0 (inL [c0, hQ, hM, hF, p0, pK, pX, pY, pC, pV, pR])) (F0 m 2 ls []) := by
    intro n2
    induction n2 with
    | zero => intro i T Y f1 f2 hi hT hY hz; exact absurd hz (Nat.not_lt_zero _)
    | succ n2 ih2 =>
      intro i T Y f1 f2 hi hT hY hfu H locs ls hP hS hl
      refine lv_iload_n hx hb dX0_codeAll_2 rfl (lv_at hl 0 rfl) ?_
      refine lv_bipush (v := 12) hx hb dX0_codeAll_3 (by decide +kernel) ?_
      refine lv_icmp_ge (tgt := 21) hx hb dX0_codeAll_5 (by decide) (fun c5 => ?_) (fun c5 => ?_)
      · skip
        have c5 : 12 ≤ i := (nI_leI (a := 12) (b := i) (by omega) (by omega)).mp c5
        obtain rfl : i = 12 := by omega
        have hag := csIt_ag (Y := cs0) hc ha hq hX 12 (Nat.le_refl _)
        rw [← hY] at hag
        have hP := hP.cong 4 (csC fc fa q ky).1 rfl (fun k hk => hag.1 k hk (blk_lt hk))
        have hP : va_P (dC, dI) vwCl [(c0, .inr (0, [.ref h0, .int (nI T.1), .int T.2.1, .int T.2.2.1, .int T.2.2.2])), (h0, .inr (3, [.ref hA, .ref hQ, .ref hM, .ref hF])), (hA, .inl (cI, 1140, .inl fa)), (hQ, .inl (cI, 16, .inl f1)), (hM, .inl (cI, 768, .inl ((csC fc fa q ky).1))), (hF, .inl (cI, 64, .inl f2)), (p0, .inr (2, [.ref pK, .ref pX, .ref pY, .ref pC, .ref pV, .ref pR, .ref pU, .ref pG, .ref pW, .int num, .int q, .int er, .int ky, .int sm])), (pK, .inl (cI, 12, .inl (fun k => nI (Y.2.1 k)))), (pX, .inl (cI, 12, .inl Y.2.2.1)), (pY, .inl (cI, 12, .inl Y.2.2.2.1)), (pC, .inl (cI, 12, .inl Y.2.2.2.2.1)), (pV, .inl (cI, 768, .inl Y.2.2.2.2.2)), (pR, .inl (cI, 768, .inl fr)), (hC, .inl (cI, 768, .inl fc))] H := hP
        have hP := hP.cong 7 (fun k => nI ((csC fc fa q ky).2.1 k)) rfl (fun k hk => congrArg nI (hag.2.1 k hk).1)
        have hP : va_P (dC, dI) vwCl [(c0, .inr (0, [.ref h0, .int (nI T.1), .int T.2.1, .int T.2.2.1, .int T.2.2.2])), (h0, .inr (3, [.ref hA, .ref hQ, .ref hM, .ref hF])), (hA, .inl (cI, 1140, .inl fa)), (hQ, .inl (cI, 16, .inl f1)), (hM, .inl (cI, 768, .inl ((csC fc fa q ky).1))), (hF, .inl (cI, 64, .inl f2)), (p0, .inr (2, [.ref pK, .ref pX, .ref pY, .ref pC, .ref pV, .ref pR, .ref pU, .ref pG, .ref pW, .int num, .int q, .int er, .int ky, .int sm])), (pK, .inl (cI, 12, .inl (fun k => nI ((csC fc fa q ky).2.1 k)))), (pX, .inl (cI, 12, .inl Y.2.2.1)), (pY, .inl (cI, 12, .inl Y.2.2.2.1)), (pC, .inl (cI, 12, .inl Y.2.2.2.2.1)), (pV, .inl (cI, 768, .inl Y.2.2.2.2.2)), (pR, .inl (cI, 768, .inl fr)), (hC, .inl (cI, 768, .inl fc))] H := hP
        have hP := hP.cong 8 (csC fc fa q ky).2.2.1 rfl (fun k hk => (hag.2.1 k hk).2.1)
        have hP : va_P (dC, dI) vwCl [(c0, .inr (0, [.ref h0, .int (nI T.1), .int T.2.1, .int T.2.2.1, .int T.2.2.2])), (h0, .inr (3, [.ref hA, .ref hQ, .ref hM, .ref hF])), (hA, .inl (cI, 1140, .inl fa)), (hQ, .inl (cI, 16, .inl f1)), (hM, .inl (cI, 768, .inl ((csC fc fa q ky).1))), (hF, .inl (cI, 64, .inl f2)), (p0, .inr (2, [.ref pK, .ref pX, .ref pY, .ref pC, .ref pV, .ref pR, .ref pU, .ref pG, .ref pW, .int num, .int q, .int er, .int ky, .int sm])), (pK, .inl (cI, 12, .inl (fun k => nI ((csC fc fa q ky).2.1 k)))), (pX, .inl (cI, 12, .inl ((csC fc fa q ky).2.2.1))), (pY, .inl (cI, 12, .inl Y.2.2.2.1)), (pC, .inl (cI, 12, .inl Y.2.2.2.2.1)), (pV, .inl (cI, 768, .inl Y.2.2.2.2.2)), (pR, .inl (cI, 768, .inl fr)), (hC, .inl (cI, 768, .inl fc))] H := hP
        have hP := hP.cong 9 (csC fc fa q ky).2.2.2.1 rfl (fun k hk => (hag.2.1 k hk).2.2.1)
        have hP : va_P (dC, dI) vwCl [(c0, .inr (0, [.ref h0, .int (nI T.1), .int T.2.1, .int T.2.2.1, .int T.2.2.2])), (h0, .inr (3, [.ref hA, .ref hQ, .ref hM, .ref hF])), (hA, .inl (cI, 1140, .inl fa)), (hQ, .inl (cI, 16, .inl f1)), (hM, .inl (cI, 768, .inl ((csC fc fa q ky).1))), (hF, .inl (cI, 64, .inl f2)), (p0, .inr (2, [.ref pK, .ref pX, .ref pY, .ref pC, .ref pV, .ref pR, .ref pU, .ref pG, .ref pW, .int num, .int q, .int er, .int ky, .int sm])), (pK, .inl (cI, 12, .inl (fun k => nI ((csC fc fa q ky).2.1 k)))), (pX, .inl (cI, 12, .inl ((csC fc fa q ky).2.2.1))), (pY, .inl (cI, 12, .inl ((csC fc fa q ky).2.2.2.1))), (pC, .inl (cI, 12, .inl Y.2.2.2.2.1)), (pV, .inl (cI, 768, .inl Y.2.2.2.2.2)), (pR, .inl (cI, 768, .inl fr)), (hC, .inl (cI, 768, .inl fc))] H := hP
        have hP := hP.cong 10 (csC fc fa q ky).2.2.2.2.1 rfl (fun k hk => (hag.2.1 k hk).2.2.2)
        have hP : va_P (dC, dI) vwCl [(c0, .inr (0, [.ref h0, .int (nI T.1), .int T.2.1, .int T.2.2.1, .int T.2.2.2])), (h0, .inr (3, [.ref hA, .ref hQ, .ref hM, .ref hF])), (hA, .inl (cI, 1140, .inl fa)), (hQ, .inl (cI, 16, .inl f1)), (hM, .inl (cI, 768, .inl ((csC fc fa q ky).1))), (hF, .inl (cI, 64, .inl f2)), (p0, .inr (2, [.ref pK, .ref pX, .ref pY, .ref pC, .ref pV, .ref pR, .ref pU, .ref pG, .ref pW, .int num, .int q, .int er, .int ky, .int sm])), (pK, .inl (cI, 12, .inl (fun k => nI ((csC fc fa q ky).2.1 k)))), (pX, .inl (cI, 12, .inl ((csC fc fa q ky).2.2.1))), (pY, .inl (cI, 12, .inl ((csC fc fa q ky).2.2.2.1))), (pC, .inl (cI, 12, .inl ((csC fc fa q ky).2.2.2.2.1))), (pV, .inl (cI, 768, .inl Y.2.2.2.2.2)), (pR, .inl (cI, 768, .inl fr)), (hC, .inl (cI, 768, .inl fc))] H := hP
        have hP := hP.cong 11 (csC fc fa q ky).2.2.2.2.2 rfl (fun k hk => hag.2.2 k hk)
        have hP : va_P (dC, dI) vwCl [(c0, .inr (0, [.ref h0, .int (nI T.1), .int T.2.1, .int T.2.2.1, .int T.2.2.2])), (h0, .inr (3, [.ref hA, .ref hQ, .ref hM, .ref hF])), (hA, .inl (cI, 1140, .inl fa)), (hQ, .inl (cI, 16, .inl f1)), (hM, .inl (cI, 768, .inl ((csC fc fa q ky).1))), (hF, .inl (cI, 64, .inl f2)), (p0, .inr (2, [.ref pK, .ref pX, .ref pY, .ref pC, .ref pV, .ref pR, .ref pU, .ref pG, .ref pW, .int num, .int q, .int er, .int ky, .int sm])), (pK, .inl (cI, 12, .inl (fun k => nI ((csC fc fa q ky).2.1 k)))), (pX, .inl (cI, 12, .inl ((csC fc fa q ky).2.2.1))), (pY, .inl (cI, 12, .inl ((csC fc fa q ky).2.2.2.1))), (pC, .inl (cI, 12, .inl ((csC fc fa q ky).2.2.2.2.1))), (pV, .inl (cI, 768, .inl ((csC fc fa q ky).2.2.2.2.2))), (pR, .inl (cI, 768, .inl fr)), (hC, .inl (cI, 768, .inl fc))] H := hP
        refine lv_aload_n hx hb dX0_codeAll_21 rfl (lv_at hl 2 rfl) ?_
        refine va_get (D := (dC, dI)) (ci := 2) (v := .int sm) (C := RX2) (T := TX2) (N := 14) hx hb hts hinX2 hown hK hP 6 rfl rfl 13 (by decide) (hts (.fieldLink RX0 35 "GreyReel$Picture" "isSmoothed" "Z") (List.mem_of_getElem? (i := 1) (by decide +kernel))) (fun _ h9 => h9) rfl dX0_codeAll_22 ?_
        have J39 : ∀ (m3 : Nat → Int32), (m3 = mdF fc fa q ky sm) → ∀ (H : Heap) (locs : List Loc) (ls : Array Slot), va_P (dC, dI) vwCl [(c0, .inr (0, [.ref h0, .int (nI T.1), .int T.2.1, .int T.2.2.1, .int T.2.2.2])), (h0, .inr (3, [.ref hA, .ref hQ, .ref hM, .ref hF])), (hA, .inl (cI, 1140, .inl fa)), (hQ, .inl (cI, 16, .inl f1)), (hM, .inl (cI, 768, .inl m3)), (hF, .inl (cI, 64, .inl f2)), (p0, .inr (2, [.ref pK, .ref pX, .ref pY, .ref pC, .ref pV, .ref pR, .ref pU, .ref pG, .ref pW, .int num, .int q, .int er, .int ky, .int sm])), (pK, .inl (cI, 12, .inl (fun k => nI ((csC fc fa q ky).2.1 k)))), (pX, .inl (cI, 12, .inl ((csC fc fa q ky).2.2.1))), (pY, .inl (cI, 12, .inl ((csC fc fa q ky).2.2.2.1))), (pC, .inl (cI, 12, .inl ((csC fc fa q ky).2.2.2.2.1))), (pV, .inl (cI, 768, .inl ((csC fc fa q ky).2.2.2.2.2))), (pR, .inl (cI, 768, .inl fr)), (hC, .inl (cI, 768, .inl fc))] H → va_S (inL [c0, hQ, hM, hF, p0, pK, pX, pY, pC, pV, pR]) s.heap H locs → lv_has ls 6 [(3, .int (nI 12)), (0, .ref c0), (1, .ref p0), (2, .ref hC)] → W p l e (headSpec wsX0_codeAll ({ frames := 5, cells := 0, slots := 0, locals := 146 } : Room)).room s m ([.ref c0, .ref p0, .ref hC] : List Value).toArray below meth c H locs 0 0 (MQ below (va_Qv (fun (u : (Nat → Int32) × (Nat → Int32) × BST) => match u with | (fz, fg, S1) => stOK S1) (fun (u : (Nat → Int32) × (Nat → Int32) × BST) (t : State) => match u with | (fz, fg, S1) => va_P (dC, dI) vwCl [(c0, .inr (0, [.ref h0, .int (nI S1.1), .int S1.2.1, .int S1.2.2.1, .int S1.2.2.2])), (hQ, .inl (cI, 16, .inl fz)), (hM, .inl (cI, 768, .inl (mdF fc fa q ky sm))), (hF, .inl (cI, 64, .inl fg)), (p0, .inr (2, [.ref pK, .ref pX, .ref pY, .ref pC, .ref pV, .ref pR, .ref pU, .ref pG, .ref pW, .int num, .int q, .int (erF fc (mdF fc fa q ky sm) 768), .int ky, .int sm])), (pK, .inl (cI, 12, .inl (fun k => nI ((csC fc fa q ky).2.1 k)))), (pX, .inl (cI, 12, .inl ((csC fc fa q ky).2.2.1))), (pY, .inl (cI, 12, .inl ((csC fc fa q ky).2.2.2.1))), (pC, .inl (cI, 12, .inl ((csC fc fa q ky).2.2.2.2.1))), (pV, .inl (cI, 768, .inl ((csC fc fa q ky).2.2.2.2.2))), (pR, .inl (cI, 768, .inl (mdF fc fa q ky sm)))] t.heap) (inL [c0, hQ, hM, hF, p0, pK, pX, pY, pC, pV, pR])) ([.ref c0, .ref p0, .ref hC] : List Value).toArray s 0 0 (inL [c0, hQ, hM, hF, p0, pK, pX, pY, pC, pV, pR])) (F0 m 39 ls []) := by
          intro m3 hm3 H locs ls hP hS hl
          refine lv_iconst (v := 0) hx hb dX0_codeAll_39 (by decide) ?_
          refine lv_istore_n (lv' := [(3, .int 0), (0, .ref c0), (1, .ref p0), (2, .ref hC)]) hx hb dX0_codeAll_40 rfl hl (by decide) rfl (fun ls hl => ?_)
          refine lv_iconst (v := 0) hx hb dX0_codeAll_41 (by decide) ?_
          refine lv_istore (lv' := [(4, .int 0), (3, .int 0), (0, .ref c0), (1, .ref p0), (2, .ref hC)]) hx hb dX0_codeAll_42 hl (by decide) rfl (fun ls hl => ?_)
          have L44 : ∀ (n44 : Nat) (a : Nat) (x3 : Int32) (fr1 : Nat → Int32), (a ≤ 768) → 768 - a < n44 → x3 = (erF fc m3 a) → fr1 = (fillTo m3 fr a) → ∀ (H : Heap) (locs : List Loc) (ls : Array Slot), va_P (dC, dI) vwCl [(c0, .inr (0, [.ref h0, .int (nI T.1), .int T.2.1, .int T.2.2.1, .int T.2.2.2])), (h0, .inr (3, [.ref hA, .ref hQ, .ref hM, .ref hF])), (hA, .inl (cI, 1140, .inl fa)), (hQ, .inl (cI, 16, .inl f1)), (hM, .inl (cI, 768, .inl m3)), (hF, .inl (cI, 64, .inl f2)), (p0, .inr (2, [.ref pK, .ref pX, .ref pY, .ref pC, .ref pV, .ref pR, .ref pU, .ref pG, .ref pW, .int num, .int q, .int er, .int ky, .int sm])), (pK, .inl (cI, 12, .inl (fun k => nI ((csC fc fa q ky).2.1 k)))), (pX, .inl (cI, 12, .inl ((csC fc fa q ky).2.2.1))), (pY, .inl (cI, 12, .inl ((csC fc fa q ky).2.2.2.1))), (pC, .inl (cI, 12, .inl ((csC fc fa q ky).2.2.2.2.1))), (pV, .inl (cI, 768, .inl ((csC fc fa q ky).2.2.2.2.2))), (pR, .inl (cI, 768, .inl fr1)), (hC, .inl (cI, 768, .inl fc))] H → va_S (inL [c0, hQ, hM, hF, p0, pK, pX, pY, pC, pV, pR]) s.heap H locs → lv_has ls 6 [(4, .int (nI a)), (3, .int x3), (0, .ref c0), (1, .ref p0), (2, .ref hC)] → W p l e (headSpec wsX0_codeAll ({ frames := 5, cells := 0, slots := 0, locals := 146 } : Room)).room s m ([.ref c0, .ref p0, .ref hC] : List Value).toArray below meth c H locs 0 0 (MQ below (va_Qv (fun (u : (Nat → Int32) × (Nat → Int32) × BST) => match u with | (fz, fg, S1) => stOK S1) (fun (u : (Nat → Int32) × (Nat → Int32) × BST) (t : State) => match u with | (fz, fg, S1) => va_P (dC, dI) vwCl [(c0, .inr (0, [.ref h0, .int (nI S1.1), .int S1.2.1, .int S1.2.2.1, .int S1.2.2.2])), (hQ, .inl (cI, 16, .inl fz)), (hM, .inl (cI, 768, .inl (mdF fc fa q ky sm))), (hF, .inl (cI, 64, .inl fg)), (p0, .inr (2, [.ref pK, .ref pX, .ref pY, .ref pC, .ref pV, .ref pR, .ref pU, .ref pG, .ref pW, .int num, .int q, .int (erF fc (mdF fc fa q ky sm) 768), .int ky, .int sm])), (pK, .inl (cI, 12, .inl (fun k => nI ((csC fc fa q ky).2.1 k)))), (pX, .inl (cI, 12, .inl ((csC fc fa q ky).2.2.1))), (pY, .inl (cI, 12, .inl ((csC fc fa q ky).2.2.2.1))), (pC, .inl (cI, 12, .inl ((csC fc fa q ky).2.2.2.2.1))), (pV, .inl (cI, 768, .inl ((csC fc fa q ky).2.2.2.2.2))), (pR, .inl (cI, 768, .inl (mdF fc fa q ky sm)))] t.heap) (inL [c0, hQ, hM, hF, p0, pK, pX, pY, pC, pV, pR])) ([.ref c0, .ref p0, .ref hC] : List Value).toArray s 0 0 (inL [c0, hQ, hM, hF, p0, pK, pX, pY, pC, pV, pR])) (F0 m 44 ls []) := by
            intro n44
            induction n44 with
            | zero => intro a x3 fr1 ha768 hz; exact absurd hz (Nat.not_lt_zero _)
            | succ n44 ih44 =>
              intro a x3 fr1 ha768 hfu ex3 efr1 H locs ls hP hS hl
              refine lv_iload hx hb dX0_codeAll_44 (lv_at hl 0 rfl) ?_
              refine lv_sipush (v := 768) hx hb dX0_codeAll_46 (by decide +kernel) ?_
              refine lv_icmp_ge (tgt := 100) hx hb dX0_codeAll_49 (by decide) (fun c49 => ?_) (fun c49 => ?_)
              · skip
                have c49 : 768 ≤ a := (nI_leI (a := 768) (b := a) (by omega) (by omega)).mp c49
                obtain rfl : a = 768 := by omega
                refine lv_aload_n hx hb dX0_codeAll_100 rfl (lv_at hl 3 rfl) ?_
                refine lv_iload_n hx hb dX0_codeAll_101 rfl (lv_at hl 1 rfl) ?_
                refine wa_put (D := (dC, dI)) (ci := 2) (v := .int x3) (ty := .int) (C := RX2) (T := TX2) (N := 14) hx hb hts hinX2 tyX2 tyX2_ok nmX2 hown hK hP (hN.D rfl) hS (List.mem_of_getElem? (i := 4) rfl) 6 rfl rfl 11 (by decide) (hts (.fieldLink RX0 55 "GreyReel$Picture" "error" "I") (List.mem_of_getElem? (i := 6) (by decide +kernel))) (fun _ h9 => h9) rfl (by decide +kernel) rfl rfl (Nat.le_of_ble_eq_true rfl) dX0_codeAll_102 (fun H locs hP hS => ?_)
                have hP : va_P (dC, dI) vwCl [(c0, .inr (0, [.ref h0, .int (nI T.1), .int T.2.1, .int T.2.2.1, .int T.2.2.2])), (h0, .inr (3, [.ref hA, .ref hQ, .ref hM, .ref hF])), (hA, .inl (cI, 1140, .inl fa)), (hQ, .inl (cI, 16, .inl f1)), (hM, .inl (cI, 768, .inl m3)), (hF, .inl (cI, 64, .inl f2)), (p0, .inr (2, [.ref pK, .ref pX, .ref pY, .ref pC, .ref pV, .ref pR, .ref pU, .ref pG, .ref pW, .int num, .int q, .int x3, .int ky, .int sm])), (pK, .inl (cI, 12, .inl (fun k => nI ((csC fc fa q ky).2.1 k)))), (pX, .inl (cI, 12, .inl ((csC fc fa q ky).2.2.1))), (pY, .inl (cI, 12, .inl ((csC fc fa q ky).2.2.2.1))), (pC, .inl (cI, 12, .inl ((csC fc fa q ky).2.2.2.2.1))), (pV, .inl (cI, 768, .inl ((csC fc fa q ky).2.2.2.2.2))), (pR, .inl (cI, 768, .inl fr1)), (hC, .inl (cI, 768, .inl fc))] H := hP
                have hP := hP.cong 12 m3 rfl (fun k hk => by rw [efr1]; exact fillTo_at _ _ hk)
                have hP : va_P (dC, dI) vwCl [(c0, .inr (0, [.ref h0, .int (nI T.1), .int T.2.1, .int T.2.2.1, .int T.2.2.2])), (h0, .inr (3, [.ref hA, .ref hQ, .ref hM, .ref hF])), (hA, .inl (cI, 1140, .inl fa)), (hQ, .inl (cI, 16, .inl f1)), (hM, .inl (cI, 768, .inl m3)), (hF, .inl (cI, 64, .inl f2)), (p0, .inr (2, [.ref pK, .ref pX, .ref pY, .ref pC, .ref pV, .ref pR, .ref pU, .ref pG, .ref pW, .int num, .int q, .int x3, .int ky, .int sm])), (pK, .inl (cI, 12, .inl (fun k => nI ((csC fc fa q ky).2.1 k)))), (pX, .inl (cI, 12, .inl ((csC fc fa q ky).2.2.1))), (pY, .inl (cI, 12, .inl ((csC fc fa q ky).2.2.2.1))), (pC, .inl (cI, 12, .inl ((csC fc fa q ky).2.2.2.2.1))), (pV, .inl (cI, 768, .inl ((csC fc fa q ky).2.2.2.2.2))), (pR, .inl (cI, 768, .inl m3)), (hC, .inl (cI, 768, .inl fc))] H := hP
                have he3 : x3 = erF fc (mdF fc fa q ky sm) 768 := by rw [ex3, hm3]
                rw [he3, hm3] at hP
                have hP : va_P (dC, dI) vwCl [(c0, .inr (0, [.ref h0, .int (nI T.1), .int T.2.1, .int T.2.2.1, .int T.2.2.2])), (h0, .inr (3, [.ref hA, .ref hQ, .ref hM, .ref hF])), (hA, .inl (cI, 1140, .inl fa)), (hQ, .inl (cI, 16, .inl f1)), (hM, .inl (cI, 768, .inl (mdF fc fa q ky sm))), (hF, .inl (cI, 64, .inl f2)), (p0, .inr (2, [.ref pK, .ref pX, .ref pY, .ref pC, .ref pV, .ref pR, .ref pU, .ref pG, .ref pW, .int num, .int q, .int (erF fc (mdF fc fa q ky sm) 768), .int ky, .int sm])), (pK, .inl (cI, 12, .inl (fun k => nI ((csC fc fa q ky).2.1 k)))), (pX, .inl (cI, 12, .inl ((csC fc fa q ky).2.2.1))), (pY, .inl (cI, 12, .inl ((csC fc fa q ky).2.2.2.1))), (pC, .inl (cI, 12, .inl ((csC fc fa q ky).2.2.2.2.1))), (pV, .inl (cI, 768, .inl ((csC fc fa q ky).2.2.2.2.2))), (pR, .inl (cI, 768, .inl (mdF fc fa q ky sm))), (hC, .inl (cI, 768, .inl fc))] H := hP
                exact W.vret hx hb hr (fun t ht hW => ⟨⟨(f1, f2, T), rfl, hT, by show va_P _ _ _ t.heap; rw [ht]; exact hP.sub [0, 3, 4, 5, 6, 7, 8, 9, 10, 11, 12] rfl⟩, hS.F ht⟩) hS.2.2 dX0_codeAll_105
              · skip
                have c49 : ¬ 768 ≤ a := fun z => c49 ((nI_leI (a := 768) (b := a) (by omega) (by omega)).mpr z)
                refine lv_aload_n hx hb dX0_codeAll_52 rfl (lv_at hl 4 rfl) ?_
                refine lv_iload hx hb dX0_codeAll_53 (lv_at hl 0 rfl) ?_
                refine wa_iald (D := (dC, dI)) (i := a) (f := fc) hx hb hK hP 13 0 rfl rfl (by omega) (by omega) dX0_codeAll_55 ?_
                refine lv_aload_n hx hb dX0_codeAll_56 rfl (lv_at hl 2 rfl) ?_
                refine va_get (D := (dC, dI)) (ci := 0) (v := .ref h0) (C := RX0) (T := TX0) (N := 5) hx hb hts hinX0 hown hK hP 0 rfl rfl 0 (by decide) (hts (.fieldLink RX0 12 "GreyReel$Coder" "studio" "LGreyReel$Studio;") (List.mem_of_getElem? (i := 2) (by decide +kernel))) (fun _ h9 => h9) rfl dX0_codeAll_57 ?_
                refine va_get (D := (dC, dI)) (ci := 3) (v := .ref hM) (C := RX3) (T := TX3) (N := 4) hx hb hts hinX3 hown hK hP 1 rfl rfl 2 (by decide) (hts (.fieldLink RX0 48 "GreyReel$Studio" "made" "[I") (List.mem_of_getElem? (i := 4) (by decide +kernel))) (fun _ h9 => h9) rfl dX0_codeAll_60 ?_
                refine lv_iload hx hb dX0_codeAll_63 (lv_at hl 0 rfl) ?_
                refine wa_iald (D := (dC, dI)) (i := a) (f := m3) hx hb hK hP 4 0 rfl rfl (by omega) (by omega) dX0_codeAll_65 ?_
                refine lv_isub hx hb dX0_codeAll_66 ?_
                refine lv_topi (fun x_1 ex_1 => ?_)
                refine lv_istore (lv' := [(5, .int x_1), (4, .int (nI a)), (3, .int x3), (0, .ref c0), (1, .ref p0), (2, .ref hC)]) hx hb dX0_codeAll_67 hl (by decide) rfl (fun ls hl => ?_)
                refine lv_iload_n hx hb dX0_codeAll_69 rfl (lv_at hl 2 rfl) ?_
                refine lv_iload hx hb dX0_codeAll_70 (lv_at hl 0 rfl) ?_
                refine lv_iload hx hb dX0_codeAll_72 (lv_at hl 0 rfl) ?_
                refine lv_imul hx hb dX0_codeAll_74 ?_
                refine lv_iadd hx hb dX0_codeAll_75 ?_
                refine lv_topi (fun x_2 ex_2 => ?_)
                refine lv_istore_n (lv' := [(3, .int x_2), (5, .int x_1), (4, .int (nI a)), (0, .ref c0), (1, .ref p0), (2, .ref hC)]) hx hb dX0_codeAll_76 rfl hl (by decide) rfl (fun ls hl => ?_)
                refine lv_aload_n hx hb dX0_codeAll_77 rfl (lv_at hl 4 rfl) ?_
                refine va_get (D := (dC, dI)) (ci := 2) (v := .ref pR) (C := RX2) (T := TX2) (N := 14) hx hb hts hinX2 hown hK hP 6 rfl rfl 5 (by decide) (hts (.fieldLink RX0 52 "GreyReel$Picture" "result" "[I") (List.mem_of_getElem? (i := 5) (by decide +kernel))) (fun _ h9 => h9) rfl dX0_codeAll_78 ?_
                refine lv_iload hx hb dX0_codeAll_81 (lv_at hl 2 rfl) ?_
                refine lv_aload_n hx hb dX0_codeAll_83 rfl (lv_at hl 3 rfl) ?_
                refine va_get (D := (dC, dI)) (ci := 0) (v := .ref h0) (C := RX0) (T := TX0) (N := 5) hx hb hts hinX0 hown hK hP 0 rfl rfl 0 (by decide) (hts (.fieldLink RX0 12 "GreyReel$Coder" "studio" "LGreyReel$Studio;") (List.mem_of_getElem? (i := 2) (by decide +kernel))) (fun _ h9 => h9) rfl dX0_codeAll_84 ?_
                refine va_get (D := (dC, dI)) (ci := 3) (v := .ref hM) (C := RX3) (T := TX3) (N := 4) hx hb hts hinX3 hown hK hP 1 rfl rfl 2 (by decide) (hts (.fieldLink RX0 48 "GreyReel$Studio" "made" "[I") (List.mem_of_getElem? (i := 4) (by decide +kernel))) (fun _ h9 => h9) rfl dX0_codeAll_87 ?_
                refine lv_iload hx hb dX0_codeAll_90 (lv_at hl 2 rfl) ?_
                refine wa_iald (D := (dC, dI)) (i := a) (f := m3) hx hb hK hP 4 0 rfl rfl (by omega) (by omega) dX0_codeAll_92 ?_
                refine lv_topi (fun x_3 ex_3 => ?_)
                refine wa_iast (D := (dC, dI)) (i := a) (f := fr1) hx hb hK hP (hN.D rfl) hS (List.mem_of_getElem? (i := 10) rfl) 12 0 rfl rfl (by omega) (by omega) dX0_codeAll_93 (fun H locs hP hS => ?_)
                obtain ⟨f_4, ef_4⟩ : ∃ z, z = upd fr1 a x_3 := ⟨_, rfl⟩
                rw [← ef_4] at hP
                have hP : va_P (dC, dI) vwCl [(c0, .inr (0, [.ref h0, .int (nI T.1), .int T.2.1, .int T.2.2.1, .int T.2.2.2])), (h0, .inr (3, [.ref hA, .ref hQ, .ref hM, .ref hF])), (hA, .inl (cI, 1140, .inl fa)), (hQ, .inl (cI, 16, .inl f1)), (hM, .inl (cI, 768, .inl m3)), (hF, .inl (cI, 64, .inl f2)), (p0, .inr (2, [.ref pK, .ref pX, .ref pY, .ref pC, .ref pV, .ref pR, .ref pU, .ref pG, .ref pW, .int num, .int q, .int er, .int ky, .int sm])), (pK, .inl (cI, 12, .inl (fun k => nI ((csC fc fa q ky).2.1 k)))), (pX, .inl (cI, 12, .inl ((csC fc fa q ky).2.2.1))), (pY, .inl (cI, 12, .inl ((csC fc fa q ky).2.2.2.1))), (pC, .inl (cI, 12, .inl ((csC fc fa q ky).2.2.2.2.1))), (pV, .inl (cI, 768, .inl ((csC fc fa q ky).2.2.2.2.2))), (pR, .inl (cI, 768, .inl f_4)), (hC, .inl (cI, 768, .inl fc))] H := hP
                refine lv_iinc (v := nI (a + 1)) (lv' := [(4, .int (nI (a + 1))), (3, .int x_2), (5, .int x_1), (0, .ref c0), (1, .ref p0), (2, .ref hC)]) hx hb dX0_codeAll_94 hl (k := 2) rfl (show nI a + Int32.ofInt 1 = nI (a + 1) from nI_add _ _) (by decide) rfl (fun ls hl => ?_)
                refine lv_goto (tgt := 44) hx hb dX0_codeAll_97 (by decide) ?_
                exact ih44 (a + 1) x_2 f_4 (by omega) (by omega) (by rw [ex_2, ex_1, ex3] <;> rfl) (by rw [ef_4, ex_3, efr1]; exact fillTo_s _ _ _ rfl) _ _ _ hP hS (lv_sub hl [0, 1, 3, 4, 5] rfl)
          exact L44 (768 + 1) 0 0 fr (by omega) (Nat.lt_succ_self _) rfl (fillTo_0 _ _).symm _ _ _ hP hS (lv_sub hl [0, 1, 2, 3, 4] rfl)
        refine lv_if_eq (tgt := 39) hx hb dX0_codeAll_25 (by decide) (fun c25 => ?_) (fun c25 => ?_)
        · skip
          exact J39 ((csC fc fa q ky).1) (by unfold mdF; exact (if_pos c25).symm) _ _ _ hP hS (lv_sub hl [0, 1, 2, 3] rfl)
        · skip
          refine lv_aload_n hx hb dX0_codeAll_28 rfl (lv_at hl 1 rfl) ?_
          refine va_get (D := (dC, dI)) (ci := 0) (v := .ref h0) (C := RX0) (T := TX0) (N := 5) hx hb hts hinX0 hown hK hP 0 rfl rfl 0 (by decide) (hts (.fieldLink RX0 12 "GreyReel$Coder" "studio" "LGreyReel$Studio;") (List.mem_of_getElem? (i := 2) (by decide +kernel))) (fun _ h9 => h9) rfl dX0_codeAll_29 ?_
          refine lv_aload_n hx hb dX0_codeAll_32 rfl (lv_at hl 2 rfl) ?_
          refine va_get (D := (dC, dI)) (ci := 2) (v := .int q) (C := RX2) (T := TX2) (N := 14) hx hb hts hinX2 hown hK hP 6 rfl rfl 10 (by decide) (hts (.fieldLink RX0 41 "GreyReel$Picture" "q" "I") (List.mem_of_getElem? (i := 3) (by decide +kernel))) (fun _ h9 => h9) rfl dX0_codeAll_33 ?_
          refine va_callv (va_runV (As := [.int q]) (rest := []) ⟨hx, hb, hml, hown, hts⟩ (C_X3_smooth l dC dI cI cZ cP N0 tO h0 hA hQ hM hF ((csC fc fa q ky).1) q ) (cwV 1 hts gX0_codeAll_X3_smooth rfl rfl rfl (by decide +kernel) ⟨Nat.le_of_ble_eq_true rfl, Nat.le_of_ble_eq_true rfl⟩) ⟨Gv.blind, va_recv hK hP (ci := 3) (q0 := 1) rfl rfl, Gv.of (hE.S hS hAN) ⟨(hP.sub [1, 4] rfl), hN.sub [1, 4] (by decide) rfl⟩⟩ rfl rfl hl.1 rfl (lv_room (Nat.le_of_ble_eq_true rfl)) dX0_codeAll_36 ⟨Nat.le_of_ble_eq_true rfl, Nat.le_of_ble_eq_true rfl⟩) hS (fun q _ h => inL_sub [2] rfl q h) (inL_sub [2] rfl) (fun u t H locs ht hvm hw hB hz1 hk1 hS => ?_)
          rw [ht] at hB
          have hP := va_back (L := [hM]) hP hN rfl [4] rfl rfl (fun q h1 h2 => hk1 q h1 h2) hB
          clear hB hk1 hz1 hvm ht t
          have hP : va_P (dC, dI) vwCl [(c0, .inr (0, [.ref h0, .int (nI T.1), .int T.2.1, .int T.2.2.1, .int T.2.2.2])), (h0, .inr (3, [.ref hA, .ref hQ, .ref hM, .ref hF])), (hA, .inl (cI, 1140, .inl fa)), (hQ, .inl (cI, 16, .inl f1)), (hM, .inl (cI, 768, .inl (smF q ((csC fc fa q ky).1)))), (hF, .inl (cI, 64, .inl f2)), (p0, .inr (2, [.ref pK, .ref pX, .ref pY, .ref pC, .ref pV, .ref pR, .ref pU, .ref pG, .ref pW, .int num, .int q, .int er, .int ky, .int sm])), (pK, .inl (cI, 12, .inl (fun k => nI ((csC fc fa q ky).2.1 k)))), (pX, .inl (cI, 12, .inl ((csC fc fa q ky).2.2.1))), (pY, .inl (cI, 12, .inl ((csC fc fa q ky).2.2.2.1))), (pC, .inl (cI, 12, .inl ((csC fc fa q ky).2.2.2.2.1))), (pV, .inl (cI, 768, .inl ((csC fc fa q ky).2.2.2.2.2))), (pR, .inl (cI, 768, .inl fr)), (hC, .inl (cI, 768, .inl fc))] H := hP
          have hw : True := hw
          have hwr_5 := hw
          exact J39 (smF q ((csC fc fa q ky).1)) (by unfold mdF; exact (if_neg c25).symm) _ _ _ hP hS (lv_sub hl [0, 1, 2, 3] rfl)
      · skip
        have c5 : ¬ 12 ≤ i := fun z => c5 ((nI_leI (a := 12) (b := i) (by omega) (by omega)).mpr z)
        refine lv_aload_n hx hb dX0_codeAll_8 rfl (lv_at hl 1 rfl) ?_
        refine lv_aload_n hx hb dX0_codeAll_9 rfl (lv_at hl 2 rfl) ?_
        refine lv_aload_n hx hb dX0_codeAll_10 rfl (lv_at hl 3 rfl) ?_
        refine lv_iload_n hx hb dX0_codeAll_11 rfl (lv_at hl 0 rfl) ?_
        refine va_callv (va_runV (As := [.ref p0, .ref hC, .int (nI i)]) (rest := []) ⟨hx, hb, hml, hown, hts⟩ (C_X0_codeBlock l dC dI cI cZ cP N0 tO c0 h0 hA hQ hM hF p0 pK pX pY pC pV pR pU pG pW num q er ky sm hC T Y fc fa f2 f1 i (by omega) hc ha hq (by rw [hY]; exact csIt_ok hc ha hq hX i (by omega)) hT) (cwV 3 hts gX0_codeAll_X0_codeBlock rfl rfl rfl (by decide +kernel) ⟨Nat.le_of_ble_eq_true rfl, Nat.le_of_ble_eq_true rfl⟩) ⟨Gv.blind, va_recv hK hP (ci := 0) (q0 := 0) rfl rfl, Gv.of (hE.S hS hAN) ⟨(hP.sub [0, 1, 2, 3, 4, 5, 6, 7, 8, 9, 10, 11, 13] rfl), hN.sub [0, 1, 2, 3, 4, 5, 6, 7, 8, 9, 10, 11, 13] (by decide) rfl⟩⟩ rfl rfl hl.1 rfl (lv_room (Nat.le_of_ble_eq_true rfl)) dX0_codeAll_12 ⟨Nat.le_of_ble_eq_true rfl, Nat.le_of_ble_eq_true rfl⟩) hS (fun q _ h => inL_sub [0, 1, 2, 3, 5, 6, 7, 8, 9] rfl q h) (inL_sub [0, 1, 2, 3, 5, 6, 7, 8, 9] rfl) (fun u t H locs ht hvm hw hB hz1 hk1 hS => ?_)
        obtain ⟨fz_7, fg_8, S1_9, X1_10⟩ := u
        rw [ht] at hB
        have hP := va_back (L := [c0, hQ, hM, hF, pK, pX, pY, pC, pV]) hP hN rfl [0, 3, 4, 5, 7, 8, 9, 10, 11] rfl rfl (fun q h1 h2 => hk1 q h1 h2) hB
        clear hB hk1 hz1 hvm ht t
        have hP : va_P (dC, dI) vwCl [(c0, .inr (0, [.ref h0, .int (nI S1_9.1), .int S1_9.2.1, .int S1_9.2.2.1, .int S1_9.2.2.2])), (h0, .inr (3, [.ref hA, .ref hQ, .ref hM, .ref hF])), (hA, .inl (cI, 1140, .inl fa)), (hQ, .inl (cI, 16, .inl fz_7)), (hM, .inl (cI, 768, .inl X1_10.1)), (hF, .inl (cI, 64, .inl fg_8)), (p0, .inr (2, [.ref pK, .ref pX, .ref pY, .ref pC, .ref pV, .ref pR, .ref pU, .ref pG, .ref pW, .int num, .int q, .int er, .int ky, .int sm])), (pK, .inl (cI, 12, .inl (fun k => nI (X1_10.2.1 k)))), (pX, .inl (cI, 12, .inl X1_10.2.2.1)), (pY, .inl (cI, 12, .inl X1_10.2.2.2.1)), (pC, .inl (cI, 12, .inl X1_10.2.2.2.2.1)), (pV, .inl (cI, 768, .inl X1_10.2.2.2.2.2)), (pR, .inl (cI, 768, .inl fr)), (hC, .inl (cI, 768, .inl fc))] H := hP
        have hw : X1_10 = csStep fc fa q ky i Y ∧ stOK S1_9 := hw
        obtain ⟨hwr_6_0, hwr_6_1⟩ := hw
        have hwr_6_0 : X1_10 = csStep fc fa q ky i Y := hwr_6_0
        have hcb2 := hwr_6_1
        refine lv_iinc (v := nI (i + 1)) (lv' := [(3, .int (nI (i + 1))), (0, .ref c0), (1, .ref p0), (2, .ref hC)]) hx hb dX0_codeAll_15 hl (k := 0) rfl (show nI i + Int32.ofInt 1 = nI (i + 1) from nI_add _ _) (by decide) rfl (fun ls hl => ?_)
        refine lv_goto (tgt := 2) hx hb dX0_codeAll_18 (by decide) ?_
        exact ih2 (i + 1) S1_9 X1_10 fz_7 fg_8 (by omega) hcb2 (by rw [hwr_6_0, hY]; rfl) (by omega) _ _ _ hP hS (lv_sub hl [0, 1, 2, 3] rfl)
  exact L2 (12 + 1) 0 S X fq ff (by omega) hS0 rfl (Nat.lt_succ_self _) _ _ _ hP hS (lv_sub hl [0, 1, 2, 3] rfl)
