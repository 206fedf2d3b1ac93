-- what is concealed: the vector of the block above, if that is known
def knI (fg : Nat → Int32) (b : Nat) : Int32 := if 4 ≤ b then (if fg ((b - 4) / 4) = 0 then 0 else 1) else 0
def ccV (fg fx : Nat → Int32) (b : Nat) : Int32 := if knI fg b = 0 then 0 else fx (b - 4)
theorem knI_4 {fg : Nat → Int32} {b : Nat} (h : ¬ knI fg b = 0) : 4 ≤ b := by
  unfold knI at h
  split at h
  · assumption
  · exact absurd rfl h
theorem sub4_lt {b : Nat} (hb : b < 12) {x : Int32} (h : x = nI b - 4) (c : x < 0) : b < 4 := by
  subst h
  rcases Nat.lt_or_ge b 4 with q | q
  · exact q
  · have e : nI b - 4 = nI (b - 4) := pk_sub (a := b) (b := 4) q
    rw [e, Int32.lt_iff_toInt_lt, nI_toInt (by omega), show (0 : Int32).toInt = 0 from by decide] at c
    omega
theorem sub4_ge {b : Nat} (hb : b < 12) {x : Int32} (h : x = nI b - 4) (c : ¬ x < 0) : 4 ≤ b := by
  subst h
  rcases Nat.lt_or_ge b 4 with q | q
  · refine absurd ?_ c
    have : ∀ j : Nat, j < 4 → nI j - 4 < 0 := by decide +kernel
    exact this b q
  · exact q
theorem ccV_ok {fg fx : Nat → Int32} {b : Nat} (hb : b < 12) (h : ∀ j, j < 12 → vOK (fx j)) : vOK (ccV fg fx b) := by
  unfold ccV
  split
  · exact vOK_0
  · exact h _ (by omega)
theorem AD.DA {N0 : Nat} {as : List Nat} (h : AD N0 as) {ws : va_W} (hw : ws.map (fun q => q.1) = as) {A : Nat → Prop} (hA : ∀ a ∈ as, A a) : va_D A ws :=
  (h.D hw).weaken (fun k q hk _ => hA _ (by rw [← hw]; exact List.mem_map_of_mem (List.mem_of_getElem? hk)))
theorem cpy_768 (f g : Nat → Int32) {k : Nat} (h : k < 768) : va_cpy f g (0 : Int32).toNatClampNeg (0 : Int32).toNatClampNeg (768 : Int32).toNatClampNeg k = f k := by
  have e : (768 : Int32).toNatClampNeg = 768 := by decide
  have e0 : (0 : Int32).toNatClampNeg = 0 := by decide
  rw [e, e0]
  unfold va_cpy
  rw [if_pos ⟨Nat.zero_le _, by omega⟩]
  show f (0 + (k - 0)) = f k
  rw [Nat.zero_add, Nat.sub_zero]
section VIEW
variable (fa fg : Nat → Int32) (kd : Nat → Nat) (fx fy fv : Nat → Int32) (q : Int32)
def vwB (b : Nat) (m : Nat → Int32) : Nat → Int32 := if fg (b / 4) = 0 then mdB (mvF fa b (ccV fg fx b) (ccV fg fy b)) m b else mdB (mkF (ftF (kd b) b (fx b) (fy b) fa m) fv b q) m b
def vwIt (m : Nat → Int32) : Nat → (Nat → Int32)
  | 0 => m
  | b + 1 => vwB fa fg kd fx fy fv q b (vwIt m b)
def vwF (sm : Int32) : Nat → Int32 := if sm = 0 then vwIt fa fg kd fx fy fv q (fun _ => 0) 12 else if bgN fg 3 = 0 then vwIt fa fg kd fx fy fv q (fun _ => 0) 12 else smF q (vwIt fa fg kd fx fy fv q (fun _ => 0) 12)
theorem vwIt_ag (h3 : ∀ j, j < 12 → 3 ≤ kd j → ¬ j % 4 = 0) (m m' : Nat → Int32) : ∀ i, i ≤ 12 → ∀ p, p < 768 → blk p < i → vwIt fa fg kd fx fy fv q m i p = vwIt fa fg kd fx fy fv q m' i p
  | 0, _ => fun p _ h => absurd h (Nat.not_lt_zero _)
  | b + 1, hi => by
    have ih := vwIt_ag h3 m m' b (by omega)
    intro p hp hbp
    show vwB fa fg kd fx fy fv q b _ p = vwB fa fg kd fx fy fv q b _ p
    unfold vwB
    split
    · unfold mdB
      by_cases h : blk p = b
      · rw [if_pos h, if_pos h]
      · rw [if_neg h, if_neg h]
        exact ih p hp (by omega)
    · unfold mdB
      by_cases h : blk p = b
      · rw [if_pos h, if_pos h]
        unfold mkF
        rw [ftF_c (fa := fa) (by omega) (h3 b (by omega)) ih _ (pos_lt p)]
      · rw [if_neg h, if_neg h]
        exact ih p hp (by omega)
end VIEW
theorem bgN_le (fg : Nat → Int32) : ∀ n, bgN fg n ≤ n
  | 0 => Nat.le_refl _
  | n + 1 => by
    have := bgN_le fg n
    show bgN fg n + (if fg n = 0 then 0 else 1) ≤ n + 1
    split <;> omega
theorem vwB_rng {fa fg : Nat → Int32} {kd : Nat → Nat} {fx fy fv : Nat → Int32} {q : Int32} {b : Nat} (hb : b < 12) (ha : rng fa 1140) (hx : ∀ j, j < 12 → vOK (fx j)) (hy : ∀ j, j < 12 → vOK (fy j)) {m : Nat → Int32} (hm : rng m 768) : rng (vwB fa fg kd fx fy fv q b m) 768 := by
  unfold vwB
  split
  · exact mdB_rng (mvF_rng hb (ccV_ok hb hx) (ccV_ok hb hy) ha) hm
  · exact mdB_rng (mkF_rng _ _ _ _ _) hm
theorem vwIt_rng {fa fg : Nat → Int32} {kd : Nat → Nat} {fx fy fv : Nat → Int32} {q : Int32} (ha : rng fa 1140) (hx : ∀ j, j < 12 → vOK (fx j)) (hy : ∀ j, j < 12 → vOK (fy j)) {m : Nat → Int32} (hm : rng m 768) : ∀ i, i ≤ 12 → rng (vwIt fa fg kd fx fy fv q m i) 768
  | 0, _ => hm
  | b + 1, hi => vwB_rng (by omega) ha hx hy (vwIt_rng ha hx hy hm b (by omega))
theorem vwF_rng {fa fg : Nat → Int32} {kd : Nat → Nat} {fx fy fv : Nat → Int32} {q sm : Int32} (ha : rng fa 1140) (hx : ∀ j, j < 12 → vOK (fx j)) (hy : ∀ j, j < 12 → vOK (fy j)) : rng (vwF fa fg kd fx fy fv q sm) 768 := by
  have h := vwIt_rng (fg := fg) (kd := kd) (fv := fv) (q := q) ha hx hy (m := fun _ => 0) (fun k _ => by show 0 ≤ (0 : Int32).toInt ∧ (0 : Int32).toInt ≤ 255; rw [ti_0]; omega) 12 (Nat.le_refl _)
  unfold vwF
  split
  · exact h
  · split
    · exact h
    · exact smF_rng h
set_option maxHeartbeats 4000000 in
set_option maxRecDepth 100000 in
theorem C_X4_conceal (l : Launch) (dC : Nat → ClassId) (dI : Nat → Nat → Nat) (cI cZ cP : ClassId) (N0 tO : Nat) (v0 sc : Nat) (h0 hA hQ hM hF : Nat) (p0 pK pX pY pC pV pR pU pG pW : Nat) (num q er ky sm : Int32) (shn : Nat) (fa fm ff fx fy fg : Nat → Int32) (b : Nat) (h1 : b < 12) (hvx : ∀ j, j < 12 → vOK (fx j)) (hvy : ∀ j, j < 12 → vOK (fy j)) : Met l yX4_conceal wsX4_conceal ({ frames := 3, cells := 0, slots := 0, locals := 79 } : Room) (Gv (dC, dI) cI cZ cP N0 tO [.ref v0, .ref p0, .int (nI b)] (fun H => va_P (dC, dI) vwCl [(v0, .inr (4, [.ref h0, .ref sc, .int (nI shn)])), (h0, .inr (3, [.ref hA, .ref hQ, .ref hM, .ref hF])), (hA, .inl (cI, 1140, .inl fa)), (hM, .inl (cI, 768, .inl fm)), (hF, .inl (cI, 64, .inl ff)), (p0, .inr (2, [.ref pK, .ref pX, .ref pY, .ref pC, .ref pV, .ref pR, .ref pU, .ref pG, .ref pW, .int num, .int q, .int er, .int ky, .int sm])), (pX, .inl (cI, 12, .inl fx)), (pY, .inl (cI, 12, .inl fy)), (pG, .inl (cZ, 3, .inl fg))] H ∧ AD N0 [v0, h0, hA, hM, hF, p0, pX, pY, pG])) (va_Qv (fun (_ : Unit) => True) (fun (_ : Unit) (t : State) => va_P (dC, dI) vwCl [(hM, .inl (cI, 768, .inl (mdB (mvF fa b (ccV fg fx b) (ccV fg fy b)) fm b))), (hF, .inl (cI, 64, .inl (mvF fa b (ccV fg fx b) (ccV fg fy b))))] t.heap) (inL [hM, hF])) 0 0 (inL [hM, hF]) := by
  refine Met.ofW (cc := cX4_conceal) (maxL := 7) (ret := none) (by decide) rfl ?_
  intro p e s m args below meth c s₁ B hml hv
  obtain ⟨rfl, hE, hP, hN⟩ := hv
  have hx := B.exec
  have hb := B.bytes
  have hr := B.returns
  have hts := atoms_spec (ws := wsX4_conceal) B.pre
  have hown : s.vm.findClass RX4 = some m.cls := findClass_of_methodNamed B.named
  have hlocks := B.notSynchronized
  have hK := hE.1
  have hNS := hE.2.1
  have hS : va_S (inL [hM, hF]) s.heap s.heap [] := va_S.rf
  have hAN : ∀ q : Nat, (inL [hM, hF]) q → N0 ≤ q := fun q h => hN.in [3, 4] rfl q h
  have hP : va_P (dC, dI) vwCl [(v0, .inr (4, [.ref h0, .ref sc, .int (nI shn)])), (h0, .inr (3, [.ref hA, .ref hQ, .ref hM, .ref hF])), (hA, .inl (cI, 1140, .inl fa)), (hM, .inl (cI, 768, .inl fm)), (hF, .inl (cI, 64, .inl ff)), (p0, .inr (2, [.ref pK, .ref pX, .ref pY, .ref pC, .ref pV, .ref pR, .ref pU, .ref pG, .ref pW, .int num, .int q, .int er, .int ky, .int sm])), (pX, .inl (cI, 12, .inl fx)), (pY, .inl (cI, 12, .inl fy)), (pG, .inl (cZ, 3, .inl fg))] s.heap := hP
  have hinX2 : ∀ w ∈ wsX20, w ∈ wsX4_conceal := by decide +kernel
  have hinX4 : ∀ w ∈ wsX40, w ∈ wsX4_conceal := by decide +kernel
  have hl := lv_entry ([.ref v0, .ref p0, .int (nI b)]) (n := 7) (Nat.le_of_ble_eq_true rfl)
  rw [lg_entry_eq]
  generalize (lg_sl ([.ref v0, .ref p0, .int (nI b)]) ++ List.replicate (7 - (lg_sl ([.ref v0, .ref p0, .int (nI b)])).length) Slot.unset).toArray = ls at hl ⊢
  have hl : lv_has ls 7 [(0, .ref v0), (1, .ref p0), (2, .int (nI b))] := hl
  refine lv_iload_n hx hb dX4_conceal_0 rfl (lv_at hl 2 rfl) ?_
  refine lv_iconst (v := 4) hx hb dX4_conceal_1 (by decide) ?_
  refine lv_isub hx hb dX4_conceal_2 ?_
  refine lv_topi (fun x_1 ex_1 => ?_)
  refine lv_istore_n (lv' := [(3, .int x_1), (0, .ref v0), (1, .ref p0), (2, .int (nI b))]) hx hb dX4_conceal_3 rfl hl (by decide) rfl (fun ls hl => ?_)
  refine lv_iload_n hx hb dX4_conceal_4 rfl (lv_at hl 0 rfl) ?_
  have J24 : ∀ (kn : Int32), (kn = knI fg b) → ∀ (H : Heap) (locs : List Loc) (ls : Array Slot), va_P (dC, dI) vwCl [(v0, .inr (4, [.ref h0, .ref sc, .int (nI shn)])), (h0, .inr (3, [.ref hA, .ref hQ, .ref hM, .ref hF])), (hA, .inl (cI, 1140, .inl fa)), (hM, .inl (cI, 768, .inl fm)), (hF, .inl (cI, 64, .inl ff)), (p0, .inr (2, [.ref pK, .ref pX, .ref pY, .ref pC, .ref pV, .ref pR, .ref pU, .ref pG, .ref pW, .int num, .int q, .int er, .int ky, .int sm])), (pX, .inl (cI, 12, .inl fx)), (pY, .inl (cI, 12, .inl fy)), (pG, .inl (cZ, 3, .inl fg))] H → va_S (inL [hM, hF]) s.heap H locs → lv_has ls 7 [(3, .int x_1), (0, .ref v0), (1, .ref p0), (2, .int (nI b))] → W p l e (headSpec wsX4_conceal ({ frames := 3, cells := 0, slots := 0, locals := 79 } : Room)).room s m ([.ref v0, .ref p0, .int (nI b)] : List Value).toArray below meth c H locs 0 0 (MQ below (va_Qv (fun (_ : Unit) => True) (fun (_ : Unit) (t : State) => va_P (dC, dI) vwCl [(hM, .inl (cI, 768, .inl (mdB (mvF fa b (ccV fg fx b) (ccV fg fy b)) fm b))), (hF, .inl (cI, 64, .inl (mvF fa b (ccV fg fx b) (ccV fg fy b))))] t.heap) (inL [hM, hF])) ([.ref v0, .ref p0, .int (nI b)] : List Value).toArray s 0 0 (inL [hM, hF])) (F0 m 24 ls [.int kn]) := by
    intro kn hkn H locs ls hP hS hl
    refine lv_istore (lv' := [(4, .int kn), (3, .int x_1), (0, .ref v0), (1, .ref p0), (2, .int (nI b))]) hx hb dX4_conceal_24 hl (by decide) rfl (fun ls hl => ?_)
    refine lv_iload hx hb dX4_conceal_26 (lv_at hl 0 rfl) ?_
    have J41 : ∀ (H : Heap) (locs : List Loc) (ls : Array Slot), va_P (dC, dI) vwCl [(v0, .inr (4, [.ref h0, .ref sc, .int (nI shn)])), (h0, .inr (3, [.ref hA, .ref hQ, .ref hM, .ref hF])), (hA, .inl (cI, 1140, .inl fa)), (hM, .inl (cI, 768, .inl fm)), (hF, .inl (cI, 64, .inl ff)), (p0, .inr (2, [.ref pK, .ref pX, .ref pY, .ref pC, .ref pV, .ref pR, .ref pU, .ref pG, .ref pW, .int num, .int q, .int er, .int ky, .int sm])), (pX, .inl (cI, 12, .inl fx)), (pY, .inl (cI, 12, .inl fy)), (pG, .inl (cZ, 3, .inl fg))] H → va_S (inL [hM, hF]) s.heap H locs → lv_has ls 7 [(4, .int kn), (3, .int x_1), (0, .ref v0), (1, .ref p0), (2, .int (nI b))] → W p l e (headSpec wsX4_conceal ({ frames := 3, cells := 0, slots := 0, locals := 79 } : Room)).room s m ([.ref v0, .ref p0, .int (nI b)] : List Value).toArray below meth c H locs 0 0 (MQ below (va_Qv (fun (_ : Unit) => True) (fun (_ : Unit) (t : State) => va_P (dC, dI) vwCl [(hM, .inl (cI, 768, .inl (mdB (mvF fa b (ccV fg fx b) (ccV fg fy b)) fm b))), (hF, .inl (cI, 64, .inl (mvF fa b (ccV fg fx b) (ccV fg fy b))))] t.heap) (inL [hM, hF])) ([.ref v0, .ref p0, .int (nI b)] : List Value).toArray s 0 0 (inL [hM, hF])) (F0 m 41 ls [.int (ccV fg fx b)]) := by
      intro H locs ls hP hS hl
      refine lv_istore (lv' := [(5, .int (ccV fg fx b)), (4, .int kn), (3, .int x_1), (0, .ref v0), (1, .ref p0), (2, .int (nI b))]) hx hb dX4_conceal_41 hl (by decide) rfl (fun ls hl => ?_)
      refine lv_iload hx hb dX4_conceal_43 (lv_at hl 1 rfl) ?_
      have J58 : ∀ (H : Heap) (locs : List Loc) (ls : Array Slot), va_P (dC, dI) vwCl [(v0, .inr (4, [.ref h0, .ref sc, .int (nI shn)])), (h0, .inr (3, [.ref hA, .ref hQ, .ref hM, .ref hF])), (hA, .inl (cI, 1140, .inl fa)), (hM, .inl (cI, 768, .inl fm)), (hF, .inl (cI, 64, .inl ff)), (p0, .inr (2, [.ref pK, .ref pX, .ref pY, .ref pC, .ref pV, .ref pR, .ref pU, .ref pG, .ref pW, .int num, .int q, .int er, .int ky, .int sm])), (pX, .inl (cI, 12, .inl fx)), (pY, .inl (cI, 12, .inl fy)), (pG, .inl (cZ, 3, .inl fg))] H → va_S (inL [hM, hF]) s.heap H locs → lv_has ls 7 [(5, .int (ccV fg fx b)), (4, .int kn), (3, .int x_1), (0, .ref v0), (1, .ref p0), (2, .int (nI b))] → W p l e (headSpec wsX4_conceal ({ frames := 3, cells := 0, slots := 0, locals := 79 } : Room)).room s m ([.ref v0, .ref p0, .int (nI b)] : List Value).toArray below meth c H locs 0 0 (MQ below (va_Qv (fun (_ : Unit) => True) (fun (_ : Unit) (t : State) => va_P (dC, dI) vwCl [(hM, .inl (cI, 768, .inl (mdB (mvF fa b (ccV fg fx b) (ccV fg fy b)) fm b))), (hF, .inl (cI, 64, .inl (mvF fa b (ccV fg fx b) (ccV fg fy b))))] t.heap) (inL [hM, hF])) ([.ref v0, .ref p0, .int (nI b)] : List Value).toArray s 0 0 (inL [hM, hF])) (F0 m 58 ls [.int (ccV fg fy b)]) := by
        intro H locs ls hP hS hl
        refine lv_istore (lv' := [(6, .int (ccV fg fy b)), (5, .int (ccV fg fx b)), (4, .int kn), (3, .int x_1), (0, .ref v0), (1, .ref p0), (2, .int (nI b))]) hx hb dX4_conceal_58 hl (by decide) rfl (fun ls hl => ?_)
        refine lv_aload_n hx hb dX4_conceal_60 rfl (lv_at hl 4 rfl) ?_
        refine va_get (D := (dC, dI)) (ci := 4) (v := .ref h0) (C := RX4) (T := TX4) (N := 3) hx hb hts hinX4 hown hK hP 0 rfl rfl 0 (by decide) (hts (.fieldLink RX4 12 "GreyReel$Viewer" "studio" "LGreyReel$Studio;") (List.mem_of_getElem? (i := 4) (by decide +kernel))) (fun _ h9 => h9) rfl dX4_conceal_61 ?_
        refine lv_iconst (v := 1) hx hb dX4_conceal_64 (by decide) ?_
        refine lv_iload_n hx hb dX4_conceal_65 rfl (lv_at hl 6 rfl) ?_
        refine lv_iload hx hb dX4_conceal_66 (lv_at hl 1 rfl) ?_
        refine lv_iload hx hb dX4_conceal_68 (lv_at hl 0 rfl) ?_
        refine va_callv (va_runV (As := [.int 1, .int (nI b), .int (ccV fg fx b), .int (ccV fg fy b)]) (rest := []) ⟨hx, hb, hml, hown, hts⟩ (C_X3_foretell l dC dI cI cZ cP N0 tO h0 hA hQ hM hF fa fm ff 1 b (ccV fg fx b) (ccV fg fy b) h1 (by omega) (fun h => absurd h (by omega)) (ccV_ok h1 hvx) (ccV_ok h1 hvy)) (cwV 4 hts gX4_conceal_X3_foretell rfl rfl rfl (by decide +kernel) ⟨Nat.le_of_ble_eq_true rfl, Nat.le_of_ble_eq_true rfl⟩) ⟨Gv.blind, va_recv hK hP (ci := 3) (q0 := 1) rfl rfl, Gv.of (hE.S hS hAN) ⟨(hP.sub [1, 2, 3, 4] rfl), hN.sub [1, 2, 3, 4] (by decide) rfl⟩⟩ rfl rfl hl.1 rfl (lv_room (Nat.le_of_ble_eq_true rfl)) dX4_conceal_70 ⟨Nat.le_of_ble_eq_true rfl, Nat.le_of_ble_eq_true rfl⟩) hS (fun q _ h => inL_sub [1] rfl q h) (inL_sub [1] rfl) (fun u t H locs ht hvm hw hB hz1 hk1 hS => ?_)
        rw [ht] at hB
        have hP := va_back (L := [hF]) hP hN rfl [4] rfl rfl (fun q h1 h2 => hk1 q h1 h2) hB
        clear hB hk1 hz1 hvm ht t
        have hP : va_P (dC, dI) vwCl [(v0, .inr (4, [.ref h0, .ref sc, .int (nI shn)])), (h0, .inr (3, [.ref hA, .ref hQ, .ref hM, .ref hF])), (hA, .inl (cI, 1140, .inl fa)), (hM, .inl (cI, 768, .inl fm)), (hF, .inl (cI, 64, .inl (ftF 1 b (ccV fg fx b) (ccV fg fy b) fa fm))), (p0, .inr (2, [.ref pK, .ref pX, .ref pY, .ref pC, .ref pV, .ref pR, .ref pU, .ref pG, .ref pW, .int num, .int q, .int er, .int ky, .int sm])), (pX, .inl (cI, 12, .inl fx)), (pY, .inl (cI, 12, .inl fy)), (pG, .inl (cZ, 3, .inl fg))] H := hP
        have hw : True := hw
        have hwr_2 := hw
        refine lv_aload_n hx hb dX4_conceal_73 rfl (lv_at hl 4 rfl) ?_
        refine va_get (D := (dC, dI)) (ci := 4) (v := .ref h0) (C := RX4) (T := TX4) (N := 3) hx hb hts hinX4 hown hK hP 0 rfl rfl 0 (by decide) (hts (.fieldLink RX4 12 "GreyReel$Viewer" "studio" "LGreyReel$Studio;") (List.mem_of_getElem? (i := 4) (by decide +kernel))) (fun _ h9 => h9) rfl dX4_conceal_74 ?_
        refine lv_iload_n hx hb dX4_conceal_77 rfl (lv_at hl 6 rfl) ?_
        refine va_callv (va_runV (As := [.int (nI b)]) (rest := []) ⟨hx, hb, hml, hown, hts⟩ (C_X3_makeForetold l dC dI cI cZ cP N0 tO h0 hA hQ hM hF fm (ftF 1 b (ccV fg fx b) (ccV fg fy b) fa fm) b h1) (cwV 1 hts gX4_conceal_X3_makeForetold rfl rfl rfl (by decide +kernel) ⟨Nat.le_of_ble_eq_true rfl, Nat.le_of_ble_eq_true rfl⟩) ⟨Gv.blind, va_recv hK hP (ci := 3) (q0 := 1) rfl rfl, Gv.of (hE.S hS hAN) ⟨(hP.sub [1, 3, 4] rfl), hN.sub [1, 3, 4] (by decide) rfl⟩⟩ rfl rfl hl.1 rfl (lv_room (Nat.le_of_ble_eq_true rfl)) dX4_conceal_78 ⟨Nat.le_of_ble_eq_true rfl, Nat.le_of_ble_eq_true rfl⟩) hS (fun q _ h => inL_sub [0] rfl q h) (inL_sub [0] rfl) (fun u t H locs ht hvm hw hB hz1 hk1 hS => ?_)
        rw [ht] at hB
        have hP := va_back (L := [hM]) hP hN rfl [3] rfl rfl (fun q h1 h2 => hk1 q h1 h2) hB
        clear hB hk1 hz1 hvm ht t
        have hP : va_P (dC, dI) vwCl [(v0, .inr (4, [.ref h0, .ref sc, .int (nI shn)])), (h0, .inr (3, [.ref hA, .ref hQ, .ref hM, .ref hF])), (hA, .inl (cI, 1140, .inl fa)), (hM, .inl (cI, 768, .inl (mdB (ftF 1 b (ccV fg fx b) (ccV fg fy b) fa fm) fm b))), (hF, .inl (cI, 64, .inl (ftF 1 b (ccV fg fx b) (ccV fg fy b) fa fm))), (p0, .inr (2, [.ref pK, .ref pX, .ref pY, .ref pC, .ref pV, .ref pR, .ref pU, .ref pG, .ref pW, .int num, .int q, .int er, .int ky, .int sm])), (pX, .inl (cI, 12, .inl fx)), (pY, .inl (cI, 12, .inl fy)), (pG, .inl (cZ, 3, .inl fg))] H := hP
        have hw : True := hw
        have hwr_3 := hw
        have hz9 : (ftF 1 b (ccV fg fx b) (ccV fg fy b) fa fm) = (mvF fa b (ccV fg fx b) (ccV fg fy b)) := rfl
        rw [hz9] at hP
        clear hz9
        have hP : va_P (dC, dI) vwCl [(v0, .inr (4, [.ref h0, .ref sc, .int (nI shn)])), (h0, .inr (3, [.ref hA, .ref hQ, .ref hM, .ref hF])), (hA, .inl (cI, 1140, .inl fa)), (hM, .inl (cI, 768, .inl (mdB (ftF 1 b (ccV fg fx b) (ccV fg fy b) fa fm) fm b))), (hF, .inl (cI, 64, .inl (mvF fa b (ccV fg fx b) (ccV fg fy b)))), (p0, .inr (2, [.ref pK, .ref pX, .ref pY, .ref pC, .ref pV, .ref pR, .ref pU, .ref pG, .ref pW, .int num, .int q, .int er, .int ky, .int sm])), (pX, .inl (cI, 12, .inl fx)), (pY, .inl (cI, 12, .inl fy)), (pG, .inl (cZ, 3, .inl fg))] H := hP
        have hz9 : (mdB (ftF 1 b (ccV fg fx b) (ccV fg fy b) fa fm) fm b) = (mdB (mvF fa b (ccV fg fx b) (ccV fg fy b)) fm b) := rfl
        rw [hz9] at hP
        clear hz9
        have hP : va_P (dC, dI) vwCl [(v0, .inr (4, [.ref h0, .ref sc, .int (nI shn)])), (h0, .inr (3, [.ref hA, .ref hQ, .ref hM, .ref hF])), (hA, .inl (cI, 1140, .inl fa)), (hM, .inl (cI, 768, .inl (mdB (mvF fa b (ccV fg fx b) (ccV fg fy b)) fm b))), (hF, .inl (cI, 64, .inl (mvF fa b (ccV fg fx b) (ccV fg fy b)))), (p0, .inr (2, [.ref pK, .ref pX, .ref pY, .ref pC, .ref pV, .ref pR, .ref pU, .ref pG, .ref pW, .int num, .int q, .int er, .int ky, .int sm])), (pX, .inl (cI, 12, .inl fx)), (pY, .inl (cI, 12, .inl fy)), (pG, .inl (cZ, 3, .inl fg))] H := hP
        exact W.vret hx hb hr (fun t ht hW => ⟨⟨(), rfl, trivial, by show va_P _ _ _ t.heap; rw [ht]; exact hP.sub [3, 4] rfl⟩, hS.F ht⟩) hS.2.2 dX4_conceal_81
      refine lv_if_eq (tgt := 57) hx hb dX4_conceal_45 (by decide) (fun c45 => ?_) (fun c45 => ?_)
      · skip
        refine lv_iconst (v := 0) hx hb dX4_conceal_57 (by decide) ?_
        refine lv_topr (show _ = ccV fg fy b from (by unfold ccV; rw [← hkn, if_pos c45])) ?_
        exact J58 _ _ _ hP hS (lv_sub hl [0, 1, 2, 3, 4, 5] rfl)
      · skip
        have hb4 := knI_4 (by rw [← hkn]; exact c45)
        refine lv_aload_n hx hb dX4_conceal_48 rfl (lv_at hl 4 rfl) ?_
        refine va_get (D := (dC, dI)) (ci := 2) (v := .ref pY) (C := RX2) (T := TX2) (N := 14) hx hb hts hinX2 hown hK hP 5 rfl rfl 2 (by decide) (hts (.fieldLink RX4 48 "GreyReel$Picture" "vy" "[I") (List.mem_of_getElem? (i := 3) (by decide +kernel))) (fun _ h9 => h9) rfl dX4_conceal_49 ?_
        refine lv_iload_n hx hb dX4_conceal_52 rfl (lv_at hl 2 rfl) ?_
        refine lv_topr (show _ = nI (b - 4) from (by rw [ex_1]; exact pk_sub (a := b) (b := 4) hb4)) ?_
        refine wa_iald (D := (dC, dI)) (i := (b - 4)) (f := fy) hx hb hK hP 7 0 rfl rfl (by omega) (by omega) dX4_conceal_53 ?_
        refine lv_topr (show _ = ccV fg fy b from (by unfold ccV; rw [← hkn, if_neg c45])) ?_
        refine lv_goto (tgt := 58) hx hb dX4_conceal_54 (by decide) ?_
        exact J58 _ _ _ hP hS (lv_sub hl [0, 1, 2, 3, 4, 5] rfl)
    refine lv_if_eq (tgt := 40) hx hb dX4_conceal_28 (by decide) (fun c28 => ?_) (fun c28 => ?_)
    · skip
      refine lv_iconst (v := 0) hx hb dX4_conceal_40 (by decide) ?_
      refine lv_topr (show _ = ccV fg fx b from (by unfold ccV; rw [← hkn, if_pos c28])) ?_
      exact J41 _ _ _ hP hS (lv_sub hl [0, 1, 2, 3, 4] rfl)
    · skip
      have hb4 := knI_4 (by rw [← hkn]; exact c28)
      refine lv_aload_n hx hb dX4_conceal_31 rfl (lv_at hl 3 rfl) ?_
      refine va_get (D := (dC, dI)) (ci := 2) (v := .ref pX) (C := RX2) (T := TX2) (N := 14) hx hb hts hinX2 hown hK hP 5 rfl rfl 1 (by decide) (hts (.fieldLink RX4 45 "GreyReel$Picture" "vx" "[I") (List.mem_of_getElem? (i := 2) (by decide +kernel))) (fun _ h9 => h9) rfl dX4_conceal_32 ?_
      refine lv_iload_n hx hb dX4_conceal_35 rfl (lv_at hl 1 rfl) ?_
      refine lv_topr (show _ = nI (b - 4) from (by rw [ex_1]; exact pk_sub (a := b) (b := 4) hb4)) ?_
      refine wa_iald (D := (dC, dI)) (i := (b - 4)) (f := fx) hx hb hK hP 6 0 rfl rfl (by omega) (by omega) dX4_conceal_36 ?_
      refine lv_topr (show _ = ccV fg fx b from (by unfold ccV; rw [← hkn, if_neg c28])) ?_
      refine lv_goto (tgt := 41) hx hb dX4_conceal_37 (by decide) ?_
      exact J41 _ _ _ hP hS (lv_sub hl [0, 1, 2, 3, 4] rfl)
  refine lv_if_lt (tgt := 23) hx hb dX4_conceal_5 (by decide) (fun c5 => ?_) (fun c5 => ?_)
  · skip
    have hb4 := sub4_lt h1 ex_1 c5
    refine lv_iconst (v := 0) hx hb dX4_conceal_23 (by decide) ?_
    exact J24 0 (by unfold knI; rw [if_neg (by omega)]) _ _ _ hP hS (lv_sub hl [0, 1, 2, 3] rfl)
  · skip
    have hb4 := sub4_ge h1 ex_1 c5
    refine lv_aload_n hx hb dX4_conceal_8 rfl (lv_at hl 2 rfl) ?_
    refine va_get (D := (dC, dI)) (ci := 2) (v := .ref pG) (C := RX2) (T := TX2) (N := 14) hx hb hts hinX2 hown hK hP 5 rfl rfl 7 (by decide) (hts (.fieldLink RX4 36 "GreyReel$Picture" "got" "[Z") (List.mem_of_getElem? (i := 1) (by decide +kernel))) (fun _ h9 => h9) rfl dX4_conceal_9 ?_
    refine lv_iload_n hx hb dX4_conceal_12 rfl (lv_at hl 0 rfl) ?_
    refine lv_topr (show _ = nI (b - 4) from (by rw [ex_1]; exact pk_sub (a := b) (b := 4) hb4)) ?_
    refine lv_iconst (v := 4) hx hb dX4_conceal_13 (by decide) ?_
    refine lv_idiv hx hb dX4_conceal_14 (by decide) ?_
    refine lv_topr (show _ = nI ((b - 4) / 4) from pk_div (a := (b - 4)) (d := 4) (by omega) (by omega) (by omega)) ?_
    refine wa_zald (D := (dC, dI)) (i := ((b - 4) / 4)) (f := fg) hx hb hK hP 8 1 rfl rfl (by omega) (by omega) dX4_conceal_15 ?_
    refine lv_if_eq (tgt := 23) hx hb dX4_conceal_16 (by decide) (fun c16 => ?_) (fun c16 => ?_)
    · skip
      refine lv_iconst (v := 0) hx hb dX4_conceal_23 (by decide) ?_
      exact J24 0 (by unfold knI; rw [if_pos hb4, if_pos c16]) _ _ _ hP hS (lv_sub hl [0, 1, 2, 3] rfl)
    · skip
      refine lv_iconst (v := 1) hx hb dX4_conceal_19 (by decide) ?_
      refine lv_goto (tgt := 24) hx hb dX4_conceal_20 (by decide) ?_
      exact J24 1 (by unfold knI; rw [if_pos hb4, if_neg c16]) _ _ _ hP hS (lv_sub hl [0, 1, 2, 3] rfl)
set_option maxHeartbeats 8000000 in
set_option maxRecDepth 100000 in
theorem C_X4_make (l : Launch) (dC : Nat → ClassId) (dI : Nat → Nat → Nat) (cI cZ cP : ClassId) (N0 tO : Nat) (v0 sc : Nat) (h0 hA hQ hM hF : Nat) (p0 pK pX pY pC pV pR pU pG pW : Nat) (num q er ky sm : Int32) (shn : Nat) (fa fm ff fq fs : Nat → Int32) (kd : Nat → Nat) (fx fy fv fg : Nat → Int32) (hvx : ∀ j, j < 12 → vOK (fx j)) (hvy : ∀ j, j < 12 → vOK (fy j)) (hkd : ∀ j, j < 12 → kd j < 5) (hk3 : ∀ j, j < 12 → 3 ≤ kd j → ¬ j % 4 = 0) : Met l yX4_make wsX4_make ({ frames := 4, cells := 0, slots := 0, locals := 105 } : Room) (Gv (dC, dI) cI cZ cP N0 tO [.ref v0, .ref p0] (fun H => va_P (dC, dI) vwCl [(v0, .inr (4, [.ref h0, .ref sc, .int (nI shn)])), (h0, .inr (3, [.ref hA, .ref hQ, .ref hM, .ref hF])), (hA, .inl (cI, 1140, .inl fa)), (hQ, .inl (cI, 16, .inl fq)), (hM, .inl (cI, 768, .inl fm)), (hF, .inl (cI, 64, .inl ff)), (sc, .inl (cI, 768, .inl fs)), (p0, .inr (2, [.ref pK, .ref pX, .ref pY, .ref pC, .ref pV, .ref pR, .ref pU, .ref pG, .ref pW, .int num, .int q, .int er, .int ky, .int sm])), (pK, .inl (cI, 12, .inl (fun k => nI (kd k)))), (pX, .inl (cI, 12, .inl fx)), (pY, .inl (cI, 12, .inl fy)), (pV, .inl (cI, 768, .inl fv)), (pG, .inl (cZ, 3, .inl fg))] H ∧ AD N0 [v0, h0, hA, hQ, hM, hF, sc, p0, pK, pX, pY, pV, pG])) (va_Qv (fun (u : (Nat → Int32) × (Nat → Int32)) => match u with | (fz, fw) => True) (fun (u : (Nat → Int32) × (Nat → Int32)) (t : State) => match u with | (fz, fw) => va_P (dC, dI) vwCl [(hA, .inl (cI, 1140, .inl (ahF fs))), (hQ, .inl (cI, 16, .inl fz)), (hM, .inl (cI, 768, .inl (vwF (ahF fs) fg kd fx fy fv q sm))), (hF, .inl (cI, 64, .inl fw))] t.heap) (inL [hA, hQ, hM, hF])) 0 0 (inL [hA, hQ, hM, hF]) := by
  refine Met.ofW (cc := cX4_make) (maxL := 3) (ret := none) (by decide) rfl ?_
  intro p e s m args below meth c s₁ B hml hv
  obtain ⟨rfl, hE, hP, hN⟩ := hv
  have hx := B.exec
  have hb := B.bytes
  have hr := B.returns
  have hts := atoms_spec (ws := wsX4_make) B.pre
  have hown : s.vm.findClass RX4 = some m.cls := findClass_of_methodNamed B.named
  have hlocks := B.notSynchronized
  have hK := hE.1
  have hNS := hE.2.1
  have hS : va_S (inL [hA, hQ, hM, hF]) s.heap s.heap [] := va_S.rf
  have hAN : ∀ q : Nat, (inL [hA, hQ, hM, hF]) q → N0 ≤ q := fun q h => hN.in [2, 3, 4, 5] rfl q h
  have hP : va_P (dC, dI) vwCl [(v0, .inr (4, [.ref h0, .ref sc, .int (nI shn)])), (h0, .inr (3, [.ref hA, .ref hQ, .ref hM, .ref hF])), (hA, .inl (cI, 1140, .inl fa)), (hQ, .inl (cI, 16, .inl fq)), (hM, .inl (cI, 768, .inl fm)), (hF, .inl (cI, 64, .inl ff)), (sc, .inl (cI, 768, .inl fs)), (p0, .inr (2, [.ref pK, .ref pX, .ref pY, .ref pC, .ref pV, .ref pR, .ref pU, .ref pG, .ref pW, .int num, .int q, .int er, .int ky, .int sm])), (pK, .inl (cI, 12, .inl (fun k => nI (kd k)))), (pX, .inl (cI, 12, .inl fx)), (pY, .inl (cI, 12, .inl fy)), (pV, .inl (cI, 768, .inl fv)), (pG, .inl (cZ, 3, .inl fg))] s.heap := hP
  have hinX2 : ∀ w ∈ wsX20, w ∈ wsX4_make := by decide +kernel
  have hinX4 : ∀ w ∈ wsX40, w ∈ wsX4_make := by decide +kernel
  have hl := lv_entry ([.ref v0, .ref p0]) (n := 3) (Nat.le_of_ble_eq_true rfl)
  rw [lg_entry_eq]
  generalize (lg_sl ([.ref v0, .ref p0]) ++ List.replicate (3 - (lg_sl ([.ref v0, .ref p0])).length) Slot.unset).toArray = ls at hl ⊢
  have hl : lv_has ls 3 [(0, .ref v0), (1, .ref p0)] := hl
  have hbg := bgN_le fg 3
  refine lv_aload_n hx hb dX4_make_0 rfl (lv_at hl 0 rfl) ?_
  refine va_get (D := (dC, dI)) (ci := 4) (v := .ref h0) (C := RX4) (T := TX4) (N := 3) hx hb hts hinX4 hown hK hP 0 rfl rfl 0 (by decide) (hts (.fieldLink RX4 12 "GreyReel$Viewer" "studio" "LGreyReel$Studio;") (List.mem_of_getElem? (i := 1) (by decide +kernel))) (fun _ h9 => h9) rfl dX4_make_1 ?_
  refine lv_aload_n hx hb dX4_make_4 rfl (lv_at hl 0 rfl) ?_
  refine va_get (D := (dC, dI)) (ci := 4) (v := .ref sc) (C := RX4) (T := TX4) (N := 3) hx hb hts hinX4 hown hK hP 0 rfl rfl 1 (by decide) (hts (.fieldLink RX4 18 "GreyReel$Viewer" "screen" "[I") (List.mem_of_getElem? (i := 2) (by decide +kernel))) (fun _ h9 => h9) rfl dX4_make_5 ?_
  refine va_callv (va_runV (As := [.ref sc]) (rest := []) ⟨hx, hb, hml, hown, hts⟩ (C_X3_lookAhead l dC dI cI cZ cP N0 tO h0 hA hQ hM hF sc fa fs ) (cwV 1 hts gX4_make_X3_lookAhead rfl rfl rfl (by decide +kernel) ⟨Nat.le_of_ble_eq_true rfl, Nat.le_of_ble_eq_true rfl⟩) ⟨Gv.blind, va_recv hK hP (ci := 3) (q0 := 1) rfl rfl, Gv.of (hE.S hS hAN) ⟨(hP.sub [1, 2, 6] rfl), hN.sub [1, 2, 6] (by decide) rfl⟩⟩ rfl rfl hl.1 rfl (lv_room (Nat.le_of_ble_eq_true rfl)) dX4_make_8 ⟨Nat.le_of_ble_eq_true rfl, Nat.le_of_ble_eq_true rfl⟩) hS (fun q _ h => inL_sub [0] rfl q h) (inL_sub [0] rfl) (fun u t H locs ht hvm hw hB hz1 hk1 hS => ?_)
  rw [ht] at hB
  have hP := va_back (L := [hA]) hP hN rfl [2] rfl rfl (fun q h1 h2 => hk1 q h1 h2) hB
  clear hB hk1 hz1 hvm ht t
  have hP : va_P (dC, dI) vwCl [(v0, .inr (4, [.ref h0, .ref sc, .int (nI shn)])), (h0, .inr (3, [.ref hA, .ref hQ, .ref hM, .ref hF])), (hA, .inl (cI, 1140, .inl (ahF fs))), (hQ, .inl (cI, 16, .inl fq)), (hM, .inl (cI, 768, .inl fm)), (hF, .inl (cI, 64, .inl ff)), (sc, .inl (cI, 768, .inl fs)), (p0, .inr (2, [.ref pK, .ref pX, .ref pY, .ref pC, .ref pV, .ref pR, .ref pU, .ref pG, .ref pW, .int num, .int q, .int er, .int ky, .int sm])), (pK, .inl (cI, 12, .inl (fun k => nI (kd k)))), (pX, .inl (cI, 12, .inl fx)), (pY, .inl (cI, 12, .inl fy)), (pV, .inl (cI, 768, .inl fv)), (pG, .inl (cZ, 3, .inl fg))] H := hP
  have hw : True := hw
  have hwr_1 := hw
  refine lv_iconst (v := 0) hx hb dX4_make_11 (by decide) ?_
  refine lv_istore_n (lv' := [(2, .int 0), (0, .ref v0), (1, .ref p0)]) hx hb dX4_make_12 rfl hl (by decide) rfl (fun ls hl => ?_)
  have L13 : ∀ (n13 : Nat) (b : Nat) (f1 : Nat → Int32) (f2 : Nat → Int32) (m1 : Nat → Int32), (b ≤ 12) → 12 - b < n13 → m1 = (vwIt (ahF fs) fg kd fx fy fv q fm b) → ∀ (H : Heap) (locs : List Loc) (ls : Array Slot), va_P (dC, dI) vwCl [(v0, .inr (4, [.ref h0, .ref sc, .int (nI shn)])), (h0, .inr (3, [.ref hA, .ref hQ, .ref hM, .ref hF])), (hA, .inl (cI, 1140, .inl (ahF fs))), (hQ, .inl (cI, 16, .inl f1)), (hM, .inl (cI, 768, .inl m1)), (hF, .inl (cI, 64, .inl f2)), (sc, .inl (cI, 768, .inl fs)), (p0, .inr (2, [.ref pK, .ref pX, .ref pY, .ref pC, .ref pV, .ref pR, .ref pU, .ref pG, .ref pW, .int num, .int q, .int er, .int ky, .int sm])), (pK, .inl (cI, 12, .inl (fun k => nI (kd k)))), (pX, .inl (cI, 12, .inl fx)), (pY, .inl (cI, 12, .inl fy)), (pV, .inl (cI, 768, .inl fv)), (pG, .inl (cZ, 3, .inl fg))] H → va_S (inL [hA, hQ, hM, hF]) s.heap H locs → lv_has ls 3 [(2, .int (nI b)), (0, .ref v0), (1, .ref p0)] → W p l e (headSpec wsX4_make ({ frames := 4, cells := 0, slots := 0, locals := 105 } : Room)).room s m ([.ref v0, .ref p0] : List Value).toArray below meth c H locs 0 0 (MQ below (va_Qv (fun (u : (Nat → Int32) × (Nat → Int32)) => match u with | (fz, fw) => True) (fun (u : (Nat → Int32) × (Nat → Int32)) (t : State) => match u with | (fz, fw) => va_P (dC, dI) vwCl [(hA, .inl (cI, 1140, .inl (ahF fs))), (hQ, .inl (cI, 16, .inl fz)), (hM, .inl (cI, 768, .inl (vwF (ahF fs) fg kd fx fy fv q sm))), (hF, .inl (cI, 64, .inl fw))] t.heap) (inL [hA, hQ, hM, hF])) ([.ref v0, .ref p0] : List Value).toArray s 0 0 (inL [hA, hQ, hM, hF])) (F0 m 13 ls []) := by
    intro n13
    induction n13 with
    | zero => intro b f1 f2 m1 hb12 hz; exact absurd hz (Nat.not_lt_zero _)
    | succ n13 ih13 =>
      intro b f1 f2 m1 hb12 hfu em1 H locs ls hP hS hl
      refine lv_iload_n hx hb dX4_make_13 rfl (lv_at hl 0 rfl) ?_
      refine lv_bipush (v := 12) hx hb dX4_make_14 (by decide +kernel) ?_
      refine lv_icmp_ge (tgt := 87) hx hb dX4_make_16 (by decide) (fun c16 => ?_) (fun c16 => ?_)
      · skip
        have c16 : 12 ≤ b := (nI_leI (a := 12) (b := b) (by omega) (by omega)).mp c16
        obtain rfl : b = 12 := by omega
        have hP := hP.cong 4 (vwIt (ahF fs) fg kd fx fy fv q (fun _ => 0) 12) rfl (fun k hk => by rw [em1]; exact vwIt_ag (ahF fs) fg kd fx fy fv q hk3 fm (fun _ => 0) 12 (Nat.le_refl _) k hk (blk_lt hk))
        have hP : va_P (dC, dI) vwCl [(v0, .inr (4, [.ref h0, .ref sc, .int (nI shn)])), (h0, .inr (3, [.ref hA, .ref hQ, .ref hM, .ref hF])), (hA, .inl (cI, 1140, .inl (ahF fs))), (hQ, .inl (cI, 16, .inl f1)), (hM, .inl (cI, 768, .inl (vwIt (ahF fs) fg kd fx fy fv q (fun _ => 0) 12))), (hF, .inl (cI, 64, .inl f2)), (sc, .inl (cI, 768, .inl fs)), (p0, .inr (2, [.ref pK, .ref pX, .ref pY, .ref pC, .ref pV, .ref pR, .ref pU, .ref pG, .ref pW, .int num, .int q, .int er, .int ky, .int sm])), (pK, .inl (cI, 12, .inl (fun k => nI (kd k)))), (pX, .inl (cI, 12, .inl fx)), (pY, .inl (cI, 12, .inl fy)), (pV, .inl (cI, 768, .inl fv)), (pG, .inl (cZ, 3, .inl fg))] H := hP
        refine lv_aload_n hx hb dX4_make_87 rfl (lv_at hl 2 rfl) ?_
        refine va_get (D := (dC, dI)) (ci := 2) (v := .int sm) (C := RX2) (T := TX2) (N := 14) hx hb hts hinX2 hown hK hP 7 rfl rfl 13 (by decide) (hts (.fieldLink RX4 69 "GreyReel$Picture" "isSmoothed" "Z") (List.mem_of_getElem? (i := 9) (by decide +kernel))) (fun _ h9 => h9) rfl dX4_make_88 ?_
        refine lv_if_eq (tgt := 112) hx hb dX4_make_91 (by decide) (fun c91 => ?_) (fun c91 => ?_)
        · skip
          have hz9 : (vwIt (ahF fs) fg kd fx fy fv q (fun _ => 0) 12) = (vwF (ahF fs) fg kd fx fy fv q sm) := (by unfold vwF; rw [if_pos c91])
          rw [hz9] at hP
          clear hz9
          have hP : va_P (dC, dI) vwCl [(v0, .inr (4, [.ref h0, .ref sc, .int (nI shn)])), (h0, .inr (3, [.ref hA, .ref hQ, .ref hM, .ref hF])), (hA, .inl (cI, 1140, .inl (ahF fs))), (hQ, .inl (cI, 16, .inl f1)), (hM, .inl (cI, 768, .inl (vwF (ahF fs) fg kd fx fy fv q sm))), (hF, .inl (cI, 64, .inl f2)), (sc, .inl (cI, 768, .inl fs)), (p0, .inr (2, [.ref pK, .ref pX, .ref pY, .ref pC, .ref pV, .ref pR, .ref pU, .ref pG, .ref pW, .int num, .int q, .int er, .int ky, .int sm])), (pK, .inl (cI, 12, .inl (fun k => nI (kd k)))), (pX, .inl (cI, 12, .inl fx)), (pY, .inl (cI, 12, .inl fy)), (pV, .inl (cI, 768, .inl fv)), (pG, .inl (cZ, 3, .inl fg))] H := hP
          exact W.vret hx hb hr (fun t ht hW => ⟨⟨(f1, f2), rfl, trivial, by show va_P _ _ _ t.heap; rw [ht]; exact hP.sub [2, 3, 4, 5] rfl⟩, hS.F ht⟩) hS.2.2 dX4_make_112
        · skip
          refine lv_aload_n hx hb dX4_make_94 rfl (lv_at hl 2 rfl) ?_
          refine vp_callSi (va_Run.run (va_runV (As := []) (rest := []) ⟨hx, hb, hml, hown, hts⟩ (C_X2_bandsGot l dC dI cI cZ cP N0 tO p0 pK pX pY pC pV pR pU pG pW num q er ky sm fg ) (cwV 0 hts gX4_make_X2_bandsGot rfl rfl rfl (by decide +kernel) ⟨Nat.le_of_ble_eq_true rfl, Nat.le_of_ble_eq_true rfl⟩) ⟨Gv.blind, va_recv hK hP (ci := 2) (q0 := 7) rfl rfl, Gv.of (hE.S hS hAN) (hP.sub [7, 12] rfl)⟩ rfl rfl hl.1 rfl (lv_room (Nat.le_of_ble_eq_true rfl)) dX4_make_95 ⟨Nat.le_of_ble_eq_true rfl, Nat.le_of_ble_eq_true rfl⟩)) (fun r_2 hr_2 => ?_)
          have hr_2 : r_2 = nI (bgN fg 3) := hr_2
          refine lv_topr hr_2 ?_
          refine lv_if_le (tgt := 112) hx hb dX4_make_98 (by decide) (fun c98 => ?_) (fun c98 => ?_)
          · skip
            have c98 : (bgN fg 3) ≤ 0 := (nI_leI (a := (bgN fg 3)) (b := 0) (by omega) (by omega)).mp c98
            have hz9 : (vwIt (ahF fs) fg kd fx fy fv q (fun _ => 0) 12) = (vwF (ahF fs) fg kd fx fy fv q sm) := (by unfold vwF; rw [if_neg c91, if_pos (by omega)])
            rw [hz9] at hP
            clear hz9
            have hP : va_P (dC, dI) vwCl [(v0, .inr (4, [.ref h0, .ref sc, .int (nI shn)])), (h0, .inr (3, [.ref hA, .ref hQ, .ref hM, .ref hF])), (hA, .inl (cI, 1140, .inl (ahF fs))), (hQ, .inl (cI, 16, .inl f1)), (hM, .inl (cI, 768, .inl (vwF (ahF fs) fg kd fx fy fv q sm))), (hF, .inl (cI, 64, .inl f2)), (sc, .inl (cI, 768, .inl fs)), (p0, .inr (2, [.ref pK, .ref pX, .ref pY, .ref pC, .ref pV, .ref pR, .ref pU, .ref pG, .ref pW, .int num, .int q, .int er, .int ky, .int sm])), (pK, .inl (cI, 12, .inl (fun k => nI (kd k)))), (pX, .inl (cI, 12, .inl fx)), (pY, .inl (cI, 12, .inl fy)), (pV, .inl (cI, 768, .inl fv)), (pG, .inl (cZ, 3, .inl fg))] H := hP
            exact W.vret hx hb hr (fun t ht hW => ⟨⟨(f1, f2), rfl, trivial, by show va_P _ _ _ t.heap; rw [ht]; exact hP.sub [2, 3, 4, 5] rfl⟩, hS.F ht⟩) hS.2.2 dX4_make_112
          · skip
            have c98 : ¬ (bgN fg 3) ≤ 0 := fun z => c98 ((nI_leI (a := (bgN fg 3)) (b := 0) (by omega) (by omega)).mpr z)
            refine lv_aload_n hx hb dX4_make_101 rfl (lv_at hl 1 rfl) ?_
            refine va_get (D := (dC, dI)) (ci := 4) (v := .ref h0) (C := RX4) (T := TX4) (N := 3) hx hb hts hinX4 hown hK hP 0 rfl rfl 0 (by decide) (hts (.fieldLink RX4 12 "GreyReel$Viewer" "studio" "LGreyReel$Studio;") (List.mem_of_getElem? (i := 1) (by decide +kernel))) (fun _ h9 => h9) rfl dX4_make_102 ?_
            refine lv_aload_n hx hb dX4_make_105 rfl (lv_at hl 2 rfl) ?_
            refine va_get (D := (dC, dI)) (ci := 2) (v := .int q) (C := RX2) (T := TX2) (N := 14) hx hb hts hinX2 hown hK hP 7 rfl rfl 10 (by decide) (hts (.fieldLink RX4 55 "GreyReel$Picture" "q" "I") (List.mem_of_getElem? (i := 7) (by decide +kernel))) (fun _ h9 => h9) rfl dX4_make_106 ?_
            refine va_callv (va_runV (As := [.int q]) (rest := []) ⟨hx, hb, hml, hown, hts⟩ (C_X3_smooth l dC dI cI cZ cP N0 tO h0 hA hQ hM hF (vwIt (ahF fs) fg kd fx fy fv q (fun _ => 0) 12) q ) (cwV 1 hts gX4_make_X3_smooth rfl rfl rfl (by decide +kernel) ⟨Nat.le_of_ble_eq_true rfl, Nat.le_of_ble_eq_true rfl⟩) ⟨Gv.blind, va_recv hK hP (ci := 3) (q0 := 1) rfl rfl, Gv.of (hE.S hS hAN) ⟨(hP.sub [1, 4] rfl), hN.sub [1, 4] (by decide) rfl⟩⟩ rfl rfl hl.1 rfl (lv_room (Nat.le_of_ble_eq_true rfl)) dX4_make_109 ⟨Nat.le_of_ble_eq_true rfl, Nat.le_of_ble_eq_true rfl⟩) hS (fun q _ h => inL_sub [2] rfl q h) (inL_sub [2] rfl) (fun u t H locs ht hvm hw hB hz1 hk1 hS => ?_)
            rw [ht] at hB
            have hP := va_back (L := [hM]) hP hN rfl [4] rfl rfl (fun q h1 h2 => hk1 q h1 h2) hB
            clear hB hk1 hz1 hvm ht t
            have hP : va_P (dC, dI) vwCl [(v0, .inr (4, [.ref h0, .ref sc, .int (nI shn)])), (h0, .inr (3, [.ref hA, .ref hQ, .ref hM, .ref hF])), (hA, .inl (cI, 1140, .inl (ahF fs))), (hQ, .inl (cI, 16, .inl f1)), (hM, .inl (cI, 768, .inl (smF q (vwIt (ahF fs) fg kd fx fy fv q (fun _ => 0) 12)))), (hF, .inl (cI, 64, .inl f2)), (sc, .inl (cI, 768, .inl fs)), (p0, .inr (2, [.ref pK, .ref pX, .ref pY, .ref pC, .ref pV, .ref pR, .ref pU, .ref pG, .ref pW, .int num, .int q, .int er, .int ky, .int sm])), (pK, .inl (cI, 12, .inl (fun k => nI (kd k)))), (pX, .inl (cI, 12, .inl fx)), (pY, .inl (cI, 12, .inl fy)), (pV, .inl (cI, 768, .inl fv)), (pG, .inl (cZ, 3, .inl fg))] H := hP
            have hw : True := hw
            have hwr_3 := hw
            have hz9 : (smF q (vwIt (ahF fs) fg kd fx fy fv q (fun _ => 0) 12)) = (vwF (ahF fs) fg kd fx fy fv q sm) := (by unfold vwF; rw [if_neg c91, if_neg (by omega)])
            rw [hz9] at hP
            clear hz9
            have hP : va_P (dC, dI) vwCl [(v0, .inr (4, [.ref h0, .ref sc, .int (nI shn)])), (h0, .inr (3, [.ref hA, .ref hQ, .ref hM, .ref hF])), (hA, .inl (cI, 1140, .inl (ahF fs))), (hQ, .inl (cI, 16, .inl f1)), (hM, .inl (cI, 768, .inl (vwF (ahF fs) fg kd fx fy fv q sm))), (hF, .inl (cI, 64, .inl f2)), (sc, .inl (cI, 768, .inl fs)), (p0, .inr (2, [.ref pK, .ref pX, .ref pY, .ref pC, .ref pV, .ref pR, .ref pU, .ref pG, .ref pW, .int num, .int q, .int er, .int ky, .int sm])), (pK, .inl (cI, 12, .inl (fun k => nI (kd k)))), (pX, .inl (cI, 12, .inl fx)), (pY, .inl (cI, 12, .inl fy)), (pV, .inl (cI, 768, .inl fv)), (pG, .inl (cZ, 3, .inl fg))] H := hP
            exact W.vret hx hb hr (fun t ht hW => ⟨⟨(f1, f2), rfl, trivial, by show va_P _ _ _ t.heap; rw [ht]; exact hP.sub [2, 3, 4, 5] rfl⟩, hS.F ht⟩) hS.2.2 dX4_make_112
      · skip
        have c16 : ¬ 12 ≤ b := fun z => c16 ((nI_leI (a := 12) (b := b) (by omega) (by omega)).mpr z)
        refine lv_aload_n hx hb dX4_make_19 rfl (lv_at hl 2 rfl) ?_
        refine va_get (D := (dC, dI)) (ci := 2) (v := .ref pG) (C := RX2) (T := TX2) (N := 14) hx hb hts hinX2 hown hK hP 7 rfl rfl 7 (by decide) (hts (.fieldLink RX4 36 "GreyReel$Picture" "got" "[Z") (List.mem_of_getElem? (i := 3) (by decide +kernel))) (fun _ h9 => h9) rfl dX4_make_20 ?_
        refine lv_iload_n hx hb dX4_make_23 rfl (lv_at hl 0 rfl) ?_
        refine lv_iconst (v := 4) hx hb dX4_make_24 (by decide) ?_
        refine lv_idiv hx hb dX4_make_25 (by decide) ?_
        refine lv_topr (show _ = nI (b / 4) from pk_div (a := b) (d := 4) (by omega) (by omega) (by omega)) ?_
        refine wa_zald (D := (dC, dI)) (i := (b / 4)) (f := fg) hx hb hK hP 12 1 rfl rfl (by omega) (by omega) dX4_make_26 ?_
        refine lv_if_eq (tgt := 75) hx hb dX4_make_27 (by decide) (fun c27 => ?_) (fun c27 => ?_)
        · skip
          refine lv_aload_n hx hb dX4_make_75 rfl (lv_at hl 1 rfl) ?_
          refine lv_aload_n hx hb dX4_make_76 rfl (lv_at hl 2 rfl) ?_
          refine lv_iload_n hx hb dX4_make_77 rfl (lv_at hl 0 rfl) ?_
          refine va_callv (va_runV (As := [.ref p0, .int (nI b)]) (rest := []) ⟨hx, hb, hml, hown, hts⟩ (C_X4_conceal l dC dI cI cZ cP N0 tO v0 sc h0 hA hQ hM hF p0 pK pX pY pC pV pR pU pG pW num q er ky sm shn (ahF fs) m1 f2 fx fy fg b (by omega) hvx hvy) (cwV 2 hts gX4_make_X4_conceal rfl rfl rfl (by decide +kernel) ⟨Nat.le_of_ble_eq_true rfl, Nat.le_of_ble_eq_true rfl⟩) ⟨Gv.blind, va_recv hK hP (ci := 4) (q0 := 0) rfl rfl, Gv.of (hE.S hS hAN) ⟨(hP.sub [0, 1, 2, 4, 5, 7, 9, 10, 12] rfl), hN.sub [0, 1, 2, 4, 5, 7, 9, 10, 12] (by decide) rfl⟩⟩ rfl rfl hl.1 rfl (lv_room (Nat.le_of_ble_eq_true rfl)) dX4_make_78 ⟨Nat.le_of_ble_eq_true rfl, Nat.le_of_ble_eq_true rfl⟩) hS (fun q _ h => inL_sub [2, 3] rfl q h) (inL_sub [2, 3] rfl) (fun u t H locs ht hvm hw hB hz1 hk1 hS => ?_)
          rw [ht] at hB
          have hP := va_back (L := [hM, hF]) hP hN rfl [4, 5] rfl rfl (fun q h1 h2 => hk1 q h1 h2) hB
          clear hB hk1 hz1 hvm ht t
          have hP : va_P (dC, dI) vwCl [(v0, .inr (4, [.ref h0, .ref sc, .int (nI shn)])), (h0, .inr (3, [.ref hA, .ref hQ, .ref hM, .ref hF])), (hA, .inl (cI, 1140, .inl (ahF fs))), (hQ, .inl (cI, 16, .inl f1)), (hM, .inl (cI, 768, .inl (mdB (mvF (ahF fs) b (ccV fg fx b) (ccV fg fy b)) m1 b))), (hF, .inl (cI, 64, .inl (mvF (ahF fs) b (ccV fg fx b) (ccV fg fy b)))), (sc, .inl (cI, 768, .inl fs)), (p0, .inr (2, [.ref pK, .ref pX, .ref pY, .ref pC, .ref pV, .ref pR, .ref pU, .ref pG, .ref pW, .int num, .int q, .int er, .int ky, .int sm])), (pK, .inl (cI, 12, .inl (fun k => nI (kd k)))), (pX, .inl (cI, 12, .inl fx)), (pY, .inl (cI, 12, .inl fy)), (pV, .inl (cI, 768, .inl fv)), (pG, .inl (cZ, 3, .inl fg))] H := hP
          have hw : True := hw
          have hwr_4 := hw
          refine lv_iinc (v := nI (b + 1)) (lv' := [(2, .int (nI (b + 1))), (0, .ref v0), (1, .ref p0)]) hx hb dX4_make_81 hl (k := 0) rfl (show nI b + Int32.ofInt 1 = nI (b + 1) from nI_add _ _) (by decide) rfl (fun ls hl => ?_)
          refine lv_goto (tgt := 13) hx hb dX4_make_84 (by decide) ?_
          exact ih13 (b + 1) f1 (mvF (ahF fs) b (ccV fg fx b) (ccV fg fy b)) (mdB (mvF (ahF fs) b (ccV fg fx b) (ccV fg fy b)) m1 b) (by omega) (by omega) (by rw [em1]; show _ = vwB _ _ _ _ _ _ _ b _; unfold vwB; rw [if_pos c27]) _ _ _ hP hS (lv_sub hl [0, 1, 2] rfl)
        · skip
          refine lv_aload_n hx hb dX4_make_30 rfl (lv_at hl 1 rfl) ?_
          refine va_get (D := (dC, dI)) (ci := 4) (v := .ref h0) (C := RX4) (T := TX4) (N := 3) hx hb hts hinX4 hown hK hP 0 rfl rfl 0 (by decide) (hts (.fieldLink RX4 12 "GreyReel$Viewer" "studio" "LGreyReel$Studio;") (List.mem_of_getElem? (i := 1) (by decide +kernel))) (fun _ h9 => h9) rfl dX4_make_31 ?_
          refine lv_aload_n hx hb dX4_make_34 rfl (lv_at hl 2 rfl) ?_
          refine va_get (D := (dC, dI)) (ci := 2) (v := .ref pK) (C := RX2) (T := TX2) (N := 14) hx hb hts hinX2 hown hK hP 7 rfl rfl 0 (by decide) (hts (.fieldLink RX4 42 "GreyReel$Picture" "kind" "[I") (List.mem_of_getElem? (i := 4) (by decide +kernel))) (fun _ h9 => h9) rfl dX4_make_35 ?_
          refine lv_iload_n hx hb dX4_make_38 rfl (lv_at hl 0 rfl) ?_
          refine wa_iald (D := (dC, dI)) (i := b) (f := (fun k => nI (kd k))) hx hb hK hP 8 0 rfl rfl (by omega) (by omega) dX4_make_39 ?_
          refine lv_iload_n hx hb dX4_make_40 rfl (lv_at hl 0 rfl) ?_
          refine lv_aload_n hx hb dX4_make_41 rfl (lv_at hl 2 rfl) ?_
          refine va_get (D := (dC, dI)) (ci := 2) (v := .ref pX) (C := RX2) (T := TX2) (N := 14) hx hb hts hinX2 hown hK hP 7 rfl rfl 1 (by decide) (hts (.fieldLink RX4 45 "GreyReel$Picture" "vx" "[I") (List.mem_of_getElem? (i := 5) (by decide +kernel))) (fun _ h9 => h9) rfl dX4_make_42 ?_
          refine lv_iload_n hx hb dX4_make_45 rfl (lv_at hl 0 rfl) ?_
          refine wa_iald (D := (dC, dI)) (i := b) (f := fx) hx hb hK hP 9 0 rfl rfl (by omega) (by omega) dX4_make_46 ?_
          refine lv_aload_n hx hb dX4_make_47 rfl (lv_at hl 2 rfl) ?_
          refine va_get (D := (dC, dI)) (ci := 2) (v := .ref pY) (C := RX2) (T := TX2) (N := 14) hx hb hts hinX2 hown hK hP 7 rfl rfl 2 (by decide) (hts (.fieldLink RX4 48 "GreyReel$Picture" "vy" "[I") (List.mem_of_getElem? (i := 6) (by decide +kernel))) (fun _ h9 => h9) rfl dX4_make_48 ?_
          refine lv_iload_n hx hb dX4_make_51 rfl (lv_at hl 0 rfl) ?_
          refine wa_iald (D := (dC, dI)) (i := b) (f := fy) hx hb hK hP 10 0 rfl rfl (by omega) (by omega) dX4_make_52 ?_
          refine va_callv (va_runV (As := [.int (nI (kd b)), .int (nI b), .int (fx b), .int (fy b)]) (rest := []) ⟨hx, hb, hml, hown, hts⟩ (C_X3_foretell l dC dI cI cZ cP N0 tO h0 hA hQ hM hF (ahF fs) m1 f2 (kd b) b (fx b) (fy b) (by omega) (hkd b (by omega)) (hk3 b (by omega)) (hvx b (by omega)) (hvy b (by omega))) (cwV 4 hts gX4_make_X3_foretell rfl rfl rfl (by decide +kernel) ⟨Nat.le_of_ble_eq_true rfl, Nat.le_of_ble_eq_true rfl⟩) ⟨Gv.blind, va_recv hK hP (ci := 3) (q0 := 1) rfl rfl, Gv.of (hE.S hS hAN) ⟨(hP.sub [1, 2, 4, 5] rfl), hN.sub [1, 2, 4, 5] (by decide) rfl⟩⟩ rfl rfl hl.1 rfl (lv_room (Nat.le_of_ble_eq_true rfl)) dX4_make_53 ⟨Nat.le_of_ble_eq_true rfl, Nat.le_of_ble_eq_true rfl⟩) hS (fun q _ h => inL_sub [3] rfl q h) (inL_sub [3] rfl) (fun u t H locs ht hvm hw hB hz1 hk1 hS => ?_)
          rw [ht] at hB
          have hP := va_back (L := [hF]) hP hN rfl [5] rfl rfl (fun q h1 h2 => hk1 q h1 h2) hB
          clear hB hk1 hz1 hvm ht t
          have hP : va_P (dC, dI) vwCl [(v0, .inr (4, [.ref h0, .ref sc, .int (nI shn)])), (h0, .inr (3, [.ref hA, .ref hQ, .ref hM, .ref hF])), (hA, .inl (cI, 1140, .inl (ahF fs))), (hQ, .inl (cI, 16, .inl f1)), (hM, .inl (cI, 768, .inl m1)), (hF, .inl (cI, 64, .inl (ftF (kd b) b (fx b) (fy b) (ahF fs) m1))), (sc, .inl (cI, 768, .inl fs)), (p0, .inr (2, [.ref pK, .ref pX, .ref pY, .ref pC, .ref pV, .ref pR, .ref pU, .ref pG, .ref pW, .int num, .int q, .int er, .int ky, .int sm])), (pK, .inl (cI, 12, .inl (fun k => nI (kd k)))), (pX, .inl (cI, 12, .inl fx)), (pY, .inl (cI, 12, .inl fy)), (pV, .inl (cI, 768, .inl fv)), (pG, .inl (cZ, 3, .inl fg))] H := hP
          have hw : True := hw
          have hwr_5 := hw
          refine lv_aload_n hx hb dX4_make_56 rfl (lv_at hl 1 rfl) ?_
          refine va_get (D := (dC, dI)) (ci := 4) (v := .ref h0) (C := RX4) (T := TX4) (N := 3) hx hb hts hinX4 hown hK hP 0 rfl rfl 0 (by decide) (hts (.fieldLink RX4 12 "GreyReel$Viewer" "studio" "LGreyReel$Studio;") (List.mem_of_getElem? (i := 1) (by decide +kernel))) (fun _ h9 => h9) rfl dX4_make_57 ?_
          refine lv_iload_n hx hb dX4_make_60 rfl (lv_at hl 0 rfl) ?_
          refine lv_aload_n hx hb dX4_make_61 rfl (lv_at hl 2 rfl) ?_
          refine va_get (D := (dC, dI)) (ci := 2) (v := .int q) (C := RX2) (T := TX2) (N := 14) hx hb hts hinX2 hown hK hP 7 rfl rfl 10 (by decide) (hts (.fieldLink RX4 55 "GreyReel$Picture" "q" "I") (List.mem_of_getElem? (i := 7) (by decide +kernel))) (fun _ h9 => h9) rfl dX4_make_62 ?_
          refine lv_aload_n hx hb dX4_make_65 rfl (lv_at hl 2 rfl) ?_
          refine va_get (D := (dC, dI)) (ci := 2) (v := .ref pV) (C := RX2) (T := TX2) (N := 14) hx hb hts hinX2 hown hK hP 7 rfl rfl 4 (by decide) (hts (.fieldLink RX4 58 "GreyReel$Picture" "level" "[I") (List.mem_of_getElem? (i := 8) (by decide +kernel))) (fun _ h9 => h9) rfl dX4_make_66 ?_
          refine va_callv (va_runV (As := [.int (nI b), .int q, .ref pV]) (rest := []) ⟨hx, hb, hml, hown, hts⟩ (C_X3_makeBlock l dC dI cI cZ cP N0 tO h0 hA hQ hM hF pV f1 m1 (ftF (kd b) b (fx b) (fy b) (ahF fs) m1) fv b q (by omega)) (cwV 3 hts gX4_make_X3_makeBlock rfl rfl rfl (by decide +kernel) ⟨Nat.le_of_ble_eq_true rfl, Nat.le_of_ble_eq_true rfl⟩) ⟨Gv.blind, va_recv hK hP (ci := 3) (q0 := 1) rfl rfl, Gv.of (hE.S hS hAN) ⟨(hP.sub [1, 3, 4, 5, 11] rfl), hN.sub [1, 3, 4, 5, 11] (by decide) rfl⟩⟩ rfl rfl hl.1 rfl (lv_room (Nat.le_of_ble_eq_true rfl)) dX4_make_69 ⟨Nat.le_of_ble_eq_true rfl, Nat.le_of_ble_eq_true rfl⟩) hS (fun q _ h => inL_sub [1, 2] rfl q h) (inL_sub [1, 2] rfl) (fun u t H locs ht hvm hw hB hz1 hk1 hS => ?_)
          obtain ⟨fz_7, eu⟩ : ∃ z, z = u := ⟨_, rfl⟩
          subst eu
          rw [ht] at hB
          have hP := va_back (L := [hQ, hM]) hP hN rfl [3, 4] rfl rfl (fun q h1 h2 => hk1 q h1 h2) hB
          clear hB hk1 hz1 hvm ht t
          have hP : va_P (dC, dI) vwCl [(v0, .inr (4, [.ref h0, .ref sc, .int (nI shn)])), (h0, .inr (3, [.ref hA, .ref hQ, .ref hM, .ref hF])), (hA, .inl (cI, 1140, .inl (ahF fs))), (hQ, .inl (cI, 16, .inl fz_7)), (hM, .inl (cI, 768, .inl (mdB (mkF (ftF (kd b) b (fx b) (fy b) (ahF fs) m1) fv b q) m1 b))), (hF, .inl (cI, 64, .inl (ftF (kd b) b (fx b) (fy b) (ahF fs) m1))), (sc, .inl (cI, 768, .inl fs)), (p0, .inr (2, [.ref pK, .ref pX, .ref pY, .ref pC, .ref pV, .ref pR, .ref pU, .ref pG, .ref pW, .int num, .int q, .int er, .int ky, .int sm])), (pK, .inl (cI, 12, .inl (fun k => nI (kd k)))), (pX, .inl (cI, 12, .inl fx)), (pY, .inl (cI, 12, .inl fy)), (pV, .inl (cI, 768, .inl fv)), (pG, .inl (cZ, 3, .inl fg))] H := hP
          have hw : True := hw
          have hwr_6 := hw
          refine lv_goto (tgt := 81) hx hb dX4_make_72 (by decide) ?_
          refine lv_iinc (v := nI (b + 1)) (lv' := [(2, .int (nI (b + 1))), (0, .ref v0), (1, .ref p0)]) hx hb dX4_make_81 hl (k := 0) rfl (show nI b + Int32.ofInt 1 = nI (b + 1) from nI_add _ _) (by decide) rfl (fun ls hl => ?_)
          refine lv_goto (tgt := 13) hx hb dX4_make_84 (by decide) ?_
          exact ih13 (b + 1) fz_7 (ftF (kd b) b (fx b) (fy b) (ahF fs) m1) (mdB (mkF (ftF (kd b) b (fx b) (fy b) (ahF fs) m1) fv b q) m1 b) (by omega) (by omega) (by rw [em1]; show _ = vwB _ _ _ _ _ _ _ b _; unfold vwB; rw [if_neg c27]) _ _ _ hP hS (lv_sub hl [0, 1, 2] rfl)
  exact L13 (12 + 1) 0 fq ff fm (by omega) (Nat.lt_succ_self _) rfl _ _ _ hP hS (lv_sub hl [0, 1, 2] rfl)
set_option maxHeartbeats 4000000 in
set_option maxRecDepth 100000 in
theorem C_X4_takeMade (l : Launch) (dC : Nat → ClassId) (dI : Nat → Nat → Nat) (cI cZ cP : ClassId) (N0 tO : Nat) (v0 sc : Nat) (h0 hA hQ hM hF : Nat) (shn : Nat) (fm fs : Nat → Int32)  : Met l yX4_takeMade wsX4_takeMade ({ frames := 1, cells := 0, slots := 0, locals := 32 } : Room) (Gv (dC, dI) cI cZ cP N0 tO [.ref v0] (fun H => va_P (dC, dI) vwCl [(v0, .inr (4, [.ref h0, .ref sc, .int (nI shn)])), (h0, .inr (3, [.ref hA, .ref hQ, .ref hM, .ref hF])), (hM, .inl (cI, 768, .inl fm)), (sc, .inl (cI, 768, .inl fs))] H ∧ AD N0 [v0, h0, hM, sc])) (va_Qv (fun (_ : Unit) => True) (fun (_ : Unit) (t : State) => va_P (dC, dI) vwCl [(v0, .inr (4, [.ref h0, .ref sc, .int (nI (shn + 1))])), (h0, .inr (3, [.ref hA, .ref hQ, .ref hM, .ref hF])), (hM, .inl (cI, 768, .inl fm)), (sc, .inl (cI, 768, .inl fm))] t.heap) (inL [v0, h0, hM, sc])) 0 0 (inL [v0, h0, hM, sc]) := by
  refine Met.ofW (cc := cX4_takeMade) (maxL := 1) (ret := none) (by decide) rfl ?_
  intro p e s m args below meth c s₁ B hml hv
  obtain ⟨rfl, hE, hP, hN⟩ := hv
  have hx := B.exec
  have hb := B.bytes
  have hr := B.returns
  have hts := atoms_spec (ws := wsX4_takeMade) B.pre
  have hown : s.vm.findClass RX4 = some m.cls := findClass_of_methodNamed B.named
  have hlocks := B.notSynchronized
  have hK := hE.1
  have hNS := hE.2.1
  have hS : va_S (inL [v0, h0, hM, sc]) s.heap s.heap [] := va_S.rf
  have hAN : ∀ q : Nat, (inL [v0, h0, hM, sc]) q → N0 ≤ q := fun q h => hN.in [0, 1, 2, 3] rfl q h
  have hP : va_P (dC, dI) vwCl [(v0, .inr (4, [.ref h0, .ref sc, .int (nI shn)])), (h0, .inr (3, [.ref hA, .ref hQ, .ref hM, .ref hF])), (hM, .inl (cI, 768, .inl fm)), (sc, .inl (cI, 768, .inl fs))] s.heap := hP
  have hinX3 : ∀ w ∈ wsX30, w ∈ wsX4_takeMade := by decide +kernel
  have hinX4 : ∀ w ∈ wsX40, w ∈ wsX4_takeMade := by decide +kernel
  have hl := lv_entry ([.ref v0]) (n := 1) (Nat.le_of_ble_eq_true rfl)
  rw [lg_entry_eq]
  generalize (lg_sl ([.ref v0]) ++ List.replicate (1 - (lg_sl ([.ref v0])).length) Slot.unset).toArray = ls at hl ⊢
  have hl : lv_has ls 1 [(0, .ref v0)] := hl
  refine lv_aload_n hx hb dX4_takeMade_0 rfl (lv_at hl 0 rfl) ?_
  refine va_get (D := (dC, dI)) (ci := 4) (v := .ref h0) (C := RX4) (T := TX4) (N := 3) hx hb hts hinX4 hown hK hP 0 rfl rfl 0 (by decide) (hts (.fieldLink RX4 12 "GreyReel$Viewer" "studio" "LGreyReel$Studio;") (List.mem_of_getElem? (i := 1) (by decide +kernel))) (fun _ h9 => h9) rfl dX4_takeMade_1 ?_
  refine va_get (D := (dC, dI)) (ci := 3) (v := .ref hM) (C := RX3) (T := TX3) (N := 4) hx hb hts hinX3 hown hK hP 1 rfl rfl 2 (by decide) (hts (.fieldLink RX4 84 "GreyReel$Studio" "made" "[I") (List.mem_of_getElem? (i := 2) (by decide +kernel))) (fun _ h9 => h9) rfl dX4_takeMade_4 ?_
  refine lv_iconst (v := 0) hx hb dX4_takeMade_7 (by decide) ?_
  refine lv_aload_n hx hb dX4_takeMade_8 rfl (lv_at hl 0 rfl) ?_
  refine va_get (D := (dC, dI)) (ci := 4) (v := .ref sc) (C := RX4) (T := TX4) (N := 3) hx hb hts hinX4 hown hK hP 0 rfl rfl 1 (by decide) (hts (.fieldLink RX4 18 "GreyReel$Viewer" "screen" "[I") (List.mem_of_getElem? (i := 3) (by decide +kernel))) (fun _ h9 => h9) rfl dX4_takeMade_9 ?_
  refine lv_iconst (v := 0) hx hb dX4_takeMade_12 (by decide) ?_
  refine lv_sipush (v := 768) hx hb dX4_takeMade_13 (by decide +kernel) ?_
  refine va_copyi hx hb (hml.trans hl.1.symm) hown (hts (.methodLink RX4 87 arraycopyName) (List.mem_of_getElem? (i := 4) (by decide +kernel))) (hts (.native arraycopyName) (List.mem_of_getElem? (i := 5) (by decide +kernel))) (hts (.static arraycopyName) (List.mem_of_getElem? (i := 6) (by decide +kernel))) (hts (.initialized "java/lang/System") (List.mem_of_getElem? (i := 7) (by decide +kernel))) hK hP (hN.DA rfl (fun _ h => h)) hS 2 3 0 0 rfl rfl rfl rfl rfl (by decide) (by decide) (by decide) (by decide) (by decide) (fun _ _ => rfl) (Nat.le_of_ble_eq_true rfl) (Nat.le_of_ble_eq_true rfl) dX4_takeMade_16 (fun H locs hP _ hS => ?_)
  have hP := hP.cong 3 fm rfl (fun k hk => cpy_768 _ _ hk)
  have hP : va_P (dC, dI) vwCl [(v0, .inr (4, [.ref h0, .ref sc, .int (nI shn)])), (h0, .inr (3, [.ref hA, .ref hQ, .ref hM, .ref hF])), (hM, .inl (cI, 768, .inl fm)), (sc, .inl (cI, 768, .inl fm))] H := hP
  refine lv_aload_n hx hb dX4_takeMade_19 rfl (lv_at hl 0 rfl) ?_
  refine lv_dup hx hb dX4_takeMade_20 rfl ?_
  refine va_get (D := (dC, dI)) (ci := 4) (v := .int (nI shn)) (C := RX4) (T := TX4) (N := 3) hx hb hts hinX4 hown hK hP 0 rfl rfl 2 (by decide) (hts (.fieldLink RX4 22 "GreyReel$Viewer" "shownPictures" "I") (List.mem_of_getElem? (i := 8) (by decide +kernel))) (fun _ h9 => h9) rfl dX4_takeMade_21 ?_
  refine lv_iconst (v := 1) hx hb dX4_takeMade_24 (by decide) ?_
  refine lv_iadd hx hb dX4_takeMade_25 ?_
  refine lv_topr (show _ = nI (shn + 1) from nI_add shn 1) ?_
  refine wa_put (D := (dC, dI)) (ci := 4) (v := .int (nI (shn + 1))) (ty := .int) (C := RX4) (T := TX4) (N := 3) hx hb hts hinX4 tyX4 tyX4_ok nmX4 hown hK hP (hN.D rfl) hS (List.mem_of_getElem? (i := 0) rfl) 0 rfl rfl 2 (by decide) (hts (.fieldLink RX4 22 "GreyReel$Viewer" "shownPictures" "I") (List.mem_of_getElem? (i := 8) (by decide +kernel))) (fun _ h9 => h9) rfl (by decide +kernel) rfl rfl (Nat.le_of_ble_eq_true rfl) dX4_takeMade_26 (fun H locs hP hS => ?_)
  have hP : va_P (dC, dI) vwCl [(v0, .inr (4, [.ref h0, .ref sc, .int (nI (shn + 1))])), (h0, .inr (3, [.ref hA, .ref hQ, .ref hM, .ref hF])), (hM, .inl (cI, 768, .inl fm)), (sc, .inl (cI, 768, .inl fm))] H := hP
  exact W.vret hx hb hr (fun t ht hW => ⟨⟨(), rfl, trivial, by show va_P _ _ _ t.heap; rw [ht]; exact hP.sub [0, 1, 2, 3] rfl⟩, hS.F ht⟩) hS.2.2 dX4_takeMade_29
