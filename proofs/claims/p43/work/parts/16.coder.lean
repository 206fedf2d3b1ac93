abbrev BST : Type := Nat × Int32 × Int32 × Int32
def tkF (fc fa fm : Nat → Int32) (b kd : Nat) (ex : Int32) (S : BST) : BST :=
  if S.2.2.2 ≤ dfF fc (ftF kd b 0 0 fa fm) b 64 + ex then S else (kd, 0, 0, dfF fc (ftF kd b 0 0 fa fm) b 64 + ex)
def tvW (q ex ey vx vy : Int32) : Int32 := q * (2 + (absI (vx - ex) + absI (vy - ey)))
def tvF (fc fa : Nat → Int32) (b : Nat) (q ex ey vx vy : Int32) (S : BST) : BST :=
  if S.2.2.2 ≤ tvW q ex ey vx vy + dmL fc fa b vx vy (S.2.2.2 - tvW q ex ey vx vy) 8 then S else (1, vx, vy, tvW q ex ey vx vy + dmL fc fa b vx vy (S.2.2.2 - tvW q ex ey vx vy) 8)
-- every second vector, then those around the best
def vI (i : Nat) : Int32 := nI (2 * i) - 6
theorem vI_gt : ∀ i, i ≤ 7 → 6 < vI i → i = 7 := by decide +kernel
theorem vI_ok0 : ∀ i, i < 7 → ¬ vI i < -6 ∧ vI i ≤ 6 := by decide +kernel
theorem vI_ok {i : Nat} (h : i ≤ 7) (c : ¬ 6 < vI i) : i < 7 ∧ vOK (vI i) := by
  have h7 : i < 7 := by
    rcases Nat.lt_or_ge i 7 with q | q
    · exact q
    · exact absurd (show (6 : Int32) < vI 7 by decide) (by rw [show (7 : Nat) = i by omega]; exact c)
  exact ⟨h7, vI_ok0 i h7⟩
theorem vI_s (i : Nat) : vI i + Int32.ofInt 2 = vI (i + 1) := by
  unfold vI
  rw [show 2 * (i + 1) = 2 * i + 2 by omega, ← nI_add]
  have : Int32.ofInt 2 = nI 2 := by decide
  rw [this]
  simp only [Int32.sub_eq_add_neg]
  rw [Int32.add_assoc, Int32.add_comm (-6), ← Int32.add_assoc]
def wI (m : Int32) (i : Nat) : Int32 := m - 1 + nI i
theorem wI_dec : ∀ j, j < 13 → ∀ i, i ≤ 3 → ((nI j - 6) + 1 < wI (nI j - 6) i ↔ i = 3) := by decide +kernel
theorem wI_gt {m : Int32} (hm : vOK m) {i : Nat} (hi : i ≤ 3) : m + 1 < wI m i ↔ i = 3 := by
  obtain ⟨j, hj, rfl⟩ := vOK_ex hm
  exact wI_dec j hj i hi
theorem wI_lt {m : Int32} (hm : vOK m) {i : Nat} (hi : i ≤ 3) (h : ¬ m + 1 < wI m i) : i < 3 := by
  rcases Nat.lt_or_ge i 3 with z | z
  · exact z
  · exact absurd ((wI_gt hm hi).mpr (by omega)) h
theorem wI_s (m : Int32) (i : Nat) : wI m i + Int32.ofInt 1 = wI m (i + 1) := by
  unfold wI
  rw [← nI_add, Int32.add_assoc]
  rfl
theorem wI_0 (m : Int32) : m - 1 = wI m 0 := by
  unfold wI
  exact (Int32.add_zero _).symm
theorem isW_ok {r v : Int32} (h : r = isWithinI v (-6) 6) (c : ¬ r = 0) : vOK v := by
  subst h
  unfold isWithinI at c
  split at c
  · exact absurd rfl c
  · split at c
    · exact absurd rfl c
    · rename_i h1 h2
      refine ⟨h1, ?_⟩
      rw [Int32.lt_iff_toInt_lt] at h2
      rw [Int32.le_iff_toInt_le]
      omega
def svX (fc fa : Nat → Int32) (b : Nat) (q ex ey : Int32) (i : Nat) (S : BST) : Nat → BST
  | 0 => S
  | j + 1 => tvF fc fa b q ex ey (vI j) (vI i) (svX fc fa b q ex ey i S j)
def svY (fc fa : Nat → Int32) (b : Nat) (q ex ey : Int32) (S : BST) : Nat → BST
  | 0 => S
  | i + 1 => svX fc fa b q ex ey i (svY fc fa b q ex ey S i) 7
def twF (fc fa : Nat → Int32) (b : Nat) (q ex ey vx vy : Int32) (S : BST) : BST :=
  if isWithinI vx (-6) 6 = 0 then S else if isWithinI vy (-6) 6 = 0 then S else tvF fc fa b q ex ey vx vy S
def swX (fc fa : Nat → Int32) (b : Nat) (q ex ey mx my : Int32) (i : Nat) (S : BST) : Nat → BST
  | 0 => S
  | j + 1 => twF fc fa b q ex ey (wI mx j) (wI my i) (swX fc fa b q ex ey mx my i S j)
def swY (fc fa : Nat → Int32) (b : Nat) (q ex ey mx my : Int32) (S : BST) : Nat → BST
  | 0 => S
  | i + 1 => swX fc fa b q ex ey mx my i (swY fc fa b q ex ey mx my S i) 3
def svF (fc fa : Nat → Int32) (b : Nat) (q ex ey : Int32) (S : BST) : BST :=
  swY fc fa b q ex ey (svY fc fa b q ex ey S 7).2.1 (svY fc fa b q ex ey S 7).2.2.1 (svY fc fa b q ex ey S 7) 3
def stOK (S : BST) : Prop := vOK S.2.1 ∧ vOK S.2.2.1
theorem tvF_ok {fc fa : Nat → Int32} {b : Nat} {q ex ey vx vy : Int32} {S : BST} (hS : stOK S) (hx : vOK vx) (hy : vOK vy) : stOK (tvF fc fa b q ex ey vx vy S) := by
  unfold tvF
  split
  · exact hS
  · exact ⟨hx, hy⟩
theorem svX_ok {fc fa : Nat → Int32} {b : Nat} {q ex ey : Int32} {i : Nat} {S : BST} (hS : stOK S) (hi : i < 7) : ∀ j, j ≤ 7 → stOK (svX fc fa b q ex ey i S j)
  | 0, _ => hS
  | j + 1, hj => tvF_ok (svX_ok hS hi j (by omega)) (vI_ok0 j (by omega)) (vI_ok0 i hi)
theorem svY_ok {fc fa : Nat → Int32} {b : Nat} {q ex ey : Int32} {S : BST} (hS : stOK S) : ∀ i, i ≤ 7 → stOK (svY fc fa b q ex ey S i)
  | 0, _ => hS
  | i + 1, hi => svX_ok (svY_ok hS i (by omega)) (by omega) 7 (Nat.le_refl _)
theorem updN_eq (kd : Nat → Nat) (b k : Nat) : upd (fun j => nI (kd j)) b (nI k) = fun j => nI (va_up kd b k j) := by
  funext j
  unfold upd va_up
  by_cases h : j = b
  · rw [if_pos h, if_pos h]
  · rw [if_neg h, if_neg h]
set_option maxHeartbeats 4000000 in
set_option maxRecDepth 100000 in
theorem C_X0_take (l : Launch) (dC : Nat → ClassId) (dI : Nat → Nat → Nat) (cI cZ cP : ClassId) (N0 tO : Nat) (c0 h0 : Nat) (S : BST) (kd : Nat) (vx vy pr : Int32)  : Met l yX0_take wsX0_take ({ frames := 0, cells := 0, slots := 0, locals := 0 } : Room) (Gv (dC, dI) cI cZ cP N0 tO [.ref c0, .int (nI kd), .int vx, .int vy, .int pr] (fun H => va_P (dC, dI) vwCl [(c0, .inr (0, [.ref h0, .int (nI S.1), .int S.2.1, .int S.2.2.1, .int S.2.2.2]))] H ∧ AD N0 [c0])) (va_Qv (fun (_ : Unit) => True) (fun (_ : Unit) (t : State) => va_P (dC, dI) vwCl [(c0, .inr (0, [.ref h0, .int (nI kd), .int vx, .int vy, .int pr]))] t.heap) (inL [c0])) 0 0 (inL [c0]) := by
  refine Met.ofW (cc := cX0_take) (maxL := 5) (ret := none) (by decide) rfl ?_
  intro p e s m args below meth c s₁ B hml hv
  obtain ⟨rfl, hE, hP, hN⟩ := hv
  have hx := B.exec
  have hb := B.bytes
  have hr := B.returns
  have hts := atoms_spec (ws := wsX0_take) B.pre
  have hown : s.vm.findClass RX0 = some m.cls := findClass_of_methodNamed B.named
  have hlocks := B.notSynchronized
  have hK := hE.1
  have hNS := hE.2.1
  have hS : va_S (inL [c0]) s.heap s.heap [] := va_S.rf
  have hAN : ∀ q : Nat, (inL [c0]) q → N0 ≤ q := fun q h => hN.in [0] rfl q h
  have hP : va_P (dC, dI) vwCl [(c0, .inr (0, [.ref h0, .int (nI S.1), .int S.2.1, .int S.2.2.1, .int S.2.2.2]))] s.heap := hP
  have hinX0 : ∀ w ∈ wsX00, w ∈ wsX0_take := by decide +kernel
  have hl := lv_entry ([.ref c0, .int (nI kd), .int vx, .int vy, .int pr]) (n := 5) (Nat.le_of_ble_eq_true rfl)
  rw [lg_entry_eq]
  generalize (lg_sl ([.ref c0, .int (nI kd), .int vx, .int vy, .int pr]) ++ List.replicate (5 - (lg_sl ([.ref c0, .int (nI kd), .int vx, .int vy, .int pr])).length) Slot.unset).toArray = ls at hl ⊢
  have hl : lv_has ls 5 [(0, .ref c0), (1, .int (nI kd)), (2, .int vx), (3, .int vy), (4, .int pr)] := hl
  refine lv_aload_n hx hb dX0_take_0 rfl (lv_at hl 0 rfl) ?_
  refine lv_iload_n hx hb dX0_take_1 rfl (lv_at hl 1 rfl) ?_
  refine wa_put (D := (dC, dI)) (ci := 0) (v := .int (nI kd)) (ty := .int) (C := RX0) (T := TX0) (N := 5) hx hb hts hinX0 tyX0 tyX0_ok nmX0 hown hK hP (hN.D rfl) hS (List.mem_of_getElem? (i := 0) rfl) 0 rfl rfl 1 (by decide) (hts (.fieldLink RX0 18 "GreyReel$Coder" "bestKind" "I") (List.mem_of_getElem? (i := 1) (by decide +kernel))) (fun _ h9 => h9) rfl (by decide +kernel) rfl rfl (Nat.le_of_ble_eq_true rfl) dX0_take_2 (fun H locs hP hS => ?_)
  have hP : va_P (dC, dI) vwCl [(c0, .inr (0, [.ref h0, .int (nI kd), .int S.2.1, .int S.2.2.1, .int S.2.2.2]))] H := hP
  refine lv_aload_n hx hb dX0_take_5 rfl (lv_at hl 0 rfl) ?_
  refine lv_iload_n hx hb dX0_take_6 rfl (lv_at hl 2 rfl) ?_
  refine wa_put (D := (dC, dI)) (ci := 0) (v := .int vx) (ty := .int) (C := RX0) (T := TX0) (N := 5) hx hb hts hinX0 tyX0 tyX0_ok nmX0 hown hK hP (hN.D rfl) hS (List.mem_of_getElem? (i := 0) rfl) 0 rfl rfl 2 (by decide) (hts (.fieldLink RX0 22 "GreyReel$Coder" "bestX" "I") (List.mem_of_getElem? (i := 2) (by decide +kernel))) (fun _ h9 => h9) rfl (by decide +kernel) rfl rfl (Nat.le_of_ble_eq_true rfl) dX0_take_7 (fun H locs hP hS => ?_)
  have hP : va_P (dC, dI) vwCl [(c0, .inr (0, [.ref h0, .int (nI kd), .int vx, .int S.2.2.1, .int S.2.2.2]))] H := hP
  refine lv_aload_n hx hb dX0_take_10 rfl (lv_at hl 0 rfl) ?_
  refine lv_iload_n hx hb dX0_take_11 rfl (lv_at hl 3 rfl) ?_
  refine wa_put (D := (dC, dI)) (ci := 0) (v := .int vy) (ty := .int) (C := RX0) (T := TX0) (N := 5) hx hb hts hinX0 tyX0 tyX0_ok nmX0 hown hK hP (hN.D rfl) hS (List.mem_of_getElem? (i := 0) rfl) 0 rfl rfl 3 (by decide) (hts (.fieldLink RX0 25 "GreyReel$Coder" "bestY" "I") (List.mem_of_getElem? (i := 3) (by decide +kernel))) (fun _ h9 => h9) rfl (by decide +kernel) rfl rfl (Nat.le_of_ble_eq_true rfl) dX0_take_12 (fun H locs hP hS => ?_)
  have hP : va_P (dC, dI) vwCl [(c0, .inr (0, [.ref h0, .int (nI kd), .int vx, .int vy, .int S.2.2.2]))] H := hP
  refine lv_aload_n hx hb dX0_take_15 rfl (lv_at hl 0 rfl) ?_
  refine lv_iload hx hb dX0_take_16 (lv_at hl 4 rfl) ?_
  refine wa_put (D := (dC, dI)) (ci := 0) (v := .int pr) (ty := .int) (C := RX0) (T := TX0) (N := 5) hx hb hts hinX0 tyX0 tyX0_ok nmX0 hown hK hP (hN.D rfl) hS (List.mem_of_getElem? (i := 0) rfl) 0 rfl rfl 4 (by decide) (hts (.fieldLink RX0 28 "GreyReel$Coder" "bestPrice" "I") (List.mem_of_getElem? (i := 4) (by decide +kernel))) (fun _ h9 => h9) rfl (by decide +kernel) rfl rfl (Nat.le_of_ble_eq_true rfl) dX0_take_18 (fun H locs hP hS => ?_)
  have hP : va_P (dC, dI) vwCl [(c0, .inr (0, [.ref h0, .int (nI kd), .int vx, .int vy, .int pr]))] H := hP
  exact W.vret hx hb hr (fun t ht hW => ⟨⟨(), rfl, trivial, by show va_P _ _ _ t.heap; rw [ht]; exact hP.sub [0] rfl⟩, hS.F ht⟩) hS.2.2 dX0_take_21
set_option maxHeartbeats 4000000 in
set_option maxRecDepth 100000 in
theorem C_X0_tryKind (l : Launch) (dC : Nat → ClassId) (dI : Nat → Nat → Nat) (cI cZ cP : ClassId) (N0 tO : Nat) (c0 : Nat) (h0 hA hQ hM hF : Nat) (hC : Nat) (S : BST) (fc fa fm ff : Nat → Int32) (kd b : Nat) (ex : Int32) (h1 : b < 12) (hkd : kd < 5) (h2 : 3 ≤ kd → ¬ b % 4 = 0) : Met l yX0_tryKind wsX0_tryKind ({ frames := 3, cells := 0, slots := 0, locals := 79 } : Room) (Gv (dC, dI) cI cZ cP N0 tO [.ref c0, .int (nI kd), .ref hC, .int (nI b), .int ex] (fun H => va_P (dC, dI) vwCl [(c0, .inr (0, [.ref h0, .int (nI S.1), .int S.2.1, .int S.2.2.1, .int S.2.2.2])), (h0, .inr (3, [.ref hA, .ref hQ, .ref hM, .ref hF])), (hA, .inl (cI, 1140, .inl fa)), (hM, .inl (cI, 768, .inl fm)), (hF, .inl (cI, 64, .inl ff)), (hC, .inl (cI, 768, .inl fc))] H ∧ AD N0 [c0, h0, hA, hM, hF, hC])) (va_Qv (fun (S1 : BST) => S1 = tkF fc fa fm b kd ex S) (fun (S1 : BST) (t : State) => va_P (dC, dI) vwCl [(c0, .inr (0, [.ref h0, .int (nI S1.1), .int S1.2.1, .int S1.2.2.1, .int S1.2.2.2])), (hF, .inl (cI, 64, .inl (ftF kd b 0 0 fa fm)))] t.heap) (inL [c0, hF])) 0 0 (inL [c0, hF]) := by
  refine Met.ofW (cc := cX0_tryKind) (maxL := 6) (ret := none) (by decide) rfl ?_
  intro p e s m args below meth c s₁ B hml hv
  obtain ⟨rfl, hE, hP, hN⟩ := hv
  have hx := B.exec
  have hb := B.bytes
  have hr := B.returns
  have hts := atoms_spec (ws := wsX0_tryKind) B.pre
  have hown : s.vm.findClass RX0 = some m.cls := findClass_of_methodNamed B.named
  have hlocks := B.notSynchronized
  have hK := hE.1
  have hNS := hE.2.1
  have hS : va_S (inL [c0, hF]) s.heap s.heap [] := va_S.rf
  have hAN : ∀ q : Nat, (inL [c0, hF]) q → N0 ≤ q := fun q h => hN.in [0, 4] rfl q h
  have hP : va_P (dC, dI) vwCl [(c0, .inr (0, [.ref h0, .int (nI S.1), .int S.2.1, .int S.2.2.1, .int S.2.2.2])), (h0, .inr (3, [.ref hA, .ref hQ, .ref hM, .ref hF])), (hA, .inl (cI, 1140, .inl fa)), (hM, .inl (cI, 768, .inl fm)), (hF, .inl (cI, 64, .inl ff)), (hC, .inl (cI, 768, .inl fc))] s.heap := hP
  have hinX0 : ∀ w ∈ wsX00, w ∈ wsX0_tryKind := by decide +kernel
  have hl := lv_entry ([.ref c0, .int (nI kd), .ref hC, .int (nI b), .int ex]) (n := 6) (Nat.le_of_ble_eq_true rfl)
  rw [lg_entry_eq]
  generalize (lg_sl ([.ref c0, .int (nI kd), .ref hC, .int (nI b), .int ex]) ++ List.replicate (6 - (lg_sl ([.ref c0, .int (nI kd), .ref hC, .int (nI b), .int ex])).length) Slot.unset).toArray = ls at hl ⊢
  have hl : lv_has ls 6 [(0, .ref c0), (1, .int (nI kd)), (2, .ref hC), (3, .int (nI b)), (4, .int ex)] := hl
  refine lv_aload_n hx hb dX0_tryKind_0 rfl (lv_at hl 0 rfl) ?_
  refine va_get (D := (dC, dI)) (ci := 0) (v := .ref h0) (C := RX0) (T := TX0) (N := 5) hx hb hts hinX0 hown hK hP 0 rfl rfl 0 (by decide) (hts (.fieldLink RX0 12 "GreyReel$Coder" "studio" "LGreyReel$Studio;") (List.mem_of_getElem? (i := 1) (by decide +kernel))) (fun _ h9 => h9) rfl dX0_tryKind_1 ?_
  refine lv_iload_n hx hb dX0_tryKind_4 rfl (lv_at hl 1 rfl) ?_
  refine lv_iload_n hx hb dX0_tryKind_5 rfl (lv_at hl 3 rfl) ?_
  refine lv_iconst (v := 0) hx hb dX0_tryKind_6 (by decide) ?_
  refine lv_iconst (v := 0) hx hb dX0_tryKind_7 (by decide) ?_
  refine va_callv (va_runV (As := [.int (nI kd), .int (nI b), .int 0, .int 0]) (rest := []) ⟨hx, hb, hml, hown, hts⟩ (C_X3_foretell l dC dI cI cZ cP N0 tO h0 hA hQ hM hF fa fm ff kd b 0 0 h1 hkd h2 ⟨by decide, by decide⟩ ⟨by decide, by decide⟩) (cwV 4 hts gX0_tryKind_X3_foretell rfl rfl rfl (by decide +kernel) ⟨Nat.le_of_ble_eq_true rfl, Nat.le_of_ble_eq_true rfl⟩) ⟨Gv.blind, va_recv hK hP (ci := 3) (q0 := 1) rfl rfl, Gv.of (hE.S hS hAN) ⟨(hP.sub [1, 2, 3, 4] rfl), hN.sub [1, 2, 3, 4] (by decide) rfl⟩⟩ rfl rfl hl.1 rfl (lv_room (Nat.le_of_ble_eq_true rfl)) dX0_tryKind_8 ⟨Nat.le_of_ble_eq_true rfl, Nat.le_of_ble_eq_true rfl⟩) hS (fun q _ h => inL_sub [1] rfl q h) (inL_sub [1] rfl) (fun u t H locs ht hvm hw hB hz1 hk1 hS => ?_)
  rw [ht] at hB
  have hP := va_back (L := [hF]) hP hN rfl [4] rfl rfl (fun q h1 h2 => hk1 q h1 h2) hB
  clear hB hk1 hz1 hvm ht t
  have hP : va_P (dC, dI) vwCl [(c0, .inr (0, [.ref h0, .int (nI S.1), .int S.2.1, .int S.2.2.1, .int S.2.2.2])), (h0, .inr (3, [.ref hA, .ref hQ, .ref hM, .ref hF])), (hA, .inl (cI, 1140, .inl fa)), (hM, .inl (cI, 768, .inl fm)), (hF, .inl (cI, 64, .inl (ftF kd b 0 0 fa fm))), (hC, .inl (cI, 768, .inl fc))] H := hP
  have hw : True := hw
  have hwr_1 := hw
  refine lv_aload_n hx hb dX0_tryKind_11 rfl (lv_at hl 0 rfl) ?_
  refine va_get (D := (dC, dI)) (ci := 0) (v := .ref h0) (C := RX0) (T := TX0) (N := 5) hx hb hts hinX0 hown hK hP 0 rfl rfl 0 (by decide) (hts (.fieldLink RX0 12 "GreyReel$Coder" "studio" "LGreyReel$Studio;") (List.mem_of_getElem? (i := 1) (by decide +kernel))) (fun _ h9 => h9) rfl dX0_tryKind_12 ?_
  refine lv_aload_n hx hb dX0_tryKind_15 rfl (lv_at hl 2 rfl) ?_
  refine lv_iload_n hx hb dX0_tryKind_16 rfl (lv_at hl 3 rfl) ?_
  refine vp_callSi (va_Run.run (va_runV (As := [.ref hC, .int (nI b)]) (rest := []) ⟨hx, hb, hml, hown, hts⟩ (C_X3_difference l dC dI cI cZ cP N0 tO h0 hA hQ hM hF hC fc (ftF kd b 0 0 fa fm) b h1) (cwV 2 hts gX0_tryKind_X3_difference rfl rfl rfl (by decide +kernel) ⟨Nat.le_of_ble_eq_true rfl, Nat.le_of_ble_eq_true rfl⟩) ⟨Gv.blind, va_recv hK hP (ci := 3) (q0 := 1) rfl rfl, Gv.of (hE.S hS hAN) (hP.sub [1, 5, 4] rfl)⟩ rfl rfl hl.1 rfl (lv_room (Nat.le_of_ble_eq_true rfl)) dX0_tryKind_17 ⟨Nat.le_of_ble_eq_true rfl, Nat.le_of_ble_eq_true rfl⟩)) (fun r_2 hr_2 => ?_)
  have hr_2 : r_2 = dfF fc (ftF kd b 0 0 fa fm) b 64 := hr_2
  refine lv_iload hx hb dX0_tryKind_20 (lv_at hl 4 rfl) ?_
  refine lv_iadd hx hb dX0_tryKind_22 ?_
  refine lv_topi (fun x_3 ex_3 => ?_)
  refine lv_istore (lv' := [(5, .int x_3), (0, .ref c0), (1, .int (nI kd)), (2, .ref hC), (3, .int (nI b)), (4, .int ex)]) hx hb dX0_tryKind_23 hl (by decide) rfl (fun ls hl => ?_)
  refine lv_iload hx hb dX0_tryKind_25 (lv_at hl 0 rfl) ?_
  refine lv_aload_n hx hb dX0_tryKind_27 rfl (lv_at hl 1 rfl) ?_
  refine va_get (D := (dC, dI)) (ci := 0) (v := .int S.2.2.2) (C := RX0) (T := TX0) (N := 5) hx hb hts hinX0 hown hK hP 0 rfl rfl 4 (by decide) (hts (.fieldLink RX0 28 "GreyReel$Coder" "bestPrice" "I") (List.mem_of_getElem? (i := 2) (by decide +kernel))) (fun _ h9 => h9) rfl dX0_tryKind_28 ?_
  refine lv_icmp_ge (tgt := 43) hx hb dX0_tryKind_31 (by decide) (fun c31 => ?_) (fun c31 => ?_)
  · skip
    exact W.vret hx hb hr (fun t ht hW => ⟨⟨S, rfl, (by subst ex_3 hr_2; rw [tkF, if_pos c31] <;> rfl), by show va_P _ _ _ t.heap; rw [ht]; exact hP.sub [0, 4] rfl⟩, hS.F ht⟩) hS.2.2 dX0_tryKind_43
  · skip
    refine lv_aload_n hx hb dX0_tryKind_34 rfl (lv_at hl 1 rfl) ?_
    refine lv_iload_n hx hb dX0_tryKind_35 rfl (lv_at hl 2 rfl) ?_
    refine lv_iconst (v := 0) hx hb dX0_tryKind_36 (by decide) ?_
    refine lv_iconst (v := 0) hx hb dX0_tryKind_37 (by decide) ?_
    refine lv_iload hx hb dX0_tryKind_38 (lv_at hl 0 rfl) ?_
    refine va_callv (va_runV (As := [.int (nI kd), .int 0, .int 0, .int x_3]) (rest := []) ⟨hx, hb, hml, hown, hts⟩ (C_X0_take l dC dI cI cZ cP N0 tO c0 h0 S kd 0 0 x_3 ) (cwV 4 hts gX0_tryKind_X0_take rfl rfl rfl (by decide +kernel) ⟨Nat.le_of_ble_eq_true rfl, Nat.le_of_ble_eq_true rfl⟩) ⟨Gv.blind, va_recv hK hP (ci := 0) (q0 := 0) rfl rfl, Gv.of (hE.S hS hAN) ⟨(hP.sub [0] rfl), hN.sub [0] (by decide) rfl⟩⟩ rfl rfl hl.1 rfl (lv_room (Nat.le_of_ble_eq_true rfl)) dX0_tryKind_40 ⟨Nat.le_of_ble_eq_true rfl, Nat.le_of_ble_eq_true rfl⟩) hS (fun q _ h => inL_sub [0] rfl q h) (inL_sub [0] rfl) (fun u t H locs ht hvm hw hB hz1 hk1 hS => ?_)
    rw [ht] at hB
    have hP := va_back (L := [c0]) hP hN rfl [0] rfl rfl (fun q h1 h2 => hk1 q h1 h2) hB
    clear hB hk1 hz1 hvm ht t
    have hP : va_P (dC, dI) vwCl [(c0, .inr (0, [.ref h0, .int (nI kd), .int 0, .int 0, .int x_3])), (h0, .inr (3, [.ref hA, .ref hQ, .ref hM, .ref hF])), (hA, .inl (cI, 1140, .inl fa)), (hM, .inl (cI, 768, .inl fm)), (hF, .inl (cI, 64, .inl (ftF kd b 0 0 fa fm))), (hC, .inl (cI, 768, .inl fc))] H := hP
    have hw : True := hw
    have hwr_4 := hw
    exact W.vret hx hb hr (fun t ht hW => ⟨⟨(kd, 0, 0, x_3), rfl, (by subst ex_3 hr_2; rw [tkF, if_neg c31] <;> rfl), by show va_P _ _ _ t.heap; rw [ht]; exact hP.sub [0, 4] rfl⟩, hS.F ht⟩) hS.2.2 dX0_tryKind_43
set_option maxHeartbeats 4000000 in
set_option maxRecDepth 100000 in
theorem C_X0_tryVector (l : Launch) (dC : Nat → ClassId) (dI : Nat → Nat → Nat) (cI cZ cP : ClassId) (N0 tO : Nat) (c0 : Nat) (h0 hA hQ hM hF : Nat) (p0 pK pX pY pC pV pR pU pG pW : Nat) (num q er ky sm : Int32) (hC : Nat) (S : BST) (fc fa fx fy : Nat → Int32) (b : Nat) (vx vy : Int32) (h1 : b < 12) (hvx : vOK vx) (hvy : vOK vy) : Met l yX0_tryVector wsX0_tryVector ({ frames := 2, cells := 0, slots := 0, locals := 65 } : Room) (Gv (dC, dI) cI cZ cP N0 tO [.ref c0, .ref p0, .ref hC, .int (nI b), .int vx, .int vy] (fun H => va_P (dC, dI) vwCl [(c0, .inr (0, [.ref h0, .int (nI S.1), .int S.2.1, .int S.2.2.1, .int S.2.2.2])), (h0, .inr (3, [.ref hA, .ref hQ, .ref hM, .ref hF])), (hA, .inl (cI, 1140, .inl fa)), (p0, .inr (2, [.ref pK, .ref pX, .ref pY, .ref pC, .ref pV, .ref pR, .ref pU, .ref pG, .ref pW, .int num, .int q, .int er, .int ky, .int sm])), (pX, .inl (cI, 12, .inl fx)), (pY, .inl (cI, 12, .inl fy)), (hC, .inl (cI, 768, .inl fc))] H ∧ AD N0 [c0, h0, hA, p0, pX, pY, hC])) (va_Qv (fun (S1 : BST) => S1 = tvF fc fa b q (exF fx b) (exF fy b) vx vy S) (fun (S1 : BST) (t : State) => va_P (dC, dI) vwCl [(c0, .inr (0, [.ref h0, .int (nI S1.1), .int S1.2.1, .int S1.2.2.1, .int S1.2.2.2]))] t.heap) (inL [c0])) 0 0 (inL [c0]) := by
  refine Met.ofW (cc := cX0_tryVector) (maxL := 9) (ret := none) (by decide) rfl ?_
  intro p e s m args below meth c s₁ B hml hv
  obtain ⟨rfl, hE, hP, hN⟩ := hv
  have hx := B.exec
  have hb := B.bytes
  have hr := B.returns
  have hts := atoms_spec (ws := wsX0_tryVector) B.pre
  have hown : s.vm.findClass RX0 = some m.cls := findClass_of_methodNamed B.named
  have hlocks := B.notSynchronized
  have hK := hE.1
  have hNS := hE.2.1
  have hS : va_S (inL [c0]) s.heap s.heap [] := va_S.rf
  have hAN : ∀ q : Nat, (inL [c0]) q → N0 ≤ q := fun q h => hN.in [0] rfl q h
  have hP : va_P (dC, dI) vwCl [(c0, .inr (0, [.ref h0, .int (nI S.1), .int S.2.1, .int S.2.2.1, .int S.2.2.2])), (h0, .inr (3, [.ref hA, .ref hQ, .ref hM, .ref hF])), (hA, .inl (cI, 1140, .inl fa)), (p0, .inr (2, [.ref pK, .ref pX, .ref pY, .ref pC, .ref pV, .ref pR, .ref pU, .ref pG, .ref pW, .int num, .int q, .int er, .int ky, .int sm])), (pX, .inl (cI, 12, .inl fx)), (pY, .inl (cI, 12, .inl fy)), (hC, .inl (cI, 768, .inl fc))] s.heap := hP
  have hinX0 : ∀ w ∈ wsX00, w ∈ wsX0_tryVector := by decide +kernel
  have hinX2 : ∀ w ∈ wsX20, w ∈ wsX0_tryVector := by decide +kernel
  have hl := lv_entry ([.ref c0, .ref p0, .ref hC, .int (nI b), .int vx, .int vy]) (n := 9) (Nat.le_of_ble_eq_true rfl)
  rw [lg_entry_eq]
  generalize (lg_sl ([.ref c0, .ref p0, .ref hC, .int (nI b), .int vx, .int vy]) ++ List.replicate (9 - (lg_sl ([.ref c0, .ref p0, .ref hC, .int (nI b), .int vx, .int vy])).length) Slot.unset).toArray = ls at hl ⊢
  have hl : lv_has ls 9 [(0, .ref c0), (1, .ref p0), (2, .ref hC), (3, .int (nI b)), (4, .int vx), (5, .int vy)] := hl
  refine lv_iload hx hb dX0_tryVector_0 (lv_at hl 4 rfl) ?_
  refine lv_aload_n hx hb dX0_tryVector_2 rfl (lv_at hl 1 rfl) ?_
  refine lv_iload_n hx hb dX0_tryVector_3 rfl (lv_at hl 3 rfl) ?_
  refine vp_callSi (va_Run.run (va_runV (As := [.int (nI b)]) (rest := [.int vx]) ⟨hx, hb, hml, hown, hts⟩ (C_X2_expectedX l dC dI cI cZ cP N0 tO p0 pK pX pY pC pV pR pU pG pW num q er ky sm fx b h1) (cwV 1 hts gX0_tryVector_X2_expectedX rfl rfl rfl (by decide +kernel) ⟨Nat.le_of_ble_eq_true rfl, Nat.le_of_ble_eq_true rfl⟩) ⟨Gv.blind, va_recv hK hP (ci := 2) (q0 := 3) rfl rfl, Gv.of (hE.S hS hAN) (hP.sub [3, 4] rfl)⟩ rfl rfl hl.1 rfl (lv_room (Nat.le_of_ble_eq_true rfl)) dX0_tryVector_4 ⟨Nat.le_of_ble_eq_true rfl, Nat.le_of_ble_eq_true rfl⟩)) (fun r_1 hr_1 => ?_)
  have hr_1 : r_1 = exF fx b := hr_1
  refine lv_isub hx hb dX0_tryVector_7 ?_
  refine va_mabs hx hb (hml.trans hl.1.symm) hown (hts (.methodLink RX0 115 Lib.Math.abs.name) (List.mem_of_getElem? (i := 1) (by decide +kernel))) (hts (.static Lib.Math.abs.name) (List.mem_of_getElem? (i := 2) (by decide +kernel))) (hts (.initialized "java/lang/Math") (List.mem_of_getElem? (i := 3) (by decide +kernel))) (hts (.code Lib.Math.abs.name Lib.Math.abs.code 1 (some .int)) (List.mem_of_getElem? (i := 4) (by decide +kernel))) (Nat.le_of_ble_eq_true rfl) (Nat.le_of_ble_eq_true rfl) (Nat.le_of_ble_eq_true rfl) (Nat.le_of_ble_eq_true rfl) dX0_tryVector_8 ?_
  refine lv_topr (show _ = absI (vx - r_1) from rfl) ?_
  refine lv_iload hx hb dX0_tryVector_11 (lv_at hl 5 rfl) ?_
  refine lv_aload_n hx hb dX0_tryVector_13 rfl (lv_at hl 1 rfl) ?_
  refine lv_iload_n hx hb dX0_tryVector_14 rfl (lv_at hl 3 rfl) ?_
  refine vp_callSi (va_Run.run (va_runV (As := [.int (nI b)]) (rest := [.int vy, .int (absI (vx - r_1))]) ⟨hx, hb, hml, hown, hts⟩ (C_X2_expectedY l dC dI cI cZ cP N0 tO p0 pK pX pY pC pV pR pU pG pW num q er ky sm fy b h1) (cwV 1 hts gX0_tryVector_X2_expectedY rfl rfl rfl (by decide +kernel) ⟨Nat.le_of_ble_eq_true rfl, Nat.le_of_ble_eq_true rfl⟩) ⟨Gv.blind, va_recv hK hP (ci := 2) (q0 := 3) rfl rfl, Gv.of (hE.S hS hAN) (hP.sub [3, 5] rfl)⟩ rfl rfl hl.1 rfl (lv_room (Nat.le_of_ble_eq_true rfl)) dX0_tryVector_15 ⟨Nat.le_of_ble_eq_true rfl, Nat.le_of_ble_eq_true rfl⟩)) (fun r_2 hr_2 => ?_)
  have hr_2 : r_2 = exF fy b := hr_2
  refine lv_isub hx hb dX0_tryVector_18 ?_
  refine va_mabs hx hb (hml.trans hl.1.symm) hown (hts (.methodLink RX0 115 Lib.Math.abs.name) (List.mem_of_getElem? (i := 1) (by decide +kernel))) (hts (.static Lib.Math.abs.name) (List.mem_of_getElem? (i := 2) (by decide +kernel))) (hts (.initialized "java/lang/Math") (List.mem_of_getElem? (i := 3) (by decide +kernel))) (hts (.code Lib.Math.abs.name Lib.Math.abs.code 1 (some .int)) (List.mem_of_getElem? (i := 4) (by decide +kernel))) (Nat.le_of_ble_eq_true rfl) (Nat.le_of_ble_eq_true rfl) (Nat.le_of_ble_eq_true rfl) (Nat.le_of_ble_eq_true rfl) dX0_tryVector_19 ?_
  refine lv_topr (show _ = absI (vy - r_2) from rfl) ?_
  refine lv_iadd hx hb dX0_tryVector_22 ?_
  refine lv_topi (fun x_3 ex_3 => ?_)
  refine lv_istore (lv' := [(6, .int x_3), (0, .ref c0), (1, .ref p0), (2, .ref hC), (3, .int (nI b)), (4, .int vx), (5, .int vy)]) hx hb dX0_tryVector_23 hl (by decide) rfl (fun ls hl => ?_)
  refine lv_aload_n hx hb dX0_tryVector_25 rfl (lv_at hl 2 rfl) ?_
  refine va_get (D := (dC, dI)) (ci := 2) (v := .int q) (C := RX2) (T := TX2) (N := 14) hx hb hts hinX2 hown hK hP 3 rfl rfl 10 (by decide) (hts (.fieldLink RX0 41 "GreyReel$Picture" "q" "I") (List.mem_of_getElem? (i := 5) (by decide +kernel))) (fun _ h9 => h9) rfl dX0_tryVector_26 ?_
  refine lv_iconst (v := 2) hx hb dX0_tryVector_29 (by decide) ?_
  refine lv_iload hx hb dX0_tryVector_30 (lv_at hl 0 rfl) ?_
  refine lv_iadd hx hb dX0_tryVector_32 ?_
  refine lv_imul hx hb dX0_tryVector_33 ?_
  refine lv_topi (fun x_4 ex_4 => ?_)
  refine lv_istore (lv' := [(7, .int x_4), (6, .int x_3), (0, .ref c0), (1, .ref p0), (2, .ref hC), (3, .int (nI b)), (4, .int vx), (5, .int vy)]) hx hb dX0_tryVector_34 hl (by decide) rfl (fun ls hl => ?_)
  refine lv_iload hx hb dX0_tryVector_36 (lv_at hl 0 rfl) ?_
  refine lv_aload_n hx hb dX0_tryVector_38 rfl (lv_at hl 2 rfl) ?_
  refine va_get (D := (dC, dI)) (ci := 0) (v := .ref h0) (C := RX0) (T := TX0) (N := 5) hx hb hts hinX0 hown hK hP 0 rfl rfl 0 (by decide) (hts (.fieldLink RX0 12 "GreyReel$Coder" "studio" "LGreyReel$Studio;") (List.mem_of_getElem? (i := 6) (by decide +kernel))) (fun _ h9 => h9) rfl dX0_tryVector_39 ?_
  refine lv_aload_n hx hb dX0_tryVector_42 rfl (lv_at hl 4 rfl) ?_
  refine lv_iload_n hx hb dX0_tryVector_43 rfl (lv_at hl 5 rfl) ?_
  refine lv_iload hx hb dX0_tryVector_44 (lv_at hl 6 rfl) ?_
  refine lv_iload hx hb dX0_tryVector_46 (lv_at hl 7 rfl) ?_
  refine lv_aload_n hx hb dX0_tryVector_48 rfl (lv_at hl 2 rfl) ?_
  refine va_get (D := (dC, dI)) (ci := 0) (v := .int S.2.2.2) (C := RX0) (T := TX0) (N := 5) hx hb hts hinX0 hown hK hP 0 rfl rfl 4 (by decide) (hts (.fieldLink RX0 28 "GreyReel$Coder" "bestPrice" "I") (List.mem_of_getElem? (i := 7) (by decide +kernel))) (fun _ h9 => h9) rfl dX0_tryVector_49 ?_
  refine lv_iload hx hb dX0_tryVector_52 (lv_at hl 0 rfl) ?_
  refine lv_isub hx hb dX0_tryVector_54 ?_
  refine vp_callSi (va_Run.run (va_runV (As := [.ref hC, .int (nI b), .int vx, .int vy, .int (S.2.2.2 - x_4)]) (rest := [.int x_4]) ⟨hx, hb, hml, hown, hts⟩ (C_X3_differenceMoved l dC dI cI cZ cP N0 tO h0 hA hQ hM hF hC fc fa b vx vy (S.2.2.2 - x_4) h1 hvx hvy) (cwV 5 hts gX0_tryVector_X3_differenceMoved rfl rfl rfl (by decide +kernel) ⟨Nat.le_of_ble_eq_true rfl, Nat.le_of_ble_eq_true rfl⟩) ⟨Gv.blind, va_recv hK hP (ci := 3) (q0 := 1) rfl rfl, Gv.of (hE.S hS hAN) (hP.sub [1, 6, 2] rfl)⟩ rfl rfl hl.1 rfl (lv_room (Nat.le_of_ble_eq_true rfl)) dX0_tryVector_55 ⟨Nat.le_of_ble_eq_true rfl, Nat.le_of_ble_eq_true rfl⟩)) (fun r_5 hr_5 => ?_)
  have hr_5 : r_5 = dmL fc fa b vx vy (S.2.2.2 - x_4) 8 := hr_5
  refine lv_iadd hx hb dX0_tryVector_58 ?_
  refine lv_topi (fun x_6 ex_6 => ?_)
  refine lv_istore (lv' := [(8, .int x_6), (7, .int x_4), (6, .int x_3), (0, .ref c0), (1, .ref p0), (2, .ref hC), (3, .int (nI b)), (4, .int vx), (5, .int vy)]) hx hb dX0_tryVector_59 hl (by decide) rfl (fun ls hl => ?_)
  refine lv_iload hx hb dX0_tryVector_61 (lv_at hl 0 rfl) ?_
  refine lv_aload_n hx hb dX0_tryVector_63 rfl (lv_at hl 3 rfl) ?_
  refine va_get (D := (dC, dI)) (ci := 0) (v := .int S.2.2.2) (C := RX0) (T := TX0) (N := 5) hx hb hts hinX0 hown hK hP 0 rfl rfl 4 (by decide) (hts (.fieldLink RX0 28 "GreyReel$Coder" "bestPrice" "I") (List.mem_of_getElem? (i := 7) (by decide +kernel))) (fun _ h9 => h9) rfl dX0_tryVector_64 ?_
  refine lv_icmp_ge (tgt := 81) hx hb dX0_tryVector_67 (by decide) (fun c67 => ?_) (fun c67 => ?_)
  · skip
    exact W.vret hx hb hr (fun t ht hW => ⟨⟨S, rfl, (by subst ex_6 hr_5 ex_4 ex_3 hr_2 hr_1; rw [tvF, tvW, if_pos c67] <;> rfl), by show va_P _ _ _ t.heap; rw [ht]; exact hP.sub [0] rfl⟩, hS.F ht⟩) hS.2.2 dX0_tryVector_81
  · skip
    refine lv_aload_n hx hb dX0_tryVector_70 rfl (lv_at hl 3 rfl) ?_
    refine lv_iconst (v := 1) hx hb dX0_tryVector_71 (by decide) ?_
    refine lv_iload hx hb dX0_tryVector_72 (lv_at hl 7 rfl) ?_
    refine lv_iload hx hb dX0_tryVector_74 (lv_at hl 8 rfl) ?_
    refine lv_iload hx hb dX0_tryVector_76 (lv_at hl 0 rfl) ?_
    refine va_callv (va_runV (As := [.int 1, .int vx, .int vy, .int x_6]) (rest := []) ⟨hx, hb, hml, hown, hts⟩ (C_X0_take l dC dI cI cZ cP N0 tO c0 h0 S 1 vx vy x_6 ) (cwV 4 hts gX0_tryVector_X0_take rfl rfl rfl (by decide +kernel) ⟨Nat.le_of_ble_eq_true rfl, Nat.le_of_ble_eq_true rfl⟩) ⟨Gv.blind, va_recv hK hP (ci := 0) (q0 := 0) rfl rfl, Gv.of (hE.S hS hAN) ⟨(hP.sub [0] rfl), hN.sub [0] (by decide) rfl⟩⟩ rfl rfl hl.1 rfl (lv_room (Nat.le_of_ble_eq_true rfl)) dX0_tryVector_78 ⟨Nat.le_of_ble_eq_true rfl, Nat.le_of_ble_eq_true rfl⟩) hS (fun q _ h => inL_sub [0] rfl q h) (inL_sub [0] rfl) (fun u t H locs ht hvm hw hB hz1 hk1 hS => ?_)
    rw [ht] at hB
    have hP := va_back (L := [c0]) hP hN rfl [0] rfl rfl (fun q h1 h2 => hk1 q h1 h2) hB
    clear hB hk1 hz1 hvm ht t
    have hP : va_P (dC, dI) vwCl [(c0, .inr (0, [.ref h0, .int (nI 1), .int vx, .int vy, .int x_6])), (h0, .inr (3, [.ref hA, .ref hQ, .ref hM, .ref hF])), (hA, .inl (cI, 1140, .inl fa)), (p0, .inr (2, [.ref pK, .ref pX, .ref pY, .ref pC, .ref pV, .ref pR, .ref pU, .ref pG, .ref pW, .int num, .int q, .int er, .int ky, .int sm])), (pX, .inl (cI, 12, .inl fx)), (pY, .inl (cI, 12, .inl fy)), (hC, .inl (cI, 768, .inl fc))] H := hP
    have hw : True := hw
    have hwr_7 := hw
    exact W.vret hx hb hr (fun t ht hW => ⟨⟨(1, vx, vy, x_6), rfl, (by subst ex_6 hr_5 ex_4 ex_3 hr_2 hr_1; rw [tvF, tvW, if_neg c67] <;> rfl), by show va_P _ _ _ t.heap; rw [ht]; exact hP.sub [0] rfl⟩, hS.F ht⟩) hS.2.2 dX0_tryVector_81
set_option maxHeartbeats 4000000 in
set_option maxRecDepth 100000 in
theorem C_X0_seekVector (l : Launch) (dC : Nat → ClassId) (dI : Nat → Nat → Nat) (cI cZ cP : ClassId) (N0 tO : Nat) (c0 : Nat) (h0 hA hQ hM hF : Nat) (p0 pK pX pY pC pV pR pU pG pW : Nat) (num q er ky sm : Int32) (hC : Nat) (S : BST) (fc fa fx fy : Nat → Int32) (b : Nat) (h1 : b < 12) (hS0 : stOK S) : Met l yX0_seekVector wsX0_seekVector ({ frames := 3, cells := 0, slots := 0, locals := 93 } : Room) (Gv (dC, dI) cI cZ cP N0 tO [.ref c0, .ref p0, .ref hC, .int (nI b)] (fun H => va_P (dC, dI) vwCl [(c0, .inr (0, [.ref h0, .int (nI S.1), .int S.2.1, .int S.2.2.1, .int S.2.2.2])), (h0, .inr (3, [.ref hA, .ref hQ, .ref hM, .ref hF])), (hA, .inl (cI, 1140, .inl fa)), (p0, .inr (2, [.ref pK, .ref pX, .ref pY, .ref pC, .ref pV, .ref pR, .ref pU, .ref pG, .ref pW, .int num, .int q, .int er, .int ky, .int sm])), (pX, .inl (cI, 12, .inl fx)), (pY, .inl (cI, 12, .inl fy)), (hC, .inl (cI, 768, .inl fc))] H ∧ AD N0 [c0, h0, hA, p0, pX, pY, hC])) (va_Qv (fun (S1 : BST) => S1 = svF fc fa b q (exF fx b) (exF fy b) S) (fun (S1 : BST) (t : State) => va_P (dC, dI) vwCl [(c0, .inr (0, [.ref h0, .int (nI S1.1), .int S1.2.1, .int S1.2.2.1, .int S1.2.2.2]))] t.heap) (inL [c0])) 0 0 (inL [c0]) := by
  refine Met.ofW (cc := cX0_seekVector) (maxL := 8) (ret := none) (by decide) rfl ?_
  intro p e s m args below meth c s₁ B hml hv
  obtain ⟨rfl, hE, hP, hN⟩ := hv
  have hx := B.exec
  have hb := B.bytes
  have hr := B.returns
  have hts := atoms_spec (ws := wsX0_seekVector) B.pre
  have hown : s.vm.findClass RX0 = some m.cls := findClass_of_methodNamed B.named
  have hlocks := B.notSynchronized
  have hK := hE.1
  have hNS := hE.2.1
  have hS : va_S (inL [c0]) s.heap s.heap [] := va_S.rf
  have hAN : ∀ q : Nat, (inL [c0]) q → N0 ≤ q := fun q h => hN.in [0] rfl q h
  have hP : va_P (dC, dI) vwCl [(c0, .inr (0, [.ref h0, .int (nI S.1), .int S.2.1, .int S.2.2.1, .int S.2.2.2])), (h0, .inr (3, [.ref hA, .ref hQ, .ref hM, .ref hF])), (hA, .inl (cI, 1140, .inl fa)), (p0, .inr (2, [.ref pK, .ref pX, .ref pY, .ref pC, .ref pV, .ref pR, .ref pU, .ref pG, .ref pW, .int num, .int q, .int er, .int ky, .int sm])), (pX, .inl (cI, 12, .inl fx)), (pY, .inl (cI, 12, .inl fy)), (hC, .inl (cI, 768, .inl fc))] s.heap := hP
  have hinX0 : ∀ w ∈ wsX00, w ∈ wsX0_seekVector := by decide +kernel
  have hl := lv_entry ([.ref c0, .ref p0, .ref hC, .int (nI b)]) (n := 8) (Nat.le_of_ble_eq_true rfl)
  rw [lg_entry_eq]
  generalize (lg_sl ([.ref c0, .ref p0, .ref hC, .int (nI b)]) ++ List.replicate (8 - (lg_sl ([.ref c0, .ref p0, .ref hC, .int (nI b)])).length) Slot.unset).toArray = ls at hl ⊢
  have hl : lv_has ls 8 [(0, .ref c0), (1, .ref p0), (2, .ref hC), (3, .int (nI b))] := hl
  refine lv_bipush (v := (-6)) hx hb dX0_seekVector_0 (by decide +kernel) ?_
  refine lv_topr (show _ = vI 0 from by decide +kernel) ?_
  refine lv_istore (lv' := [(4, .int (vI 0)), (0, .ref c0), (1, .ref p0), (2, .ref hC), (3, .int (nI b))]) hx hb dX0_seekVector_2 hl (by decide) rfl (fun ls hl => ?_)
  have L4 : ∀ (n4 : Nat) (i : Nat) (T : BST), (i ≤ 7) → (T = svY fc fa b q (exF fx b) (exF fy b) S i) → 7 - i < n4 → ∀ (H : Heap) (locs : List Loc) (ls : Array Slot), va_P (dC, dI) vwCl [(c0, .inr (0, [.ref h0, .int (nI T.1), .int T.2.1, .int T.2.2.1, .int T.2.2.2])), (h0, .inr (3, [.ref hA, .ref hQ, .ref hM, .ref hF])), (hA, .inl (cI, 1140, .inl fa)), (p0, .inr (2, [.ref pK, .ref pX, .ref pY, .ref pC, .ref pV, .ref pR, .ref pU, .ref pG, .ref pW, .int num, .int q, .int er, .int ky, .int sm])), (pX, .inl (cI, 12, .inl fx)), (pY, .inl (cI, 12, .inl fy)), (hC, .inl (cI, 768, .inl fc))] H → va_S (inL [c0]) s.heap H locs → lv_has ls 8 [(4, .int (vI i)), (0, .ref c0), (1, .ref p0), (2, .ref hC), (3, .int (nI b))] → W p l e (headSpec wsX0_seekVector ({ frames := 3, cells := 0, slots := 0, locals := 93 } : Room)).room s m ([.ref c0, .ref p0, .ref hC, .int (nI b)] : List Value).toArray below meth c H locs 0 0 (MQ below (va_Qv (fun (S1 : BST) => S1 = svF fc fa b q (exF fx b) (exF fy b) S) (fun (S1 : BST) (t : State) => va_P (dC, dI) vwCl [(c0, .inr (0, [.ref h0, .int (nI S1.1), .int S1.2.1, .int S1.2.2.1, .int S1.2.2.2]))] t.heap) (inL [c0])) ([.ref c0, .ref p0, .ref hC, .int (nI b)] : List Value).toArray s 0 0 (inL [c0])) (F0 m 4 ls []) := by
    intro n4
    induction n4 with
    | zero => intro i T hi hT hz; exact absurd hz (Nat.not_lt_zero _)
    | succ n4 ih4 =>
      intro i T hi hT hfu H locs ls hP hS hl
      refine lv_iload hx hb dX0_seekVector_4 (lv_at hl 0 rfl) ?_
      refine lv_bipush (v := 6) hx hb dX0_seekVector_6 (by decide +kernel) ?_
      refine lv_icmp_gt (tgt := 45) hx hb dX0_seekVector_8 (by decide) (fun c8 => ?_) (fun c8 => ?_)
      · skip
        obtain rfl : i = 7 := vI_gt i hi c8
        have hTk : stOK T := by rw [hT]; exact svY_ok hS0 7 (by omega)
        refine lv_aload_n hx hb dX0_seekVector_45 rfl (lv_at hl 1 rfl) ?_
        refine va_get (D := (dC, dI)) (ci := 0) (v := .int T.2.1) (C := RX0) (T := TX0) (N := 5) hx hb hts hinX0 hown hK hP 0 rfl rfl 2 (by decide) (hts (.fieldLink RX0 22 "GreyReel$Coder" "bestX" "I") (List.mem_of_getElem? (i := 1) (by decide +kernel))) (fun _ h9 => h9) rfl dX0_seekVector_46 ?_
        refine lv_istore (lv' := [(4, .int T.2.1), (0, .ref c0), (1, .ref p0), (2, .ref hC), (3, .int (nI b))]) hx hb dX0_seekVector_49 hl (by decide) rfl (fun ls hl => ?_)
        refine lv_aload_n hx hb dX0_seekVector_51 rfl (lv_at hl 1 rfl) ?_
        refine va_get (D := (dC, dI)) (ci := 0) (v := .int T.2.2.1) (C := RX0) (T := TX0) (N := 5) hx hb hts hinX0 hown hK hP 0 rfl rfl 3 (by decide) (hts (.fieldLink RX0 25 "GreyReel$Coder" "bestY" "I") (List.mem_of_getElem? (i := 2) (by decide +kernel))) (fun _ h9 => h9) rfl dX0_seekVector_52 ?_
        refine lv_istore (lv' := [(5, .int T.2.2.1), (4, .int T.2.1), (0, .ref c0), (1, .ref p0), (2, .ref hC), (3, .int (nI b))]) hx hb dX0_seekVector_55 hl (by decide) rfl (fun ls hl => ?_)
        refine lv_iload hx hb dX0_seekVector_57 (lv_at hl 0 rfl) ?_
        refine lv_iconst (v := 1) hx hb dX0_seekVector_59 (by decide) ?_
        refine lv_isub hx hb dX0_seekVector_60 ?_
        refine lv_topr (show _ = wI T.2.2.1 0 from wI_0 _) ?_
        refine lv_istore (lv' := [(6, .int (wI T.2.2.1 0)), (5, .int T.2.2.1), (4, .int T.2.1), (0, .ref c0), (1, .ref p0), (2, .ref hC), (3, .int (nI b))]) hx hb dX0_seekVector_61 hl (by decide) rfl (fun ls hl => ?_)
        have L63 : ∀ (n63 : Nat) (i : Nat) (A : BST), (i ≤ 3) → (A = swY fc fa b q (exF fx b) (exF fy b) T.2.1 T.2.2.1 T i) → 3 - i < n63 → ∀ (H : Heap) (locs : List Loc) (ls : Array Slot), va_P (dC, dI) vwCl [(c0, .inr (0, [.ref h0, .int (nI A.1), .int A.2.1, .int A.2.2.1, .int A.2.2.2])), (h0, .inr (3, [.ref hA, .ref hQ, .ref hM, .ref hF])), (hA, .inl (cI, 1140, .inl fa)), (p0, .inr (2, [.ref pK, .ref pX, .ref pY, .ref pC, .ref pV, .ref pR, .ref pU, .ref pG, .ref pW, .int num, .int q, .int er, .int ky, .int sm])), (pX, .inl (cI, 12, .inl fx)), (pY, .inl (cI, 12, .inl fy)), (hC, .inl (cI, 768, .inl fc))] H → va_S (inL [c0]) s.heap H locs → lv_has ls 8 [(6, .int (wI T.2.2.1 i)), (5, .int T.2.2.1), (4, .int T.2.1), (0, .ref c0), (1, .ref p0), (2, .ref hC), (3, .int (nI b))] → W p l e (headSpec wsX0_seekVector ({ frames := 3, cells := 0, slots := 0, locals := 93 } : Room)).room s m ([.ref c0, .ref p0, .ref hC, .int (nI b)] : List Value).toArray below meth c H locs 0 0 (MQ below (va_Qv (fun (S1 : BST) => S1 = svF fc fa b q (exF fx b) (exF fy b) S) (fun (S1 : BST) (t : State) => va_P (dC, dI) vwCl [(c0, .inr (0, [.ref h0, .int (nI S1.1), .int S1.2.1, .int S1.2.2.1, .int S1.2.2.2]))] t.heap) (inL [c0])) ([.ref c0, .ref p0, .ref hC, .int (nI b)] : List Value).toArray s 0 0 (inL [c0])) (F0 m 63 ls []) := by
          intro n63
          induction n63 with
          | zero => intro i A hi hA1 hz; exact absurd hz (Nat.not_lt_zero _)
          | succ n63 ih63 =>
            intro i A hi hA1 hfu H locs ls hP hS hl
            refine lv_iload hx hb dX0_seekVector_63 (lv_at hl 0 rfl) ?_
            refine lv_iload hx hb dX0_seekVector_65 (lv_at hl 1 rfl) ?_
            refine lv_iconst (v := 1) hx hb dX0_seekVector_67 (by decide) ?_
            refine lv_iadd hx hb dX0_seekVector_68 ?_
            refine lv_icmp_gt (tgt := 134) hx hb dX0_seekVector_69 (by decide) (fun c69 => ?_) (fun c69 => ?_)
            · skip
              obtain rfl : i = 3 := (wI_gt hTk.2 hi).mp c69
              exact W.vret hx hb hr (fun t ht hW => ⟨⟨A, rfl, (by rw [hA1, hT]; rfl), by show va_P _ _ _ t.heap; rw [ht]; exact hP.sub [0] rfl⟩, hS.F ht⟩) hS.2.2 dX0_seekVector_134
            · skip
              have hi3 := wI_lt hTk.2 hi c69
              refine lv_iload hx hb dX0_seekVector_72 (lv_at hl 2 rfl) ?_
              refine lv_iconst (v := 1) hx hb dX0_seekVector_74 (by decide) ?_
              refine lv_isub hx hb dX0_seekVector_75 ?_
              refine lv_topr (show _ = wI T.2.1 0 from wI_0 _) ?_
              refine lv_istore (lv' := [(7, .int (wI T.2.1 0)), (6, .int (wI T.2.2.1 i)), (5, .int T.2.2.1), (4, .int T.2.1), (0, .ref c0), (1, .ref p0), (2, .ref hC), (3, .int (nI b))]) hx hb dX0_seekVector_76 hl (by decide) rfl (fun ls hl => ?_)
              have L78 : ∀ (n78 : Nat) (j : Nat) (C : BST), (j ≤ 3) → (C = swX fc fa b q (exF fx b) (exF fy b) T.2.1 T.2.2.1 i A j) → 3 - j < n78 → ∀ (H : Heap) (locs : List Loc) (ls : Array Slot), va_P (dC, dI) vwCl [(c0, .inr (0, [.ref h0, .int (nI C.1), .int C.2.1, .int C.2.2.1, .int C.2.2.2])), (h0, .inr (3, [.ref hA, .ref hQ, .ref hM, .ref hF])), (hA, .inl (cI, 1140, .inl fa)), (p0, .inr (2, [.ref pK, .ref pX, .ref pY, .ref pC, .ref pV, .ref pR, .ref pU, .ref pG, .ref pW, .int num, .int q, .int er, .int ky, .int sm])), (pX, .inl (cI, 12, .inl fx)), (pY, .inl (cI, 12, .inl fy)), (hC, .inl (cI, 768, .inl fc))] H → va_S (inL [c0]) s.heap H locs → lv_has ls 8 [(7, .int (wI T.2.1 j)), (6, .int (wI T.2.2.1 i)), (5, .int T.2.2.1), (4, .int T.2.1), (0, .ref c0), (1, .ref p0), (2, .ref hC), (3, .int (nI b))] → W p l e (headSpec wsX0_seekVector ({ frames := 3, cells := 0, slots := 0, locals := 93 } : Room)).room s m ([.ref c0, .ref p0, .ref hC, .int (nI b)] : List Value).toArray below meth c H locs 0 0 (MQ below (va_Qv (fun (S1 : BST) => S1 = svF fc fa b q (exF fx b) (exF fy b) S) (fun (S1 : BST) (t : State) => va_P (dC, dI) vwCl [(c0, .inr (0, [.ref h0, .int (nI S1.1), .int S1.2.1, .int S1.2.2.1, .int S1.2.2.2]))] t.heap) (inL [c0])) ([.ref c0, .ref p0, .ref hC, .int (nI b)] : List Value).toArray s 0 0 (inL [c0])) (F0 m 78 ls []) := by
                intro n78
                induction n78 with
                | zero => intro j C hj hC1 hz; exact absurd hz (Nat.not_lt_zero _)
                | succ n78 ih78 =>
                  intro j C hj hC1 hfu H locs ls hP hS hl
                  refine lv_iload hx hb dX0_seekVector_78 (lv_at hl 0 rfl) ?_
                  refine lv_iload hx hb dX0_seekVector_80 (lv_at hl 3 rfl) ?_
                  refine lv_iconst (v := 1) hx hb dX0_seekVector_82 (by decide) ?_
                  refine lv_iadd hx hb dX0_seekVector_83 ?_
                  refine lv_icmp_gt (tgt := 128) hx hb dX0_seekVector_84 (by decide) (fun c84 => ?_) (fun c84 => ?_)
                  · skip
                    obtain rfl : j = 3 := (wI_gt hTk.1 hj).mp c84
                    have hC1 : C = swY fc fa b q (exF fx b) (exF fy b) T.2.1 T.2.2.1 T (i + 1) := by rw [hC1, hA1]; rfl
                    refine lv_iinc (v := wI T.2.2.1 (i + 1)) (lv' := [(6, .int (wI T.2.2.1 (i + 1))), (7, .int (wI T.2.1 3)), (5, .int T.2.2.1), (4, .int T.2.1), (0, .ref c0), (1, .ref p0), (2, .ref hC), (3, .int (nI b))]) hx hb dX0_seekVector_128 hl (k := 1) rfl (wI_s _ i) (by decide) rfl (fun ls hl => ?_)
                    refine lv_goto (tgt := 63) hx hb dX0_seekVector_131 (by decide) ?_
                    exact ih63 (i + 1) C (by omega) hC1 (by omega) _ _ _ hP hS (lv_sub hl [0, 2, 3, 4, 5, 6, 7] rfl)
                  · skip
                    have hj3 := wI_lt hTk.1 hj c84
                    refine lv_iload hx hb dX0_seekVector_87 (lv_at hl 0 rfl) ?_
                    refine lv_bipush (v := (-6)) hx hb dX0_seekVector_89 (by decide +kernel) ?_
                    refine lv_bipush (v := 6) hx hb dX0_seekVector_91 (by decide +kernel) ?_
                    refine vp_callSi (va_Run.run (va_runSN (As := [.int (wI T.2.1 j), .int (-6), .int 6]) (rest := []) ⟨hx, hb, hml, hown, hts⟩ (C_X5_isWithin l dC dI cI cZ cP N0 tO (wI T.2.1 j) (-6) 6 ) ⟨va_cnB 3 hts gX0_seekVector_X5_isWithin_n111 rfl rfl rfl hNS.2.1.2.1 (hts (.initialized RX5) (List.mem_of_getElem? (i := 22) (by decide +kernel))) (by decide +kernel) ⟨Nat.le_of_ble_eq_true rfl, Nat.le_of_ble_eq_true rfl⟩, (hts (.static yX5_isWithin) (List.mem_of_getElem? (i := 51) (by decide +kernel))), trivial⟩ ⟨Gv.blind, Gv.of (hE.S hS hAN) trivial⟩ rfl rfl hl.1 rfl (lv_room (Nat.le_of_ble_eq_true rfl)) dX0_seekVector_93 ⟨Nat.le_of_ble_eq_true rfl, Nat.le_of_ble_eq_true rfl⟩)) (fun r_1 hr_1 => ?_)
                    have hr_1 : r_1 = isWithinI (wI T.2.1 j) (-6) 6 := hr_1
                    have hwx := hr_1
                    refine lv_if_eq (tgt := 122) hx hb dX0_seekVector_96 (by decide) (fun c96 => ?_) (fun c96 => ?_)
                    · skip
                      refine lv_iinc (v := wI T.2.1 (j + 1)) (lv' := [(7, .int (wI T.2.1 (j + 1))), (6, .int (wI T.2.2.1 i)), (5, .int T.2.2.1), (4, .int T.2.1), (0, .ref c0), (1, .ref p0), (2, .ref hC), (3, .int (nI b))]) hx hb dX0_seekVector_122 hl (k := 0) rfl (wI_s _ j) (by decide) rfl (fun ls hl => ?_)
                      refine lv_goto (tgt := 78) hx hb dX0_seekVector_125 (by decide) ?_
                      exact ih78 (j + 1) C (by omega) (by show _ = twF fc fa b q (exF fx b) (exF fy b) _ _ _; rw [← hC1, twF, ← hwx, if_pos c96]) (by omega) _ _ _ hP hS (lv_sub hl [0, 1, 2, 3, 4, 5, 6, 7] rfl)
                    · skip
                      refine lv_iload hx hb dX0_seekVector_99 (lv_at hl 1 rfl) ?_
                      refine lv_bipush (v := (-6)) hx hb dX0_seekVector_101 (by decide +kernel) ?_
                      refine lv_bipush (v := 6) hx hb dX0_seekVector_103 (by decide +kernel) ?_
                      refine vp_callSi (va_Run.run (va_runSN (As := [.int (wI T.2.2.1 i), .int (-6), .int 6]) (rest := []) ⟨hx, hb, hml, hown, hts⟩ (C_X5_isWithin l dC dI cI cZ cP N0 tO (wI T.2.2.1 i) (-6) 6 ) ⟨va_cnB 3 hts gX0_seekVector_X5_isWithin_n111 rfl rfl rfl hNS.2.1.2.1 (hts (.initialized RX5) (List.mem_of_getElem? (i := 22) (by decide +kernel))) (by decide +kernel) ⟨Nat.le_of_ble_eq_true rfl, Nat.le_of_ble_eq_true rfl⟩, (hts (.static yX5_isWithin) (List.mem_of_getElem? (i := 51) (by decide +kernel))), trivial⟩ ⟨Gv.blind, Gv.of (hE.S hS hAN) trivial⟩ rfl rfl hl.1 rfl (lv_room (Nat.le_of_ble_eq_true rfl)) dX0_seekVector_105 ⟨Nat.le_of_ble_eq_true rfl, Nat.le_of_ble_eq_true rfl⟩)) (fun r_2 hr_2 => ?_)
                      have hr_2 : r_2 = isWithinI (wI T.2.2.1 i) (-6) 6 := hr_2
                      have hwy := hr_2
                      refine lv_if_eq (tgt := 122) hx hb dX0_seekVector_108 (by decide) (fun c108 => ?_) (fun c108 => ?_)
                      · skip
                        refine lv_iinc (v := wI T.2.1 (j + 1)) (lv' := [(7, .int (wI T.2.1 (j + 1))), (6, .int (wI T.2.2.1 i)), (5, .int T.2.2.1), (4, .int T.2.1), (0, .ref c0), (1, .ref p0), (2, .ref hC), (3, .int (nI b))]) hx hb dX0_seekVector_122 hl (k := 0) rfl (wI_s _ j) (by decide) rfl (fun ls hl => ?_)
                        refine lv_goto (tgt := 78) hx hb dX0_seekVector_125 (by decide) ?_
                        exact ih78 (j + 1) C (by omega) (by show _ = twF fc fa b q (exF fx b) (exF fy b) _ _ _; rw [← hC1, twF, ← hwx, if_neg c96, ← hwy, if_pos c108]) (by omega) _ _ _ hP hS (lv_sub hl [0, 1, 2, 3, 4, 5, 6, 7] rfl)
                      · skip
                        refine lv_aload_n hx hb dX0_seekVector_111 rfl (lv_at hl 4 rfl) ?_
                        refine lv_aload_n hx hb dX0_seekVector_112 rfl (lv_at hl 5 rfl) ?_
                        refine lv_aload_n hx hb dX0_seekVector_113 rfl (lv_at hl 6 rfl) ?_
                        refine lv_iload_n hx hb dX0_seekVector_114 rfl (lv_at hl 7 rfl) ?_
                        refine lv_iload hx hb dX0_seekVector_115 (lv_at hl 0 rfl) ?_
                        refine lv_iload hx hb dX0_seekVector_117 (lv_at hl 1 rfl) ?_
                        refine va_callv (va_runV (As := [.ref p0, .ref hC, .int (nI b), .int (wI T.2.1 j), .int (wI T.2.2.1 i)]) (rest := []) ⟨hx, hb, hml, hown, hts⟩ (C_X0_tryVector l dC dI cI cZ cP N0 tO c0 h0 hA hQ hM hF p0 pK pX pY pC pV pR pU pG pW num q er ky sm hC C fc fa fx fy b (wI T.2.1 j) (wI T.2.2.1 i) h1 (isW_ok hwx c96) (isW_ok hwy c108)) (cwV 5 hts gX0_seekVector_X0_tryVector rfl rfl rfl (by decide +kernel) ⟨Nat.le_of_ble_eq_true rfl, Nat.le_of_ble_eq_true rfl⟩) ⟨Gv.blind, va_recv hK hP (ci := 0) (q0 := 0) rfl rfl, Gv.of (hE.S hS hAN) ⟨(hP.sub [0, 1, 2, 3, 4, 5, 6] rfl), hN.sub [0, 1, 2, 3, 4, 5, 6] (by decide) rfl⟩⟩ rfl rfl hl.1 rfl (lv_room (Nat.le_of_ble_eq_true rfl)) dX0_seekVector_119 ⟨Nat.le_of_ble_eq_true rfl, Nat.le_of_ble_eq_true rfl⟩) hS (fun q _ h => inL_sub [0] rfl q h) (inL_sub [0] rfl) (fun u t H locs ht hvm hw hB hz1 hk1 hS => ?_)
                        obtain ⟨S1_4, eu⟩ : ∃ z, z = u := ⟨_, rfl⟩
                        subst eu
                        rw [ht] at hB
                        have hP := va_back (L := [c0]) hP hN rfl [0] rfl rfl (fun q h1 h2 => hk1 q h1 h2) hB
                        clear hB hk1 hz1 hvm ht t
                        have hP : va_P (dC, dI) vwCl [(c0, .inr (0, [.ref h0, .int (nI S1_4.1), .int S1_4.2.1, .int S1_4.2.2.1, .int S1_4.2.2.2])), (h0, .inr (3, [.ref hA, .ref hQ, .ref hM, .ref hF])), (hA, .inl (cI, 1140, .inl fa)), (p0, .inr (2, [.ref pK, .ref pX, .ref pY, .ref pC, .ref pV, .ref pR, .ref pU, .ref pG, .ref pW, .int num, .int q, .int er, .int ky, .int sm])), (pX, .inl (cI, 12, .inl fx)), (pY, .inl (cI, 12, .inl fy)), (hC, .inl (cI, 768, .inl fc))] H := hP
                        have hw : S1_4 = tvF fc fa b q (exF fx b) (exF fy b) (wI T.2.1 j) (wI T.2.2.1 i) C := hw
                        have hwr_3 := hw
                        have hwr_3 : S1_4 = tvF fc fa b q (exF fx b) (exF fy b) (wI T.2.1 j) (wI T.2.2.1 i) C := hwr_3
                        refine lv_iinc (v := wI T.2.1 (j + 1)) (lv' := [(7, .int (wI T.2.1 (j + 1))), (6, .int (wI T.2.2.1 i)), (5, .int T.2.2.1), (4, .int T.2.1), (0, .ref c0), (1, .ref p0), (2, .ref hC), (3, .int (nI b))]) hx hb dX0_seekVector_122 hl (k := 0) rfl (wI_s _ j) (by decide) rfl (fun ls hl => ?_)
                        refine lv_goto (tgt := 78) hx hb dX0_seekVector_125 (by decide) ?_
                        exact ih78 (j + 1) S1_4 (by omega) (by show _ = twF fc fa b q (exF fx b) (exF fy b) _ _ _; rw [← hC1, twF, ← hwx, if_neg c96, ← hwy, if_neg c108, hwr_3]) (by omega) _ _ _ hP hS (lv_sub hl [0, 1, 2, 3, 4, 5, 6, 7] rfl)
              exact L78 (3 + 1) 0 A (by omega) rfl (Nat.lt_succ_self _) _ _ _ hP hS (lv_sub hl [0, 1, 2, 3, 4, 5, 6, 7] rfl)
        exact L63 (3 + 1) 0 T (by omega) rfl (Nat.lt_succ_self _) _ _ _ hP hS (lv_sub hl [0, 1, 2, 3, 4, 5, 6] rfl)
      · skip
        have hvi := vI_ok hi c8
        refine lv_bipush (v := (-6)) hx hb dX0_seekVector_11 (by decide +kernel) ?_
        refine lv_topr (show _ = vI 0 from by decide +kernel) ?_
        refine lv_istore (lv' := [(5, .int (vI 0)), (4, .int (vI i)), (0, .ref c0), (1, .ref p0), (2, .ref hC), (3, .int (nI b))]) hx hb dX0_seekVector_13 hl (by decide) rfl (fun ls hl => ?_)
        have L15 : ∀ (n15 : Nat) (j : Nat) (U : BST), (j ≤ 7) → (U = svX fc fa b q (exF fx b) (exF fy b) i T j) → 7 - j < n15 → ∀ (H : Heap) (locs : List Loc) (ls : Array Slot), va_P (dC, dI) vwCl [(c0, .inr (0, [.ref h0, .int (nI U.1), .int U.2.1, .int U.2.2.1, .int U.2.2.2])), (h0, .inr (3, [.ref hA, .ref hQ, .ref hM, .ref hF])), (hA, .inl (cI, 1140, .inl fa)), (p0, .inr (2, [.ref pK, .ref pX, .ref pY, .ref pC, .ref pV, .ref pR, .ref pU, .ref pG, .ref pW, .int num, .int q, .int er, .int ky, .int sm])), (pX, .inl (cI, 12, .inl fx)), (pY, .inl (cI, 12, .inl fy)), (hC, .inl (cI, 768, .inl fc))] H → va_S (inL [c0]) s.heap H locs → lv_has ls 8 [(5, .int (vI j)), (4, .int (vI i)), (0, .ref c0), (1, .ref p0), (2, .ref hC), (3, .int (nI b))] → W p l e (headSpec wsX0_seekVector ({ frames := 3, cells := 0, slots := 0, locals := 93 } : Room)).room s m ([.ref c0, .ref p0, .ref hC, .int (nI b)] : List Value).toArray below meth c H locs 0 0 (MQ below (va_Qv (fun (S1 : BST) => S1 = svF fc fa b q (exF fx b) (exF fy b) S) (fun (S1 : BST) (t : State) => va_P (dC, dI) vwCl [(c0, .inr (0, [.ref h0, .int (nI S1.1), .int S1.2.1, .int S1.2.2.1, .int S1.2.2.2]))] t.heap) (inL [c0])) ([.ref c0, .ref p0, .ref hC, .int (nI b)] : List Value).toArray s 0 0 (inL [c0])) (F0 m 15 ls []) := by
          intro n15
          induction n15 with
          | zero => intro j U hj hU hz; exact absurd hz (Nat.not_lt_zero _)
          | succ n15 ih15 =>
            intro j U hj hU hfu H locs ls hP hS hl
            refine lv_iload hx hb dX0_seekVector_15 (lv_at hl 0 rfl) ?_
            refine lv_bipush (v := 6) hx hb dX0_seekVector_17 (by decide +kernel) ?_
            refine lv_icmp_gt (tgt := 39) hx hb dX0_seekVector_19 (by decide) (fun c19 => ?_) (fun c19 => ?_)
            · skip
              obtain rfl : j = 7 := vI_gt j hj c19
              have hU : U = svY fc fa b q (exF fx b) (exF fy b) S (i + 1) := by rw [hU, hT]; rfl
              refine lv_iinc (v := vI (i + 1)) (lv' := [(4, .int (vI (i + 1))), (5, .int (vI 7)), (0, .ref c0), (1, .ref p0), (2, .ref hC), (3, .int (nI b))]) hx hb dX0_seekVector_39 hl (k := 1) rfl (vI_s i) (by decide) rfl (fun ls hl => ?_)
              refine lv_goto (tgt := 4) hx hb dX0_seekVector_42 (by decide) ?_
              exact ih4 (i + 1) U (by have := hvi.1; omega) hU (by have := hvi.1; omega) _ _ _ hP hS (lv_sub hl [0, 2, 3, 4, 5] rfl)
            · skip
              have hvj := vI_ok hj c19
              refine lv_aload_n hx hb dX0_seekVector_22 rfl (lv_at hl 2 rfl) ?_
              refine lv_aload_n hx hb dX0_seekVector_23 rfl (lv_at hl 3 rfl) ?_
              refine lv_aload_n hx hb dX0_seekVector_24 rfl (lv_at hl 4 rfl) ?_
              refine lv_iload_n hx hb dX0_seekVector_25 rfl (lv_at hl 5 rfl) ?_
              refine lv_iload hx hb dX0_seekVector_26 (lv_at hl 0 rfl) ?_
              refine lv_iload hx hb dX0_seekVector_28 (lv_at hl 1 rfl) ?_
              refine va_callv (va_runV (As := [.ref p0, .ref hC, .int (nI b), .int (vI j), .int (vI i)]) (rest := []) ⟨hx, hb, hml, hown, hts⟩ (C_X0_tryVector l dC dI cI cZ cP N0 tO c0 h0 hA hQ hM hF p0 pK pX pY pC pV pR pU pG pW num q er ky sm hC U fc fa fx fy b (vI j) (vI i) h1 hvj.2 hvi.2) (cwV 5 hts gX0_seekVector_X0_tryVector rfl rfl rfl (by decide +kernel) ⟨Nat.le_of_ble_eq_true rfl, Nat.le_of_ble_eq_true rfl⟩) ⟨Gv.blind, va_recv hK hP (ci := 0) (q0 := 0) rfl rfl, Gv.of (hE.S hS hAN) ⟨(hP.sub [0, 1, 2, 3, 4, 5, 6] rfl), hN.sub [0, 1, 2, 3, 4, 5, 6] (by decide) rfl⟩⟩ rfl rfl hl.1 rfl (lv_room (Nat.le_of_ble_eq_true rfl)) dX0_seekVector_30 ⟨Nat.le_of_ble_eq_true rfl, Nat.le_of_ble_eq_true rfl⟩) hS (fun q _ h => inL_sub [0] rfl q h) (inL_sub [0] rfl) (fun u t H locs ht hvm hw hB hz1 hk1 hS => ?_)
              obtain ⟨S1_6, eu⟩ : ∃ z, z = u := ⟨_, rfl⟩
              subst eu
              rw [ht] at hB
              have hP := va_back (L := [c0]) hP hN rfl [0] rfl rfl (fun q h1 h2 => hk1 q h1 h2) hB
              clear hB hk1 hz1 hvm ht t
              have hP : va_P (dC, dI) vwCl [(c0, .inr (0, [.ref h0, .int (nI S1_6.1), .int S1_6.2.1, .int S1_6.2.2.1, .int S1_6.2.2.2])), (h0, .inr (3, [.ref hA, .ref hQ, .ref hM, .ref hF])), (hA, .inl (cI, 1140, .inl fa)), (p0, .inr (2, [.ref pK, .ref pX, .ref pY, .ref pC, .ref pV, .ref pR, .ref pU, .ref pG, .ref pW, .int num, .int q, .int er, .int ky, .int sm])), (pX, .inl (cI, 12, .inl fx)), (pY, .inl (cI, 12, .inl fy)), (hC, .inl (cI, 768, .inl fc))] H := hP
              have hw : S1_6 = tvF fc fa b q (exF fx b) (exF fy b) (vI j) (vI i) U := hw
              have hwr_5 := hw
              have hwr_5 : S1_6 = tvF fc fa b q (exF fx b) (exF fy b) (vI j) (vI i) U := hwr_5
              refine lv_iinc (v := vI (j + 1)) (lv' := [(5, .int (vI (j + 1))), (4, .int (vI i)), (0, .ref c0), (1, .ref p0), (2, .ref hC), (3, .int (nI b))]) hx hb dX0_seekVector_33 hl (k := 0) rfl (vI_s j) (by decide) rfl (fun ls hl => ?_)
              refine lv_goto (tgt := 15) hx hb dX0_seekVector_36 (by decide) ?_
              exact ih15 (j + 1) S1_6 (by have := hvj.1; omega) (by rw [hwr_5]; rw [hU]; rfl) (by have := hvj.1; omega) _ _ _ hP hS (lv_sub hl [0, 1, 2, 3, 4, 5] rfl)
        exact L15 (7 + 1) 0 T (by omega) rfl (Nat.lt_succ_self _) _ _ _ hP hS (lv_sub hl [0, 1, 2, 3, 4, 5] rfl)
  exact L4 (7 + 1) 0 S (by omega) rfl (Nat.lt_succ_self _) _ _ _ hP hS (lv_sub hl [0, 1, 2, 3, 4] rfl)
