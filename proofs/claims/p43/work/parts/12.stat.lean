def absI (x : Int32) : Int32 := if 0 ≤ x then x else 0 - x
def maxI (x y : Int32) : Int32 := if x < y then y else x
def minI (x y : Int32) : Int32 := if y < x then y else x
def isWithinI (x a b : Int32) : Int32 := if x < a then 0 else if b < x then 0 else 1
def clipI (x : Int32) : Int32 := if 0 ≤ x then (if x ≤ 255 then x else 255) else 0
def isFB (b : Nat) : Int32 := if b % 4 = 0 then 1 else 0
def foldedI (x : Int32) : Int32 := if x ≤ 0 then -2 * x else 2 * x - 1
def distF (f g : Nat → Int32) : Nat → Int32
  | 0 => 0
  | n + 1 => distF f g n + absI (f n - g n)
def dgF (d : Int64) (f : Nat → Int32) : Nat → Int64
  | 0 => d
  | n + 1 => dgF d f n * 31 + (f n).toInt64
theorem isFB_t {r : Int32} {b : Nat} (h : r = isFB b) (c : ¬ r = 0) : b % 4 = 0 := by
  subst h; unfold isFB at c; split at c
  · assumption
  · exact absurd rfl c
theorem isFB_f {r : Int32} {b : Nat} (h : r = isFB b) (c : r = 0) : ¬ b % 4 = 0 := by
  subst h; unfold isFB at c; split at c
  · exact absurd c (by decide)
  · assumption
theorem inL_sub {L L' : List Nat} (is : List Nat) (h : is.map (fun i => L[i]?) = L'.map some) : ∀ q, inL L' q → inL L q := by
  intro q hq
  obtain ⟨k, hk⟩ := List.getElem?_of_mem (show q ∈ L' from hq)
  have h1 : (is.map (fun i => L[i]?))[k]? = some (some q) := by rw [h, List.getElem?_map, hk]; rfl
  rw [List.getElem?_map] at h1
  cases hi : is[k]? with
  | none => rw [hi] at h1; cases h1
  | some i => rw [hi] at h1; exact List.mem_of_getElem? (Option.some.inj h1)
set_option maxHeartbeats 4000000 in
set_option maxRecDepth 100000 in
theorem C_X5_isWithin (l : Launch) (dC : Nat → ClassId) (dI : Nat → Nat → Nat) (cI cZ cP : ClassId) (N0 tO : Nat) (x a b : Int32)  : Met l yX5_isWithin wsX5_isWithin ({ frames := 0, cells := 0, slots := 0, locals := 0 } : Room) (Gv (dC, dI) cI cZ cP N0 tO [.int x, .int a, .int b] (fun H => True)) (vp_Si (fun r : Int32 => r = isWithinI x a b)) 0 0 (fun _ => False) := by
  refine Met.ofW (cc := cX5_isWithin) (maxL := 3) (ret := (some .boolean)) (by decide) rfl ?_
  intro p e s m args below meth c s₁ B hml hv
  obtain ⟨rfl, hE, hP⟩ := hv
  have hx := B.exec
  have hb := B.bytes
  have hr := B.returns
  have hts := atoms_spec (ws := wsX5_isWithin) B.pre
  have hown : s.vm.findClass RX5 = some m.cls := findClass_of_methodNamed B.named
  have hlocks := B.notSynchronized
  have hK := hE.1
  have hNS := hE.2.1
  have hl := lv_entry ([.int x, .int a, .int b]) (n := 3) (Nat.le_of_ble_eq_true rfl)
  rw [lg_entry_eq]
  generalize (lg_sl ([.int x, .int a, .int b]) ++ List.replicate (3 - (lg_sl ([.int x, .int a, .int b])).length) Slot.unset).toArray = ls at hl ⊢
  have hl : lv_has ls 3 [(0, .int x), (1, .int a), (2, .int b)] := hl
  refine lv_iload_n hx hb dX5_isWithin_0 rfl (lv_at hl 0 rfl) ?_
  refine lv_iload_n hx hb dX5_isWithin_1 rfl (lv_at hl 1 rfl) ?_
  refine lv_icmp_lt (tgt := 14) hx hb dX5_isWithin_2 (by decide) (fun c2 => ?_) (fun c2 => ?_)
  · skip
    refine lv_iconst (v := 0) hx hb dX5_isWithin_14 (by decide) ?_
    exact W.zret (v := 0) hx hb hr rfl (fun t ht hW => ⟨0, rfl, (by rw [isWithinI, if_pos c2] <;> rfl), ht⟩) (fun _ h => by cases h) dX5_isWithin_15
  · skip
    refine lv_iload_n hx hb dX5_isWithin_5 rfl (lv_at hl 0 rfl) ?_
    refine lv_iload_n hx hb dX5_isWithin_6 rfl (lv_at hl 2 rfl) ?_
    refine lv_icmp_gt (tgt := 14) hx hb dX5_isWithin_7 (by decide) (fun c7 => ?_) (fun c7 => ?_)
    · skip
      refine lv_iconst (v := 0) hx hb dX5_isWithin_14 (by decide) ?_
      exact W.zret (v := 0) hx hb hr rfl (fun t ht hW => ⟨0, rfl, (by rw [isWithinI, if_neg c2, if_pos c7] <;> rfl), ht⟩) (fun _ h => by cases h) dX5_isWithin_15
    · skip
      refine lv_iconst (v := 1) hx hb dX5_isWithin_10 (by decide) ?_
      refine lv_goto (tgt := 15) hx hb dX5_isWithin_11 (by decide) ?_
      exact W.zret (v := 1) hx hb hr rfl (fun t ht hW => ⟨1, rfl, (by rw [isWithinI, if_neg c2, if_neg c7] <;> rfl), ht⟩) (fun _ h => by cases h) dX5_isWithin_15
set_option maxHeartbeats 4000000 in
set_option maxRecDepth 100000 in
theorem C_X5_clip (l : Launch) (dC : Nat → ClassId) (dI : Nat → Nat → Nat) (cI cZ cP : ClassId) (N0 tO : Nat) (x : Int32)  : Met l yX5_clip wsX5_clip ({ frames := 0, cells := 0, slots := 0, locals := 0 } : Room) (Gv (dC, dI) cI cZ cP N0 tO [.int x] (fun H => True)) (vp_Si (fun r : Int32 => r = clipI x)) 0 0 (fun _ => False) := by
  refine Met.ofW (cc := cX5_clip) (maxL := 1) (ret := (some .int)) (by decide) rfl ?_
  intro p e s m args below meth c s₁ B hml hv
  obtain ⟨rfl, hE, hP⟩ := hv
  have hx := B.exec
  have hb := B.bytes
  have hr := B.returns
  have hts := atoms_spec (ws := wsX5_clip) B.pre
  have hown : s.vm.findClass RX5 = some m.cls := findClass_of_methodNamed B.named
  have hlocks := B.notSynchronized
  have hK := hE.1
  have hNS := hE.2.1
  have hl := lv_entry ([.int x]) (n := 1) (Nat.le_of_ble_eq_true rfl)
  rw [lg_entry_eq]
  generalize (lg_sl ([.int x]) ++ List.replicate (1 - (lg_sl ([.int x])).length) Slot.unset).toArray = ls at hl ⊢
  have hl : lv_has ls 1 [(0, .int x)] := hl
  refine lv_iload_n hx hb dX5_clip_0 rfl (lv_at hl 0 rfl) ?_
  refine lv_if_ge (tgt := 8) hx hb dX5_clip_1 (by decide) (fun c1 => ?_) (fun c1 => ?_)
  · skip
    refine lv_iload_n hx hb dX5_clip_8 rfl (lv_at hl 0 rfl) ?_
    refine lv_sipush (v := 255) hx hb dX5_clip_9 (by decide +kernel) ?_
    refine lv_icmp_le (tgt := 21) hx hb dX5_clip_12 (by decide) (fun c12 => ?_) (fun c12 => ?_)
    · skip
      refine lv_iload_n hx hb dX5_clip_21 rfl (lv_at hl 0 rfl) ?_
      exact W.iret (v := x) hx hb hr (fun t ht hW => ⟨x, rfl, (by rw [clipI, if_pos c1, if_pos c12] <;> rfl), ht⟩) (fun _ h => by cases h) dX5_clip_22
    · skip
      refine lv_sipush (v := 255) hx hb dX5_clip_15 (by decide +kernel) ?_
      refine lv_goto (tgt := 22) hx hb dX5_clip_18 (by decide) ?_
      exact W.iret (v := 255) hx hb hr (fun t ht hW => ⟨255, rfl, (by rw [clipI, if_pos c1, if_neg c12] <;> rfl), ht⟩) (fun _ h => by cases h) dX5_clip_22
  · skip
    refine lv_iconst (v := 0) hx hb dX5_clip_4 (by decide) ?_
    refine lv_goto (tgt := 22) hx hb dX5_clip_5 (by decide) ?_
    exact W.iret (v := 0) hx hb hr (fun t ht hW => ⟨0, rfl, (by rw [clipI, if_neg c1] <;> rfl), ht⟩) (fun _ h => by cases h) dX5_clip_22
set_option maxHeartbeats 4000000 in
set_option maxRecDepth 100000 in
theorem C_X5_onRow (l : Launch) (dC : Nat → ClassId) (dI : Nat → Nat → Nat) (cI cZ cP : ClassId) (N0 tO : Nat) (x n : Int32)  : Met l yX5_onRow wsX5_onRow ({ frames := 1, cells := 0, slots := 0, locals := 32 } : Room) (Gv (dC, dI) cI cZ cP N0 tO [.int x, .int n] (fun H => True)) (vp_Si (fun r : Int32 => r = maxI 0 (minI x (n - 1)))) 0 0 (fun _ => False) := by
  refine Met.ofW (cc := cX5_onRow) (maxL := 2) (ret := (some .int)) (by decide) rfl ?_
  intro p e s m args below meth c s₁ B hml hv
  obtain ⟨rfl, hE, hP⟩ := hv
  have hx := B.exec
  have hb := B.bytes
  have hr := B.returns
  have hts := atoms_spec (ws := wsX5_onRow) B.pre
  have hown : s.vm.findClass RX5 = some m.cls := findClass_of_methodNamed B.named
  have hlocks := B.notSynchronized
  have hK := hE.1
  have hNS := hE.2.1
  have hl := lv_entry ([.int x, .int n]) (n := 2) (Nat.le_of_ble_eq_true rfl)
  rw [lg_entry_eq]
  generalize (lg_sl ([.int x, .int n]) ++ List.replicate (2 - (lg_sl ([.int x, .int n])).length) Slot.unset).toArray = ls at hl ⊢
  have hl : lv_has ls 2 [(0, .int x), (1, .int n)] := hl
  refine lv_iconst (v := 0) hx hb dX5_onRow_0 (by decide) ?_
  refine lv_iload_n hx hb dX5_onRow_1 rfl (lv_at hl 0 rfl) ?_
  refine lv_iload_n hx hb dX5_onRow_2 rfl (lv_at hl 1 rfl) ?_
  refine lv_iconst (v := 1) hx hb dX5_onRow_3 (by decide) ?_
  refine lv_isub hx hb dX5_onRow_4 ?_
  refine va_mmin hx hb (hml.trans hl.1.symm) hown (hts (.methodLink RX5 92 Lib.Math.min.name) (List.mem_of_getElem? (i := 1) (by decide +kernel))) (hts (.static Lib.Math.min.name) (List.mem_of_getElem? (i := 2) (by decide +kernel))) (hts (.initialized "java/lang/Math") (List.mem_of_getElem? (i := 3) (by decide +kernel))) (hts (.code Lib.Math.min.name Lib.Math.min.code 2 (some .int)) (List.mem_of_getElem? (i := 4) (by decide +kernel))) (Nat.le_of_ble_eq_true rfl) (Nat.le_of_ble_eq_true rfl) (Nat.le_of_ble_eq_true rfl) (Nat.le_of_ble_eq_true rfl) dX5_onRow_5 ?_
  refine lv_topr (show _ = minI x (n - 1) from rfl) ?_
  refine va_mmax hx hb (hml.trans hl.1.symm) hown (hts (.methodLink RX5 86 Lib.Math.max.name) (List.mem_of_getElem? (i := 5) (by decide +kernel))) (hts (.static Lib.Math.max.name) (List.mem_of_getElem? (i := 6) (by decide +kernel))) (hts (.initialized "java/lang/Math") (List.mem_of_getElem? (i := 3) (by decide +kernel))) (hts (.code Lib.Math.max.name Lib.Math.max.code 2 (some .int)) (List.mem_of_getElem? (i := 7) (by decide +kernel))) (Nat.le_of_ble_eq_true rfl) (Nat.le_of_ble_eq_true rfl) (Nat.le_of_ble_eq_true rfl) (Nat.le_of_ble_eq_true rfl) dX5_onRow_8 ?_
  refine lv_topr (show _ = maxI 0 (minI x (n - 1)) from rfl) ?_
  exact W.iret (v := maxI 0 (minI x (n - 1))) hx hb hr (fun t ht hW => ⟨maxI 0 (minI x (n - 1)), rfl, rfl, ht⟩) (fun _ h => by cases h) dX5_onRow_11
set_option maxHeartbeats 4000000 in
set_option maxRecDepth 100000 in
theorem C_X5_placeIn (l : Launch) (dC : Nat → ClassId) (dI : Nat → Nat → Nat) (cI cZ cP : ClassId) (N0 tO : Nat) (a n : Nat) (h1 : a < n) (h2 : n < 2 ^ 31) : Met l yX5_placeIn wsX5_placeIn ({ frames := 1, cells := 0, slots := 0, locals := 21 } : Room) (Gv (dC, dI) cI cZ cP N0 tO [.int (nI a), .int (nI n)] (fun H => True)) (vp_Si (fun r : Int32 => r = nI a)) 0 0 (fun _ => False) := by
  refine Met.ofW (cc := cX5_placeIn) (maxL := 2) (ret := (some .int)) (by decide) rfl ?_
  intro p e s m args below meth c s₁ B hml hv
  obtain ⟨rfl, hE, hP⟩ := hv
  have hx := B.exec
  have hb := B.bytes
  have hr := B.returns
  have hts := atoms_spec (ws := wsX5_placeIn) B.pre
  have hown : s.vm.findClass RX5 = some m.cls := findClass_of_methodNamed B.named
  have hlocks := B.notSynchronized
  have hK := hE.1
  have hNS := hE.2.1
  have hl := lv_entry ([.int (nI a), .int (nI n)]) (n := 2) (Nat.le_of_ble_eq_true rfl)
  rw [lg_entry_eq]
  generalize (lg_sl ([.int (nI a), .int (nI n)]) ++ List.replicate (2 - (lg_sl ([.int (nI a), .int (nI n)])).length) Slot.unset).toArray = ls at hl ⊢
  have hl : lv_has ls 2 [(0, .int (nI a)), (1, .int (nI n))] := hl
  refine lv_iload_n hx hb dX5_placeIn_0 rfl (lv_at hl 0 rfl) ?_
  refine lv_if_lt (tgt := 9) hx hb dX5_placeIn_1 (by decide) (fun c1 => ?_) (fun c1 => ?_)
  · skip
    have c1 : a < 0 := (nI_ltI (a := a) (b := 0) (by omega) (by omega)).mp c1
    exact False.elim (by omega)
  · skip
    have c1 : ¬ a < 0 := fun z => c1 ((nI_ltI (a := a) (b := 0) (by omega) (by omega)).mpr z)
    refine lv_iload_n hx hb dX5_placeIn_4 rfl (lv_at hl 0 rfl) ?_
    refine lv_iload_n hx hb dX5_placeIn_5 rfl (lv_at hl 1 rfl) ?_
    refine lv_icmp_lt (tgt := 20) hx hb dX5_placeIn_6 (by decide) (fun c6 => ?_) (fun c6 => ?_)
    · skip
      have c6 : a < n := (nI_ltI (a := a) (b := n) (by omega) (by omega)).mp c6
      refine lv_iload_n hx hb dX5_placeIn_20 rfl (lv_at hl 0 rfl) ?_
      exact W.iret (v := nI a) hx hb hr (fun t ht hW => ⟨nI a, rfl, rfl, ht⟩) (fun _ h => by cases h) dX5_placeIn_21
    · skip
      have c6 : ¬ a < n := fun z => c6 ((nI_ltI (a := a) (b := n) (by omega) (by omega)).mpr z)
      exact False.elim (by omega)
set_option maxHeartbeats 4000000 in
set_option maxRecDepth 100000 in
theorem C_X5_pointAt (l : Launch) (dC : Nat → ClassId) (dI : Nat → Nat → Nat) (cI cZ cP : ClassId) (N0 tO : Nat) (x y : Nat) (h1 : x < 32) (h2 : y < 24) : Met l yX5_pointAt wsX5_pointAt ({ frames := 2, cells := 0, slots := 0, locals := 42 } : Room) (Gv (dC, dI) cI cZ cP N0 tO [.int (nI x), .int (nI y)] (fun H => True)) (vp_Si (fun r : Int32 => r = nI (y * 32 + x))) 0 0 (fun _ => False) := by
  refine Met.ofW (cc := cX5_pointAt) (maxL := 2) (ret := (some .int)) (by decide) rfl ?_
  intro p e s m args below meth c s₁ B hml hv
  obtain ⟨rfl, hE, hP⟩ := hv
  have hx := B.exec
  have hb := B.bytes
  have hr := B.returns
  have hts := atoms_spec (ws := wsX5_pointAt) B.pre
  have hown : s.vm.findClass RX5 = some m.cls := findClass_of_methodNamed B.named
  have hlocks := B.notSynchronized
  have hK := hE.1
  have hNS := hE.2.1
  have hl := lv_entry ([.int (nI x), .int (nI y)]) (n := 2) (Nat.le_of_ble_eq_true rfl)
  rw [lg_entry_eq]
  generalize (lg_sl ([.int (nI x), .int (nI y)]) ++ List.replicate (2 - (lg_sl ([.int (nI x), .int (nI y)])).length) Slot.unset).toArray = ls at hl ⊢
  have hl : lv_has ls 2 [(0, .int (nI x)), (1, .int (nI y))] := hl
  refine lv_iload_n hx hb dX5_pointAt_0 rfl (lv_at hl 1 rfl) ?_
  refine lv_bipush (v := 24) hx hb dX5_pointAt_1 (by decide +kernel) ?_
  refine vp_callSi (va_Run.run (va_runS (As := [.int (nI y), .int 24]) (rest := []) ⟨hx, hb, hml, hown, hts⟩ (C_X5_placeIn l dC dI cI cZ cP N0 tO y 24 (by omega) (by omega)) (va_cwS 2 hts gX5_pointAt_X5_placeIn rfl rfl rfl (by decide +kernel) ⟨Nat.le_of_ble_eq_true rfl, Nat.le_of_ble_eq_true rfl⟩) ⟨Gv.blind, Gv.of hE trivial⟩ rfl rfl hl.1 rfl (lv_room (Nat.le_of_ble_eq_true rfl)) dX5_pointAt_3 ⟨Nat.le_of_ble_eq_true rfl, Nat.le_of_ble_eq_true rfl⟩)) (fun r_1 hr_1 => ?_)
  have hr_1 : r_1 = nI y := hr_1
  refine lv_topr hr_1 ?_
  refine lv_bipush (v := 32) hx hb dX5_pointAt_6 (by decide +kernel) ?_
  refine lv_imul hx hb dX5_pointAt_8 ?_
  refine lv_topr (show _ = nI (y * 32) from pk_mul y 32) ?_
  refine lv_iload_n hx hb dX5_pointAt_9 rfl (lv_at hl 0 rfl) ?_
  refine lv_bipush (v := 32) hx hb dX5_pointAt_10 (by decide +kernel) ?_
  refine vp_callSi (va_Run.run (va_runS (As := [.int (nI x), .int 32]) (rest := [.int (nI (y * 32))]) ⟨hx, hb, hml, hown, hts⟩ (C_X5_placeIn l dC dI cI cZ cP N0 tO x 32 (by omega) (by omega)) (va_cwS 2 hts gX5_pointAt_X5_placeIn rfl rfl rfl (by decide +kernel) ⟨Nat.le_of_ble_eq_true rfl, Nat.le_of_ble_eq_true rfl⟩) ⟨Gv.blind, Gv.of hE trivial⟩ rfl rfl hl.1 rfl (lv_room (Nat.le_of_ble_eq_true rfl)) dX5_pointAt_12 ⟨Nat.le_of_ble_eq_true rfl, Nat.le_of_ble_eq_true rfl⟩)) (fun r_2 hr_2 => ?_)
  have hr_2 : r_2 = nI x := hr_2
  refine lv_topr hr_2 ?_
  refine lv_iadd hx hb dX5_pointAt_15 ?_
  refine lv_topr (show _ = nI ((y * 32) + x) from nI_add (y * 32) x) ?_
  exact W.iret (v := nI ((y * 32) + x)) hx hb hr (fun t ht hW => ⟨nI ((y * 32) + x), rfl, rfl, ht⟩) (fun _ h => by cases h) dX5_pointAt_16
set_option maxHeartbeats 4000000 in
set_option maxRecDepth 100000 in
theorem C_X5_firstPointOf (l : Launch) (dC : Nat → ClassId) (dI : Nat → Nat → Nat) (cI cZ cP : ClassId) (N0 tO : Nat) (b : Nat) (h1 : b < 12) : Met l yX5_firstPointOf wsX5_firstPointOf ({ frames := 0, cells := 0, slots := 0, locals := 0 } : Room) (Gv (dC, dI) cI cZ cP N0 tO [.int (nI b)] (fun H => True)) (vp_Si (fun r : Int32 => r = nI (b / 4 * 8 * 32 + b % 4 * 8))) 0 0 (fun _ => False) := by
  refine Met.ofW (cc := cX5_firstPointOf) (maxL := 1) (ret := (some .int)) (by decide) rfl ?_
  intro p e s m args below meth c s₁ B hml hv
  obtain ⟨rfl, hE, hP⟩ := hv
  have hx := B.exec
  have hb := B.bytes
  have hr := B.returns
  have hts := atoms_spec (ws := wsX5_firstPointOf) B.pre
  have hown : s.vm.findClass RX5 = some m.cls := findClass_of_methodNamed B.named
  have hlocks := B.notSynchronized
  have hK := hE.1
  have hNS := hE.2.1
  have hl := lv_entry ([.int (nI b)]) (n := 1) (Nat.le_of_ble_eq_true rfl)
  rw [lg_entry_eq]
  generalize (lg_sl ([.int (nI b)]) ++ List.replicate (1 - (lg_sl ([.int (nI b)])).length) Slot.unset).toArray = ls at hl ⊢
  have hl : lv_has ls 1 [(0, .int (nI b))] := hl
  refine lv_iload_n hx hb dX5_firstPointOf_0 rfl (lv_at hl 0 rfl) ?_
  refine lv_iconst (v := 4) hx hb dX5_firstPointOf_1 (by decide) ?_
  refine lv_idiv hx hb dX5_firstPointOf_2 (by decide) ?_
  refine lv_topr (show _ = nI (b / 4) from pk_div (a := b) (d := 4) (by omega) (by omega) (by omega)) ?_
  refine lv_bipush (v := 8) hx hb dX5_firstPointOf_3 (by decide +kernel) ?_
  refine lv_imul hx hb dX5_firstPointOf_5 ?_
  refine lv_topr (show _ = nI ((b / 4) * 8) from pk_mul (b / 4) 8) ?_
  refine lv_bipush (v := 32) hx hb dX5_firstPointOf_6 (by decide +kernel) ?_
  refine lv_imul hx hb dX5_firstPointOf_8 ?_
  refine lv_topr (show _ = nI (((b / 4) * 8) * 32) from pk_mul ((b / 4) * 8) 32) ?_
  refine lv_iload_n hx hb dX5_firstPointOf_9 rfl (lv_at hl 0 rfl) ?_
  refine lv_iconst (v := 4) hx hb dX5_firstPointOf_10 (by decide) ?_
  refine lv_irem hx hb dX5_firstPointOf_11 (by decide) ?_
  refine lv_topr (show _ = nI (b % 4) from pk_rem (a := b) (d := 4) (by omega) (by omega) (by omega)) ?_
  refine lv_bipush (v := 8) hx hb dX5_firstPointOf_12 (by decide +kernel) ?_
  refine lv_imul hx hb dX5_firstPointOf_14 ?_
  refine lv_topr (show _ = nI ((b % 4) * 8) from pk_mul (b % 4) 8) ?_
  refine lv_iadd hx hb dX5_firstPointOf_15 ?_
  refine lv_topr (show _ = nI ((((b / 4) * 8) * 32) + ((b % 4) * 8)) from nI_add (((b / 4) * 8) * 32) ((b % 4) * 8)) ?_
  exact W.iret (v := nI ((((b / 4) * 8) * 32) + ((b % 4) * 8))) hx hb hr (fun t ht hW => ⟨nI ((((b / 4) * 8) * 32) + ((b % 4) * 8)), rfl, rfl, ht⟩) (fun _ h => by cases h) dX5_firstPointOf_16
set_option maxHeartbeats 4000000 in
set_option maxRecDepth 100000 in
theorem C_X5_isFirstOfBand (l : Launch) (dC : Nat → ClassId) (dI : Nat → Nat → Nat) (cI cZ cP : ClassId) (N0 tO : Nat) (b : Nat) (h1 : b < 12) : Met l yX5_isFirstOfBand wsX5_isFirstOfBand ({ frames := 0, cells := 0, slots := 0, locals := 0 } : Room) (Gv (dC, dI) cI cZ cP N0 tO [.int (nI b)] (fun H => True)) (vp_Si (fun r : Int32 => r = isFB b)) 0 0 (fun _ => False) := by
  refine Met.ofW (cc := cX5_isFirstOfBand) (maxL := 1) (ret := (some .boolean)) (by decide) rfl ?_
  intro p e s m args below meth c s₁ B hml hv
  obtain ⟨rfl, hE, hP⟩ := hv
  have hx := B.exec
  have hb := B.bytes
  have hr := B.returns
  have hts := atoms_spec (ws := wsX5_isFirstOfBand) B.pre
  have hown : s.vm.findClass RX5 = some m.cls := findClass_of_methodNamed B.named
  have hlocks := B.notSynchronized
  have hK := hE.1
  have hNS := hE.2.1
  have hl := lv_entry ([.int (nI b)]) (n := 1) (Nat.le_of_ble_eq_true rfl)
  rw [lg_entry_eq]
  generalize (lg_sl ([.int (nI b)]) ++ List.replicate (1 - (lg_sl ([.int (nI b)])).length) Slot.unset).toArray = ls at hl ⊢
  have hl : lv_has ls 1 [(0, .int (nI b))] := hl
  refine lv_iload_n hx hb dX5_isFirstOfBand_0 rfl (lv_at hl 0 rfl) ?_
  refine lv_iconst (v := 4) hx hb dX5_isFirstOfBand_1 (by decide) ?_
  refine lv_irem hx hb dX5_isFirstOfBand_2 (by decide) ?_
  refine lv_topr (show _ = nI (b % 4) from pk_rem (a := b) (d := 4) (by omega) (by omega) (by omega)) ?_
  refine lv_if_ne (tgt := 10) hx hb dX5_isFirstOfBand_3 (by decide) (fun c3 => ?_) (fun c3 => ?_)
  · skip
    have c3 : ¬ (b % 4) = 0 := fun z => c3 ((nI_eq (a := (b % 4)) (b := 0) (by omega) (by omega)).mpr z)
    refine lv_iconst (v := 0) hx hb dX5_isFirstOfBand_10 (by decide) ?_
    exact W.zret (v := 0) hx hb hr rfl (fun t ht hW => ⟨0, rfl, (by rw [isFB, if_neg c3] <;> rfl), ht⟩) (fun _ h => by cases h) dX5_isFirstOfBand_11
  · skip
    have c3 : (b % 4) = 0 := (nI_eq (a := (b % 4)) (b := 0) (by omega) (by omega)).mp c3
    refine lv_iconst (v := 1) hx hb dX5_isFirstOfBand_6 (by decide) ?_
    refine lv_goto (tgt := 11) hx hb dX5_isFirstOfBand_7 (by decide) ?_
    exact W.zret (v := 1) hx hb hr rfl (fun t ht hW => ⟨1, rfl, (by rw [isFB, if_pos c3] <;> rfl), ht⟩) (fun _ h => by cases h) dX5_isFirstOfBand_11
set_option maxHeartbeats 4000000 in
set_option maxRecDepth 100000 in
theorem C_X5_folded (l : Launch) (dC : Nat → ClassId) (dI : Nat → Nat → Nat) (cI cZ cP : ClassId) (N0 tO : Nat) (x : Int32)  : Met l yX5_folded wsX5_folded ({ frames := 0, cells := 0, slots := 0, locals := 0 } : Room) (Gv (dC, dI) cI cZ cP N0 tO [.int x] (fun H => True)) (vp_Si (fun r : Int32 => r = foldedI x)) 0 0 (fun _ => False) := by
  refine Met.ofW (cc := cX5_folded) (maxL := 1) (ret := (some .int)) (by decide) rfl ?_
  intro p e s m args below meth c s₁ B hml hv
  obtain ⟨rfl, hE, hP⟩ := hv
  have hx := B.exec
  have hb := B.bytes
  have hr := B.returns
  have hts := atoms_spec (ws := wsX5_folded) B.pre
  have hown : s.vm.findClass RX5 = some m.cls := findClass_of_methodNamed B.named
  have hlocks := B.notSynchronized
  have hK := hE.1
  have hNS := hE.2.1
  have hl := lv_entry ([.int x]) (n := 1) (Nat.le_of_ble_eq_true rfl)
  rw [lg_entry_eq]
  generalize (lg_sl ([.int x]) ++ List.replicate (1 - (lg_sl ([.int x])).length) Slot.unset).toArray = ls at hl ⊢
  have hl : lv_has ls 1 [(0, .int x)] := hl
  refine lv_iload_n hx hb dX5_folded_0 rfl (lv_at hl 0 rfl) ?_
  refine lv_if_le (tgt := 12) hx hb dX5_folded_1 (by decide) (fun c1 => ?_) (fun c1 => ?_)
  · skip
    refine lv_bipush (v := (-2)) hx hb dX5_folded_12 (by decide +kernel) ?_
    refine lv_iload_n hx hb dX5_folded_14 rfl (lv_at hl 0 rfl) ?_
    refine lv_imul hx hb dX5_folded_15 ?_
    exact W.iret (v := (-2) * x) hx hb hr (fun t ht hW => ⟨(-2) * x, rfl, (by rw [foldedI, if_pos c1] <;> rfl), ht⟩) (fun _ h => by cases h) dX5_folded_16
  · skip
    refine lv_iconst (v := 2) hx hb dX5_folded_4 (by decide) ?_
    refine lv_iload_n hx hb dX5_folded_5 rfl (lv_at hl 0 rfl) ?_
    refine lv_imul hx hb dX5_folded_6 ?_
    refine lv_iconst (v := 1) hx hb dX5_folded_7 (by decide) ?_
    refine lv_isub hx hb dX5_folded_8 ?_
    refine lv_goto (tgt := 16) hx hb dX5_folded_9 (by decide) ?_
    exact W.iret (v := (2 * x) - 1) hx hb hr (fun t ht hW => ⟨(2 * x) - 1, rfl, (by rw [foldedI, if_neg c1] <;> rfl), ht⟩) (fun _ h => by cases h) dX5_folded_16
set_option maxHeartbeats 4000000 in
set_option maxRecDepth 100000 in
theorem C_X5_distance (l : Launch) (dC : Nat → ClassId) (dI : Nat → Nat → Nat) (cI cZ cP : ClassId) (N0 tO : Nat) (a b : Nat) (f g : Nat → Int32)  : Met l yX5_distance wsX5_distance ({ frames := 1, cells := 0, slots := 0, locals := 32 } : Room) (Gv (dC, dI) cI cZ cP N0 tO [.ref a, .ref b] (fun H => va_P (dC, dI) vwCl [(a, .inl (cI, 768, .inl f)), (b, .inl (cI, 768, .inl g))] H)) (vp_Si (fun r : Int32 => r = distF f g 768)) 0 0 (fun _ => False) := by
  refine Met.ofW (cc := cX5_distance) (maxL := 4) (ret := (some .int)) (by decide) rfl ?_
  intro p e s m args below meth c s₁ B hml hv
  obtain ⟨rfl, hE, hP⟩ := hv
  have hx := B.exec
  have hb := B.bytes
  have hr := B.returns
  have hts := atoms_spec (ws := wsX5_distance) B.pre
  have hown : s.vm.findClass RX5 = some m.cls := findClass_of_methodNamed B.named
  have hlocks := B.notSynchronized
  have hK := hE.1
  have hNS := hE.2.1
  have hP : va_P (dC, dI) vwCl [(a, .inl (cI, 768, .inl f)), (b, .inl (cI, 768, .inl g))] s.heap := hP
  have hl := lv_entry ([.ref a, .ref b]) (n := 4) (Nat.le_of_ble_eq_true rfl)
  rw [lg_entry_eq]
  generalize (lg_sl ([.ref a, .ref b]) ++ List.replicate (4 - (lg_sl ([.ref a, .ref b])).length) Slot.unset).toArray = ls at hl ⊢
  have hl : lv_has ls 4 [(0, .ref a), (1, .ref b)] := hl
  refine lv_iconst (v := 0) hx hb dX5_distance_0 (by decide) ?_
  refine lv_istore_n (lv' := [(2, .int 0), (0, .ref a), (1, .ref b)]) hx hb dX5_distance_1 rfl hl (by decide) rfl (fun ls hl => ?_)
  refine lv_iconst (v := 0) hx hb dX5_distance_2 (by decide) ?_
  refine lv_istore_n (lv' := [(3, .int 0), (2, .int 0), (0, .ref a), (1, .ref b)]) hx hb dX5_distance_3 rfl hl (by decide) rfl (fun ls hl => ?_)
  have L4 : ∀ (n4 : Nat) (i : Nat) (x2 : Int32), (i ≤ 768) → 768 - i < n4 → x2 = (distF f g i) → ∀ (ls : Array Slot), lv_has ls 4 [(3, .int (nI i)), (2, .int x2), (0, .ref a), (1, .ref b)] → W p l e (headSpec wsX5_distance ({ frames := 1, cells := 0, slots := 0, locals := 32 } : Room)).room s m ([.ref a, .ref b] : List Value).toArray below meth c s.heap [] 0 0 (MQ below (vp_Si (fun r : Int32 => r = distF f g 768)) ([.ref a, .ref b] : List Value).toArray s 0 0 (fun _ => False)) (F0 m 4 ls []) := by
    intro n4
    induction n4 with
    | zero => intro i x2 hi hz; exact absurd hz (Nat.not_lt_zero _)
    | succ n4 ih4 =>
      intro i x2 hi hfu ex2 ls hl
      refine lv_iload_n hx hb dX5_distance_4 rfl (lv_at hl 0 rfl) ?_
      refine lv_sipush (v := 768) hx hb dX5_distance_5 (by decide +kernel) ?_
      refine lv_icmp_ge (tgt := 30) hx hb dX5_distance_8 (by decide) (fun c8 => ?_) (fun c8 => ?_)
      · skip
        have c8 : 768 ≤ i := (nI_leI (a := 768) (b := i) (by omega) (by omega)).mp c8
        obtain rfl : i = 768 := by omega
        refine lv_iload_n hx hb dX5_distance_30 rfl (lv_at hl 1 rfl) ?_
        exact W.iret (v := x2) hx hb hr (fun t ht hW => ⟨x2, rfl, (by rw [ex2] <;> rfl), ht⟩) (fun _ h => by cases h) dX5_distance_31
      · skip
        have c8 : ¬ 768 ≤ i := fun z => c8 ((nI_leI (a := 768) (b := i) (by omega) (by omega)).mpr z)
        refine lv_iload_n hx hb dX5_distance_11 rfl (lv_at hl 1 rfl) ?_
        refine lv_aload_n hx hb dX5_distance_12 rfl (lv_at hl 2 rfl) ?_
        refine lv_iload_n hx hb dX5_distance_13 rfl (lv_at hl 0 rfl) ?_
        refine wa_iald (D := (dC, dI)) (i := i) (f := f) hx hb hK hP 0 0 rfl rfl (by omega) (by omega) dX5_distance_14 ?_
        refine lv_aload_n hx hb dX5_distance_15 rfl (lv_at hl 3 rfl) ?_
        refine lv_iload_n hx hb dX5_distance_16 rfl (lv_at hl 0 rfl) ?_
        refine wa_iald (D := (dC, dI)) (i := i) (f := g) hx hb hK hP 1 0 rfl rfl (by omega) (by omega) dX5_distance_17 ?_
        refine lv_isub hx hb dX5_distance_18 ?_
        refine va_mabs hx hb (hml.trans hl.1.symm) hown (hts (.methodLink RX5 274 Lib.Math.abs.name) (List.mem_of_getElem? (i := 1) (by decide +kernel))) (hts (.static Lib.Math.abs.name) (List.mem_of_getElem? (i := 2) (by decide +kernel))) (hts (.initialized "java/lang/Math") (List.mem_of_getElem? (i := 3) (by decide +kernel))) (hts (.code Lib.Math.abs.name Lib.Math.abs.code 1 (some .int)) (List.mem_of_getElem? (i := 4) (by decide +kernel))) (Nat.le_of_ble_eq_true rfl) (Nat.le_of_ble_eq_true rfl) (Nat.le_of_ble_eq_true rfl) (Nat.le_of_ble_eq_true rfl) dX5_distance_19 ?_
        refine lv_topr (show _ = absI ((f i) - (g i)) from rfl) ?_
        refine lv_iadd hx hb dX5_distance_22 ?_
        refine lv_topi (fun x_1 ex_1 => ?_)
        refine lv_istore_n (lv' := [(2, .int x_1), (3, .int (nI i)), (0, .ref a), (1, .ref b)]) hx hb dX5_distance_23 rfl hl (by decide) rfl (fun ls hl => ?_)
        refine lv_iinc (v := nI (i + 1)) (lv' := [(3, .int (nI (i + 1))), (2, .int x_1), (0, .ref a), (1, .ref b)]) hx hb dX5_distance_24 hl (k := 1) rfl (show nI i + Int32.ofInt 1 = nI (i + 1) from nI_add _ _) (by decide) rfl (fun ls hl => ?_)
        refine lv_goto (tgt := 4) hx hb dX5_distance_27 (by decide) ?_
        exact ih4 (i + 1) x_1 (by omega) (by omega) (by rw [ex_1, ex2] <;> rfl) _ (lv_sub hl [0, 1, 2, 3] rfl)
  exact L4 (768 + 1) 0 0 (by omega) (Nat.lt_succ_self _) rfl _ (lv_sub hl [0, 1, 2, 3] rfl)
set_option maxHeartbeats 4000000 in
set_option maxRecDepth 100000 in
theorem C_X5_digestPoints (l : Launch) (dC : Nat → ClassId) (dI : Nat → Nat → Nat) (cI cZ cP : ClassId) (N0 tO : Nat) (a : Nat) (d : Int64) (f : Nat → Int32)  : Met l yX5_digestPoints wsX5_digestPoints ({ frames := 0, cells := 0, slots := 0, locals := 0 } : Room) (Gv (dC, dI) cI cZ cP N0 tO [.long d, .ref a] (fun H => va_P (dC, dI) vwCl [(a, .inl (cI, 768, .inl f))] H)) (vp_Sl (fun r : Int64 => r = dgF d f 768)) 0 0 (fun _ => False) := by
  refine Met.ofW (cc := cX5_digestPoints) (maxL := 6) (ret := (some .long)) (by decide) rfl ?_
  intro p e s m args below meth c s₁ B hml hv
  obtain ⟨rfl, hE, hP⟩ := hv
  have hx := B.exec
  have hb := B.bytes
  have hr := B.returns
  have hts := atoms_spec (ws := wsX5_digestPoints) B.pre
  have hown : s.vm.findClass RX5 = some m.cls := findClass_of_methodNamed B.named
  have hlocks := B.notSynchronized
  have hK := hE.1
  have hNS := hE.2.1
  have hP : va_P (dC, dI) vwCl [(a, .inl (cI, 768, .inl f))] s.heap := hP
  have hl := lv_entry ([.long d, .ref a]) (n := 6) (Nat.le_of_ble_eq_true rfl)
  rw [lg_entry_eq]
  generalize (lg_sl ([.long d, .ref a]) ++ List.replicate (6 - (lg_sl ([.long d, .ref a])).length) Slot.unset).toArray = ls at hl ⊢
  have hl : lv_has ls 6 [(0, .long d), (2, .ref a)] := hl
  refine lv_lload_n hx hb dX5_digestPoints_0 rfl (lv_at hl 0 rfl) ?_
  refine lv_lstore_n (lv' := [(3, .long d), (0, .long d), (2, .ref a)]) hx hb dX5_digestPoints_1 rfl hl (by decide) rfl (fun ls hl => ?_)
  refine lv_iconst (v := 0) hx hb dX5_digestPoints_2 (by decide) ?_
  refine lv_istore (lv' := [(5, .int 0), (3, .long d), (0, .long d), (2, .ref a)]) hx hb dX5_digestPoints_3 hl (by decide) rfl (fun ls hl => ?_)
  have L5 : ∀ (n5 : Nat) (i : Nat) (x3 : Int64), (i ≤ 768) → 768 - i < n5 → x3 = (dgF d f i) → ∀ (ls : Array Slot), lv_has ls 6 [(5, .int (nI i)), (3, .long x3), (0, .long d), (2, .ref a)] → W p l e (headSpec wsX5_digestPoints ({ frames := 0, cells := 0, slots := 0, locals := 0 } : Room)).room s m ([.long d, .ref a] : List Value).toArray below meth c s.heap [] 0 0 (MQ below (vp_Sl (fun r : Int64 => r = dgF d f 768)) ([.long d, .ref a] : List Value).toArray s 0 0 (fun _ => False)) (F0 m 5 ls []) := by
    intro n5
    induction n5 with
    | zero => intro i x3 hi hz; exact absurd hz (Nat.not_lt_zero _)
    | succ n5 ih5 =>
      intro i x3 hi hfu ex3 ls hl
      refine lv_iload hx hb dX5_digestPoints_5 (lv_at hl 0 rfl) ?_
      refine lv_sipush (v := 768) hx hb dX5_digestPoints_7 (by decide +kernel) ?_
      refine lv_icmp_ge (tgt := 31) hx hb dX5_digestPoints_10 (by decide) (fun c10 => ?_) (fun c10 => ?_)
      · skip
        have c10 : 768 ≤ i := (nI_leI (a := 768) (b := i) (by omega) (by omega)).mp c10
        obtain rfl : i = 768 := by omega
        refine lv_lload_n hx hb dX5_digestPoints_31 rfl (lv_at hl 1 rfl) ?_
        exact W.lret (v := x3) hx hb hr (fun t ht hW => ⟨x3, rfl, (by rw [ex3] <;> rfl), ht⟩) (fun _ h => by cases h) dX5_digestPoints_32
      · skip
        have c10 : ¬ 768 ≤ i := fun z => c10 ((nI_leI (a := 768) (b := i) (by omega) (by omega)).mpr z)
        refine lv_lload_n hx hb dX5_digestPoints_13 rfl (lv_at hl 1 rfl) ?_
        refine lv_ldc2 (v := 31) hx hb hown (hts (.constantLong RX5 253 (31)) (List.mem_of_getElem? (i := 1) (by decide +kernel))) dX5_digestPoints_14 ?_
        refine lv_lmul hx hb dX5_digestPoints_17 ?_
        refine lv_aload_n hx hb dX5_digestPoints_18 rfl (lv_at hl 3 rfl) ?_
        refine lv_iload hx hb dX5_digestPoints_19 (lv_at hl 0 rfl) ?_
        refine wa_iald (D := (dC, dI)) (i := i) (f := f) hx hb hK hP 0 0 rfl rfl (by omega) (by omega) dX5_digestPoints_21 ?_
        refine lv_i2l (v := (f i).toInt64) hx hb dX5_digestPoints_22 rfl ?_
        refine lv_ladd hx hb dX5_digestPoints_23 ?_
        refine lv_topl (fun x_1 ex_1 => ?_)
        refine lv_lstore_n (lv' := [(3, .long x_1), (5, .int (nI i)), (0, .long d), (2, .ref a)]) hx hb dX5_digestPoints_24 rfl hl (by decide) rfl (fun ls hl => ?_)
        refine lv_iinc (v := nI (i + 1)) (lv' := [(5, .int (nI (i + 1))), (3, .long x_1), (0, .long d), (2, .ref a)]) hx hb dX5_digestPoints_25 hl (k := 1) rfl (show nI i + Int32.ofInt 1 = nI (i + 1) from nI_add _ _) (by decide) rfl (fun ls hl => ?_)
        refine lv_goto (tgt := 5) hx hb dX5_digestPoints_28 (by decide) ?_
        exact ih5 (i + 1) x_1 (by omega) (by omega) (by rw [ex_1, ex3] <;> rfl) _ (lv_sub hl [0, 1, 2, 3] rfl)
  exact L5 (768 + 1) 0 d (by omega) (Nat.lt_succ_self _) rfl _ (lv_sub hl [0, 1, 2, 3] rfl)
set_option maxHeartbeats 4000000 in
set_option maxRecDepth 100000 in
theorem C_J7_fill_53178 (l : Launch) (dC : Nat → ClassId) (dI : Nat → Nat → Nat) (cI cZ cP : ClassId) (N0 tO : Nat) (a n : Nat) (f : Nat → Int32) (x : Int32) (hn : n < 2 ^ 31) : Met l yJ7_fill_53178 wsJ7_fill_53178 ({ frames := 0, cells := 0, slots := 0, locals := 0 } : Room) (Gv (dC, dI) cI cZ cP N0 tO [.ref a, .int x] (fun H => va_P (dC, dI) vwCl [(a, .inl (cI, n, .inl f))] H ∧ AD N0 [a])) (va_Qv (fun (_ : Unit) => True) (fun (_ : Unit) (t : State) => va_P (dC, dI) vwCl [(a, .inl (cI, n, .inl (fun _ => x)))] t.heap) (inL [a])) 0 0 (inL [a]) := by
  refine Met.ofW (cc := cJ7_fill_53178) (maxL := 4) (ret := none) (by decide) rfl ?_
  intro p e s m args below meth c s₁ B hml hv
  obtain ⟨rfl, hE, hP, hN⟩ := hv
  have hx := B.exec
  have hb := B.bytes
  have hr := B.returns
  have hts := atoms_spec (ws := wsJ7_fill_53178) B.pre
  have hown : s.vm.findClass RJ7 = some m.cls := findClass_of_methodNamed B.named
  have hlocks := B.notSynchronized
  have hK := hE.1
  have hNS := hE.2.1
  have hS : va_S (inL [a]) s.heap s.heap [] := va_S.rf
  have hAN : ∀ q : Nat, (inL [a]) q → N0 ≤ q := fun q h => hN.in [0] rfl q h
  have hP : va_P (dC, dI) vwCl [(a, .inl (cI, n, .inl f))] s.heap := hP
  have hl := lv_entry ([.ref a, .int x]) (n := 4) (Nat.le_of_ble_eq_true rfl)
  rw [lg_entry_eq]
  generalize (lg_sl ([.ref a, .int x]) ++ List.replicate (4 - (lg_sl ([.ref a, .int x])).length) Slot.unset).toArray = ls at hl ⊢
  have hl : lv_has ls 4 [(0, .ref a), (1, .int x)] := hl
  refine lv_iconst (v := 0) hx hb dJ7_fill_53178_0 (by decide) ?_
  refine lv_istore_n (lv' := [(2, .int 0), (0, .ref a), (1, .int x)]) hx hb dJ7_fill_53178_1 rfl hl (by decide) rfl (fun ls hl => ?_)
  refine lv_aload_n hx hb dJ7_fill_53178_2 rfl (lv_at hl 1 rfl) ?_
  refine va_alen (D := (dC, dI)) (v := nI n) hx hb hK hP 0 0 rfl rfl rfl dJ7_fill_53178_3 ?_
  refine lv_istore_n (lv' := [(3, .int (nI n)), (2, .int 0), (0, .ref a), (1, .int x)]) hx hb dJ7_fill_53178_4 rfl hl (by decide) rfl (fun ls hl => ?_)
  have L5 : ∀ (n5 : Nat) (i : Nat) (f1 : Nat → Int32), (i ≤ n) → n - i < n5 → f1 = (fillTo (fun _ => x) f i) → ∀ (H : Heap) (locs : List Loc) (ls : Array Slot), va_P (dC, dI) vwCl [(a, .inl (cI, n, .inl f1))] H → va_S (inL [a]) s.heap H locs → lv_has ls 4 [(3, .int (nI n)), (2, .int (nI i)), (0, .ref a), (1, .int x)] → W p l e (headSpec wsJ7_fill_53178 ({ frames := 0, cells := 0, slots := 0, locals := 0 } : Room)).room s m ([.ref a, .int x] : List Value).toArray below meth c H locs 0 0 (MQ below (va_Qv (fun (_ : Unit) => True) (fun (_ : Unit) (t : State) => va_P (dC, dI) vwCl [(a, .inl (cI, n, .inl (fun _ => x)))] t.heap) (inL [a])) ([.ref a, .int x] : List Value).toArray s 0 0 (inL [a])) (F0 m 5 ls []) := by
    intro n5
    induction n5 with
    | zero => intro i f1 hi hz; exact absurd hz (Nat.not_lt_zero _)
    | succ n5 ih5 =>
      intro i f1 hi hfu ef1 H locs ls hP hS hl
      refine lv_iload_n hx hb dJ7_fill_53178_5 rfl (lv_at hl 1 rfl) ?_
      refine lv_iload_n hx hb dJ7_fill_53178_6 rfl (lv_at hl 0 rfl) ?_
      refine lv_icmp_ge (tgt := 20) hx hb dJ7_fill_53178_7 (by decide) (fun c7 => ?_) (fun c7 => ?_)
      · skip
        have c7 : n ≤ i := (nI_leI (a := n) (b := i) (by omega) (by omega)).mp c7
        obtain rfl : i = n := by omega
        have hP := hP.cong 0 (fun _ => x) rfl (fun k hk => by rw [ef1]; exact fillTo_at _ _ hk)
        have hP : va_P (dC, dI) vwCl [(a, .inl (cI, i, .inl (fun _ => x)))] H := hP
        exact W.vret hx hb hr (fun t ht hW => ⟨⟨(), rfl, trivial, by show va_P _ _ _ t.heap; rw [ht]; exact hP.sub [0] rfl⟩, hS.F ht⟩) hS.2.2 dJ7_fill_53178_20
      · skip
        have c7 : ¬ n ≤ i := fun z => c7 ((nI_leI (a := n) (b := i) (by omega) (by omega)).mpr z)
        refine lv_aload_n hx hb dJ7_fill_53178_10 rfl (lv_at hl 2 rfl) ?_
        refine lv_iload_n hx hb dJ7_fill_53178_11 rfl (lv_at hl 1 rfl) ?_
        refine lv_iload_n hx hb dJ7_fill_53178_12 rfl (lv_at hl 3 rfl) ?_
        refine wa_iast (D := (dC, dI)) (i := i) (f := f1) hx hb hK hP (hN.D rfl) hS (List.mem_of_getElem? (i := 0) rfl) 0 0 rfl rfl (by omega) (by omega) dJ7_fill_53178_13 (fun H locs hP hS => ?_)
        obtain ⟨f_1, ef_1⟩ : ∃ z, z = upd f1 i x := ⟨_, rfl⟩
        rw [← ef_1] at hP
        have hP : va_P (dC, dI) vwCl [(a, .inl (cI, n, .inl f_1))] H := hP
        refine lv_iinc (v := nI (i + 1)) (lv' := [(2, .int (nI (i + 1))), (3, .int (nI n)), (0, .ref a), (1, .int x)]) hx hb dJ7_fill_53178_14 hl (k := 1) rfl (show nI i + Int32.ofInt 1 = nI (i + 1) from nI_add _ _) (by decide) rfl (fun ls hl => ?_)
        refine lv_goto (tgt := 5) hx hb dJ7_fill_53178_17 (by decide) ?_
        exact ih5 (i + 1) f_1 (by omega) (by omega) (by rw [ef_1, ef1]; exact fillTo_s _ _ _ rfl) _ _ _ hP hS (lv_sub hl [1, 0, 2, 3] rfl)
  exact L5 (n + 1) 0 f (by omega) (Nat.lt_succ_self _) (fillTo_0 _ _).symm _ _ _ hP hS (lv_sub hl [0, 1, 2, 3] rfl)
